theorem dX8_init_0 : decode cX8_init 0 = .ok (.aload_n 0, 1) := by decide +kernel
theorem dX8_init_1 : decode cX8_init 1 = .ok (.invokespecial 1, 3) := by decide +kernel
theorem dX8_init_4 : decode cX8_init 4 = .ok (.aload_n 0, 1) := by decide +kernel
theorem dX8_init_5 : decode cX8_init 5 = .ok (.sipush 178, 3) := by decide +kernel
theorem dX8_init_8 : decode cX8_init 8 = .ok (.newarray .int, 2) := by decide +kernel
theorem dX8_init_10 : decode cX8_init 10 = .ok (.putfield 7, 3) := by decide +kernel
theorem dX8_init_13 : decode cX8_init 13 = .ok (.aload_n 0, 1) := by decide +kernel
theorem dX8_init_14 : decode cX8_init 14 = .ok (.sipush 712, 3) := by decide +kernel
theorem dX8_init_17 : decode cX8_init 17 = .ok (.newarray .int, 2) := by decide +kernel
theorem dX8_init_19 : decode cX8_init 19 = .ok (.putfield 13, 3) := by decide +kernel
theorem dX8_init_22 : decode cX8_init 22 = .ok (.aload_n 0, 1) := by decide +kernel
theorem dX8_init_23 : decode cX8_init 23 = .ok (.sipush 178, 3) := by decide +kernel
theorem dX8_init_26 : decode cX8_init 26 = .ok (.newarray .int, 2) := by decide +kernel
theorem dX8_init_28 : decode cX8_init 28 = .ok (.putfield 16, 3) := by decide +kernel
theorem dX8_init_31 : decode cX8_init 31 = .ok (.aload_n 0, 1) := by decide +kernel
theorem dX8_init_32 : decode cX8_init 32 = .ok (.bipush 90, 2) := by decide +kernel
theorem dX8_init_34 : decode cX8_init 34 = .ok (.newarray .int, 2) := by decide +kernel
theorem dX8_init_36 : decode cX8_init 36 = .ok (.putfield 19, 3) := by decide +kernel
theorem dX8_init_39 : decode cX8_init 39 = .ok (.aload_n 0, 1) := by decide +kernel
theorem dX8_init_40 : decode cX8_init 40 = .ok (.iconst 4, 1) := by decide +kernel
theorem dX8_init_41 : decode cX8_init 41 = .ok (.invokevirtual 22, 3) := by decide +kernel
theorem dX8_init_44 : decode cX8_init 44 = .ok (.return_, 1) := by decide +kernel
theorem dX8_thrown_0 : decode cX8_thrown 0 = .ok (.aload_n 0, 1) := by decide +kernel
theorem dX8_thrown_1 : decode cX8_thrown 1 = .ok (.getfield 26, 3) := by decide +kernel
theorem dX8_thrown_4 : decode cX8_thrown 4 = .ok (.ireturn, 1) := by decide +kernel
theorem dX8_in_0 : decode cX8_in 0 = .ok (.iload_n 0, 1) := by decide +kernel
theorem dX8_in_1 : decode cX8_in 1 = .ok (.iload_n 1, 1) := by decide +kernel
theorem dX8_in_2 : decode cX8_in 2 = .ok (.if_icmp .lt 12, 3) := by decide +kernel
theorem dX8_in_5 : decode cX8_in 5 = .ok (.iload_n 0, 1) := by decide +kernel
theorem dX8_in_6 : decode cX8_in 6 = .ok (.iload_n 2, 1) := by decide +kernel
theorem dX8_in_7 : decode cX8_in 7 = .ok (.if_icmp .gt 7, 3) := by decide +kernel
theorem dX8_in_10 : decode cX8_in 10 = .ok (.iconst 1, 1) := by decide +kernel
theorem dX8_in_11 : decode cX8_in 11 = .ok (.goto 4, 3) := by decide +kernel
theorem dX8_in_14 : decode cX8_in 14 = .ok (.iconst 0, 1) := by decide +kernel
theorem dX8_in_15 : decode cX8_in 15 = .ok (.ireturn, 1) := by decide +kernel
theorem dX8_fails_0 : decode cX8_fails 0 = .ok (.aload_n 0, 1) := by decide +kernel
theorem dX8_fails_1 : decode cX8_fails 1 = .ok (.iload_n 1, 1) := by decide +kernel
theorem dX8_fails_2 : decode cX8_fails 2 = .ok (.putfield 26, 3) := by decide +kernel
theorem dX8_fails_5 : decode cX8_fails 5 = .ok (.iconst 0, 1) := by decide +kernel
theorem dX8_fails_6 : decode cX8_fails 6 = .ok (.ireturn, 1) := by decide +kernel
theorem dX8_tells_0 : decode cX8_tells 0 = .ok (.aload_n 0, 1) := by decide +kernel
theorem dX8_tells_1 : decode cX8_tells 1 = .ok (.iconst 0, 1) := by decide +kernel
theorem dX8_tells_2 : decode cX8_tells 2 = .ok (.putfield 26, 3) := by decide +kernel
theorem dX8_tells_5 : decode cX8_tells 5 = .ok (.iload_n 1, 1) := by decide +kernel
theorem dX8_tells_6 : decode cX8_tells 6 = .ok (.ireturn, 1) := by decide +kernel
theorem dX8_hold_0 : decode cX8_hold 0 = .ok (.iconst 0, 1) := by decide +kernel
theorem dX8_hold_1 : decode cX8_hold 1 = .ok (.istore_n 1, 1) := by decide +kernel
theorem dX8_hold_2 : decode cX8_hold 2 = .ok (.iload_n 1, 1) := by decide +kernel
theorem dX8_hold_3 : decode cX8_hold 3 = .ok (.sipush 178, 3) := by decide +kernel
theorem dX8_hold_6 : decode cX8_hold 6 = .ok (.if_icmp .ge 21, 3) := by decide +kernel
theorem dX8_hold_9 : decode cX8_hold 9 = .ok (.aload_n 0, 1) := by decide +kernel
theorem dX8_hold_10 : decode cX8_hold 10 = .ok (.getfield 16, 3) := by decide +kernel
theorem dX8_hold_13 : decode cX8_hold 13 = .ok (.iload_n 1, 1) := by decide +kernel
theorem dX8_hold_14 : decode cX8_hold 14 = .ok (.aload_n 0, 1) := by decide +kernel
theorem dX8_hold_15 : decode cX8_hold 15 = .ok (.getfield 7, 3) := by decide +kernel
theorem dX8_hold_18 : decode cX8_hold 18 = .ok (.iload_n 1, 1) := by decide +kernel
theorem dX8_hold_19 : decode cX8_hold 19 = .ok (.iaload, 1) := by decide +kernel
theorem dX8_hold_20 : decode cX8_hold 20 = .ok (.iastore, 1) := by decide +kernel
theorem dX8_hold_21 : decode cX8_hold 21 = .ok (.iinc 1 1, 3) := by decide +kernel
theorem dX8_hold_24 : decode cX8_hold 24 = .ok (.goto (-22), 3) := by decide +kernel
theorem dX8_hold_27 : decode cX8_hold 27 = .ok (.return_, 1) := by decide +kernel
theorem dX8_ends_0 : decode cX8_ends 0 = .ok (.aload_n 0, 1) := by decide +kernel
theorem dX8_ends_1 : decode cX8_ends 1 = .ok (.getfield 30, 3) := by decide +kernel
theorem dX8_ends_4 : decode cX8_ends 4 = .ok (.iconst 4, 1) := by decide +kernel
theorem dX8_ends_5 : decode cX8_ends 5 = .ok (.if_icmp .ne 44, 3) := by decide +kernel
theorem dX8_ends_8 : decode cX8_ends 8 = .ok (.iconst 0, 1) := by decide +kernel
theorem dX8_ends_9 : decode cX8_ends 9 = .ok (.istore_n 2, 1) := by decide +kernel
theorem dX8_ends_10 : decode cX8_ends 10 = .ok (.iload_n 2, 1) := by decide +kernel
theorem dX8_ends_11 : decode cX8_ends 11 = .ok (.sipush 534, 3) := by decide +kernel
theorem dX8_ends_14 : decode cX8_ends 14 = .ok (.if_icmp .ge 25, 3) := by decide +kernel
theorem dX8_ends_17 : decode cX8_ends 17 = .ok (.aload_n 0, 1) := by decide +kernel
theorem dX8_ends_18 : decode cX8_ends 18 = .ok (.getfield 13, 3) := by decide +kernel
theorem dX8_ends_21 : decode cX8_ends 21 = .ok (.iload_n 2, 1) := by decide +kernel
theorem dX8_ends_22 : decode cX8_ends 22 = .ok (.aload_n 0, 1) := by decide +kernel
theorem dX8_ends_23 : decode cX8_ends 23 = .ok (.getfield 13, 3) := by decide +kernel
theorem dX8_ends_26 : decode cX8_ends 26 = .ok (.iload_n 2, 1) := by decide +kernel
theorem dX8_ends_27 : decode cX8_ends 27 = .ok (.sipush 178, 3) := by decide +kernel
theorem dX8_ends_30 : decode cX8_ends 30 = .ok (.iadd, 1) := by decide +kernel
theorem dX8_ends_31 : decode cX8_ends 31 = .ok (.iaload, 1) := by decide +kernel
theorem dX8_ends_32 : decode cX8_ends 32 = .ok (.iastore, 1) := by decide +kernel
theorem dX8_ends_33 : decode cX8_ends 33 = .ok (.iinc 2 1, 3) := by decide +kernel
theorem dX8_ends_36 : decode cX8_ends 36 = .ok (.goto (-26), 3) := by decide +kernel
theorem dX8_ends_39 : decode cX8_ends 39 = .ok (.aload_n 0, 1) := by decide +kernel
theorem dX8_ends_40 : decode cX8_ends 40 = .ok (.dup, 1) := by decide +kernel
theorem dX8_ends_41 : decode cX8_ends 41 = .ok (.getfield 30, 3) := by decide +kernel
theorem dX8_ends_44 : decode cX8_ends 44 = .ok (.iconst 1, 1) := by decide +kernel
theorem dX8_ends_45 : decode cX8_ends 45 = .ok (.isub, 1) := by decide +kernel
theorem dX8_ends_46 : decode cX8_ends 46 = .ok (.putfield 30, 3) := by decide +kernel
theorem dX8_ends_49 : decode cX8_ends 49 = .ok (.iconst 0, 1) := by decide +kernel
theorem dX8_ends_50 : decode cX8_ends 50 = .ok (.istore_n 2, 1) := by decide +kernel
theorem dX8_ends_51 : decode cX8_ends 51 = .ok (.iload_n 2, 1) := by decide +kernel
theorem dX8_ends_52 : decode cX8_ends 52 = .ok (.sipush 178, 3) := by decide +kernel
theorem dX8_ends_55 : decode cX8_ends 55 = .ok (.if_icmp .ge 30, 3) := by decide +kernel
theorem dX8_ends_58 : decode cX8_ends 58 = .ok (.aload_n 0, 1) := by decide +kernel
theorem dX8_ends_59 : decode cX8_ends 59 = .ok (.getfield 13, 3) := by decide +kernel
theorem dX8_ends_62 : decode cX8_ends 62 = .ok (.sipush 178, 3) := by decide +kernel
theorem dX8_ends_65 : decode cX8_ends 65 = .ok (.aload_n 0, 1) := by decide +kernel
theorem dX8_ends_66 : decode cX8_ends 66 = .ok (.getfield 30, 3) := by decide +kernel
theorem dX8_ends_69 : decode cX8_ends 69 = .ok (.imul, 1) := by decide +kernel
theorem dX8_ends_70 : decode cX8_ends 70 = .ok (.iload_n 2, 1) := by decide +kernel
theorem dX8_ends_71 : decode cX8_ends 71 = .ok (.iadd, 1) := by decide +kernel
theorem dX8_ends_72 : decode cX8_ends 72 = .ok (.aload_n 0, 1) := by decide +kernel
theorem dX8_ends_73 : decode cX8_ends 73 = .ok (.getfield 16, 3) := by decide +kernel
theorem dX8_ends_76 : decode cX8_ends 76 = .ok (.iload_n 2, 1) := by decide +kernel
theorem dX8_ends_77 : decode cX8_ends 77 = .ok (.iaload, 1) := by decide +kernel
theorem dX8_ends_78 : decode cX8_ends 78 = .ok (.iastore, 1) := by decide +kernel
theorem dX8_ends_79 : decode cX8_ends 79 = .ok (.iinc 2 1, 3) := by decide +kernel
theorem dX8_ends_82 : decode cX8_ends 82 = .ok (.goto (-31), 3) := by decide +kernel
theorem dX8_ends_85 : decode cX8_ends 85 = .ok (.aload_n 0, 1) := by decide +kernel
theorem dX8_ends_86 : decode cX8_ends 86 = .ok (.dup, 1) := by decide +kernel
theorem dX8_ends_87 : decode cX8_ends 87 = .ok (.getfield 30, 3) := by decide +kernel
theorem dX8_ends_90 : decode cX8_ends 90 = .ok (.iconst 1, 1) := by decide +kernel
theorem dX8_ends_91 : decode cX8_ends 91 = .ok (.iadd, 1) := by decide +kernel
theorem dX8_ends_92 : decode cX8_ends 92 = .ok (.putfield 30, 3) := by decide +kernel
theorem dX8_ends_95 : decode cX8_ends 95 = .ok (.aload_n 0, 1) := by decide +kernel
theorem dX8_ends_96 : decode cX8_ends 96 = .ok (.iload_n 1, 1) := by decide +kernel
theorem dX8_ends_97 : decode cX8_ends 97 = .ok (.invokevirtual 33, 3) := by decide +kernel
theorem dX8_ends_100 : decode cX8_ends 100 = .ok (.ireturn, 1) := by decide +kernel
theorem dX8_begins_0 : decode cX8_begins 0 = .ok (.iconst 0, 1) := by decide +kernel
theorem dX8_begins_1 : decode cX8_begins 1 = .ok (.istore_n 2, 1) := by decide +kernel
theorem dX8_begins_2 : decode cX8_begins 2 = .ok (.iload_n 2, 1) := by decide +kernel
theorem dX8_begins_3 : decode cX8_begins 3 = .ok (.sipush 178, 3) := by decide +kernel
theorem dX8_begins_6 : decode cX8_begins 6 = .ok (.if_icmp .ge 16, 3) := by decide +kernel
theorem dX8_begins_9 : decode cX8_begins 9 = .ok (.aload_n 0, 1) := by decide +kernel
theorem dX8_begins_10 : decode cX8_begins 10 = .ok (.getfield 7, 3) := by decide +kernel
theorem dX8_begins_13 : decode cX8_begins 13 = .ok (.iload_n 2, 1) := by decide +kernel
theorem dX8_begins_14 : decode cX8_begins 14 = .ok (.iconst 0, 1) := by decide +kernel
theorem dX8_begins_15 : decode cX8_begins 15 = .ok (.iastore, 1) := by decide +kernel
theorem dX8_begins_16 : decode cX8_begins 16 = .ok (.iinc 2 1, 3) := by decide +kernel
theorem dX8_begins_19 : decode cX8_begins 19 = .ok (.goto (-17), 3) := by decide +kernel
theorem dX8_begins_22 : decode cX8_begins 22 = .ok (.aload_n 0, 1) := by decide +kernel
theorem dX8_begins_23 : decode cX8_begins 23 = .ok (.getfield 7, 3) := by decide +kernel
theorem dX8_begins_26 : decode cX8_begins 26 = .ok (.iconst 0, 1) := by decide +kernel
theorem dX8_begins_27 : decode cX8_begins 27 = .ok (.iload_n 1, 1) := by decide +kernel
theorem dX8_begins_28 : decode cX8_begins 28 = .ok (.iastore, 1) := by decide +kernel
theorem dX8_begins_29 : decode cX8_begins 29 = .ok (.aload_n 0, 1) := by decide +kernel
theorem dX8_begins_30 : decode cX8_begins 30 = .ok (.getfield 7, 3) := by decide +kernel
theorem dX8_begins_33 : decode cX8_begins 33 = .ok (.iconst 4, 1) := by decide +kernel
theorem dX8_begins_34 : decode cX8_begins 34 = .ok (.iload_n 1, 1) := by decide +kernel
theorem dX8_begins_35 : decode cX8_begins 35 = .ok (.iastore, 1) := by decide +kernel
theorem dX8_begins_36 : decode cX8_begins 36 = .ok (.iconst 0, 1) := by decide +kernel
theorem dX8_begins_37 : decode cX8_begins 37 = .ok (.istore_n 2, 1) := by decide +kernel
theorem dX8_begins_38 : decode cX8_begins 38 = .ok (.iload_n 2, 1) := by decide +kernel
theorem dX8_begins_39 : decode cX8_begins 39 = .ok (.bipush 7, 2) := by decide +kernel
theorem dX8_begins_41 : decode cX8_begins 41 = .ok (.if_icmp .ge 89, 3) := by decide +kernel
theorem dX8_begins_44 : decode cX8_begins 44 = .ok (.aload_n 0, 1) := by decide +kernel
theorem dX8_begins_45 : decode cX8_begins 45 = .ok (.getfield 7, 3) := by decide +kernel
theorem dX8_begins_48 : decode cX8_begins 48 = .ok (.bipush 13, 2) := by decide +kernel
theorem dX8_begins_50 : decode cX8_begins 50 = .ok (.iload_n 2, 1) := by decide +kernel
theorem dX8_begins_51 : decode cX8_begins 51 = .ok (.iadd, 1) := by decide +kernel
theorem dX8_begins_52 : decode cX8_begins 52 = .ok (.iload_n 2, 1) := by decide +kernel
theorem dX8_begins_53 : decode cX8_begins 53 = .ok (.iconst 1, 1) := by decide +kernel
theorem dX8_begins_54 : decode cX8_begins 54 = .ok (.if_icmp .ne 8, 3) := by decide +kernel
theorem dX8_begins_57 : decode cX8_begins 57 = .ok (.bipush 20, 2) := by decide +kernel
theorem dX8_begins_59 : decode cX8_begins 59 = .ok (.goto 14, 3) := by decide +kernel
theorem dX8_begins_62 : decode cX8_begins 62 = .ok (.iload_n 2, 1) := by decide +kernel
theorem dX8_begins_63 : decode cX8_begins 63 = .ok (.iconst 3, 1) := by decide +kernel
theorem dX8_begins_64 : decode cX8_begins 64 = .ok (.if_icmp .ne 8, 3) := by decide +kernel
theorem dX8_begins_67 : decode cX8_begins 67 = .ok (.bipush 35, 2) := by decide +kernel
theorem dX8_begins_69 : decode cX8_begins 69 = .ok (.goto 4, 3) := by decide +kernel
theorem dX8_begins_72 : decode cX8_begins 72 = .ok (.iconst 0, 1) := by decide +kernel
theorem dX8_begins_73 : decode cX8_begins 73 = .ok (.iastore, 1) := by decide +kernel
theorem dX8_begins_74 : decode cX8_begins 74 = .ok (.aload_n 0, 1) := by decide +kernel
theorem dX8_begins_75 : decode cX8_begins 75 = .ok (.getfield 7, 3) := by decide +kernel
theorem dX8_begins_78 : decode cX8_begins 78 = .ok (.bipush 20, 2) := by decide +kernel
theorem dX8_begins_80 : decode cX8_begins 80 = .ok (.iload_n 2, 1) := by decide +kernel
theorem dX8_begins_81 : decode cX8_begins 81 = .ok (.iadd, 1) := by decide +kernel
theorem dX8_begins_82 : decode cX8_begins 82 = .ok (.iload_n 2, 1) := by decide +kernel
theorem dX8_begins_83 : decode cX8_begins 83 = .ok (.iconst 1, 1) := by decide +kernel
theorem dX8_begins_84 : decode cX8_begins 84 = .ok (.if_icmp .ne 8, 3) := by decide +kernel
theorem dX8_begins_87 : decode cX8_begins 87 = .ok (.bipush 8, 2) := by decide +kernel
theorem dX8_begins_89 : decode cX8_begins 89 = .ok (.goto 24, 3) := by decide +kernel
theorem dX8_begins_92 : decode cX8_begins 92 = .ok (.iload_n 2, 1) := by decide +kernel
theorem dX8_begins_93 : decode cX8_begins 93 = .ok (.iconst 2, 1) := by decide +kernel
theorem dX8_begins_94 : decode cX8_begins 94 = .ok (.if_icmp .ne 8, 3) := by decide +kernel
theorem dX8_begins_97 : decode cX8_begins 97 = .ok (.bipush 6, 2) := by decide +kernel
theorem dX8_begins_99 : decode cX8_begins 99 = .ok (.goto 14, 3) := by decide +kernel
theorem dX8_begins_102 : decode cX8_begins 102 = .ok (.iload_n 2, 1) := by decide +kernel
theorem dX8_begins_103 : decode cX8_begins 103 = .ok (.iconst 3, 1) := by decide +kernel
theorem dX8_begins_104 : decode cX8_begins 104 = .ok (.if_icmp .ne 8, 3) := by decide +kernel
theorem dX8_begins_107 : decode cX8_begins 107 = .ok (.bipush 10, 2) := by decide +kernel
theorem dX8_begins_109 : decode cX8_begins 109 = .ok (.goto 4, 3) := by decide +kernel
theorem dX8_begins_112 : decode cX8_begins 112 = .ok (.iconst 5, 1) := by decide +kernel
theorem dX8_begins_113 : decode cX8_begins 113 = .ok (.iastore, 1) := by decide +kernel
theorem dX8_begins_114 : decode cX8_begins 114 = .ok (.aload_n 0, 1) := by decide +kernel
theorem dX8_begins_115 : decode cX8_begins 115 = .ok (.getfield 7, 3) := by decide +kernel
theorem dX8_begins_118 : decode cX8_begins 118 = .ok (.bipush 27, 2) := by decide +kernel
theorem dX8_begins_120 : decode cX8_begins 120 = .ok (.iload_n 2, 1) := by decide +kernel
theorem dX8_begins_121 : decode cX8_begins 121 = .ok (.iadd, 1) := by decide +kernel
theorem dX8_begins_122 : decode cX8_begins 122 = .ok (.iconst (-1), 1) := by decide +kernel
theorem dX8_begins_123 : decode cX8_begins 123 = .ok (.iastore, 1) := by decide +kernel
theorem dX8_begins_124 : decode cX8_begins 124 = .ok (.iinc 2 1, 3) := by decide +kernel
theorem dX8_begins_127 : decode cX8_begins 127 = .ok (.goto (-89), 3) := by decide +kernel
theorem dX8_begins_130 : decode cX8_begins 130 = .ok (.return_, 1) := by decide +kernel
theorem dX8_isPassage_0 : decode cX8_isPassage 0 = .ok (.iload_n 1, 1) := by decide +kernel
theorem dX8_isPassage_1 : decode cX8_isPassage 1 = .ok (.ifCond .lt 17, 3) := by decide +kernel
theorem dX8_isPassage_4 : decode cX8_isPassage 4 = .ok (.iload_n 1, 1) := by decide +kernel
theorem dX8_isPassage_5 : decode cX8_isPassage 5 = .ok (.aload_n 0, 1) := by decide +kernel
theorem dX8_isPassage_6 : decode cX8_isPassage 6 = .ok (.getfield 7, 3) := by decide +kernel
theorem dX8_isPassage_9 : decode cX8_isPassage 9 = .ok (.iconst 0, 1) := by decide +kernel
theorem dX8_isPassage_10 : decode cX8_isPassage 10 = .ok (.iaload, 1) := by decide +kernel
theorem dX8_isPassage_11 : decode cX8_isPassage 11 = .ok (.if_icmp .ge 7, 3) := by decide +kernel
theorem dX8_isPassage_14 : decode cX8_isPassage 14 = .ok (.iconst 1, 1) := by decide +kernel
theorem dX8_isPassage_15 : decode cX8_isPassage 15 = .ok (.goto 4, 3) := by decide +kernel
theorem dX8_isPassage_18 : decode cX8_isPassage 18 = .ok (.iconst 0, 1) := by decide +kernel
theorem dX8_isPassage_19 : decode cX8_isPassage 19 = .ok (.ireturn, 1) := by decide +kernel
theorem dX8_isRope_0 : decode cX8_isRope 0 = .ok (.iload_n 1, 1) := by decide +kernel
theorem dX8_isRope_1 : decode cX8_isRope 1 = .ok (.ifCond .lt 17, 3) := by decide +kernel
theorem dX8_isRope_4 : decode cX8_isRope 4 = .ok (.iload_n 1, 1) := by decide +kernel
theorem dX8_isRope_5 : decode cX8_isRope 5 = .ok (.aload_n 0, 1) := by decide +kernel
theorem dX8_isRope_6 : decode cX8_isRope 6 = .ok (.getfield 7, 3) := by decide +kernel
theorem dX8_isRope_9 : decode cX8_isRope 9 = .ok (.iconst 1, 1) := by decide +kernel
theorem dX8_isRope_10 : decode cX8_isRope 10 = .ok (.iaload, 1) := by decide +kernel
theorem dX8_isRope_11 : decode cX8_isRope 11 = .ok (.if_icmp .ge 7, 3) := by decide +kernel
theorem dX8_isRope_14 : decode cX8_isRope 14 = .ok (.iconst 1, 1) := by decide +kernel
theorem dX8_isRope_15 : decode cX8_isRope 15 = .ok (.goto 4, 3) := by decide +kernel
theorem dX8_isRope_18 : decode cX8_isRope 18 = .ok (.iconst 0, 1) := by decide +kernel
theorem dX8_isRope_19 : decode cX8_isRope 19 = .ok (.ireturn, 1) := by decide +kernel
theorem dX8_isHelper_0 : decode cX8_isHelper 0 = .ok (.iload_n 1, 1) := by decide +kernel
theorem dX8_isHelper_1 : decode cX8_isHelper 1 = .ok (.ifCond .lt 17, 3) := by decide +kernel
theorem dX8_isHelper_4 : decode cX8_isHelper 4 = .ok (.iload_n 1, 1) := by decide +kernel
theorem dX8_isHelper_5 : decode cX8_isHelper 5 = .ok (.aload_n 0, 1) := by decide +kernel
theorem dX8_isHelper_6 : decode cX8_isHelper 6 = .ok (.getfield 7, 3) := by decide +kernel
theorem dX8_isHelper_9 : decode cX8_isHelper 9 = .ok (.iconst 2, 1) := by decide +kernel
theorem dX8_isHelper_10 : decode cX8_isHelper 10 = .ok (.iaload, 1) := by decide +kernel
theorem dX8_isHelper_11 : decode cX8_isHelper 11 = .ok (.if_icmp .ge 7, 3) := by decide +kernel
theorem dX8_isHelper_14 : decode cX8_isHelper 14 = .ok (.iconst 1, 1) := by decide +kernel
theorem dX8_isHelper_15 : decode cX8_isHelper 15 = .ok (.goto 4, 3) := by decide +kernel
theorem dX8_isHelper_18 : decode cX8_isHelper 18 = .ok (.iconst 0, 1) := by decide +kernel
theorem dX8_isHelper_19 : decode cX8_isHelper 19 = .ok (.ireturn, 1) := by decide +kernel
theorem dX8_of_0 : decode cX8_of 0 = .ok (.aload_n 0, 1) := by decide +kernel
theorem dX8_of_1 : decode cX8_of 1 = .ok (.getfield 7, 3) := by decide +kernel
theorem dX8_of_4 : decode cX8_of 4 = .ok (.bipush 58, 2) := by decide +kernel
theorem dX8_of_6 : decode cX8_of 6 = .ok (.bipush 9, 2) := by decide +kernel
theorem dX8_of_8 : decode cX8_of 8 = .ok (.iload_n 1, 1) := by decide +kernel
theorem dX8_of_9 : decode cX8_of 9 = .ok (.imul, 1) := by decide +kernel
theorem dX8_of_10 : decode cX8_of 10 = .ok (.iadd, 1) := by decide +kernel
theorem dX8_of_11 : decode cX8_of 11 = .ok (.iload_n 2, 1) := by decide +kernel
theorem dX8_of_12 : decode cX8_of 12 = .ok (.iadd, 1) := by decide +kernel
theorem dX8_of_13 : decode cX8_of 13 = .ok (.iaload, 1) := by decide +kernel
theorem dX8_of_14 : decode cX8_of 14 = .ok (.ireturn, 1) := by decide +kernel
theorem dX8_lays_0 : decode cX8_lays 0 = .ok (.aload_n 0, 1) := by decide +kernel
theorem dX8_lays_1 : decode cX8_lays 1 = .ok (.getfield 7, 3) := by decide +kernel
theorem dX8_lays_4 : decode cX8_lays 4 = .ok (.bipush 58, 2) := by decide +kernel
theorem dX8_lays_6 : decode cX8_lays 6 = .ok (.bipush 9, 2) := by decide +kernel
theorem dX8_lays_8 : decode cX8_lays 8 = .ok (.iload_n 1, 1) := by decide +kernel
theorem dX8_lays_9 : decode cX8_lays 9 = .ok (.imul, 1) := by decide +kernel
theorem dX8_lays_10 : decode cX8_lays 10 = .ok (.iadd, 1) := by decide +kernel
theorem dX8_lays_11 : decode cX8_lays 11 = .ok (.iload_n 2, 1) := by decide +kernel
theorem dX8_lays_12 : decode cX8_lays 12 = .ok (.iadd, 1) := by decide +kernel
theorem dX8_lays_13 : decode cX8_lays 13 = .ok (.iload_n 3, 1) := by decide +kernel
theorem dX8_lays_14 : decode cX8_lays 14 = .ok (.iastore, 1) := by decide +kernel
theorem dX8_lays_15 : decode cX8_lays 15 = .ok (.return_, 1) := by decide +kernel
theorem dX8_isShut_0 : decode cX8_isShut 0 = .ok (.aload_n 0, 1) := by decide +kernel
theorem dX8_isShut_1 : decode cX8_isShut 1 = .ok (.getfield 7, 3) := by decide +kernel
theorem dX8_isShut_4 : decode cX8_isShut 4 = .ok (.bipush 13, 2) := by decide +kernel
theorem dX8_isShut_6 : decode cX8_isShut 6 = .ok (.iload_n 1, 1) := by decide +kernel
theorem dX8_isShut_7 : decode cX8_isShut 7 = .ok (.iadd, 1) := by decide +kernel
theorem dX8_isShut_8 : decode cX8_isShut 8 = .ok (.iaload, 1) := by decide +kernel
theorem dX8_isShut_9 : decode cX8_isShut 9 = .ok (.ifCond .le 20, 3) := by decide +kernel
theorem dX8_isShut_12 : decode cX8_isShut 12 = .ok (.aload_n 0, 1) := by decide +kernel
theorem dX8_isShut_13 : decode cX8_isShut 13 = .ok (.getfield 7, 3) := by decide +kernel
theorem dX8_isShut_16 : decode cX8_isShut 16 = .ok (.bipush 27, 2) := by decide +kernel
theorem dX8_isShut_18 : decode cX8_isShut 18 = .ok (.iload_n 1, 1) := by decide +kernel
theorem dX8_isShut_19 : decode cX8_isShut 19 = .ok (.iadd, 1) := by decide +kernel
theorem dX8_isShut_20 : decode cX8_isShut 20 = .ok (.iaload, 1) := by decide +kernel
theorem dX8_isShut_21 : decode cX8_isShut 21 = .ok (.iconst (-1), 1) := by decide +kernel
theorem dX8_isShut_22 : decode cX8_isShut 22 = .ok (.if_icmp .ne 7, 3) := by decide +kernel
theorem dX8_isShut_25 : decode cX8_isShut 25 = .ok (.iconst 1, 1) := by decide +kernel
theorem dX8_isShut_26 : decode cX8_isShut 26 = .ok (.goto 4, 3) := by decide +kernel
theorem dX8_isShut_29 : decode cX8_isShut 29 = .ok (.iconst 0, 1) := by decide +kernel
theorem dX8_isShut_30 : decode cX8_isShut 30 = .ok (.ireturn, 1) := by decide +kernel
theorem dX8_stands_0 : decode cX8_stands 0 = .ok (.aload_n 0, 1) := by decide +kernel
theorem dX8_stands_1 : decode cX8_stands 1 = .ok (.iload_n 1, 1) := by decide +kernel
theorem dX8_stands_2 : decode cX8_stands 2 = .ok (.iconst 2, 1) := by decide +kernel
theorem dX8_stands_3 : decode cX8_stands 3 = .ok (.invokevirtual 37, 3) := by decide +kernel
theorem dX8_stands_6 : decode cX8_stands 6 = .ok (.ifCond .ne 7, 3) := by decide +kernel
theorem dX8_stands_9 : decode cX8_stands 9 = .ok (.iconst 1, 1) := by decide +kernel
theorem dX8_stands_10 : decode cX8_stands 10 = .ok (.goto 4, 3) := by decide +kernel
theorem dX8_stands_13 : decode cX8_stands 13 = .ok (.iconst 0, 1) := by decide +kernel
theorem dX8_stands_14 : decode cX8_stands 14 = .ok (.ireturn, 1) := by decide +kernel
theorem dX8_isBelow_0 : decode cX8_isBelow 0 = .ok (.aload_n 0, 1) := by decide +kernel
theorem dX8_isBelow_1 : decode cX8_isBelow 1 = .ok (.iload_n 1, 1) := by decide +kernel
theorem dX8_isBelow_2 : decode cX8_isBelow 2 = .ok (.iconst 2, 1) := by decide +kernel
theorem dX8_isBelow_3 : decode cX8_isBelow 3 = .ok (.invokevirtual 37, 3) := by decide +kernel
theorem dX8_isBelow_6 : decode cX8_isBelow 6 = .ok (.iconst 1, 1) := by decide +kernel
theorem dX8_isBelow_7 : decode cX8_isBelow 7 = .ok (.if_icmp .eq 12, 3) := by decide +kernel
theorem dX8_isBelow_10 : decode cX8_isBelow 10 = .ok (.aload_n 0, 1) := by decide +kernel
theorem dX8_isBelow_11 : decode cX8_isBelow 11 = .ok (.iload_n 1, 1) := by decide +kernel
theorem dX8_isBelow_12 : decode cX8_isBelow 12 = .ok (.iconst 1, 1) := by decide +kernel
theorem dX8_isBelow_13 : decode cX8_isBelow 13 = .ok (.invokevirtual 37, 3) := by decide +kernel
theorem dX8_isBelow_16 : decode cX8_isBelow 16 = .ok (.ifCond .le 7, 3) := by decide +kernel
theorem dX8_isBelow_19 : decode cX8_isBelow 19 = .ok (.iconst 1, 1) := by decide +kernel
theorem dX8_isBelow_20 : decode cX8_isBelow 20 = .ok (.goto 4, 3) := by decide +kernel
theorem dX8_isBelow_23 : decode cX8_isBelow 23 = .ok (.iconst 0, 1) := by decide +kernel
theorem dX8_isBelow_24 : decode cX8_isBelow 24 = .ok (.ireturn, 1) := by decide +kernel
theorem dX8_passageOf_0 : decode cX8_passageOf 0 = .ok (.aload_n 0, 1) := by decide +kernel
theorem dX8_passageOf_1 : decode cX8_passageOf 1 = .ok (.iload_n 1, 1) := by decide +kernel
theorem dX8_passageOf_2 : decode cX8_passageOf 2 = .ok (.iconst 1, 1) := by decide +kernel
theorem dX8_passageOf_3 : decode cX8_passageOf 3 = .ok (.invokevirtual 37, 3) := by decide +kernel
theorem dX8_passageOf_6 : decode cX8_passageOf 6 = .ok (.istore_n 2, 1) := by decide +kernel
theorem dX8_passageOf_7 : decode cX8_passageOf 7 = .ok (.aload_n 0, 1) := by decide +kernel
theorem dX8_passageOf_8 : decode cX8_passageOf 8 = .ok (.iload_n 1, 1) := by decide +kernel
theorem dX8_passageOf_9 : decode cX8_passageOf 9 = .ok (.iconst 2, 1) := by decide +kernel
theorem dX8_passageOf_10 : decode cX8_passageOf 10 = .ok (.invokevirtual 37, 3) := by decide +kernel
theorem dX8_passageOf_13 : decode cX8_passageOf 13 = .ok (.iconst 1, 1) := by decide +kernel
theorem dX8_passageOf_14 : decode cX8_passageOf 14 = .ok (.if_icmp .eq 7, 3) := by decide +kernel
theorem dX8_passageOf_17 : decode cX8_passageOf 17 = .ok (.iconst (-1), 1) := by decide +kernel
theorem dX8_passageOf_18 : decode cX8_passageOf 18 = .ok (.goto 20, 3) := by decide +kernel
theorem dX8_passageOf_21 : decode cX8_passageOf 21 = .ok (.aload_n 0, 1) := by decide +kernel
theorem dX8_passageOf_22 : decode cX8_passageOf 22 = .ok (.iload_n 1, 1) := by decide +kernel
theorem dX8_passageOf_23 : decode cX8_passageOf 23 = .ok (.iconst 3, 1) := by decide +kernel
theorem dX8_passageOf_24 : decode cX8_passageOf 24 = .ok (.invokevirtual 37, 3) := by decide +kernel
theorem dX8_passageOf_27 : decode cX8_passageOf 27 = .ok (.iload_n 2, 1) := by decide +kernel
theorem dX8_passageOf_28 : decode cX8_passageOf 28 = .ok (.if_icmp .ge 9, 3) := by decide +kernel
theorem dX8_passageOf_31 : decode cX8_passageOf 31 = .ok (.iload_n 2, 1) := by decide +kernel
theorem dX8_passageOf_32 : decode cX8_passageOf 32 = .ok (.iconst 1, 1) := by decide +kernel
theorem dX8_passageOf_33 : decode cX8_passageOf 33 = .ok (.isub, 1) := by decide +kernel
theorem dX8_passageOf_34 : decode cX8_passageOf 34 = .ok (.goto 4, 3) := by decide +kernel
theorem dX8_passageOf_37 : decode cX8_passageOf 37 = .ok (.iload_n 2, 1) := by decide +kernel
theorem dX8_passageOf_38 : decode cX8_passageOf 38 = .ok (.ireturn, 1) := by decide +kernel
theorem dX8_walkers_0 : decode cX8_walkers 0 = .ok (.iconst 0, 1) := by decide +kernel
theorem dX8_walkers_1 : decode cX8_walkers 1 = .ok (.istore_n 2, 1) := by decide +kernel
theorem dX8_walkers_2 : decode cX8_walkers 2 = .ok (.iconst 0, 1) := by decide +kernel
theorem dX8_walkers_3 : decode cX8_walkers 3 = .ok (.istore_n 3, 1) := by decide +kernel
theorem dX8_walkers_4 : decode cX8_walkers 4 = .ok (.iload_n 3, 1) := by decide +kernel
theorem dX8_walkers_5 : decode cX8_walkers 5 = .ok (.aload_n 0, 1) := by decide +kernel
theorem dX8_walkers_6 : decode cX8_walkers 6 = .ok (.getfield 7, 3) := by decide +kernel
theorem dX8_walkers_9 : decode cX8_walkers 9 = .ok (.iconst 2, 1) := by decide +kernel
theorem dX8_walkers_10 : decode cX8_walkers 10 = .ok (.iaload, 1) := by decide +kernel
theorem dX8_walkers_11 : decode cX8_walkers 11 = .ok (.if_icmp .ge 26, 3) := by decide +kernel
theorem dX8_walkers_14 : decode cX8_walkers 14 = .ok (.iload_n 2, 1) := by decide +kernel
theorem dX8_walkers_15 : decode cX8_walkers 15 = .ok (.aload_n 0, 1) := by decide +kernel
theorem dX8_walkers_16 : decode cX8_walkers 16 = .ok (.iload_n 3, 1) := by decide +kernel
theorem dX8_walkers_17 : decode cX8_walkers 17 = .ok (.invokevirtual 41, 3) := by decide +kernel
theorem dX8_walkers_20 : decode cX8_walkers 20 = .ok (.iload_n 1, 1) := by decide +kernel
theorem dX8_walkers_21 : decode cX8_walkers 21 = .ok (.if_icmp .ne 7, 3) := by decide +kernel
theorem dX8_walkers_24 : decode cX8_walkers 24 = .ok (.iconst 1, 1) := by decide +kernel
theorem dX8_walkers_25 : decode cX8_walkers 25 = .ok (.goto 4, 3) := by decide +kernel
theorem dX8_walkers_28 : decode cX8_walkers 28 = .ok (.iconst 0, 1) := by decide +kernel
theorem dX8_walkers_29 : decode cX8_walkers 29 = .ok (.iadd, 1) := by decide +kernel
theorem dX8_walkers_30 : decode cX8_walkers 30 = .ok (.istore_n 2, 1) := by decide +kernel
theorem dX8_walkers_31 : decode cX8_walkers 31 = .ok (.iinc 3 1, 3) := by decide +kernel
theorem dX8_walkers_34 : decode cX8_walkers 34 = .ok (.goto (-30), 3) := by decide +kernel
theorem dX8_walkers_37 : decode cX8_walkers 37 = .ok (.iload_n 2, 1) := by decide +kernel
theorem dX8_walkers_38 : decode cX8_walkers 38 = .ok (.ireturn, 1) := by decide +kernel
theorem dX8_rigger_0 : decode cX8_rigger 0 = .ok (.iconst (-1), 1) := by decide +kernel
theorem dX8_rigger_1 : decode cX8_rigger 1 = .ok (.istore_n 2, 1) := by decide +kernel
theorem dX8_rigger_2 : decode cX8_rigger 2 = .ok (.iconst 0, 1) := by decide +kernel
theorem dX8_rigger_3 : decode cX8_rigger 3 = .ok (.istore_n 3, 1) := by decide +kernel
theorem dX8_rigger_4 : decode cX8_rigger 4 = .ok (.iload_n 3, 1) := by decide +kernel
theorem dX8_rigger_5 : decode cX8_rigger 5 = .ok (.aload_n 0, 1) := by decide +kernel
theorem dX8_rigger_6 : decode cX8_rigger 6 = .ok (.getfield 7, 3) := by decide +kernel
theorem dX8_rigger_9 : decode cX8_rigger 9 = .ok (.iconst 2, 1) := by decide +kernel
theorem dX8_rigger_10 : decode cX8_rigger 10 = .ok (.iaload, 1) := by decide +kernel
theorem dX8_rigger_11 : decode cX8_rigger 11 = .ok (.if_icmp .ge 35, 3) := by decide +kernel
theorem dX8_rigger_14 : decode cX8_rigger 14 = .ok (.aload_n 0, 1) := by decide +kernel
theorem dX8_rigger_15 : decode cX8_rigger 15 = .ok (.iload_n 3, 1) := by decide +kernel
theorem dX8_rigger_16 : decode cX8_rigger 16 = .ok (.iconst 2, 1) := by decide +kernel
theorem dX8_rigger_17 : decode cX8_rigger 17 = .ok (.invokevirtual 37, 3) := by decide +kernel
theorem dX8_rigger_20 : decode cX8_rigger 20 = .ok (.iconst 2, 1) := by decide +kernel
theorem dX8_rigger_21 : decode cX8_rigger 21 = .ok (.if_icmp .ne 17, 3) := by decide +kernel
theorem dX8_rigger_24 : decode cX8_rigger 24 = .ok (.aload_n 0, 1) := by decide +kernel
theorem dX8_rigger_25 : decode cX8_rigger 25 = .ok (.iload_n 3, 1) := by decide +kernel
theorem dX8_rigger_26 : decode cX8_rigger 26 = .ok (.iconst 1, 1) := by decide +kernel
theorem dX8_rigger_27 : decode cX8_rigger 27 = .ok (.invokevirtual 37, 3) := by decide +kernel
theorem dX8_rigger_30 : decode cX8_rigger 30 = .ok (.iload_n 1, 1) := by decide +kernel
theorem dX8_rigger_31 : decode cX8_rigger 31 = .ok (.if_icmp .ne 7, 3) := by decide +kernel
theorem dX8_rigger_34 : decode cX8_rigger 34 = .ok (.iload_n 3, 1) := by decide +kernel
theorem dX8_rigger_35 : decode cX8_rigger 35 = .ok (.goto 4, 3) := by decide +kernel
theorem dX8_rigger_38 : decode cX8_rigger 38 = .ok (.iload_n 2, 1) := by decide +kernel
theorem dX8_rigger_39 : decode cX8_rigger 39 = .ok (.istore_n 2, 1) := by decide +kernel
theorem dX8_rigger_40 : decode cX8_rigger 40 = .ok (.iinc 3 1, 3) := by decide +kernel
theorem dX8_rigger_43 : decode cX8_rigger 43 = .ok (.goto (-39), 3) := by decide +kernel
theorem dX8_rigger_46 : decode cX8_rigger 46 = .ok (.iload_n 2, 1) := by decide +kernel
theorem dX8_rigger_47 : decode cX8_rigger 47 = .ok (.ireturn, 1) := by decide +kernel
theorem dX8_upFrom_0 : decode cX8_upFrom 0 = .ok (.iconst 0, 1) := by decide +kernel
theorem dX8_upFrom_1 : decode cX8_upFrom 1 = .ok (.istore_n 2, 1) := by decide +kernel
theorem dX8_upFrom_2 : decode cX8_upFrom 2 = .ok (.iconst 0, 1) := by decide +kernel
theorem dX8_upFrom_3 : decode cX8_upFrom 3 = .ok (.istore_n 3, 1) := by decide +kernel
theorem dX8_upFrom_4 : decode cX8_upFrom 4 = .ok (.iload_n 3, 1) := by decide +kernel
theorem dX8_upFrom_5 : decode cX8_upFrom 5 = .ok (.iload_n 1, 1) := by decide +kernel
theorem dX8_upFrom_6 : decode cX8_upFrom 6 = .ok (.if_icmp .ge 21, 3) := by decide +kernel
theorem dX8_upFrom_9 : decode cX8_upFrom 9 = .ok (.iload_n 2, 1) := by decide +kernel
theorem dX8_upFrom_10 : decode cX8_upFrom 10 = .ok (.aload_n 0, 1) := by decide +kernel
theorem dX8_upFrom_11 : decode cX8_upFrom 11 = .ok (.getfield 7, 3) := by decide +kernel
theorem dX8_upFrom_14 : decode cX8_upFrom 14 = .ok (.bipush 20, 2) := by decide +kernel
theorem dX8_upFrom_16 : decode cX8_upFrom 16 = .ok (.iload_n 3, 1) := by decide +kernel
theorem dX8_upFrom_17 : decode cX8_upFrom 17 = .ok (.iadd, 1) := by decide +kernel
theorem dX8_upFrom_18 : decode cX8_upFrom 18 = .ok (.iaload, 1) := by decide +kernel
theorem dX8_upFrom_19 : decode cX8_upFrom 19 = .ok (.iadd, 1) := by decide +kernel
theorem dX8_upFrom_20 : decode cX8_upFrom 20 = .ok (.istore_n 2, 1) := by decide +kernel
theorem dX8_upFrom_21 : decode cX8_upFrom 21 = .ok (.iinc 3 1, 3) := by decide +kernel
theorem dX8_upFrom_24 : decode cX8_upFrom 24 = .ok (.goto (-20), 3) := by decide +kernel
theorem dX8_upFrom_27 : decode cX8_upFrom 27 = .ok (.iload_n 2, 1) := by decide +kernel
theorem dX8_upFrom_28 : decode cX8_upFrom 28 = .ok (.ireturn, 1) := by decide +kernel
theorem dX8_isShutAbove_0 : decode cX8_isShutAbove 0 = .ok (.iconst 0, 1) := by decide +kernel
theorem dX8_isShutAbove_1 : decode cX8_isShutAbove 1 = .ok (.istore_n 2, 1) := by decide +kernel
theorem dX8_isShutAbove_2 : decode cX8_isShutAbove 2 = .ok (.iconst 0, 1) := by decide +kernel
theorem dX8_isShutAbove_3 : decode cX8_isShutAbove 3 = .ok (.istore_n 3, 1) := by decide +kernel
theorem dX8_isShutAbove_4 : decode cX8_isShutAbove 4 = .ok (.iload_n 3, 1) := by decide +kernel
theorem dX8_isShutAbove_5 : decode cX8_isShutAbove 5 = .ok (.iload_n 1, 1) := by decide +kernel
theorem dX8_isShutAbove_6 : decode cX8_isShutAbove 6 = .ok (.if_icmp .ge 27, 3) := by decide +kernel
theorem dX8_isShutAbove_9 : decode cX8_isShutAbove 9 = .ok (.iload_n 2, 1) := by decide +kernel
theorem dX8_isShutAbove_10 : decode cX8_isShutAbove 10 = .ok (.ifCond .ne 11, 3) := by decide +kernel
theorem dX8_isShutAbove_13 : decode cX8_isShutAbove 13 = .ok (.aload_n 0, 1) := by decide +kernel
theorem dX8_isShutAbove_14 : decode cX8_isShutAbove 14 = .ok (.iload_n 3, 1) := by decide +kernel
theorem dX8_isShutAbove_15 : decode cX8_isShutAbove 15 = .ok (.invokevirtual 44, 3) := by decide +kernel
theorem dX8_isShutAbove_18 : decode cX8_isShutAbove 18 = .ok (.ifCond .eq 7, 3) := by decide +kernel
theorem dX8_isShutAbove_21 : decode cX8_isShutAbove 21 = .ok (.iconst 1, 1) := by decide +kernel
theorem dX8_isShutAbove_22 : decode cX8_isShutAbove 22 = .ok (.goto 4, 3) := by decide +kernel
theorem dX8_isShutAbove_25 : decode cX8_isShutAbove 25 = .ok (.iconst 0, 1) := by decide +kernel
theorem dX8_isShutAbove_26 : decode cX8_isShutAbove 26 = .ok (.istore_n 2, 1) := by decide +kernel
theorem dX8_isShutAbove_27 : decode cX8_isShutAbove 27 = .ok (.iinc 3 1, 3) := by decide +kernel
theorem dX8_isShutAbove_30 : decode cX8_isShutAbove 30 = .ok (.goto (-26), 3) := by decide +kernel
theorem dX8_isShutAbove_33 : decode cX8_isShutAbove 33 = .ok (.iload_n 2, 1) := by decide +kernel
theorem dX8_isShutAbove_34 : decode cX8_isShutAbove 34 = .ok (.ireturn, 1) := by decide +kernel
theorem dX8_isInTime_0 : decode cX8_isInTime 0 = .ok (.aload_n 0, 1) := by decide +kernel
theorem dX8_isInTime_1 : decode cX8_isInTime 1 = .ok (.iload_n 1, 1) := by decide +kernel
theorem dX8_isInTime_2 : decode cX8_isInTime 2 = .ok (.invokevirtual 48, 3) := by decide +kernel
theorem dX8_isInTime_5 : decode cX8_isInTime 5 = .ok (.ifCond .eq 13, 3) := by decide +kernel
theorem dX8_isInTime_8 : decode cX8_isInTime 8 = .ok (.aload_n 0, 1) := by decide +kernel
theorem dX8_isInTime_9 : decode cX8_isInTime 9 = .ok (.iload_n 1, 1) := by decide +kernel
theorem dX8_isInTime_10 : decode cX8_isInTime 10 = .ok (.bipush 7, 2) := by decide +kernel
theorem dX8_isInTime_12 : decode cX8_isInTime 12 = .ok (.invokevirtual 37, 3) := by decide +kernel
theorem dX8_isInTime_15 : decode cX8_isInTime 15 = .ok (.goto 4, 3) := by decide +kernel
theorem dX8_isInTime_18 : decode cX8_isInTime 18 = .ok (.iconst 0, 1) := by decide +kernel
theorem dX8_isInTime_19 : decode cX8_isInTime 19 = .ok (.istore 4, 2) := by decide +kernel
theorem dX8_isInTime_21 : decode cX8_isInTime 21 = .ok (.iload 4, 2) := by decide +kernel
theorem dX8_isInTime_23 : decode cX8_isInTime 23 = .ok (.iload_n 3, 1) := by decide +kernel
theorem dX8_isInTime_24 : decode cX8_isInTime 24 = .ok (.iadd, 1) := by decide +kernel
theorem dX8_isInTime_25 : decode cX8_isInTime 25 = .ok (.aload_n 0, 1) := by decide +kernel
theorem dX8_isInTime_26 : decode cX8_isInTime 26 = .ok (.iload_n 2, 1) := by decide +kernel
theorem dX8_isInTime_27 : decode cX8_isInTime 27 = .ok (.invokevirtual 51, 3) := by decide +kernel
theorem dX8_isInTime_30 : decode cX8_isInTime 30 = .ok (.iadd, 1) := by decide +kernel
theorem dX8_isInTime_31 : decode cX8_isInTime 31 = .ok (.aload_n 0, 1) := by decide +kernel
theorem dX8_isInTime_32 : decode cX8_isInTime 32 = .ok (.iload_n 1, 1) := by decide +kernel
theorem dX8_isInTime_33 : decode cX8_isInTime 33 = .ok (.iconst 0, 1) := by decide +kernel
theorem dX8_isInTime_34 : decode cX8_isInTime 34 = .ok (.invokevirtual 37, 3) := by decide +kernel
theorem dX8_isInTime_37 : decode cX8_isInTime 37 = .ok (.if_icmp .gt 7, 3) := by decide +kernel
theorem dX8_isInTime_40 : decode cX8_isInTime 40 = .ok (.iconst 1, 1) := by decide +kernel
theorem dX8_isInTime_41 : decode cX8_isInTime 41 = .ok (.goto 4, 3) := by decide +kernel
theorem dX8_isInTime_44 : decode cX8_isInTime 44 = .ok (.iconst 0, 1) := by decide +kernel
theorem dX8_isInTime_45 : decode cX8_isInTime 45 = .ok (.ireturn, 1) := by decide +kernel
theorem dX8_begin_0 : decode cX8_begin 0 = .ok (.iload_n 1, 1) := by decide +kernel
theorem dX8_begin_1 : decode cX8_begin 1 = .ok (.iconst 1, 1) := by decide +kernel
theorem dX8_begin_2 : decode cX8_begin 2 = .ok (.bipush 7, 2) := by decide +kernel
theorem dX8_begin_4 : decode cX8_begin 4 = .ok (.invokestatic 54, 3) := by decide +kernel
theorem dX8_begin_7 : decode cX8_begin 7 = .ok (.ifCond .ne 9, 3) := by decide +kernel
theorem dX8_begin_10 : decode cX8_begin 10 = .ok (.aload_n 0, 1) := by decide +kernel
theorem dX8_begin_11 : decode cX8_begin 11 = .ok (.iconst 1, 1) := by decide +kernel
theorem dX8_begin_12 : decode cX8_begin 12 = .ok (.invokevirtual 58, 3) := by decide +kernel
theorem dX8_begin_15 : decode cX8_begin 15 = .ok (.ireturn, 1) := by decide +kernel
theorem dX8_begin_16 : decode cX8_begin 16 = .ok (.aload_n 0, 1) := by decide +kernel
theorem dX8_begin_17 : decode cX8_begin 17 = .ok (.invokevirtual 61, 3) := by decide +kernel
theorem dX8_begin_20 : decode cX8_begin 20 = .ok (.aload_n 0, 1) := by decide +kernel
theorem dX8_begin_21 : decode cX8_begin 21 = .ok (.iload_n 1, 1) := by decide +kernel
theorem dX8_begin_22 : decode cX8_begin 22 = .ok (.invokevirtual 22, 3) := by decide +kernel
theorem dX8_begin_25 : decode cX8_begin 25 = .ok (.aload_n 0, 1) := by decide +kernel
theorem dX8_begin_26 : decode cX8_begin 26 = .ok (.aload_n 0, 1) := by decide +kernel
theorem dX8_begin_27 : decode cX8_begin 27 = .ok (.getfield 16, 3) := by decide +kernel
theorem dX8_begin_30 : decode cX8_begin 30 = .ok (.iconst 3, 1) := by decide +kernel
theorem dX8_begin_31 : decode cX8_begin 31 = .ok (.iaload, 1) := by decide +kernel
theorem dX8_begin_32 : decode cX8_begin 32 = .ok (.invokevirtual 64, 3) := by decide +kernel
theorem dX8_begin_35 : decode cX8_begin 35 = .ok (.ireturn, 1) := by decide +kernel
theorem dX8_setPassage_0 : decode cX8_setPassage 0 = .ok (.aload_n 0, 1) := by decide +kernel
theorem dX8_setPassage_1 : decode cX8_setPassage 1 = .ok (.iload_n 1, 1) := by decide +kernel
theorem dX8_setPassage_2 : decode cX8_setPassage 2 = .ok (.invokevirtual 67, 3) := by decide +kernel
theorem dX8_setPassage_5 : decode cX8_setPassage 5 = .ok (.ifCond .ne 9, 3) := by decide +kernel
theorem dX8_setPassage_8 : decode cX8_setPassage 8 = .ok (.aload_n 0, 1) := by decide +kernel
theorem dX8_setPassage_9 : decode cX8_setPassage 9 = .ok (.iconst 1, 1) := by decide +kernel
theorem dX8_setPassage_10 : decode cX8_setPassage 10 = .ok (.invokevirtual 58, 3) := by decide +kernel
theorem dX8_setPassage_13 : decode cX8_setPassage 13 = .ok (.ireturn, 1) := by decide +kernel
theorem dX8_setPassage_14 : decode cX8_setPassage 14 = .ok (.iload_n 2, 1) := by decide +kernel
theorem dX8_setPassage_15 : decode cX8_setPassage 15 = .ok (.iconst 0, 1) := by decide +kernel
theorem dX8_setPassage_16 : decode cX8_setPassage 16 = .ok (.bipush 60, 2) := by decide +kernel
theorem dX8_setPassage_18 : decode cX8_setPassage 18 = .ok (.invokestatic 54, 3) := by decide +kernel
theorem dX8_setPassage_21 : decode cX8_setPassage 21 = .ok (.ifCond .eq 13, 3) := by decide +kernel
theorem dX8_setPassage_24 : decode cX8_setPassage 24 = .ok (.iload_n 3, 1) := by decide +kernel
theorem dX8_setPassage_25 : decode cX8_setPassage 25 = .ok (.iconst 1, 1) := by decide +kernel
theorem dX8_setPassage_26 : decode cX8_setPassage 26 = .ok (.bipush 30, 2) := by decide +kernel
theorem dX8_setPassage_28 : decode cX8_setPassage 28 = .ok (.invokestatic 54, 3) := by decide +kernel
theorem dX8_setPassage_31 : decode cX8_setPassage 31 = .ok (.ifCond .ne 9, 3) := by decide +kernel
theorem dX8_setPassage_34 : decode cX8_setPassage 34 = .ok (.aload_n 0, 1) := by decide +kernel
theorem dX8_setPassage_35 : decode cX8_setPassage 35 = .ok (.iconst 2, 1) := by decide +kernel
theorem dX8_setPassage_36 : decode cX8_setPassage 36 = .ok (.invokevirtual 58, 3) := by decide +kernel
theorem dX8_setPassage_39 : decode cX8_setPassage 39 = .ok (.ireturn, 1) := by decide +kernel
theorem dX8_setPassage_40 : decode cX8_setPassage 40 = .ok (.aload_n 0, 1) := by decide +kernel
theorem dX8_setPassage_41 : decode cX8_setPassage 41 = .ok (.getfield 7, 3) := by decide +kernel
theorem dX8_setPassage_44 : decode cX8_setPassage 44 = .ok (.bipush 27, 2) := by decide +kernel
theorem dX8_setPassage_46 : decode cX8_setPassage 46 = .ok (.iload_n 1, 1) := by decide +kernel
theorem dX8_setPassage_47 : decode cX8_setPassage 47 = .ok (.iadd, 1) := by decide +kernel
theorem dX8_setPassage_48 : decode cX8_setPassage 48 = .ok (.iaload, 1) := by decide +kernel
theorem dX8_setPassage_49 : decode cX8_setPassage 49 = .ok (.iconst (-1), 1) := by decide +kernel
theorem dX8_setPassage_50 : decode cX8_setPassage 50 = .ok (.if_icmp .ne 20, 3) := by decide +kernel
theorem dX8_setPassage_53 : decode cX8_setPassage 53 = .ok (.aload_n 0, 1) := by decide +kernel
theorem dX8_setPassage_54 : decode cX8_setPassage 54 = .ok (.iload_n 1, 1) := by decide +kernel
theorem dX8_setPassage_55 : decode cX8_setPassage 55 = .ok (.invokevirtual 70, 3) := by decide +kernel
theorem dX8_setPassage_58 : decode cX8_setPassage 58 = .ok (.iconst (-1), 1) := by decide +kernel
theorem dX8_setPassage_59 : decode cX8_setPassage 59 = .ok (.if_icmp .ne 11, 3) := by decide +kernel
theorem dX8_setPassage_62 : decode cX8_setPassage 62 = .ok (.aload_n 0, 1) := by decide +kernel
theorem dX8_setPassage_63 : decode cX8_setPassage 63 = .ok (.iload_n 1, 1) := by decide +kernel
theorem dX8_setPassage_64 : decode cX8_setPassage 64 = .ok (.invokevirtual 73, 3) := by decide +kernel
theorem dX8_setPassage_67 : decode cX8_setPassage 67 = .ok (.ifCond .le 9, 3) := by decide +kernel
theorem dX8_setPassage_70 : decode cX8_setPassage 70 = .ok (.aload_n 0, 1) := by decide +kernel
theorem dX8_setPassage_71 : decode cX8_setPassage 71 = .ok (.iconst 3, 1) := by decide +kernel
theorem dX8_setPassage_72 : decode cX8_setPassage 72 = .ok (.invokevirtual 58, 3) := by decide +kernel
theorem dX8_setPassage_75 : decode cX8_setPassage 75 = .ok (.ireturn, 1) := by decide +kernel
theorem dX8_setPassage_76 : decode cX8_setPassage 76 = .ok (.aload_n 0, 1) := by decide +kernel
theorem dX8_setPassage_77 : decode cX8_setPassage 77 = .ok (.invokevirtual 61, 3) := by decide +kernel
theorem dX8_setPassage_80 : decode cX8_setPassage 80 = .ok (.aload_n 0, 1) := by decide +kernel
theorem dX8_setPassage_81 : decode cX8_setPassage 81 = .ok (.getfield 7, 3) := by decide +kernel
theorem dX8_setPassage_84 : decode cX8_setPassage 84 = .ok (.bipush 13, 2) := by decide +kernel
theorem dX8_setPassage_86 : decode cX8_setPassage 86 = .ok (.iload_n 1, 1) := by decide +kernel
theorem dX8_setPassage_87 : decode cX8_setPassage 87 = .ok (.iadd, 1) := by decide +kernel
theorem dX8_setPassage_88 : decode cX8_setPassage 88 = .ok (.iload_n 2, 1) := by decide +kernel
theorem dX8_setPassage_89 : decode cX8_setPassage 89 = .ok (.iastore, 1) := by decide +kernel
theorem dX8_setPassage_90 : decode cX8_setPassage 90 = .ok (.aload_n 0, 1) := by decide +kernel
theorem dX8_setPassage_91 : decode cX8_setPassage 91 = .ok (.getfield 7, 3) := by decide +kernel
theorem dX8_setPassage_94 : decode cX8_setPassage 94 = .ok (.bipush 20, 2) := by decide +kernel
theorem dX8_setPassage_96 : decode cX8_setPassage 96 = .ok (.iload_n 1, 1) := by decide +kernel
theorem dX8_setPassage_97 : decode cX8_setPassage 97 = .ok (.iadd, 1) := by decide +kernel
theorem dX8_setPassage_98 : decode cX8_setPassage 98 = .ok (.iload_n 3, 1) := by decide +kernel
theorem dX8_setPassage_99 : decode cX8_setPassage 99 = .ok (.iastore, 1) := by decide +kernel
theorem dX8_setPassage_100 : decode cX8_setPassage 100 = .ok (.aload_n 0, 1) := by decide +kernel
theorem dX8_setPassage_101 : decode cX8_setPassage 101 = .ok (.aload_n 0, 1) := by decide +kernel
theorem dX8_setPassage_102 : decode cX8_setPassage 102 = .ok (.getfield 16, 3) := by decide +kernel
theorem dX8_setPassage_105 : decode cX8_setPassage 105 = .ok (.bipush 13, 2) := by decide +kernel
theorem dX8_setPassage_107 : decode cX8_setPassage 107 = .ok (.iload_n 1, 1) := by decide +kernel
theorem dX8_setPassage_108 : decode cX8_setPassage 108 = .ok (.iadd, 1) := by decide +kernel
theorem dX8_setPassage_109 : decode cX8_setPassage 109 = .ok (.iaload, 1) := by decide +kernel
theorem dX8_setPassage_110 : decode cX8_setPassage 110 = .ok (.invokevirtual 64, 3) := by decide +kernel
theorem dX8_setPassage_113 : decode cX8_setPassage 113 = .ok (.ireturn, 1) := by decide +kernel
theorem dX8_addRope_0 : decode cX8_addRope 0 = .ok (.iload_n 1, 1) := by decide +kernel
theorem dX8_addRope_1 : decode cX8_addRope 1 = .ok (.bipush 10, 2) := by decide +kernel
theorem dX8_addRope_3 : decode cX8_addRope 3 = .ok (.bipush 80, 2) := by decide +kernel
theorem dX8_addRope_5 : decode cX8_addRope 5 = .ok (.invokestatic 54, 3) := by decide +kernel
theorem dX8_addRope_8 : decode cX8_addRope 8 = .ok (.ifCond .ne 9, 3) := by decide +kernel
theorem dX8_addRope_11 : decode cX8_addRope 11 = .ok (.aload_n 0, 1) := by decide +kernel
theorem dX8_addRope_12 : decode cX8_addRope 12 = .ok (.iconst 1, 1) := by decide +kernel
theorem dX8_addRope_13 : decode cX8_addRope 13 = .ok (.invokevirtual 58, 3) := by decide +kernel
theorem dX8_addRope_16 : decode cX8_addRope 16 = .ok (.ireturn, 1) := by decide +kernel
theorem dX8_addRope_17 : decode cX8_addRope 17 = .ok (.aload_n 0, 1) := by decide +kernel
theorem dX8_addRope_18 : decode cX8_addRope 18 = .ok (.getfield 7, 3) := by decide +kernel
theorem dX8_addRope_21 : decode cX8_addRope 21 = .ok (.iconst 1, 1) := by decide +kernel
theorem dX8_addRope_22 : decode cX8_addRope 22 = .ok (.iaload, 1) := by decide +kernel
theorem dX8_addRope_23 : decode cX8_addRope 23 = .ok (.bipush 8, 2) := by decide +kernel
theorem dX8_addRope_25 : decode cX8_addRope 25 = .ok (.if_icmp .ne 9, 3) := by decide +kernel
theorem dX8_addRope_28 : decode cX8_addRope 28 = .ok (.aload_n 0, 1) := by decide +kernel
theorem dX8_addRope_29 : decode cX8_addRope 29 = .ok (.iconst 2, 1) := by decide +kernel
theorem dX8_addRope_30 : decode cX8_addRope 30 = .ok (.invokevirtual 58, 3) := by decide +kernel
theorem dX8_addRope_33 : decode cX8_addRope 33 = .ok (.ireturn, 1) := by decide +kernel
theorem dX8_addRope_34 : decode cX8_addRope 34 = .ok (.aload_n 0, 1) := by decide +kernel
theorem dX8_addRope_35 : decode cX8_addRope 35 = .ok (.invokevirtual 61, 3) := by decide +kernel
theorem dX8_addRope_38 : decode cX8_addRope 38 = .ok (.bipush 34, 2) := by decide +kernel
theorem dX8_addRope_40 : decode cX8_addRope 40 = .ok (.iconst 3, 1) := by decide +kernel
theorem dX8_addRope_41 : decode cX8_addRope 41 = .ok (.aload_n 0, 1) := by decide +kernel
theorem dX8_addRope_42 : decode cX8_addRope 42 = .ok (.getfield 7, 3) := by decide +kernel
theorem dX8_addRope_45 : decode cX8_addRope 45 = .ok (.iconst 1, 1) := by decide +kernel
theorem dX8_addRope_46 : decode cX8_addRope 46 = .ok (.iaload, 1) := by decide +kernel
theorem dX8_addRope_47 : decode cX8_addRope 47 = .ok (.imul, 1) := by decide +kernel
theorem dX8_addRope_48 : decode cX8_addRope 48 = .ok (.iadd, 1) := by decide +kernel
theorem dX8_addRope_49 : decode cX8_addRope 49 = .ok (.istore_n 2, 1) := by decide +kernel
theorem dX8_addRope_50 : decode cX8_addRope 50 = .ok (.aload_n 0, 1) := by decide +kernel
theorem dX8_addRope_51 : decode cX8_addRope 51 = .ok (.getfield 7, 3) := by decide +kernel
theorem dX8_addRope_54 : decode cX8_addRope 54 = .ok (.iload_n 2, 1) := by decide +kernel
theorem dX8_addRope_55 : decode cX8_addRope 55 = .ok (.iload_n 1, 1) := by decide +kernel
theorem dX8_addRope_56 : decode cX8_addRope 56 = .ok (.iastore, 1) := by decide +kernel
theorem dX8_addRope_57 : decode cX8_addRope 57 = .ok (.aload_n 0, 1) := by decide +kernel
theorem dX8_addRope_58 : decode cX8_addRope 58 = .ok (.getfield 7, 3) := by decide +kernel
theorem dX8_addRope_61 : decode cX8_addRope 61 = .ok (.iload_n 2, 1) := by decide +kernel
theorem dX8_addRope_62 : decode cX8_addRope 62 = .ok (.iconst 1, 1) := by decide +kernel
theorem dX8_addRope_63 : decode cX8_addRope 63 = .ok (.iadd, 1) := by decide +kernel
theorem dX8_addRope_64 : decode cX8_addRope 64 = .ok (.iconst 0, 1) := by decide +kernel
theorem dX8_addRope_65 : decode cX8_addRope 65 = .ok (.iastore, 1) := by decide +kernel
theorem dX8_addRope_66 : decode cX8_addRope 66 = .ok (.aload_n 0, 1) := by decide +kernel
theorem dX8_addRope_67 : decode cX8_addRope 67 = .ok (.getfield 7, 3) := by decide +kernel
theorem dX8_addRope_70 : decode cX8_addRope 70 = .ok (.iload_n 2, 1) := by decide +kernel
theorem dX8_addRope_71 : decode cX8_addRope 71 = .ok (.iconst 2, 1) := by decide +kernel
theorem dX8_addRope_72 : decode cX8_addRope 72 = .ok (.iadd, 1) := by decide +kernel
theorem dX8_addRope_73 : decode cX8_addRope 73 = .ok (.iconst 0, 1) := by decide +kernel
theorem dX8_addRope_74 : decode cX8_addRope 74 = .ok (.iastore, 1) := by decide +kernel
theorem dX8_addRope_75 : decode cX8_addRope 75 = .ok (.aload_n 0, 1) := by decide +kernel
theorem dX8_addRope_76 : decode cX8_addRope 76 = .ok (.getfield 7, 3) := by decide +kernel
theorem dX8_addRope_79 : decode cX8_addRope 79 = .ok (.iconst 1, 1) := by decide +kernel
theorem dX8_addRope_80 : decode cX8_addRope 80 = .ok (.dup2, 1) := by decide +kernel
theorem dX8_addRope_81 : decode cX8_addRope 81 = .ok (.iaload, 1) := by decide +kernel
theorem dX8_addRope_82 : decode cX8_addRope 82 = .ok (.iconst 1, 1) := by decide +kernel
theorem dX8_addRope_83 : decode cX8_addRope 83 = .ok (.iadd, 1) := by decide +kernel
theorem dX8_addRope_84 : decode cX8_addRope 84 = .ok (.iastore, 1) := by decide +kernel
theorem dX8_addRope_85 : decode cX8_addRope 85 = .ok (.aload_n 0, 1) := by decide +kernel
theorem dX8_addRope_86 : decode cX8_addRope 86 = .ok (.aload_n 0, 1) := by decide +kernel
theorem dX8_addRope_87 : decode cX8_addRope 87 = .ok (.getfield 16, 3) := by decide +kernel
theorem dX8_addRope_90 : decode cX8_addRope 90 = .ok (.iconst 1, 1) := by decide +kernel
theorem dX8_addRope_91 : decode cX8_addRope 91 = .ok (.iaload, 1) := by decide +kernel
theorem dX8_addRope_92 : decode cX8_addRope 92 = .ok (.invokevirtual 64, 3) := by decide +kernel
theorem dX8_addRope_95 : decode cX8_addRope 95 = .ok (.ireturn, 1) := by decide +kernel
theorem dX8_addHelper_0 : decode cX8_addHelper 0 = .ok (.iload_n 1, 1) := by decide +kernel
theorem dX8_addHelper_1 : decode cX8_addHelper 1 = .ok (.bipush 30, 2) := by decide +kernel
theorem dX8_addHelper_3 : decode cX8_addHelper 3 = .ok (.sipush 600, 3) := by decide +kernel
theorem dX8_addHelper_6 : decode cX8_addHelper 6 = .ok (.invokestatic 54, 3) := by decide +kernel
theorem dX8_addHelper_9 : decode cX8_addHelper 9 = .ok (.ifCond .ne 9, 3) := by decide +kernel
theorem dX8_addHelper_12 : decode cX8_addHelper 12 = .ok (.aload_n 0, 1) := by decide +kernel
theorem dX8_addHelper_13 : decode cX8_addHelper 13 = .ok (.iconst 1, 1) := by decide +kernel
theorem dX8_addHelper_14 : decode cX8_addHelper 14 = .ok (.invokevirtual 58, 3) := by decide +kernel
theorem dX8_addHelper_17 : decode cX8_addHelper 17 = .ok (.ireturn, 1) := by decide +kernel
theorem dX8_addHelper_18 : decode cX8_addHelper 18 = .ok (.aload_n 0, 1) := by decide +kernel
theorem dX8_addHelper_19 : decode cX8_addHelper 19 = .ok (.getfield 7, 3) := by decide +kernel
theorem dX8_addHelper_22 : decode cX8_addHelper 22 = .ok (.iconst 2, 1) := by decide +kernel
theorem dX8_addHelper_23 : decode cX8_addHelper 23 = .ok (.iaload, 1) := by decide +kernel
theorem dX8_addHelper_24 : decode cX8_addHelper 24 = .ok (.bipush 6, 2) := by decide +kernel
theorem dX8_addHelper_26 : decode cX8_addHelper 26 = .ok (.if_icmp .ne 9, 3) := by decide +kernel
theorem dX8_addHelper_29 : decode cX8_addHelper 29 = .ok (.aload_n 0, 1) := by decide +kernel
theorem dX8_addHelper_30 : decode cX8_addHelper 30 = .ok (.iconst 2, 1) := by decide +kernel
theorem dX8_addHelper_31 : decode cX8_addHelper 31 = .ok (.invokevirtual 58, 3) := by decide +kernel
theorem dX8_addHelper_34 : decode cX8_addHelper 34 = .ok (.ireturn, 1) := by decide +kernel
theorem dX8_addHelper_35 : decode cX8_addHelper 35 = .ok (.aload_n 0, 1) := by decide +kernel
theorem dX8_addHelper_36 : decode cX8_addHelper 36 = .ok (.invokevirtual 61, 3) := by decide +kernel
theorem dX8_addHelper_39 : decode cX8_addHelper 39 = .ok (.aload_n 0, 1) := by decide +kernel
theorem dX8_addHelper_40 : decode cX8_addHelper 40 = .ok (.getfield 7, 3) := by decide +kernel
theorem dX8_addHelper_43 : decode cX8_addHelper 43 = .ok (.iconst 2, 1) := by decide +kernel
theorem dX8_addHelper_44 : decode cX8_addHelper 44 = .ok (.iaload, 1) := by decide +kernel
theorem dX8_addHelper_45 : decode cX8_addHelper 45 = .ok (.istore_n 2, 1) := by decide +kernel
theorem dX8_addHelper_46 : decode cX8_addHelper 46 = .ok (.iconst 0, 1) := by decide +kernel
theorem dX8_addHelper_47 : decode cX8_addHelper 47 = .ok (.istore_n 3, 1) := by decide +kernel
theorem dX8_addHelper_48 : decode cX8_addHelper 48 = .ok (.iload_n 3, 1) := by decide +kernel
theorem dX8_addHelper_49 : decode cX8_addHelper 49 = .ok (.bipush 9, 2) := by decide +kernel
theorem dX8_addHelper_51 : decode cX8_addHelper 51 = .ok (.if_icmp .ge 38, 3) := by decide +kernel
theorem dX8_addHelper_54 : decode cX8_addHelper 54 = .ok (.aload_n 0, 1) := by decide +kernel
theorem dX8_addHelper_55 : decode cX8_addHelper 55 = .ok (.iload_n 2, 1) := by decide +kernel
theorem dX8_addHelper_56 : decode cX8_addHelper 56 = .ok (.iload_n 3, 1) := by decide +kernel
theorem dX8_addHelper_57 : decode cX8_addHelper 57 = .ok (.iload_n 3, 1) := by decide +kernel
theorem dX8_addHelper_58 : decode cX8_addHelper 58 = .ok (.ifCond .ne 7, 3) := by decide +kernel
theorem dX8_addHelper_61 : decode cX8_addHelper 61 = .ok (.iload_n 1, 1) := by decide +kernel
theorem dX8_addHelper_62 : decode cX8_addHelper 62 = .ok (.goto 18, 3) := by decide +kernel
theorem dX8_addHelper_65 : decode cX8_addHelper 65 = .ok (.iload_n 3, 1) := by decide +kernel
theorem dX8_addHelper_66 : decode cX8_addHelper 66 = .ok (.iconst 3, 1) := by decide +kernel
theorem dX8_addHelper_67 : decode cX8_addHelper 67 = .ok (.if_icmp .eq 8, 3) := by decide +kernel
theorem dX8_addHelper_70 : decode cX8_addHelper 70 = .ok (.iload_n 3, 1) := by decide +kernel
theorem dX8_addHelper_71 : decode cX8_addHelper 71 = .ok (.iconst 5, 1) := by decide +kernel
theorem dX8_addHelper_72 : decode cX8_addHelper 72 = .ok (.if_icmp .ne 7, 3) := by decide +kernel
theorem dX8_addHelper_75 : decode cX8_addHelper 75 = .ok (.iconst (-1), 1) := by decide +kernel
theorem dX8_addHelper_76 : decode cX8_addHelper 76 = .ok (.goto 4, 3) := by decide +kernel
theorem dX8_addHelper_79 : decode cX8_addHelper 79 = .ok (.iconst 0, 1) := by decide +kernel
theorem dX8_addHelper_80 : decode cX8_addHelper 80 = .ok (.invokevirtual 76, 3) := by decide +kernel
theorem dX8_addHelper_83 : decode cX8_addHelper 83 = .ok (.iinc 3 1, 3) := by decide +kernel
theorem dX8_addHelper_86 : decode cX8_addHelper 86 = .ok (.goto (-38), 3) := by decide +kernel
theorem dX8_addHelper_89 : decode cX8_addHelper 89 = .ok (.aload_n 0, 1) := by decide +kernel
theorem dX8_addHelper_90 : decode cX8_addHelper 90 = .ok (.getfield 7, 3) := by decide +kernel
theorem dX8_addHelper_93 : decode cX8_addHelper 93 = .ok (.iconst 2, 1) := by decide +kernel
theorem dX8_addHelper_94 : decode cX8_addHelper 94 = .ok (.dup2, 1) := by decide +kernel
theorem dX8_addHelper_95 : decode cX8_addHelper 95 = .ok (.iaload, 1) := by decide +kernel
theorem dX8_addHelper_96 : decode cX8_addHelper 96 = .ok (.iconst 1, 1) := by decide +kernel
theorem dX8_addHelper_97 : decode cX8_addHelper 97 = .ok (.iadd, 1) := by decide +kernel
theorem dX8_addHelper_98 : decode cX8_addHelper 98 = .ok (.iastore, 1) := by decide +kernel
theorem dX8_addHelper_99 : decode cX8_addHelper 99 = .ok (.aload_n 0, 1) := by decide +kernel
theorem dX8_addHelper_100 : decode cX8_addHelper 100 = .ok (.iload_n 2, 1) := by decide +kernel
theorem dX8_addHelper_101 : decode cX8_addHelper 101 = .ok (.invokevirtual 64, 3) := by decide +kernel
theorem dX8_addHelper_104 : decode cX8_addHelper 104 = .ok (.ireturn, 1) := by decide +kernel
theorem dX8_setSilence_0 : decode cX8_setSilence 0 = .ok (.iload_n 1, 1) := by decide +kernel
theorem dX8_setSilence_1 : decode cX8_setSilence 1 = .ok (.iconst 0, 1) := by decide +kernel
theorem dX8_setSilence_2 : decode cX8_setSilence 2 = .ok (.ldc 80, 2) := by decide +kernel
theorem dX8_setSilence_4 : decode cX8_setSilence 4 = .ok (.invokestatic 54, 3) := by decide +kernel
theorem dX8_setSilence_7 : decode cX8_setSilence 7 = .ok (.ifCond .eq 13, 3) := by decide +kernel
theorem dX8_setSilence_10 : decode cX8_setSilence 10 = .ok (.iload_n 2, 1) := by decide +kernel
theorem dX8_setSilence_11 : decode cX8_setSilence 11 = .ok (.iload_n 1, 1) := by decide +kernel
theorem dX8_setSilence_12 : decode cX8_setSilence 12 = .ok (.ldc 80, 2) := by decide +kernel
theorem dX8_setSilence_14 : decode cX8_setSilence 14 = .ok (.invokestatic 54, 3) := by decide +kernel
theorem dX8_setSilence_17 : decode cX8_setSilence 17 = .ok (.ifCond .ne 9, 3) := by decide +kernel
theorem dX8_setSilence_20 : decode cX8_setSilence 20 = .ok (.aload_n 0, 1) := by decide +kernel
theorem dX8_setSilence_21 : decode cX8_setSilence 21 = .ok (.iconst 1, 1) := by decide +kernel
theorem dX8_setSilence_22 : decode cX8_setSilence 22 = .ok (.invokevirtual 58, 3) := by decide +kernel
theorem dX8_setSilence_25 : decode cX8_setSilence 25 = .ok (.ireturn, 1) := by decide +kernel
theorem dX8_setSilence_26 : decode cX8_setSilence 26 = .ok (.aload_n 0, 1) := by decide +kernel
theorem dX8_setSilence_27 : decode cX8_setSilence 27 = .ok (.invokevirtual 61, 3) := by decide +kernel
theorem dX8_setSilence_30 : decode cX8_setSilence 30 = .ok (.aload_n 0, 1) := by decide +kernel
theorem dX8_setSilence_31 : decode cX8_setSilence 31 = .ok (.getfield 7, 3) := by decide +kernel
theorem dX8_setSilence_34 : decode cX8_setSilence 34 = .ok (.bipush 9, 2) := by decide +kernel
theorem dX8_setSilence_36 : decode cX8_setSilence 36 = .ok (.iload_n 1, 1) := by decide +kernel
theorem dX8_setSilence_37 : decode cX8_setSilence 37 = .ok (.iastore, 1) := by decide +kernel
theorem dX8_setSilence_38 : decode cX8_setSilence 38 = .ok (.aload_n 0, 1) := by decide +kernel
theorem dX8_setSilence_39 : decode cX8_setSilence 39 = .ok (.getfield 7, 3) := by decide +kernel
theorem dX8_setSilence_42 : decode cX8_setSilence 42 = .ok (.bipush 10, 2) := by decide +kernel
theorem dX8_setSilence_44 : decode cX8_setSilence 44 = .ok (.iload_n 2, 1) := by decide +kernel
theorem dX8_setSilence_45 : decode cX8_setSilence 45 = .ok (.iastore, 1) := by decide +kernel
theorem dX8_setSilence_46 : decode cX8_setSilence 46 = .ok (.aload_n 0, 1) := by decide +kernel
theorem dX8_setSilence_47 : decode cX8_setSilence 47 = .ok (.aload_n 0, 1) := by decide +kernel
theorem dX8_setSilence_48 : decode cX8_setSilence 48 = .ok (.getfield 16, 3) := by decide +kernel
theorem dX8_setSilence_51 : decode cX8_setSilence 51 = .ok (.bipush 10, 2) := by decide +kernel
theorem dX8_setSilence_53 : decode cX8_setSilence 53 = .ok (.iaload, 1) := by decide +kernel
theorem dX8_setSilence_54 : decode cX8_setSilence 54 = .ok (.invokevirtual 64, 3) := by decide +kernel
theorem dX8_setSilence_57 : decode cX8_setSilence 57 = .ok (.ireturn, 1) := by decide +kernel
theorem dX8_effort_0 : decode cX8_effort 0 = .ok (.aload_n 0, 1) := by decide +kernel
theorem dX8_effort_1 : decode cX8_effort 1 = .ok (.getfield 7, 3) := by decide +kernel
theorem dX8_effort_4 : decode cX8_effort 4 = .ok (.bipush 20, 2) := by decide +kernel
theorem dX8_effort_6 : decode cX8_effort 6 = .ok (.iload_n 1, 1) := by decide +kernel
theorem dX8_effort_7 : decode cX8_effort 7 = .ok (.iadd, 1) := by decide +kernel
theorem dX8_effort_8 : decode cX8_effort 8 = .ok (.iaload, 1) := by decide +kernel
theorem dX8_effort_9 : decode cX8_effort 9 = .ok (.iload_n 2, 1) := by decide +kernel
theorem dX8_effort_10 : decode cX8_effort 10 = .ok (.ifCond .eq 19, 3) := by decide +kernel
theorem dX8_effort_13 : decode cX8_effort 13 = .ok (.aload_n 0, 1) := by decide +kernel
theorem dX8_effort_14 : decode cX8_effort 14 = .ok (.getfield 7, 3) := by decide +kernel
theorem dX8_effort_17 : decode cX8_effort 17 = .ok (.bipush 13, 2) := by decide +kernel
theorem dX8_effort_19 : decode cX8_effort 19 = .ok (.iload_n 1, 1) := by decide +kernel
theorem dX8_effort_20 : decode cX8_effort 20 = .ok (.iadd, 1) := by decide +kernel
theorem dX8_effort_21 : decode cX8_effort 21 = .ok (.iaload, 1) := by decide +kernel
theorem dX8_effort_22 : decode cX8_effort 22 = .ok (.ifCond .le 7, 3) := by decide +kernel
theorem dX8_effort_25 : decode cX8_effort 25 = .ok (.iconst 2, 1) := by decide +kernel
theorem dX8_effort_26 : decode cX8_effort 26 = .ok (.goto 4, 3) := by decide +kernel
theorem dX8_effort_29 : decode cX8_effort 29 = .ok (.iconst 1, 1) := by decide +kernel
theorem dX8_effort_30 : decode cX8_effort 30 = .ok (.imul, 1) := by decide +kernel
theorem dX8_effort_31 : decode cX8_effort 31 = .ok (.ireturn, 1) := by decide +kernel
theorem dX8_reason_0 : decode cX8_reason 0 = .ok (.aload_n 0, 1) := by decide +kernel
theorem dX8_reason_1 : decode cX8_reason 1 = .ok (.iload_n 1, 1) := by decide +kernel
theorem dX8_reason_2 : decode cX8_reason 2 = .ok (.iconst 1, 1) := by decide +kernel
theorem dX8_reason_3 : decode cX8_reason 3 = .ok (.invokevirtual 37, 3) := by decide +kernel
theorem dX8_reason_6 : decode cX8_reason 6 = .ok (.istore_n 3, 1) := by decide +kernel
theorem dX8_reason_7 : decode cX8_reason 7 = .ok (.aload_n 0, 1) := by decide +kernel
theorem dX8_reason_8 : decode cX8_reason 8 = .ok (.iload_n 1, 1) := by decide +kernel
theorem dX8_reason_9 : decode cX8_reason 9 = .ok (.invokevirtual 81, 3) := by decide +kernel
theorem dX8_reason_12 : decode cX8_reason 12 = .ok (.ifCond .ne 5, 3) := by decide +kernel
theorem dX8_reason_15 : decode cX8_reason 15 = .ok (.iconst 1, 1) := by decide +kernel
theorem dX8_reason_16 : decode cX8_reason 16 = .ok (.ireturn, 1) := by decide +kernel
theorem dX8_reason_17 : decode cX8_reason 17 = .ok (.iload_n 2, 1) := by decide +kernel
theorem dX8_reason_18 : decode cX8_reason 18 = .ok (.iconst 0, 1) := by decide +kernel
theorem dX8_reason_19 : decode cX8_reason 19 = .ok (.aload_n 0, 1) := by decide +kernel
theorem dX8_reason_20 : decode cX8_reason 20 = .ok (.getfield 7, 3) := by decide +kernel
theorem dX8_reason_23 : decode cX8_reason 23 = .ok (.iconst 0, 1) := by decide +kernel
theorem dX8_reason_24 : decode cX8_reason 24 = .ok (.iaload, 1) := by decide +kernel
theorem dX8_reason_25 : decode cX8_reason 25 = .ok (.invokestatic 54, 3) := by decide +kernel
theorem dX8_reason_28 : decode cX8_reason 28 = .ok (.ifCond .eq 17, 3) := by decide +kernel
theorem dX8_reason_31 : decode cX8_reason 31 = .ok (.iload_n 2, 1) := by decide +kernel
theorem dX8_reason_32 : decode cX8_reason 32 = .ok (.iload_n 3, 1) := by decide +kernel
theorem dX8_reason_33 : decode cX8_reason 33 = .ok (.iconst 1, 1) := by decide +kernel
theorem dX8_reason_34 : decode cX8_reason 34 = .ok (.isub, 1) := by decide +kernel
theorem dX8_reason_35 : decode cX8_reason 35 = .ok (.if_icmp .eq 12, 3) := by decide +kernel
theorem dX8_reason_38 : decode cX8_reason 38 = .ok (.iload_n 2, 1) := by decide +kernel
theorem dX8_reason_39 : decode cX8_reason 39 = .ok (.iload_n 3, 1) := by decide +kernel
theorem dX8_reason_40 : decode cX8_reason 40 = .ok (.iconst 1, 1) := by decide +kernel
theorem dX8_reason_41 : decode cX8_reason 41 = .ok (.iadd, 1) := by decide +kernel
theorem dX8_reason_42 : decode cX8_reason 42 = .ok (.if_icmp .eq 5, 3) := by decide +kernel
theorem dX8_reason_45 : decode cX8_reason 45 = .ok (.iconst 2, 1) := by decide +kernel
theorem dX8_reason_46 : decode cX8_reason 46 = .ok (.ireturn, 1) := by decide +kernel
theorem dX8_reason_47 : decode cX8_reason 47 = .ok (.iload_n 2, 1) := by decide +kernel
theorem dX8_reason_48 : decode cX8_reason 48 = .ok (.iload_n 3, 1) := by decide +kernel
theorem dX8_reason_49 : decode cX8_reason 49 = .ok (.if_icmp .ge 7, 3) := by decide +kernel
theorem dX8_reason_52 : decode cX8_reason 52 = .ok (.iconst 1, 1) := by decide +kernel
theorem dX8_reason_53 : decode cX8_reason 53 = .ok (.goto 4, 3) := by decide +kernel
theorem dX8_reason_56 : decode cX8_reason 56 = .ok (.iconst 0, 1) := by decide +kernel
theorem dX8_reason_57 : decode cX8_reason 57 = .ok (.istore 4, 2) := by decide +kernel
theorem dX8_reason_59 : decode cX8_reason 59 = .ok (.iload 4, 2) := by decide +kernel
theorem dX8_reason_61 : decode cX8_reason 61 = .ok (.ifCond .eq 7, 3) := by decide +kernel
theorem dX8_reason_64 : decode cX8_reason 64 = .ok (.iload_n 2, 1) := by decide +kernel
theorem dX8_reason_65 : decode cX8_reason 65 = .ok (.goto 4, 3) := by decide +kernel
theorem dX8_reason_68 : decode cX8_reason 68 = .ok (.iload_n 3, 1) := by decide +kernel
theorem dX8_reason_69 : decode cX8_reason 69 = .ok (.istore 5, 2) := by decide +kernel
theorem dX8_reason_71 : decode cX8_reason 71 = .ok (.aload_n 0, 1) := by decide +kernel
theorem dX8_reason_72 : decode cX8_reason 72 = .ok (.iload 5, 2) := by decide +kernel
theorem dX8_reason_74 : decode cX8_reason 74 = .ok (.invokevirtual 44, 3) := by decide +kernel
theorem dX8_reason_77 : decode cX8_reason 77 = .ok (.ifCond .eq 5, 3) := by decide +kernel
theorem dX8_reason_80 : decode cX8_reason 80 = .ok (.iconst 3, 1) := by decide +kernel
theorem dX8_reason_81 : decode cX8_reason 81 = .ok (.ireturn, 1) := by decide +kernel
theorem dX8_reason_82 : decode cX8_reason 82 = .ok (.aload_n 0, 1) := by decide +kernel
theorem dX8_reason_83 : decode cX8_reason 83 = .ok (.iload_n 1, 1) := by decide +kernel
theorem dX8_reason_84 : decode cX8_reason 84 = .ok (.bipush 6, 2) := by decide +kernel
theorem dX8_reason_86 : decode cX8_reason 86 = .ok (.invokevirtual 37, 3) := by decide +kernel
theorem dX8_reason_89 : decode cX8_reason 89 = .ok (.aload_n 0, 1) := by decide +kernel
theorem dX8_reason_90 : decode cX8_reason 90 = .ok (.iload 5, 2) := by decide +kernel
theorem dX8_reason_92 : decode cX8_reason 92 = .ok (.iload 4, 2) := by decide +kernel
theorem dX8_reason_94 : decode cX8_reason 94 = .ok (.invokevirtual 84, 3) := by decide +kernel
theorem dX8_reason_97 : decode cX8_reason 97 = .ok (.iadd, 1) := by decide +kernel
theorem dX8_reason_98 : decode cX8_reason 98 = .ok (.bipush 100, 2) := by decide +kernel
theorem dX8_reason_100 : decode cX8_reason 100 = .ok (.if_icmp .le 5, 3) := by decide +kernel
theorem dX8_reason_103 : decode cX8_reason 103 = .ok (.iconst 4, 1) := by decide +kernel
theorem dX8_reason_104 : decode cX8_reason 104 = .ok (.ireturn, 1) := by decide +kernel
theorem dX8_reason_105 : decode cX8_reason 105 = .ok (.iload 4, 2) := by decide +kernel
theorem dX8_reason_107 : decode cX8_reason 107 = .ok (.ifCond .ne 26, 3) := by decide +kernel
theorem dX8_reason_110 : decode cX8_reason 110 = .ok (.aload_n 0, 1) := by decide +kernel
theorem dX8_reason_111 : decode cX8_reason 111 = .ok (.iload_n 1, 1) := by decide +kernel
theorem dX8_reason_112 : decode cX8_reason 112 = .ok (.iload_n 2, 1) := by decide +kernel
theorem dX8_reason_113 : decode cX8_reason 113 = .ok (.aload_n 0, 1) := by decide +kernel
theorem dX8_reason_114 : decode cX8_reason 114 = .ok (.getfield 7, 3) := by decide +kernel
theorem dX8_reason_117 : decode cX8_reason 117 = .ok (.bipush 20, 2) := by decide +kernel
theorem dX8_reason_119 : decode cX8_reason 119 = .ok (.iload 5, 2) := by decide +kernel
theorem dX8_reason_121 : decode cX8_reason 121 = .ok (.iadd, 1) := by decide +kernel
theorem dX8_reason_122 : decode cX8_reason 122 = .ok (.iaload, 1) := by decide +kernel
theorem dX8_reason_123 : decode cX8_reason 123 = .ok (.invokevirtual 88, 3) := by decide +kernel
theorem dX8_reason_126 : decode cX8_reason 126 = .ok (.ifCond .ne 7, 3) := by decide +kernel
theorem dX8_reason_129 : decode cX8_reason 129 = .ok (.iconst 5, 1) := by decide +kernel
theorem dX8_reason_130 : decode cX8_reason 130 = .ok (.goto 4, 3) := by decide +kernel
theorem dX8_reason_133 : decode cX8_reason 133 = .ok (.iconst 0, 1) := by decide +kernel
theorem dX8_reason_134 : decode cX8_reason 134 = .ok (.ireturn, 1) := by decide +kernel
theorem dX8_walks_0 : decode cX8_walks 0 = .ok (.aload_n 0, 1) := by decide +kernel
theorem dX8_walks_1 : decode cX8_walks 1 = .ok (.iload_n 1, 1) := by decide +kernel
theorem dX8_walks_2 : decode cX8_walks 2 = .ok (.iconst 2, 1) := by decide +kernel
theorem dX8_walks_3 : decode cX8_walks 3 = .ok (.iconst 1, 1) := by decide +kernel
theorem dX8_walks_4 : decode cX8_walks 4 = .ok (.invokevirtual 76, 3) := by decide +kernel
theorem dX8_walks_7 : decode cX8_walks 7 = .ok (.aload_n 0, 1) := by decide +kernel
theorem dX8_walks_8 : decode cX8_walks 8 = .ok (.iload_n 1, 1) := by decide +kernel
theorem dX8_walks_9 : decode cX8_walks 9 = .ok (.iconst 3, 1) := by decide +kernel
theorem dX8_walks_10 : decode cX8_walks 10 = .ok (.iload_n 2, 1) := by decide +kernel
theorem dX8_walks_11 : decode cX8_walks 11 = .ok (.invokevirtual 76, 3) := by decide +kernel
theorem dX8_walks_14 : decode cX8_walks 14 = .ok (.aload_n 0, 1) := by decide +kernel
theorem dX8_walks_15 : decode cX8_walks 15 = .ok (.iload_n 1, 1) := by decide +kernel
theorem dX8_walks_16 : decode cX8_walks 16 = .ok (.iconst 4, 1) := by decide +kernel
theorem dX8_walks_17 : decode cX8_walks 17 = .ok (.iload_n 3, 1) := by decide +kernel
theorem dX8_walks_18 : decode cX8_walks 18 = .ok (.invokevirtual 76, 3) := by decide +kernel
theorem dX8_walks_21 : decode cX8_walks 21 = .ok (.aload_n 0, 1) := by decide +kernel
theorem dX8_walks_22 : decode cX8_walks 22 = .ok (.iload_n 1, 1) := by decide +kernel
theorem dX8_walks_23 : decode cX8_walks 23 = .ok (.bipush 8, 2) := by decide +kernel
theorem dX8_walks_25 : decode cX8_walks 25 = .ok (.iload 4, 2) := by decide +kernel
theorem dX8_walks_27 : decode cX8_walks 27 = .ok (.invokevirtual 76, 3) := by decide +kernel
theorem dX8_walks_30 : decode cX8_walks 30 = .ok (.return_, 1) := by decide +kernel
theorem dX8_sets_0 : decode cX8_sets 0 = .ok (.aload_n 0, 1) := by decide +kernel
theorem dX8_sets_1 : decode cX8_sets 1 = .ok (.iload_n 1, 1) := by decide +kernel
theorem dX8_sets_2 : decode cX8_sets 2 = .ok (.iload_n 2, 1) := by decide +kernel
theorem dX8_sets_3 : decode cX8_sets 3 = .ok (.aload_n 0, 1) := by decide +kernel
theorem dX8_sets_4 : decode cX8_sets 4 = .ok (.getfield 7, 3) := by decide +kernel
theorem dX8_sets_7 : decode cX8_sets 7 = .ok (.bipush 20, 2) := by decide +kernel
theorem dX8_sets_9 : decode cX8_sets 9 = .ok (.iload_n 2, 1) := by decide +kernel
theorem dX8_sets_10 : decode cX8_sets 10 = .ok (.aload_n 0, 1) := by decide +kernel
theorem dX8_sets_11 : decode cX8_sets 11 = .ok (.iload_n 1, 1) := by decide +kernel
theorem dX8_sets_12 : decode cX8_sets 12 = .ok (.iconst 1, 1) := by decide +kernel
theorem dX8_sets_13 : decode cX8_sets 13 = .ok (.invokevirtual 37, 3) := by decide +kernel
theorem dX8_sets_16 : decode cX8_sets 16 = .ok (.if_icmp .ge 7, 3) := by decide +kernel
theorem dX8_sets_19 : decode cX8_sets 19 = .ok (.iload_n 2, 1) := by decide +kernel
theorem dX8_sets_20 : decode cX8_sets 20 = .ok (.goto 6, 3) := by decide +kernel
theorem dX8_sets_23 : decode cX8_sets 23 = .ok (.iload_n 2, 1) := by decide +kernel
theorem dX8_sets_24 : decode cX8_sets 24 = .ok (.iconst 1, 1) := by decide +kernel
theorem dX8_sets_25 : decode cX8_sets 25 = .ok (.isub, 1) := by decide +kernel
theorem dX8_sets_26 : decode cX8_sets 26 = .ok (.iadd, 1) := by decide +kernel
theorem dX8_sets_27 : decode cX8_sets 27 = .ok (.iaload, 1) := by decide +kernel
theorem dX8_sets_28 : decode cX8_sets 28 = .ok (.iconst 0, 1) := by decide +kernel
theorem dX8_sets_29 : decode cX8_sets 29 = .ok (.invokevirtual 91, 3) := by decide +kernel
theorem dX8_sets_32 : decode cX8_sets 32 = .ok (.return_, 1) := by decide +kernel
theorem dX8_goes_0 : decode cX8_goes 0 = .ok (.aload_n 0, 1) := by decide +kernel
theorem dX8_goes_1 : decode cX8_goes 1 = .ok (.iload_n 1, 1) := by decide +kernel
theorem dX8_goes_2 : decode cX8_goes 2 = .ok (.invokevirtual 95, 3) := by decide +kernel
theorem dX8_goes_5 : decode cX8_goes 5 = .ok (.ifCond .ne 5, 3) := by decide +kernel
theorem dX8_goes_8 : decode cX8_goes 8 = .ok (.iconst 1, 1) := by decide +kernel
theorem dX8_goes_9 : decode cX8_goes 9 = .ok (.ireturn, 1) := by decide +kernel
theorem dX8_goes_10 : decode cX8_goes 10 = .ok (.aload_n 0, 1) := by decide +kernel
theorem dX8_goes_11 : decode cX8_goes 11 = .ok (.iload_n 1, 1) := by decide +kernel
theorem dX8_goes_12 : decode cX8_goes 12 = .ok (.iload_n 2, 1) := by decide +kernel
theorem dX8_goes_13 : decode cX8_goes 13 = .ok (.invokevirtual 98, 3) := by decide +kernel
theorem dX8_goes_16 : decode cX8_goes 16 = .ok (.ifCond .eq 5, 3) := by decide +kernel
theorem dX8_goes_19 : decode cX8_goes 19 = .ok (.iconst 2, 1) := by decide +kernel
theorem dX8_goes_20 : decode cX8_goes 20 = .ok (.ireturn, 1) := by decide +kernel
theorem dX8_goes_21 : decode cX8_goes 21 = .ok (.aload_n 0, 1) := by decide +kernel
theorem dX8_goes_22 : decode cX8_goes 22 = .ok (.iload_n 1, 1) := by decide +kernel
theorem dX8_goes_23 : decode cX8_goes 23 = .ok (.iload_n 2, 1) := by decide +kernel
theorem dX8_goes_24 : decode cX8_goes 24 = .ok (.invokevirtual 101, 3) := by decide +kernel
theorem dX8_goes_27 : decode cX8_goes 27 = .ok (.aload_n 0, 1) := by decide +kernel
theorem dX8_goes_28 : decode cX8_goes 28 = .ok (.aload_n 0, 1) := by decide +kernel
theorem dX8_goes_29 : decode cX8_goes 29 = .ok (.iload_n 1, 1) := by decide +kernel
theorem dX8_goes_30 : decode cX8_goes 30 = .ok (.iconst 4, 1) := by decide +kernel
theorem dX8_goes_31 : decode cX8_goes 31 = .ok (.invokevirtual 37, 3) := by decide +kernel
theorem dX8_goes_34 : decode cX8_goes 34 = .ok (.putfield 105, 3) := by decide +kernel
theorem dX8_goes_37 : decode cX8_goes 37 = .ok (.iconst 0, 1) := by decide +kernel
theorem dX8_goes_38 : decode cX8_goes 38 = .ok (.ireturn, 1) := by decide +kernel
theorem dX8_takes_0 : decode cX8_takes 0 = .ok (.aload_n 0, 1) := by decide +kernel
theorem dX8_takes_1 : decode cX8_takes 1 = .ok (.iload_n 1, 1) := by decide +kernel
theorem dX8_takes_2 : decode cX8_takes 2 = .ok (.invokevirtual 95, 3) := by decide +kernel
theorem dX8_takes_5 : decode cX8_takes 5 = .ok (.ifCond .eq 11, 3) := by decide +kernel
theorem dX8_takes_8 : decode cX8_takes 8 = .ok (.aload_n 0, 1) := by decide +kernel
theorem dX8_takes_9 : decode cX8_takes 9 = .ok (.iload_n 2, 1) := by decide +kernel
theorem dX8_takes_10 : decode cX8_takes 10 = .ok (.invokevirtual 108, 3) := by decide +kernel
theorem dX8_takes_13 : decode cX8_takes 13 = .ok (.ifCond .ne 5, 3) := by decide +kernel
theorem dX8_takes_16 : decode cX8_takes 16 = .ok (.iconst 1, 1) := by decide +kernel
theorem dX8_takes_17 : decode cX8_takes 17 = .ok (.ireturn, 1) := by decide +kernel
theorem dX8_takes_18 : decode cX8_takes 18 = .ok (.bipush 34, 2) := by decide +kernel
theorem dX8_takes_20 : decode cX8_takes 20 = .ok (.iconst 3, 1) := by decide +kernel
theorem dX8_takes_21 : decode cX8_takes 21 = .ok (.iload_n 2, 1) := by decide +kernel
theorem dX8_takes_22 : decode cX8_takes 22 = .ok (.imul, 1) := by decide +kernel
theorem dX8_takes_23 : decode cX8_takes 23 = .ok (.iadd, 1) := by decide +kernel
theorem dX8_takes_24 : decode cX8_takes 24 = .ok (.istore_n 3, 1) := by decide +kernel
theorem dX8_takes_25 : decode cX8_takes 25 = .ok (.aload_n 0, 1) := by decide +kernel
theorem dX8_takes_26 : decode cX8_takes 26 = .ok (.iload_n 1, 1) := by decide +kernel
theorem dX8_takes_27 : decode cX8_takes 27 = .ok (.invokevirtual 81, 3) := by decide +kernel
theorem dX8_takes_30 : decode cX8_takes 30 = .ok (.ifCond .eq 41, 3) := by decide +kernel
theorem dX8_takes_33 : decode cX8_takes 33 = .ok (.aload_n 0, 1) := by decide +kernel
theorem dX8_takes_34 : decode cX8_takes 34 = .ok (.iload_n 1, 1) := by decide +kernel
theorem dX8_takes_35 : decode cX8_takes 35 = .ok (.iconst 5, 1) := by decide +kernel
theorem dX8_takes_36 : decode cX8_takes 36 = .ok (.invokevirtual 37, 3) := by decide +kernel
theorem dX8_takes_39 : decode cX8_takes 39 = .ok (.iconst (-1), 1) := by decide +kernel
theorem dX8_takes_40 : decode cX8_takes 40 = .ok (.if_icmp .ne 31, 3) := by decide +kernel
theorem dX8_takes_43 : decode cX8_takes 43 = .ok (.aload_n 0, 1) := by decide +kernel
theorem dX8_takes_44 : decode cX8_takes 44 = .ok (.getfield 7, 3) := by decide +kernel
theorem dX8_takes_47 : decode cX8_takes 47 = .ok (.iload_n 3, 1) := by decide +kernel
theorem dX8_takes_48 : decode cX8_takes 48 = .ok (.iconst 1, 1) := by decide +kernel
theorem dX8_takes_49 : decode cX8_takes 49 = .ok (.iadd, 1) := by decide +kernel
theorem dX8_takes_50 : decode cX8_takes 50 = .ok (.iaload, 1) := by decide +kernel
theorem dX8_takes_51 : decode cX8_takes 51 = .ok (.ifCond .ne 20, 3) := by decide +kernel
theorem dX8_takes_54 : decode cX8_takes 54 = .ok (.aload_n 0, 1) := by decide +kernel
theorem dX8_takes_55 : decode cX8_takes 55 = .ok (.getfield 7, 3) := by decide +kernel
theorem dX8_takes_58 : decode cX8_takes 58 = .ok (.iload_n 3, 1) := by decide +kernel
theorem dX8_takes_59 : decode cX8_takes 59 = .ok (.iconst 2, 1) := by decide +kernel
theorem dX8_takes_60 : decode cX8_takes 60 = .ok (.iadd, 1) := by decide +kernel
theorem dX8_takes_61 : decode cX8_takes 61 = .ok (.iaload, 1) := by decide +kernel
theorem dX8_takes_62 : decode cX8_takes 62 = .ok (.aload_n 0, 1) := by decide +kernel
theorem dX8_takes_63 : decode cX8_takes 63 = .ok (.iload_n 1, 1) := by decide +kernel
theorem dX8_takes_64 : decode cX8_takes 64 = .ok (.iconst 1, 1) := by decide +kernel
theorem dX8_takes_65 : decode cX8_takes 65 = .ok (.invokevirtual 37, 3) := by decide +kernel
theorem dX8_takes_68 : decode cX8_takes 68 = .ok (.if_icmp .eq 5, 3) := by decide +kernel
theorem dX8_takes_71 : decode cX8_takes 71 = .ok (.iconst 2, 1) := by decide +kernel
theorem dX8_takes_72 : decode cX8_takes 72 = .ok (.ireturn, 1) := by decide +kernel
theorem dX8_takes_73 : decode cX8_takes 73 = .ok (.aload_n 0, 1) := by decide +kernel
theorem dX8_takes_74 : decode cX8_takes 74 = .ok (.iload_n 2, 1) := by decide +kernel
theorem dX8_takes_75 : decode cX8_takes 75 = .ok (.iload_n 1, 1) := by decide +kernel
theorem dX8_takes_76 : decode cX8_takes 76 = .ok (.invokevirtual 111, 3) := by decide +kernel
theorem dX8_takes_79 : decode cX8_takes 79 = .ok (.aload_n 0, 1) := by decide +kernel
theorem dX8_takes_80 : decode cX8_takes 80 = .ok (.aload_n 0, 1) := by decide +kernel
theorem dX8_takes_81 : decode cX8_takes 81 = .ok (.getfield 7, 3) := by decide +kernel
theorem dX8_takes_84 : decode cX8_takes 84 = .ok (.iload_n 3, 1) := by decide +kernel
theorem dX8_takes_85 : decode cX8_takes 85 = .ok (.iaload, 1) := by decide +kernel
theorem dX8_takes_86 : decode cX8_takes 86 = .ok (.putfield 105, 3) := by decide +kernel
theorem dX8_takes_89 : decode cX8_takes 89 = .ok (.iconst 0, 1) := by decide +kernel
theorem dX8_takes_90 : decode cX8_takes 90 = .ok (.ireturn, 1) := by decide +kernel
theorem dX8_gives_0 : decode cX8_gives 0 = .ok (.aload_n 0, 1) := by decide +kernel
theorem dX8_gives_1 : decode cX8_gives 1 = .ok (.getfield 7, 3) := by decide +kernel
theorem dX8_gives_4 : decode cX8_gives 4 = .ok (.bipush 34, 2) := by decide +kernel
theorem dX8_gives_6 : decode cX8_gives 6 = .ok (.iconst 3, 1) := by decide +kernel
theorem dX8_gives_7 : decode cX8_gives 7 = .ok (.iload_n 1, 1) := by decide +kernel
theorem dX8_gives_8 : decode cX8_gives 8 = .ok (.imul, 1) := by decide +kernel
theorem dX8_gives_9 : decode cX8_gives 9 = .ok (.iadd, 1) := by decide +kernel
theorem dX8_gives_10 : decode cX8_gives 10 = .ok (.iconst 1, 1) := by decide +kernel
theorem dX8_gives_11 : decode cX8_gives 11 = .ok (.iadd, 1) := by decide +kernel
theorem dX8_gives_12 : decode cX8_gives 12 = .ok (.iconst 1, 1) := by decide +kernel
theorem dX8_gives_13 : decode cX8_gives 13 = .ok (.iastore, 1) := by decide +kernel
theorem dX8_gives_14 : decode cX8_gives 14 = .ok (.aload_n 0, 1) := by decide +kernel
theorem dX8_gives_15 : decode cX8_gives 15 = .ok (.getfield 7, 3) := by decide +kernel
theorem dX8_gives_18 : decode cX8_gives 18 = .ok (.bipush 34, 2) := by decide +kernel
theorem dX8_gives_20 : decode cX8_gives 20 = .ok (.iconst 3, 1) := by decide +kernel
theorem dX8_gives_21 : decode cX8_gives 21 = .ok (.iload_n 1, 1) := by decide +kernel
theorem dX8_gives_22 : decode cX8_gives 22 = .ok (.imul, 1) := by decide +kernel
theorem dX8_gives_23 : decode cX8_gives 23 = .ok (.iadd, 1) := by decide +kernel
theorem dX8_gives_24 : decode cX8_gives 24 = .ok (.iconst 2, 1) := by decide +kernel
theorem dX8_gives_25 : decode cX8_gives 25 = .ok (.iadd, 1) := by decide +kernel
theorem dX8_gives_26 : decode cX8_gives 26 = .ok (.iload_n 2, 1) := by decide +kernel
theorem dX8_gives_27 : decode cX8_gives 27 = .ok (.iastore, 1) := by decide +kernel
theorem dX8_gives_28 : decode cX8_gives 28 = .ok (.aload_n 0, 1) := by decide +kernel
theorem dX8_gives_29 : decode cX8_gives 29 = .ok (.iload_n 2, 1) := by decide +kernel
theorem dX8_gives_30 : decode cX8_gives 30 = .ok (.iconst 5, 1) := by decide +kernel
theorem dX8_gives_31 : decode cX8_gives 31 = .ok (.iload_n 1, 1) := by decide +kernel
theorem dX8_gives_32 : decode cX8_gives 32 = .ok (.invokevirtual 76, 3) := by decide +kernel
theorem dX8_gives_35 : decode cX8_gives 35 = .ok (.return_, 1) := by decide +kernel
theorem dX8_leaves_0 : decode cX8_leaves 0 = .ok (.aload_n 0, 1) := by decide +kernel
theorem dX8_leaves_1 : decode cX8_leaves 1 = .ok (.iload_n 1, 1) := by decide +kernel
theorem dX8_leaves_2 : decode cX8_leaves 2 = .ok (.iconst 5, 1) := by decide +kernel
theorem dX8_leaves_3 : decode cX8_leaves 3 = .ok (.invokevirtual 37, 3) := by decide +kernel
theorem dX8_leaves_6 : decode cX8_leaves 6 = .ok (.istore 4, 2) := by decide +kernel
theorem dX8_leaves_8 : decode cX8_leaves 8 = .ok (.aload_n 0, 1) := by decide +kernel
theorem dX8_leaves_9 : decode cX8_leaves 9 = .ok (.getfield 7, 3) := by decide +kernel
theorem dX8_leaves_12 : decode cX8_leaves 12 = .ok (.bipush 34, 2) := by decide +kernel
theorem dX8_leaves_14 : decode cX8_leaves 14 = .ok (.iconst 3, 1) := by decide +kernel
theorem dX8_leaves_15 : decode cX8_leaves 15 = .ok (.iload 4, 2) := by decide +kernel
theorem dX8_leaves_17 : decode cX8_leaves 17 = .ok (.imul, 1) := by decide +kernel
theorem dX8_leaves_18 : decode cX8_leaves 18 = .ok (.iadd, 1) := by decide +kernel
theorem dX8_leaves_19 : decode cX8_leaves 19 = .ok (.iconst 1, 1) := by decide +kernel
theorem dX8_leaves_20 : decode cX8_leaves 20 = .ok (.iadd, 1) := by decide +kernel
theorem dX8_leaves_21 : decode cX8_leaves 21 = .ok (.iload_n 2, 1) := by decide +kernel
theorem dX8_leaves_22 : decode cX8_leaves 22 = .ok (.iastore, 1) := by decide +kernel
theorem dX8_leaves_23 : decode cX8_leaves 23 = .ok (.aload_n 0, 1) := by decide +kernel
theorem dX8_leaves_24 : decode cX8_leaves 24 = .ok (.getfield 7, 3) := by decide +kernel
theorem dX8_leaves_27 : decode cX8_leaves 27 = .ok (.bipush 34, 2) := by decide +kernel
theorem dX8_leaves_29 : decode cX8_leaves 29 = .ok (.iconst 3, 1) := by decide +kernel
theorem dX8_leaves_30 : decode cX8_leaves 30 = .ok (.iload 4, 2) := by decide +kernel
theorem dX8_leaves_32 : decode cX8_leaves 32 = .ok (.imul, 1) := by decide +kernel
theorem dX8_leaves_33 : decode cX8_leaves 33 = .ok (.iadd, 1) := by decide +kernel
theorem dX8_leaves_34 : decode cX8_leaves 34 = .ok (.iconst 2, 1) := by decide +kernel
theorem dX8_leaves_35 : decode cX8_leaves 35 = .ok (.iadd, 1) := by decide +kernel
theorem dX8_leaves_36 : decode cX8_leaves 36 = .ok (.iload_n 3, 1) := by decide +kernel
theorem dX8_leaves_37 : decode cX8_leaves 37 = .ok (.iastore, 1) := by decide +kernel
theorem dX8_leaves_38 : decode cX8_leaves 38 = .ok (.aload_n 0, 1) := by decide +kernel
theorem dX8_leaves_39 : decode cX8_leaves 39 = .ok (.iload_n 1, 1) := by decide +kernel
theorem dX8_leaves_40 : decode cX8_leaves 40 = .ok (.iconst 5, 1) := by decide +kernel
theorem dX8_leaves_41 : decode cX8_leaves 41 = .ok (.iconst (-1), 1) := by decide +kernel
theorem dX8_leaves_42 : decode cX8_leaves 42 = .ok (.invokevirtual 76, 3) := by decide +kernel
theorem dX8_leaves_45 : decode cX8_leaves 45 = .ok (.return_, 1) := by decide +kernel
theorem dX8_holdsAt_0 : decode cX8_holdsAt 0 = .ok (.aload_n 0, 1) := by decide +kernel
theorem dX8_holdsAt_1 : decode cX8_holdsAt 1 = .ok (.getfield 7, 3) := by decide +kernel
theorem dX8_holdsAt_4 : decode cX8_holdsAt 4 = .ok (.bipush 34, 2) := by decide +kernel
theorem dX8_holdsAt_6 : decode cX8_holdsAt 6 = .ok (.iconst 3, 1) := by decide +kernel
theorem dX8_holdsAt_7 : decode cX8_holdsAt 7 = .ok (.iload_n 1, 1) := by decide +kernel
theorem dX8_holdsAt_8 : decode cX8_holdsAt 8 = .ok (.imul, 1) := by decide +kernel
theorem dX8_holdsAt_9 : decode cX8_holdsAt 9 = .ok (.iadd, 1) := by decide +kernel
theorem dX8_holdsAt_10 : decode cX8_holdsAt 10 = .ok (.iaload, 1) := by decide +kernel
theorem dX8_holdsAt_11 : decode cX8_holdsAt 11 = .ok (.aload_n 0, 1) := by decide +kernel
theorem dX8_holdsAt_12 : decode cX8_holdsAt 12 = .ok (.getfield 7, 3) := by decide +kernel
theorem dX8_holdsAt_15 : decode cX8_holdsAt 15 = .ok (.bipush 13, 2) := by decide +kernel
theorem dX8_holdsAt_17 : decode cX8_holdsAt 17 = .ok (.iload_n 2, 1) := by decide +kernel
theorem dX8_holdsAt_18 : decode cX8_holdsAt 18 = .ok (.iadd, 1) := by decide +kernel
theorem dX8_holdsAt_19 : decode cX8_holdsAt 19 = .ok (.iaload, 1) := by decide +kernel
theorem dX8_holdsAt_20 : decode cX8_holdsAt 20 = .ok (.iconst 3, 1) := by decide +kernel
theorem dX8_holdsAt_21 : decode cX8_holdsAt 21 = .ok (.iadd, 1) := by decide +kernel
theorem dX8_holdsAt_22 : decode cX8_holdsAt 22 = .ok (.if_icmp .lt 7, 3) := by decide +kernel
theorem dX8_holdsAt_25 : decode cX8_holdsAt 25 = .ok (.iconst 1, 1) := by decide +kernel
theorem dX8_holdsAt_26 : decode cX8_holdsAt 26 = .ok (.goto 4, 3) := by decide +kernel
theorem dX8_holdsAt_29 : decode cX8_holdsAt 29 = .ok (.iconst 0, 1) := by decide +kernel
theorem dX8_holdsAt_30 : decode cX8_holdsAt 30 = .ok (.ireturn, 1) := by decide +kernel
theorem dX8_rigsAt_0 : decode cX8_rigsAt 0 = .ok (.aload_n 0, 1) := by decide +kernel
theorem dX8_rigsAt_1 : decode cX8_rigsAt 1 = .ok (.iload_n 1, 1) := by decide +kernel
theorem dX8_rigsAt_2 : decode cX8_rigsAt 2 = .ok (.invokevirtual 95, 3) := by decide +kernel
theorem dX8_rigsAt_5 : decode cX8_rigsAt 5 = .ok (.ifCond .ne 5, 3) := by decide +kernel
theorem dX8_rigsAt_8 : decode cX8_rigsAt 8 = .ok (.iconst 1, 1) := by decide +kernel
theorem dX8_rigsAt_9 : decode cX8_rigsAt 9 = .ok (.ireturn, 1) := by decide +kernel
theorem dX8_rigsAt_10 : decode cX8_rigsAt 10 = .ok (.aload_n 0, 1) := by decide +kernel
theorem dX8_rigsAt_11 : decode cX8_rigsAt 11 = .ok (.iload_n 1, 1) := by decide +kernel
theorem dX8_rigsAt_12 : decode cX8_rigsAt 12 = .ok (.iconst 1, 1) := by decide +kernel
theorem dX8_rigsAt_13 : decode cX8_rigsAt 13 = .ok (.invokevirtual 37, 3) := by decide +kernel
theorem dX8_rigsAt_16 : decode cX8_rigsAt 16 = .ok (.istore_n 2, 1) := by decide +kernel
theorem dX8_rigsAt_17 : decode cX8_rigsAt 17 = .ok (.aload_n 0, 1) := by decide +kernel
theorem dX8_rigsAt_18 : decode cX8_rigsAt 18 = .ok (.iload_n 1, 1) := by decide +kernel
theorem dX8_rigsAt_19 : decode cX8_rigsAt 19 = .ok (.invokevirtual 81, 3) := by decide +kernel
theorem dX8_rigsAt_22 : decode cX8_rigsAt 22 = .ok (.ifCond .eq 38, 3) := by decide +kernel
theorem dX8_rigsAt_25 : decode cX8_rigsAt 25 = .ok (.aload_n 0, 1) := by decide +kernel
theorem dX8_rigsAt_26 : decode cX8_rigsAt 26 = .ok (.iload_n 1, 1) := by decide +kernel
theorem dX8_rigsAt_27 : decode cX8_rigsAt 27 = .ok (.iconst 5, 1) := by decide +kernel
theorem dX8_rigsAt_28 : decode cX8_rigsAt 28 = .ok (.invokevirtual 37, 3) := by decide +kernel
theorem dX8_rigsAt_31 : decode cX8_rigsAt 31 = .ok (.iconst (-1), 1) := by decide +kernel
theorem dX8_rigsAt_32 : decode cX8_rigsAt 32 = .ok (.if_icmp .eq 28, 3) := by decide +kernel
theorem dX8_rigsAt_35 : decode cX8_rigsAt 35 = .ok (.aload_n 0, 1) := by decide +kernel
theorem dX8_rigsAt_36 : decode cX8_rigsAt 36 = .ok (.iload_n 2, 1) := by decide +kernel
theorem dX8_rigsAt_37 : decode cX8_rigsAt 37 = .ok (.invokevirtual 67, 3) := by decide +kernel
theorem dX8_rigsAt_40 : decode cX8_rigsAt 40 = .ok (.ifCond .eq 20, 3) := by decide +kernel
theorem dX8_rigsAt_43 : decode cX8_rigsAt 43 = .ok (.aload_n 0, 1) := by decide +kernel
theorem dX8_rigsAt_44 : decode cX8_rigsAt 44 = .ok (.iload_n 2, 1) := by decide +kernel
theorem dX8_rigsAt_45 : decode cX8_rigsAt 45 = .ok (.invokevirtual 44, 3) := by decide +kernel
theorem dX8_rigsAt_48 : decode cX8_rigsAt 48 = .ok (.ifCond .eq 12, 3) := by decide +kernel
theorem dX8_rigsAt_51 : decode cX8_rigsAt 51 = .ok (.aload_n 0, 1) := by decide +kernel
theorem dX8_rigsAt_52 : decode cX8_rigsAt 52 = .ok (.iload_n 2, 1) := by decide +kernel
theorem dX8_rigsAt_53 : decode cX8_rigsAt 53 = .ok (.invokevirtual 70, 3) := by decide +kernel
theorem dX8_rigsAt_56 : decode cX8_rigsAt 56 = .ok (.iconst (-1), 1) := by decide +kernel
theorem dX8_rigsAt_57 : decode cX8_rigsAt 57 = .ok (.if_icmp .eq 5, 3) := by decide +kernel
theorem dX8_rigsAt_60 : decode cX8_rigsAt 60 = .ok (.iconst 2, 1) := by decide +kernel
theorem dX8_rigsAt_61 : decode cX8_rigsAt 61 = .ok (.ireturn, 1) := by decide +kernel
theorem dX8_rigsAt_62 : decode cX8_rigsAt 62 = .ok (.aload_n 0, 1) := by decide +kernel
theorem dX8_rigsAt_63 : decode cX8_rigsAt 63 = .ok (.aload_n 0, 1) := by decide +kernel
theorem dX8_rigsAt_64 : decode cX8_rigsAt 64 = .ok (.iload_n 1, 1) := by decide +kernel
theorem dX8_rigsAt_65 : decode cX8_rigsAt 65 = .ok (.iconst 5, 1) := by decide +kernel
theorem dX8_rigsAt_66 : decode cX8_rigsAt 66 = .ok (.invokevirtual 37, 3) := by decide +kernel
theorem dX8_rigsAt_69 : decode cX8_rigsAt 69 = .ok (.iload_n 2, 1) := by decide +kernel
theorem dX8_rigsAt_70 : decode cX8_rigsAt 70 = .ok (.invokevirtual 114, 3) := by decide +kernel
theorem dX8_rigsAt_73 : decode cX8_rigsAt 73 = .ok (.ifCond .eq 14, 3) := by decide +kernel
theorem dX8_rigsAt_76 : decode cX8_rigsAt 76 = .ok (.aload_n 0, 1) := by decide +kernel
theorem dX8_rigsAt_77 : decode cX8_rigsAt 77 = .ok (.iload_n 1, 1) := by decide +kernel
theorem dX8_rigsAt_78 : decode cX8_rigsAt 78 = .ok (.iload_n 2, 1) := by decide +kernel
theorem dX8_rigsAt_79 : decode cX8_rigsAt 79 = .ok (.bipush 10, 2) := by decide +kernel
theorem dX8_rigsAt_81 : decode cX8_rigsAt 81 = .ok (.invokevirtual 88, 3) := by decide +kernel
theorem dX8_rigsAt_84 : decode cX8_rigsAt 84 = .ok (.ifCond .ne 5, 3) := by decide +kernel
theorem dX8_rigsAt_87 : decode cX8_rigsAt 87 = .ok (.iconst 2, 1) := by decide +kernel
theorem dX8_rigsAt_88 : decode cX8_rigsAt 88 = .ok (.ireturn, 1) := by decide +kernel
theorem dX8_rigsAt_89 : decode cX8_rigsAt 89 = .ok (.aload_n 0, 1) := by decide +kernel
theorem dX8_rigsAt_90 : decode cX8_rigsAt 90 = .ok (.iload_n 1, 1) := by decide +kernel
theorem dX8_rigsAt_91 : decode cX8_rigsAt 91 = .ok (.iconst 2, 1) := by decide +kernel
theorem dX8_rigsAt_92 : decode cX8_rigsAt 92 = .ok (.iconst 2, 1) := by decide +kernel
theorem dX8_rigsAt_93 : decode cX8_rigsAt 93 = .ok (.invokevirtual 76, 3) := by decide +kernel
theorem dX8_rigsAt_96 : decode cX8_rigsAt 96 = .ok (.aload_n 0, 1) := by decide +kernel
theorem dX8_rigsAt_97 : decode cX8_rigsAt 97 = .ok (.iload_n 1, 1) := by decide +kernel
theorem dX8_rigsAt_98 : decode cX8_rigsAt 98 = .ok (.iconst 4, 1) := by decide +kernel
theorem dX8_rigsAt_99 : decode cX8_rigsAt 99 = .ok (.bipush 10, 2) := by decide +kernel
theorem dX8_rigsAt_101 : decode cX8_rigsAt 101 = .ok (.invokevirtual 76, 3) := by decide +kernel
theorem dX8_rigsAt_104 : decode cX8_rigsAt 104 = .ok (.aload_n 0, 1) := by decide +kernel
theorem dX8_rigsAt_105 : decode cX8_rigsAt 105 = .ok (.iload_n 2, 1) := by decide +kernel
theorem dX8_rigsAt_106 : decode cX8_rigsAt 106 = .ok (.putfield 105, 3) := by decide +kernel
theorem dX8_rigsAt_109 : decode cX8_rigsAt 109 = .ok (.iconst 0, 1) := by decide +kernel
theorem dX8_rigsAt_110 : decode cX8_rigsAt 110 = .ok (.ireturn, 1) := by decide +kernel
theorem dX8_canCarry_0 : decode cX8_canCarry 0 = .ok (.aload_n 0, 1) := by decide +kernel
theorem dX8_canCarry_1 : decode cX8_canCarry 1 = .ok (.getfield 7, 3) := by decide +kernel
theorem dX8_canCarry_4 : decode cX8_canCarry 4 = .ok (.iconst 4, 1) := by decide +kernel
theorem dX8_canCarry_5 : decode cX8_canCarry 5 = .ok (.iaload, 1) := by decide +kernel
theorem dX8_canCarry_6 : decode cX8_canCarry 6 = .ok (.istore_n 2, 1) := by decide +kernel
theorem dX8_canCarry_7 : decode cX8_canCarry 7 = .ok (.iconst 3, 1) := by decide +kernel
theorem dX8_canCarry_8 : decode cX8_canCarry 8 = .ok (.aload_n 0, 1) := by decide +kernel
theorem dX8_canCarry_9 : decode cX8_canCarry 9 = .ok (.getfield 7, 3) := by decide +kernel
theorem dX8_canCarry_12 : decode cX8_canCarry 12 = .ok (.bipush 20, 2) := by decide +kernel
theorem dX8_canCarry_14 : decode cX8_canCarry 14 = .ok (.iload_n 2, 1) := by decide +kernel
theorem dX8_canCarry_15 : decode cX8_canCarry 15 = .ok (.iadd, 1) := by decide +kernel
theorem dX8_canCarry_16 : decode cX8_canCarry 16 = .ok (.iconst 1, 1) := by decide +kernel
theorem dX8_canCarry_17 : decode cX8_canCarry 17 = .ok (.isub, 1) := by decide +kernel
theorem dX8_canCarry_18 : decode cX8_canCarry 18 = .ok (.iaload, 1) := by decide +kernel
theorem dX8_canCarry_19 : decode cX8_canCarry 19 = .ok (.imul, 1) := by decide +kernel
theorem dX8_canCarry_20 : decode cX8_canCarry 20 = .ok (.istore_n 3, 1) := by decide +kernel
theorem dX8_canCarry_21 : decode cX8_canCarry 21 = .ok (.aload_n 0, 1) := by decide +kernel
theorem dX8_canCarry_22 : decode cX8_canCarry 22 = .ok (.iload_n 1, 1) := by decide +kernel
theorem dX8_canCarry_23 : decode cX8_canCarry 23 = .ok (.invokevirtual 81, 3) := by decide +kernel
theorem dX8_canCarry_26 : decode cX8_canCarry 26 = .ok (.ifCond .eq 45, 3) := by decide +kernel
theorem dX8_canCarry_29 : decode cX8_canCarry 29 = .ok (.aload_n 0, 1) := by decide +kernel
theorem dX8_canCarry_30 : decode cX8_canCarry 30 = .ok (.iload_n 1, 1) := by decide +kernel
theorem dX8_canCarry_31 : decode cX8_canCarry 31 = .ok (.iconst 1, 1) := by decide +kernel
theorem dX8_canCarry_32 : decode cX8_canCarry 32 = .ok (.invokevirtual 37, 3) := by decide +kernel
theorem dX8_canCarry_35 : decode cX8_canCarry 35 = .ok (.iload_n 2, 1) := by decide +kernel
theorem dX8_canCarry_36 : decode cX8_canCarry 36 = .ok (.if_icmp .ne 35, 3) := by decide +kernel
theorem dX8_canCarry_39 : decode cX8_canCarry 39 = .ok (.aload_n 0, 1) := by decide +kernel
theorem dX8_canCarry_40 : decode cX8_canCarry 40 = .ok (.iload_n 1, 1) := by decide +kernel
theorem dX8_canCarry_41 : decode cX8_canCarry 41 = .ok (.bipush 6, 2) := by decide +kernel
theorem dX8_canCarry_43 : decode cX8_canCarry 43 = .ok (.invokevirtual 37, 3) := by decide +kernel
theorem dX8_canCarry_46 : decode cX8_canCarry 46 = .ok (.iconst 2, 1) := by decide +kernel
theorem dX8_canCarry_47 : decode cX8_canCarry 47 = .ok (.iload_n 3, 1) := by decide +kernel
theorem dX8_canCarry_48 : decode cX8_canCarry 48 = .ok (.imul, 1) := by decide +kernel
theorem dX8_canCarry_49 : decode cX8_canCarry 49 = .ok (.iadd, 1) := by decide +kernel
theorem dX8_canCarry_50 : decode cX8_canCarry 50 = .ok (.bipush 100, 2) := by decide +kernel
theorem dX8_canCarry_52 : decode cX8_canCarry 52 = .ok (.if_icmp .gt 19, 3) := by decide +kernel
theorem dX8_canCarry_55 : decode cX8_canCarry 55 = .ok (.aload_n 0, 1) := by decide +kernel
theorem dX8_canCarry_56 : decode cX8_canCarry 56 = .ok (.iload_n 1, 1) := by decide +kernel
theorem dX8_canCarry_57 : decode cX8_canCarry 57 = .ok (.iload_n 2, 1) := by decide +kernel
theorem dX8_canCarry_58 : decode cX8_canCarry 58 = .ok (.iconst 1, 1) := by decide +kernel
theorem dX8_canCarry_59 : decode cX8_canCarry 59 = .ok (.isub, 1) := by decide +kernel
theorem dX8_canCarry_60 : decode cX8_canCarry 60 = .ok (.iload_n 3, 1) := by decide +kernel
theorem dX8_canCarry_61 : decode cX8_canCarry 61 = .ok (.invokevirtual 88, 3) := by decide +kernel
theorem dX8_canCarry_64 : decode cX8_canCarry 64 = .ok (.ifCond .eq 7, 3) := by decide +kernel
theorem dX8_canCarry_67 : decode cX8_canCarry 67 = .ok (.iconst 1, 1) := by decide +kernel
theorem dX8_canCarry_68 : decode cX8_canCarry 68 = .ok (.goto 4, 3) := by decide +kernel
theorem dX8_canCarry_71 : decode cX8_canCarry 71 = .ok (.iconst 0, 1) := by decide +kernel
theorem dX8_canCarry_72 : decode cX8_canCarry 72 = .ok (.ireturn, 1) := by decide +kernel
theorem dX8_isCarryable_0 : decode cX8_isCarryable 0 = .ok (.aload_n 0, 1) := by decide +kernel
theorem dX8_isCarryable_1 : decode cX8_isCarryable 1 = .ok (.getfield 7, 3) := by decide +kernel
theorem dX8_isCarryable_4 : decode cX8_isCarryable 4 = .ok (.iconst 5, 1) := by decide +kernel
theorem dX8_isCarryable_5 : decode cX8_isCarryable 5 = .ok (.iaload, 1) := by decide +kernel
theorem dX8_isCarryable_6 : decode cX8_isCarryable 6 = .ok (.ifCond .ne 31, 3) := by decide +kernel
theorem dX8_isCarryable_9 : decode cX8_isCarryable 9 = .ok (.aload_n 0, 1) := by decide +kernel
theorem dX8_isCarryable_10 : decode cX8_isCarryable 10 = .ok (.getfield 7, 3) := by decide +kernel
theorem dX8_isCarryable_13 : decode cX8_isCarryable 13 = .ok (.iconst 4, 1) := by decide +kernel
theorem dX8_isCarryable_14 : decode cX8_isCarryable 14 = .ok (.iaload, 1) := by decide +kernel
theorem dX8_isCarryable_15 : decode cX8_isCarryable 15 = .ok (.ifCond .le 22, 3) := by decide +kernel
theorem dX8_isCarryable_18 : decode cX8_isCarryable 18 = .ok (.aload_n 0, 1) := by decide +kernel
theorem dX8_isCarryable_19 : decode cX8_isCarryable 19 = .ok (.aload_n 0, 1) := by decide +kernel
theorem dX8_isCarryable_20 : decode cX8_isCarryable 20 = .ok (.getfield 7, 3) := by decide +kernel
theorem dX8_isCarryable_23 : decode cX8_isCarryable 23 = .ok (.iconst 4, 1) := by decide +kernel
theorem dX8_isCarryable_24 : decode cX8_isCarryable 24 = .ok (.iaload, 1) := by decide +kernel
theorem dX8_isCarryable_25 : decode cX8_isCarryable 25 = .ok (.iconst 1, 1) := by decide +kernel
theorem dX8_isCarryable_26 : decode cX8_isCarryable 26 = .ok (.isub, 1) := by decide +kernel
theorem dX8_isCarryable_27 : decode cX8_isCarryable 27 = .ok (.invokevirtual 44, 3) := by decide +kernel
theorem dX8_isCarryable_30 : decode cX8_isCarryable 30 = .ok (.ifCond .ne 7, 3) := by decide +kernel
theorem dX8_isCarryable_33 : decode cX8_isCarryable 33 = .ok (.iconst 1, 1) := by decide +kernel
theorem dX8_isCarryable_34 : decode cX8_isCarryable 34 = .ok (.goto 4, 3) := by decide +kernel
theorem dX8_isCarryable_37 : decode cX8_isCarryable 37 = .ok (.iconst 0, 1) := by decide +kernel
theorem dX8_isCarryable_38 : decode cX8_isCarryable 38 = .ok (.ireturn, 1) := by decide +kernel
theorem dX8_ones_0 : decode cX8_ones 0 = .ok (.iconst 0, 1) := by decide +kernel
theorem dX8_ones_1 : decode cX8_ones 1 = .ok (.istore_n 1, 1) := by decide +kernel
theorem dX8_ones_2 : decode cX8_ones 2 = .ok (.iconst 0, 1) := by decide +kernel
theorem dX8_ones_3 : decode cX8_ones 3 = .ok (.istore_n 2, 1) := by decide +kernel
theorem dX8_ones_4 : decode cX8_ones 4 = .ok (.iload_n 2, 1) := by decide +kernel
theorem dX8_ones_5 : decode cX8_ones 5 = .ok (.bipush 6, 2) := by decide +kernel
theorem dX8_ones_7 : decode cX8_ones 7 = .ok (.if_icmp .ge 17, 3) := by decide +kernel
theorem dX8_ones_10 : decode cX8_ones 10 = .ok (.iload_n 1, 1) := by decide +kernel
theorem dX8_ones_11 : decode cX8_ones 11 = .ok (.iload_n 0, 1) := by decide +kernel
theorem dX8_ones_12 : decode cX8_ones 12 = .ok (.iload_n 2, 1) := by decide +kernel
theorem dX8_ones_13 : decode cX8_ones 13 = .ok (.ishr, 1) := by decide +kernel
theorem dX8_ones_14 : decode cX8_ones 14 = .ok (.iconst 1, 1) := by decide +kernel
theorem dX8_ones_15 : decode cX8_ones 15 = .ok (.iand, 1) := by decide +kernel
theorem dX8_ones_16 : decode cX8_ones 16 = .ok (.iadd, 1) := by decide +kernel
theorem dX8_ones_17 : decode cX8_ones 17 = .ok (.istore_n 1, 1) := by decide +kernel
theorem dX8_ones_18 : decode cX8_ones 18 = .ok (.iinc 2 1, 3) := by decide +kernel
theorem dX8_ones_21 : decode cX8_ones 21 = .ok (.goto (-17), 3) := by decide +kernel
theorem dX8_ones_24 : decode cX8_ones 24 = .ok (.iload_n 1, 1) := by decide +kernel
theorem dX8_ones_25 : decode cX8_ones 25 = .ok (.ireturn, 1) := by decide +kernel
theorem dX8_carries_0 : decode cX8_carries 0 = .ok (.iload_n 1, 1) := by decide +kernel
theorem dX8_carries_1 : decode cX8_carries 1 = .ok (.iconst 0, 1) := by decide +kernel
theorem dX8_carries_2 : decode cX8_carries 2 = .ok (.iconst 1, 1) := by decide +kernel
theorem dX8_carries_3 : decode cX8_carries 3 = .ok (.aload_n 0, 1) := by decide +kernel
theorem dX8_carries_4 : decode cX8_carries 4 = .ok (.getfield 7, 3) := by decide +kernel
theorem dX8_carries_7 : decode cX8_carries 7 = .ok (.iconst 2, 1) := by decide +kernel
theorem dX8_carries_8 : decode cX8_carries 8 = .ok (.iaload, 1) := by decide +kernel
theorem dX8_carries_9 : decode cX8_carries 9 = .ok (.ishl, 1) := by decide +kernel
theorem dX8_carries_10 : decode cX8_carries 10 = .ok (.iconst 1, 1) := by decide +kernel
theorem dX8_carries_11 : decode cX8_carries 11 = .ok (.isub, 1) := by decide +kernel
theorem dX8_carries_12 : decode cX8_carries 12 = .ok (.invokestatic 54, 3) := by decide +kernel
theorem dX8_carries_15 : decode cX8_carries 15 = .ok (.ifCond .eq 11, 3) := by decide +kernel
theorem dX8_carries_18 : decode cX8_carries 18 = .ok (.iload_n 1, 1) := by decide +kernel
theorem dX8_carries_19 : decode cX8_carries 19 = .ok (.invokestatic 118, 3) := by decide +kernel
theorem dX8_carries_22 : decode cX8_carries 22 = .ok (.iconst 3, 1) := by decide +kernel
theorem dX8_carries_23 : decode cX8_carries 23 = .ok (.if_icmp .ge 5, 3) := by decide +kernel
theorem dX8_carries_26 : decode cX8_carries 26 = .ok (.iconst 1, 1) := by decide +kernel
theorem dX8_carries_27 : decode cX8_carries 27 = .ok (.ireturn, 1) := by decide +kernel
theorem dX8_carries_28 : decode cX8_carries 28 = .ok (.aload_n 0, 1) := by decide +kernel
theorem dX8_carries_29 : decode cX8_carries 29 = .ok (.invokevirtual 121, 3) := by decide +kernel
theorem dX8_carries_32 : decode cX8_carries 32 = .ok (.istore_n 2, 1) := by decide +kernel
theorem dX8_carries_33 : decode cX8_carries 33 = .ok (.iconst 0, 1) := by decide +kernel
theorem dX8_carries_34 : decode cX8_carries 34 = .ok (.istore_n 3, 1) := by decide +kernel
theorem dX8_carries_35 : decode cX8_carries 35 = .ok (.iload_n 3, 1) := by decide +kernel
theorem dX8_carries_36 : decode cX8_carries 36 = .ok (.aload_n 0, 1) := by decide +kernel
theorem dX8_carries_37 : decode cX8_carries 37 = .ok (.getfield 7, 3) := by decide +kernel
theorem dX8_carries_40 : decode cX8_carries 40 = .ok (.iconst 2, 1) := by decide +kernel
theorem dX8_carries_41 : decode cX8_carries 41 = .ok (.iaload, 1) := by decide +kernel
theorem dX8_carries_42 : decode cX8_carries 42 = .ok (.if_icmp .ge 35, 3) := by decide +kernel
theorem dX8_carries_45 : decode cX8_carries 45 = .ok (.iload_n 2, 1) := by decide +kernel
theorem dX8_carries_46 : decode cX8_carries 46 = .ok (.ifCond .eq 31, 3) := by decide +kernel
theorem dX8_carries_49 : decode cX8_carries 49 = .ok (.iload_n 1, 1) := by decide +kernel
theorem dX8_carries_50 : decode cX8_carries 50 = .ok (.iload_n 3, 1) := by decide +kernel
theorem dX8_carries_51 : decode cX8_carries 51 = .ok (.ishr, 1) := by decide +kernel
theorem dX8_carries_52 : decode cX8_carries 52 = .ok (.iconst 1, 1) := by decide +kernel
theorem dX8_carries_53 : decode cX8_carries 53 = .ok (.iand, 1) := by decide +kernel
theorem dX8_carries_54 : decode cX8_carries 54 = .ok (.ifCond .eq 11, 3) := by decide +kernel
theorem dX8_carries_57 : decode cX8_carries 57 = .ok (.aload_n 0, 1) := by decide +kernel
theorem dX8_carries_58 : decode cX8_carries 58 = .ok (.iload_n 3, 1) := by decide +kernel
theorem dX8_carries_59 : decode cX8_carries 59 = .ok (.invokevirtual 125, 3) := by decide +kernel
theorem dX8_carries_62 : decode cX8_carries 62 = .ok (.ifCond .eq 7, 3) := by decide +kernel
theorem dX8_carries_65 : decode cX8_carries 65 = .ok (.iconst 1, 1) := by decide +kernel
theorem dX8_carries_66 : decode cX8_carries 66 = .ok (.goto 4, 3) := by decide +kernel
theorem dX8_carries_69 : decode cX8_carries 69 = .ok (.iconst 0, 1) := by decide +kernel
theorem dX8_carries_70 : decode cX8_carries 70 = .ok (.istore_n 2, 1) := by decide +kernel
theorem dX8_carries_71 : decode cX8_carries 71 = .ok (.iinc 3 1, 3) := by decide +kernel
theorem dX8_carries_74 : decode cX8_carries 74 = .ok (.goto (-39), 3) := by decide +kernel
theorem dX8_carries_77 : decode cX8_carries 77 = .ok (.iload_n 2, 1) := by decide +kernel
theorem dX8_carries_78 : decode cX8_carries 78 = .ok (.ifCond .ne 5, 3) := by decide +kernel
theorem dX8_carries_81 : decode cX8_carries 81 = .ok (.iconst 2, 1) := by decide +kernel
theorem dX8_carries_82 : decode cX8_carries 82 = .ok (.ireturn, 1) := by decide +kernel
theorem dX8_carries_83 : decode cX8_carries 83 = .ok (.iconst 3, 1) := by decide +kernel
theorem dX8_carries_84 : decode cX8_carries 84 = .ok (.aload_n 0, 1) := by decide +kernel
theorem dX8_carries_85 : decode cX8_carries 85 = .ok (.getfield 7, 3) := by decide +kernel
theorem dX8_carries_88 : decode cX8_carries 88 = .ok (.bipush 20, 2) := by decide +kernel
theorem dX8_carries_90 : decode cX8_carries 90 = .ok (.aload_n 0, 1) := by decide +kernel
theorem dX8_carries_91 : decode cX8_carries 91 = .ok (.getfield 7, 3) := by decide +kernel
theorem dX8_carries_94 : decode cX8_carries 94 = .ok (.iconst 4, 1) := by decide +kernel
theorem dX8_carries_95 : decode cX8_carries 95 = .ok (.iaload, 1) := by decide +kernel
theorem dX8_carries_96 : decode cX8_carries 96 = .ok (.iadd, 1) := by decide +kernel
theorem dX8_carries_97 : decode cX8_carries 97 = .ok (.iconst 1, 1) := by decide +kernel
theorem dX8_carries_98 : decode cX8_carries 98 = .ok (.isub, 1) := by decide +kernel
theorem dX8_carries_99 : decode cX8_carries 99 = .ok (.iaload, 1) := by decide +kernel
theorem dX8_carries_100 : decode cX8_carries 100 = .ok (.imul, 1) := by decide +kernel
theorem dX8_carries_101 : decode cX8_carries 101 = .ok (.istore_n 3, 1) := by decide +kernel
theorem dX8_carries_102 : decode cX8_carries 102 = .ok (.iconst 0, 1) := by decide +kernel
theorem dX8_carries_103 : decode cX8_carries 103 = .ok (.istore 4, 2) := by decide +kernel
theorem dX8_carries_105 : decode cX8_carries 105 = .ok (.iload 4, 2) := by decide +kernel
theorem dX8_carries_107 : decode cX8_carries 107 = .ok (.aload_n 0, 1) := by decide +kernel
theorem dX8_carries_108 : decode cX8_carries 108 = .ok (.getfield 7, 3) := by decide +kernel
theorem dX8_carries_111 : decode cX8_carries 111 = .ok (.iconst 2, 1) := by decide +kernel
theorem dX8_carries_112 : decode cX8_carries 112 = .ok (.iaload, 1) := by decide +kernel
theorem dX8_carries_113 : decode cX8_carries 113 = .ok (.if_icmp .ge 35, 3) := by decide +kernel
theorem dX8_carries_116 : decode cX8_carries 116 = .ok (.iload_n 1, 1) := by decide +kernel
theorem dX8_carries_117 : decode cX8_carries 117 = .ok (.iload 4, 2) := by decide +kernel
theorem dX8_carries_119 : decode cX8_carries 119 = .ok (.ishr, 1) := by decide +kernel
theorem dX8_carries_120 : decode cX8_carries 120 = .ok (.iconst 1, 1) := by decide +kernel
theorem dX8_carries_121 : decode cX8_carries 121 = .ok (.iand, 1) := by decide +kernel
theorem dX8_carries_122 : decode cX8_carries 122 = .ok (.iconst 1, 1) := by decide +kernel
theorem dX8_carries_123 : decode cX8_carries 123 = .ok (.if_icmp .ne 19, 3) := by decide +kernel
theorem dX8_carries_126 : decode cX8_carries 126 = .ok (.aload_n 0, 1) := by decide +kernel
theorem dX8_carries_127 : decode cX8_carries 127 = .ok (.iload 4, 2) := by decide +kernel
theorem dX8_carries_129 : decode cX8_carries 129 = .ok (.aload_n 0, 1) := by decide +kernel
theorem dX8_carries_130 : decode cX8_carries 130 = .ok (.getfield 7, 3) := by decide +kernel
theorem dX8_carries_133 : decode cX8_carries 133 = .ok (.iconst 4, 1) := by decide +kernel
theorem dX8_carries_134 : decode cX8_carries 134 = .ok (.iaload, 1) := by decide +kernel
theorem dX8_carries_135 : decode cX8_carries 135 = .ok (.iconst 1, 1) := by decide +kernel
theorem dX8_carries_136 : decode cX8_carries 136 = .ok (.isub, 1) := by decide +kernel
theorem dX8_carries_137 : decode cX8_carries 137 = .ok (.iload_n 3, 1) := by decide +kernel
theorem dX8_carries_138 : decode cX8_carries 138 = .ok (.iconst 1, 1) := by decide +kernel
theorem dX8_carries_139 : decode cX8_carries 139 = .ok (.invokevirtual 91, 3) := by decide +kernel
theorem dX8_carries_142 : decode cX8_carries 142 = .ok (.iinc 4 1, 3) := by decide +kernel
theorem dX8_carries_145 : decode cX8_carries 145 = .ok (.goto (-40), 3) := by decide +kernel
theorem dX8_carries_148 : decode cX8_carries 148 = .ok (.sipush 177, 3) := by decide +kernel
theorem dX8_carries_151 : decode cX8_carries 151 = .ok (.istore 4, 2) := by decide +kernel
theorem dX8_carries_153 : decode cX8_carries 153 = .ok (.iload 4, 2) := by decide +kernel
theorem dX8_carries_155 : decode cX8_carries 155 = .ok (.sipush 145, 3) := by decide +kernel
theorem dX8_carries_158 : decode cX8_carries 158 = .ok (.if_icmp .lt 25, 3) := by decide +kernel
theorem dX8_carries_161 : decode cX8_carries 161 = .ok (.aload_n 0, 1) := by decide +kernel
theorem dX8_carries_162 : decode cX8_carries 162 = .ok (.getfield 7, 3) := by decide +kernel
theorem dX8_carries_165 : decode cX8_carries 165 = .ok (.iload 4, 2) := by decide +kernel
theorem dX8_carries_167 : decode cX8_carries 167 = .ok (.aload_n 0, 1) := by decide +kernel
theorem dX8_carries_168 : decode cX8_carries 168 = .ok (.getfield 7, 3) := by decide +kernel
theorem dX8_carries_171 : decode cX8_carries 171 = .ok (.iload 4, 2) := by decide +kernel
theorem dX8_carries_173 : decode cX8_carries 173 = .ok (.iconst 3, 1) := by decide +kernel
theorem dX8_carries_174 : decode cX8_carries 174 = .ok (.isub, 1) := by decide +kernel
theorem dX8_carries_175 : decode cX8_carries 175 = .ok (.iaload, 1) := by decide +kernel
theorem dX8_carries_176 : decode cX8_carries 176 = .ok (.iastore, 1) := by decide +kernel
theorem dX8_carries_177 : decode cX8_carries 177 = .ok (.iinc 4 (-1), 3) := by decide +kernel
theorem dX8_carries_180 : decode cX8_carries 180 = .ok (.goto (-27), 3) := by decide +kernel
theorem dX8_carries_183 : decode cX8_carries 183 = .ok (.aload_n 0, 1) := by decide +kernel
theorem dX8_carries_184 : decode cX8_carries 184 = .ok (.getfield 7, 3) := by decide +kernel
theorem dX8_carries_187 : decode cX8_carries 187 = .ok (.sipush 142, 3) := by decide +kernel
theorem dX8_carries_190 : decode cX8_carries 190 = .ok (.aload_n 0, 1) := by decide +kernel
theorem dX8_carries_191 : decode cX8_carries 191 = .ok (.getfield 7, 3) := by decide +kernel
theorem dX8_carries_194 : decode cX8_carries 194 = .ok (.iconst 3, 1) := by decide +kernel
theorem dX8_carries_195 : decode cX8_carries 195 = .ok (.iaload, 1) := by decide +kernel
theorem dX8_carries_196 : decode cX8_carries 196 = .ok (.iastore, 1) := by decide +kernel
theorem dX8_carries_197 : decode cX8_carries 197 = .ok (.aload_n 0, 1) := by decide +kernel
theorem dX8_carries_198 : decode cX8_carries 198 = .ok (.getfield 7, 3) := by decide +kernel
theorem dX8_carries_201 : decode cX8_carries 201 = .ok (.sipush 143, 3) := by decide +kernel
theorem dX8_carries_204 : decode cX8_carries 204 = .ok (.aload_n 0, 1) := by decide +kernel
theorem dX8_carries_205 : decode cX8_carries 205 = .ok (.getfield 7, 3) := by decide +kernel
theorem dX8_carries_208 : decode cX8_carries 208 = .ok (.iconst 4, 1) := by decide +kernel
theorem dX8_carries_209 : decode cX8_carries 209 = .ok (.iaload, 1) := by decide +kernel
theorem dX8_carries_210 : decode cX8_carries 210 = .ok (.iastore, 1) := by decide +kernel
theorem dX8_carries_211 : decode cX8_carries 211 = .ok (.aload_n 0, 1) := by decide +kernel
theorem dX8_carries_212 : decode cX8_carries 212 = .ok (.getfield 7, 3) := by decide +kernel
theorem dX8_carries_215 : decode cX8_carries 215 = .ok (.sipush 144, 3) := by decide +kernel
theorem dX8_carries_218 : decode cX8_carries 218 = .ok (.iload_n 1, 1) := by decide +kernel
theorem dX8_carries_219 : decode cX8_carries 219 = .ok (.iastore, 1) := by decide +kernel
theorem dX8_carries_220 : decode cX8_carries 220 = .ok (.aload_n 0, 1) := by decide +kernel
theorem dX8_carries_221 : decode cX8_carries 221 = .ok (.getfield 7, 3) := by decide +kernel
theorem dX8_carries_224 : decode cX8_carries 224 = .ok (.bipush 12, 2) := by decide +kernel
theorem dX8_carries_226 : decode cX8_carries 226 = .ok (.dup2, 1) := by decide +kernel
theorem dX8_carries_227 : decode cX8_carries 227 = .ok (.iaload, 1) := by decide +kernel
theorem dX8_carries_228 : decode cX8_carries 228 = .ok (.aload_n 0, 1) := by decide +kernel
theorem dX8_carries_229 : decode cX8_carries 229 = .ok (.getfield 7, 3) := by decide +kernel
theorem dX8_carries_232 : decode cX8_carries 232 = .ok (.bipush 12, 2) := by decide +kernel
theorem dX8_carries_234 : decode cX8_carries 234 = .ok (.iaload, 1) := by decide +kernel
theorem dX8_carries_235 : decode cX8_carries 235 = .ok (.bipush 12, 2) := by decide +kernel
theorem dX8_carries_237 : decode cX8_carries 237 = .ok (.if_icmp .ge 7, 3) := by decide +kernel
theorem dX8_carries_240 : decode cX8_carries 240 = .ok (.iconst 1, 1) := by decide +kernel
theorem dX8_carries_241 : decode cX8_carries 241 = .ok (.goto 4, 3) := by decide +kernel
theorem dX8_carries_244 : decode cX8_carries 244 = .ok (.iconst 0, 1) := by decide +kernel
theorem dX8_carries_245 : decode cX8_carries 245 = .ok (.iadd, 1) := by decide +kernel
theorem dX8_carries_246 : decode cX8_carries 246 = .ok (.iastore, 1) := by decide +kernel
theorem dX8_carries_247 : decode cX8_carries 247 = .ok (.aload_n 0, 1) := by decide +kernel
theorem dX8_carries_248 : decode cX8_carries 248 = .ok (.getfield 7, 3) := by decide +kernel
theorem dX8_carries_251 : decode cX8_carries 251 = .ok (.bipush 8, 2) := by decide +kernel
theorem dX8_carries_253 : decode cX8_carries 253 = .ok (.dup2, 1) := by decide +kernel
theorem dX8_carries_254 : decode cX8_carries 254 = .ok (.iaload, 1) := by decide +kernel
theorem dX8_carries_255 : decode cX8_carries 255 = .ok (.iconst 1, 1) := by decide +kernel
theorem dX8_carries_256 : decode cX8_carries 256 = .ok (.iadd, 1) := by decide +kernel
theorem dX8_carries_257 : decode cX8_carries 257 = .ok (.iastore, 1) := by decide +kernel
theorem dX8_carries_258 : decode cX8_carries 258 = .ok (.aload_n 0, 1) := by decide +kernel
theorem dX8_carries_259 : decode cX8_carries 259 = .ok (.getfield 7, 3) := by decide +kernel
theorem dX8_carries_262 : decode cX8_carries 262 = .ok (.iconst 5, 1) := by decide +kernel
theorem dX8_carries_263 : decode cX8_carries 263 = .ok (.iconst 1, 1) := by decide +kernel
theorem dX8_carries_264 : decode cX8_carries 264 = .ok (.iastore, 1) := by decide +kernel
theorem dX8_carries_265 : decode cX8_carries 265 = .ok (.aload_n 0, 1) := by decide +kernel
theorem dX8_carries_266 : decode cX8_carries 266 = .ok (.iload_n 3, 1) := by decide +kernel
theorem dX8_carries_267 : decode cX8_carries 267 = .ok (.putfield 105, 3) := by decide +kernel
theorem dX8_carries_270 : decode cX8_carries 270 = .ok (.iconst 0, 1) := by decide +kernel
theorem dX8_carries_271 : decode cX8_carries 271 = .ok (.ireturn, 1) := by decide +kernel
theorem dX8_sends_0 : decode cX8_sends 0 = .ok (.aload_n 0, 1) := by decide +kernel
theorem dX8_sends_1 : decode cX8_sends 1 = .ok (.iload_n 1, 1) := by decide +kernel
theorem dX8_sends_2 : decode cX8_sends 2 = .ok (.invokevirtual 95, 3) := by decide +kernel
theorem dX8_sends_5 : decode cX8_sends 5 = .ok (.ifCond .ne 5, 3) := by decide +kernel
theorem dX8_sends_8 : decode cX8_sends 8 = .ok (.iconst 1, 1) := by decide +kernel
theorem dX8_sends_9 : decode cX8_sends 9 = .ok (.ireturn, 1) := by decide +kernel
theorem dX8_sends_10 : decode cX8_sends 10 = .ok (.aload_n 0, 1) := by decide +kernel
theorem dX8_sends_11 : decode cX8_sends 11 = .ok (.iload_n 1, 1) := by decide +kernel
theorem dX8_sends_12 : decode cX8_sends 12 = .ok (.iconst 1, 1) := by decide +kernel
theorem dX8_sends_13 : decode cX8_sends 13 = .ok (.invokevirtual 37, 3) := by decide +kernel
theorem dX8_sends_16 : decode cX8_sends 16 = .ok (.istore_n 2, 1) := by decide +kernel
theorem dX8_sends_17 : decode cX8_sends 17 = .ok (.aload_n 0, 1) := by decide +kernel
theorem dX8_sends_18 : decode cX8_sends 18 = .ok (.iload_n 1, 1) := by decide +kernel
theorem dX8_sends_19 : decode cX8_sends 19 = .ok (.invokevirtual 81, 3) := by decide +kernel
theorem dX8_sends_22 : decode cX8_sends 22 = .ok (.ifCond .eq 19, 3) := by decide +kernel
theorem dX8_sends_25 : decode cX8_sends 25 = .ok (.iload_n 2, 1) := by decide +kernel
theorem dX8_sends_26 : decode cX8_sends 26 = .ok (.ifCond .le 17, 3) := by decide +kernel
theorem dX8_sends_29 : decode cX8_sends 29 = .ok (.aload_n 0, 1) := by decide +kernel
theorem dX8_sends_30 : decode cX8_sends 30 = .ok (.getfield 7, 3) := by decide +kernel
theorem dX8_sends_33 : decode cX8_sends 33 = .ok (.bipush 6, 2) := by decide +kernel
theorem dX8_sends_35 : decode cX8_sends 35 = .ok (.iaload, 1) := by decide +kernel
theorem dX8_sends_36 : decode cX8_sends 36 = .ok (.bipush 10, 2) := by decide +kernel
theorem dX8_sends_38 : decode cX8_sends 38 = .ok (.if_icmp .ne 5, 3) := by decide +kernel
theorem dX8_sends_41 : decode cX8_sends 41 = .ok (.iconst 2, 1) := by decide +kernel
theorem dX8_sends_42 : decode cX8_sends 42 = .ok (.ireturn, 1) := by decide +kernel
theorem dX8_sends_43 : decode cX8_sends 43 = .ok (.iload_n 2, 1) := by decide +kernel
theorem dX8_sends_44 : decode cX8_sends 44 = .ok (.ifCond .ne 17, 3) := by decide +kernel
theorem dX8_sends_47 : decode cX8_sends 47 = .ok (.aload_n 0, 1) := by decide +kernel
theorem dX8_sends_48 : decode cX8_sends 48 = .ok (.getfield 7, 3) := by decide +kernel
theorem dX8_sends_51 : decode cX8_sends 51 = .ok (.bipush 7, 2) := by decide +kernel
theorem dX8_sends_53 : decode cX8_sends 53 = .ok (.dup2, 1) := by decide +kernel
theorem dX8_sends_54 : decode cX8_sends 54 = .ok (.iaload, 1) := by decide +kernel
theorem dX8_sends_55 : decode cX8_sends 55 = .ok (.iconst 1, 1) := by decide +kernel
theorem dX8_sends_56 : decode cX8_sends 56 = .ok (.iadd, 1) := by decide +kernel
theorem dX8_sends_57 : decode cX8_sends 57 = .ok (.iastore, 1) := by decide +kernel
theorem dX8_sends_58 : decode cX8_sends 58 = .ok (.goto 57, 3) := by decide +kernel
theorem dX8_sends_61 : decode cX8_sends 61 = .ok (.bipush 112, 2) := by decide +kernel
theorem dX8_sends_63 : decode cX8_sends 63 = .ok (.iconst 3, 1) := by decide +kernel
theorem dX8_sends_64 : decode cX8_sends 64 = .ok (.aload_n 0, 1) := by decide +kernel
theorem dX8_sends_65 : decode cX8_sends 65 = .ok (.getfield 7, 3) := by decide +kernel
theorem dX8_sends_68 : decode cX8_sends 68 = .ok (.bipush 6, 2) := by decide +kernel
theorem dX8_sends_70 : decode cX8_sends 70 = .ok (.iaload, 1) := by decide +kernel
theorem dX8_sends_71 : decode cX8_sends 71 = .ok (.imul, 1) := by decide +kernel
theorem dX8_sends_72 : decode cX8_sends 72 = .ok (.iadd, 1) := by decide +kernel
theorem dX8_sends_73 : decode cX8_sends 73 = .ok (.istore_n 3, 1) := by decide +kernel
theorem dX8_sends_74 : decode cX8_sends 74 = .ok (.aload_n 0, 1) := by decide +kernel
theorem dX8_sends_75 : decode cX8_sends 75 = .ok (.getfield 7, 3) := by decide +kernel
theorem dX8_sends_78 : decode cX8_sends 78 = .ok (.iload_n 3, 1) := by decide +kernel
theorem dX8_sends_79 : decode cX8_sends 79 = .ok (.iload_n 1, 1) := by decide +kernel
theorem dX8_sends_80 : decode cX8_sends 80 = .ok (.iastore, 1) := by decide +kernel
theorem dX8_sends_81 : decode cX8_sends 81 = .ok (.aload_n 0, 1) := by decide +kernel
theorem dX8_sends_82 : decode cX8_sends 82 = .ok (.getfield 7, 3) := by decide +kernel
theorem dX8_sends_85 : decode cX8_sends 85 = .ok (.iload_n 3, 1) := by decide +kernel
theorem dX8_sends_86 : decode cX8_sends 86 = .ok (.iconst 1, 1) := by decide +kernel
theorem dX8_sends_87 : decode cX8_sends 87 = .ok (.iadd, 1) := by decide +kernel
theorem dX8_sends_88 : decode cX8_sends 88 = .ok (.aload_n 0, 1) := by decide +kernel
theorem dX8_sends_89 : decode cX8_sends 89 = .ok (.getfield 7, 3) := by decide +kernel
theorem dX8_sends_92 : decode cX8_sends 92 = .ok (.iconst 3, 1) := by decide +kernel
theorem dX8_sends_93 : decode cX8_sends 93 = .ok (.iaload, 1) := by decide +kernel
theorem dX8_sends_94 : decode cX8_sends 94 = .ok (.iastore, 1) := by decide +kernel
theorem dX8_sends_95 : decode cX8_sends 95 = .ok (.aload_n 0, 1) := by decide +kernel
theorem dX8_sends_96 : decode cX8_sends 96 = .ok (.getfield 7, 3) := by decide +kernel
theorem dX8_sends_99 : decode cX8_sends 99 = .ok (.iload_n 3, 1) := by decide +kernel
theorem dX8_sends_100 : decode cX8_sends 100 = .ok (.iconst 2, 1) := by decide +kernel
theorem dX8_sends_101 : decode cX8_sends 101 = .ok (.iadd, 1) := by decide +kernel
theorem dX8_sends_102 : decode cX8_sends 102 = .ok (.iload_n 2, 1) := by decide +kernel
theorem dX8_sends_103 : decode cX8_sends 103 = .ok (.iastore, 1) := by decide +kernel
theorem dX8_sends_104 : decode cX8_sends 104 = .ok (.aload_n 0, 1) := by decide +kernel
theorem dX8_sends_105 : decode cX8_sends 105 = .ok (.getfield 7, 3) := by decide +kernel
theorem dX8_sends_108 : decode cX8_sends 108 = .ok (.bipush 6, 2) := by decide +kernel
theorem dX8_sends_110 : decode cX8_sends 110 = .ok (.dup2, 1) := by decide +kernel
theorem dX8_sends_111 : decode cX8_sends 111 = .ok (.iaload, 1) := by decide +kernel
theorem dX8_sends_112 : decode cX8_sends 112 = .ok (.iconst 1, 1) := by decide +kernel
theorem dX8_sends_113 : decode cX8_sends 113 = .ok (.iadd, 1) := by decide +kernel
theorem dX8_sends_114 : decode cX8_sends 114 = .ok (.iastore, 1) := by decide +kernel
theorem dX8_sends_115 : decode cX8_sends 115 = .ok (.aload_n 0, 1) := by decide +kernel
theorem dX8_sends_116 : decode cX8_sends 116 = .ok (.aload_n 0, 1) := by decide +kernel
theorem dX8_sends_117 : decode cX8_sends 117 = .ok (.getfield 7, 3) := by decide +kernel
theorem dX8_sends_120 : decode cX8_sends 120 = .ok (.bipush 6, 2) := by decide +kernel
theorem dX8_sends_122 : decode cX8_sends 122 = .ok (.iaload, 1) := by decide +kernel
theorem dX8_sends_123 : decode cX8_sends 123 = .ok (.putfield 105, 3) := by decide +kernel
theorem dX8_sends_126 : decode cX8_sends 126 = .ok (.iconst 0, 1) := by decide +kernel
theorem dX8_sends_127 : decode cX8_sends 127 = .ok (.ireturn, 1) := by decide +kernel
theorem dX8_arrives_0 : decode cX8_arrives 0 = .ok (.aload_n 0, 1) := by decide +kernel
theorem dX8_arrives_1 : decode cX8_arrives 1 = .ok (.iload_n 1, 1) := by decide +kernel
theorem dX8_arrives_2 : decode cX8_arrives 2 = .ok (.iconst 3, 1) := by decide +kernel
theorem dX8_arrives_3 : decode cX8_arrives 3 = .ok (.invokevirtual 37, 3) := by decide +kernel
theorem dX8_arrives_6 : decode cX8_arrives 6 = .ok (.istore_n 2, 1) := by decide +kernel
theorem dX8_arrives_7 : decode cX8_arrives 7 = .ok (.aload_n 0, 1) := by decide +kernel
theorem dX8_arrives_8 : decode cX8_arrives 8 = .ok (.iload_n 1, 1) := by decide +kernel
theorem dX8_arrives_9 : decode cX8_arrives 9 = .ok (.bipush 8, 2) := by decide +kernel
theorem dX8_arrives_11 : decode cX8_arrives 11 = .ok (.invokevirtual 37, 3) := by decide +kernel
theorem dX8_arrives_14 : decode cX8_arrives 14 = .ok (.iconst 1, 1) := by decide +kernel
theorem dX8_arrives_15 : decode cX8_arrives 15 = .ok (.if_icmp .ne 17, 3) := by decide +kernel
theorem dX8_arrives_18 : decode cX8_arrives 18 = .ok (.aload_n 0, 1) := by decide +kernel
theorem dX8_arrives_19 : decode cX8_arrives 19 = .ok (.getfield 7, 3) := by decide +kernel
theorem dX8_arrives_22 : decode cX8_arrives 22 = .ok (.iconst 4, 1) := by decide +kernel
theorem dX8_arrives_23 : decode cX8_arrives 23 = .ok (.iload_n 2, 1) := by decide +kernel
theorem dX8_arrives_24 : decode cX8_arrives 24 = .ok (.iastore, 1) := by decide +kernel
theorem dX8_arrives_25 : decode cX8_arrives 25 = .ok (.aload_n 0, 1) := by decide +kernel
theorem dX8_arrives_26 : decode cX8_arrives 26 = .ok (.getfield 7, 3) := by decide +kernel
theorem dX8_arrives_29 : decode cX8_arrives 29 = .ok (.iconst 5, 1) := by decide +kernel
theorem dX8_arrives_30 : decode cX8_arrives 30 = .ok (.iconst 0, 1) := by decide +kernel
theorem dX8_arrives_31 : decode cX8_arrives 31 = .ok (.iastore, 1) := by decide +kernel
theorem dX8_arrives_32 : decode cX8_arrives 32 = .ok (.aload_n 0, 1) := by decide +kernel
theorem dX8_arrives_33 : decode cX8_arrives 33 = .ok (.iload_n 1, 1) := by decide +kernel
theorem dX8_arrives_34 : decode cX8_arrives 34 = .ok (.iconst 1, 1) := by decide +kernel
theorem dX8_arrives_35 : decode cX8_arrives 35 = .ok (.iload_n 2, 1) := by decide +kernel
theorem dX8_arrives_36 : decode cX8_arrives 36 = .ok (.invokevirtual 76, 3) := by decide +kernel
theorem dX8_arrives_39 : decode cX8_arrives 39 = .ok (.aload_n 0, 1) := by decide +kernel
theorem dX8_arrives_40 : decode cX8_arrives 40 = .ok (.iload_n 1, 1) := by decide +kernel
theorem dX8_arrives_41 : decode cX8_arrives 41 = .ok (.iconst 3, 1) := by decide +kernel
theorem dX8_arrives_42 : decode cX8_arrives 42 = .ok (.iconst (-1), 1) := by decide +kernel
theorem dX8_arrives_43 : decode cX8_arrives 43 = .ok (.invokevirtual 76, 3) := by decide +kernel
theorem dX8_arrives_46 : decode cX8_arrives 46 = .ok (.aload_n 0, 1) := by decide +kernel
theorem dX8_arrives_47 : decode cX8_arrives 47 = .ok (.iload_n 1, 1) := by decide +kernel
theorem dX8_arrives_48 : decode cX8_arrives 48 = .ok (.bipush 8, 2) := by decide +kernel
theorem dX8_arrives_50 : decode cX8_arrives 50 = .ok (.iconst 0, 1) := by decide +kernel
theorem dX8_arrives_51 : decode cX8_arrives 51 = .ok (.invokevirtual 76, 3) := by decide +kernel
theorem dX8_arrives_54 : decode cX8_arrives 54 = .ok (.aload_n 0, 1) := by decide +kernel
theorem dX8_arrives_55 : decode cX8_arrives 55 = .ok (.iload_n 1, 1) := by decide +kernel
theorem dX8_arrives_56 : decode cX8_arrives 56 = .ok (.iconst 2, 1) := by decide +kernel
theorem dX8_arrives_57 : decode cX8_arrives 57 = .ok (.iconst 0, 1) := by decide +kernel
theorem dX8_arrives_58 : decode cX8_arrives 58 = .ok (.invokevirtual 76, 3) := by decide +kernel
theorem dX8_arrives_61 : decode cX8_arrives 61 = .ok (.return_, 1) := by decide +kernel
theorem dX8_hasRigged_0 : decode cX8_hasRigged 0 = .ok (.aload_n 0, 1) := by decide +kernel
theorem dX8_hasRigged_1 : decode cX8_hasRigged 1 = .ok (.iload_n 1, 1) := by decide +kernel
theorem dX8_hasRigged_2 : decode cX8_hasRigged 2 = .ok (.iconst 1, 1) := by decide +kernel
theorem dX8_hasRigged_3 : decode cX8_hasRigged 3 = .ok (.invokevirtual 37, 3) := by decide +kernel
theorem dX8_hasRigged_6 : decode cX8_hasRigged 6 = .ok (.istore_n 2, 1) := by decide +kernel
theorem dX8_hasRigged_7 : decode cX8_hasRigged 7 = .ok (.aload_n 0, 1) := by decide +kernel
theorem dX8_hasRigged_8 : decode cX8_hasRigged 8 = .ok (.getfield 7, 3) := by decide +kernel
theorem dX8_hasRigged_11 : decode cX8_hasRigged 11 = .ok (.bipush 27, 2) := by decide +kernel
theorem dX8_hasRigged_13 : decode cX8_hasRigged 13 = .ok (.iload_n 2, 1) := by decide +kernel
theorem dX8_hasRigged_14 : decode cX8_hasRigged 14 = .ok (.iadd, 1) := by decide +kernel
theorem dX8_hasRigged_15 : decode cX8_hasRigged 15 = .ok (.aload_n 0, 1) := by decide +kernel
theorem dX8_hasRigged_16 : decode cX8_hasRigged 16 = .ok (.iload_n 1, 1) := by decide +kernel
theorem dX8_hasRigged_17 : decode cX8_hasRigged 17 = .ok (.iconst 5, 1) := by decide +kernel
theorem dX8_hasRigged_18 : decode cX8_hasRigged 18 = .ok (.invokevirtual 37, 3) := by decide +kernel
theorem dX8_hasRigged_21 : decode cX8_hasRigged 21 = .ok (.iastore, 1) := by decide +kernel
theorem dX8_hasRigged_22 : decode cX8_hasRigged 22 = .ok (.aload_n 0, 1) := by decide +kernel
theorem dX8_hasRigged_23 : decode cX8_hasRigged 23 = .ok (.iload_n 1, 1) := by decide +kernel
theorem dX8_hasRigged_24 : decode cX8_hasRigged 24 = .ok (.iconst 2, 1) := by decide +kernel
theorem dX8_hasRigged_25 : decode cX8_hasRigged 25 = .ok (.iload_n 2, 1) := by decide +kernel
theorem dX8_hasRigged_26 : decode cX8_hasRigged 26 = .ok (.invokevirtual 128, 3) := by decide +kernel
theorem dX8_hasRigged_29 : decode cX8_hasRigged 29 = .ok (.aload_n 0, 1) := by decide +kernel
theorem dX8_hasRigged_30 : decode cX8_hasRigged 30 = .ok (.iload_n 1, 1) := by decide +kernel
theorem dX8_hasRigged_31 : decode cX8_hasRigged 31 = .ok (.iconst 2, 1) := by decide +kernel
theorem dX8_hasRigged_32 : decode cX8_hasRigged 32 = .ok (.iconst 0, 1) := by decide +kernel
theorem dX8_hasRigged_33 : decode cX8_hasRigged 33 = .ok (.invokevirtual 76, 3) := by decide +kernel
theorem dX8_hasRigged_36 : decode cX8_hasRigged 36 = .ok (.return_, 1) := by decide +kernel
theorem dX8_minuteOf_0 : decode cX8_minuteOf 0 = .ok (.aload_n 0, 1) := by decide +kernel
theorem dX8_minuteOf_1 : decode cX8_minuteOf 1 = .ok (.iload_n 1, 1) := by decide +kernel
theorem dX8_minuteOf_2 : decode cX8_minuteOf 2 = .ok (.iconst 1, 1) := by decide +kernel
theorem dX8_minuteOf_3 : decode cX8_minuteOf 3 = .ok (.invokevirtual 37, 3) := by decide +kernel
theorem dX8_minuteOf_6 : decode cX8_minuteOf 6 = .ok (.istore_n 2, 1) := by decide +kernel
theorem dX8_minuteOf_7 : decode cX8_minuteOf 7 = .ok (.aload_n 0, 1) := by decide +kernel
theorem dX8_minuteOf_8 : decode cX8_minuteOf 8 = .ok (.iload_n 1, 1) := by decide +kernel
theorem dX8_minuteOf_9 : decode cX8_minuteOf 9 = .ok (.invokevirtual 81, 3) := by decide +kernel
theorem dX8_minuteOf_12 : decode cX8_minuteOf 12 = .ok (.ifCond .eq 11, 3) := by decide +kernel
theorem dX8_minuteOf_15 : decode cX8_minuteOf 15 = .ok (.iload_n 2, 1) := by decide +kernel
theorem dX8_minuteOf_16 : decode cX8_minuteOf 16 = .ok (.ifCond .ne 7, 3) := by decide +kernel
theorem dX8_minuteOf_19 : decode cX8_minuteOf 19 = .ok (.iconst 1, 1) := by decide +kernel
theorem dX8_minuteOf_20 : decode cX8_minuteOf 20 = .ok (.goto 4, 3) := by decide +kernel
theorem dX8_minuteOf_23 : decode cX8_minuteOf 23 = .ok (.iconst 0, 1) := by decide +kernel
theorem dX8_minuteOf_24 : decode cX8_minuteOf 24 = .ok (.istore_n 3, 1) := by decide +kernel
theorem dX8_minuteOf_25 : decode cX8_minuteOf 25 = .ok (.aload_n 0, 1) := by decide +kernel
theorem dX8_minuteOf_26 : decode cX8_minuteOf 26 = .ok (.iload_n 1, 1) := by decide +kernel
theorem dX8_minuteOf_27 : decode cX8_minuteOf 27 = .ok (.invokevirtual 81, 3) := by decide +kernel
theorem dX8_minuteOf_30 : decode cX8_minuteOf 30 = .ok (.ifCond .eq 36, 3) := by decide +kernel
theorem dX8_minuteOf_33 : decode cX8_minuteOf 33 = .ok (.iload_n 2, 1) := by decide +kernel
theorem dX8_minuteOf_34 : decode cX8_minuteOf 34 = .ok (.ifCond .le 32, 3) := by decide +kernel
theorem dX8_minuteOf_37 : decode cX8_minuteOf 37 = .ok (.aload_n 0, 1) := by decide +kernel
theorem dX8_minuteOf_38 : decode cX8_minuteOf 38 = .ok (.iload_n 1, 1) := by decide +kernel
theorem dX8_minuteOf_39 : decode cX8_minuteOf 39 = .ok (.iload_n 2, 1) := by decide +kernel
theorem dX8_minuteOf_40 : decode cX8_minuteOf 40 = .ok (.iconst 1, 1) := by decide +kernel
theorem dX8_minuteOf_41 : decode cX8_minuteOf 41 = .ok (.invokevirtual 88, 3) := by decide +kernel
theorem dX8_minuteOf_44 : decode cX8_minuteOf 44 = .ok (.ifCond .ne 22, 3) := by decide +kernel
theorem dX8_minuteOf_47 : decode cX8_minuteOf 47 = .ok (.aload_n 0, 1) := by decide +kernel
theorem dX8_minuteOf_48 : decode cX8_minuteOf 48 = .ok (.iload_n 1, 1) := by decide +kernel
theorem dX8_minuteOf_49 : decode cX8_minuteOf 49 = .ok (.iload_n 2, 1) := by decide +kernel
theorem dX8_minuteOf_50 : decode cX8_minuteOf 50 = .ok (.iconst 1, 1) := by decide +kernel
theorem dX8_minuteOf_51 : decode cX8_minuteOf 51 = .ok (.isub, 1) := by decide +kernel
theorem dX8_minuteOf_52 : decode cX8_minuteOf 52 = .ok (.invokevirtual 98, 3) := by decide +kernel
theorem dX8_minuteOf_55 : decode cX8_minuteOf 55 = .ok (.ifCond .ne 11, 3) := by decide +kernel
theorem dX8_minuteOf_58 : decode cX8_minuteOf 58 = .ok (.aload_n 0, 1) := by decide +kernel
theorem dX8_minuteOf_59 : decode cX8_minuteOf 59 = .ok (.iload_n 1, 1) := by decide +kernel
theorem dX8_minuteOf_60 : decode cX8_minuteOf 60 = .ok (.iload_n 2, 1) := by decide +kernel
theorem dX8_minuteOf_61 : decode cX8_minuteOf 61 = .ok (.iconst 1, 1) := by decide +kernel
theorem dX8_minuteOf_62 : decode cX8_minuteOf 62 = .ok (.isub, 1) := by decide +kernel
theorem dX8_minuteOf_63 : decode cX8_minuteOf 63 = .ok (.invokevirtual 101, 3) := by decide +kernel
theorem dX8_minuteOf_66 : decode cX8_minuteOf 66 = .ok (.aload_n 0, 1) := by decide +kernel
theorem dX8_minuteOf_67 : decode cX8_minuteOf 67 = .ok (.iload_n 1, 1) := by decide +kernel
theorem dX8_minuteOf_68 : decode cX8_minuteOf 68 = .ok (.iconst 2, 1) := by decide +kernel
theorem dX8_minuteOf_69 : decode cX8_minuteOf 69 = .ok (.invokevirtual 37, 3) := by decide +kernel
theorem dX8_minuteOf_72 : decode cX8_minuteOf 72 = .ok (.istore 4, 2) := by decide +kernel
theorem dX8_minuteOf_74 : decode cX8_minuteOf 74 = .ok (.iload 4, 2) := by decide +kernel
theorem dX8_minuteOf_76 : decode cX8_minuteOf 76 = .ok (.ifCond .eq 143, 3) := by decide +kernel
theorem dX8_minuteOf_79 : decode cX8_minuteOf 79 = .ok (.aload_n 0, 1) := by decide +kernel
theorem dX8_minuteOf_80 : decode cX8_minuteOf 80 = .ok (.iload_n 1, 1) := by decide +kernel
theorem dX8_minuteOf_81 : decode cX8_minuteOf 81 = .ok (.iconst 3, 1) := by decide +kernel
theorem dX8_minuteOf_82 : decode cX8_minuteOf 82 = .ok (.invokevirtual 37, 3) := by decide +kernel
theorem dX8_minuteOf_85 : decode cX8_minuteOf 85 = .ok (.iload_n 2, 1) := by decide +kernel
theorem dX8_minuteOf_86 : decode cX8_minuteOf 86 = .ok (.if_icmp .ge 7, 3) := by decide +kernel
theorem dX8_minuteOf_89 : decode cX8_minuteOf 89 = .ok (.iconst 1, 1) := by decide +kernel
theorem dX8_minuteOf_90 : decode cX8_minuteOf 90 = .ok (.goto 4, 3) := by decide +kernel
theorem dX8_minuteOf_93 : decode cX8_minuteOf 93 = .ok (.iconst 0, 1) := by decide +kernel
theorem dX8_minuteOf_94 : decode cX8_minuteOf 94 = .ok (.istore 5, 2) := by decide +kernel
theorem dX8_minuteOf_96 : decode cX8_minuteOf 96 = .ok (.aload_n 0, 1) := by decide +kernel
theorem dX8_minuteOf_97 : decode cX8_minuteOf 97 = .ok (.iload_n 1, 1) := by decide +kernel
theorem dX8_minuteOf_98 : decode cX8_minuteOf 98 = .ok (.bipush 8, 2) := by decide +kernel
theorem dX8_minuteOf_100 : decode cX8_minuteOf 100 = .ok (.invokevirtual 37, 3) := by decide +kernel
theorem dX8_minuteOf_103 : decode cX8_minuteOf 103 = .ok (.iconst 1, 1) := by decide +kernel
theorem dX8_minuteOf_104 : decode cX8_minuteOf 104 = .ok (.if_icmp .eq 22, 3) := by decide +kernel
theorem dX8_minuteOf_107 : decode cX8_minuteOf 107 = .ok (.iload 5, 2) := by decide +kernel
theorem dX8_minuteOf_109 : decode cX8_minuteOf 109 = .ok (.ifCond .eq 21, 3) := by decide +kernel
theorem dX8_minuteOf_112 : decode cX8_minuteOf 112 = .ok (.aload_n 0, 1) := by decide +kernel
theorem dX8_minuteOf_113 : decode cX8_minuteOf 113 = .ok (.getfield 7, 3) := by decide +kernel
theorem dX8_minuteOf_116 : decode cX8_minuteOf 116 = .ok (.bipush 13, 2) := by decide +kernel
theorem dX8_minuteOf_118 : decode cX8_minuteOf 118 = .ok (.iload_n 2, 1) := by decide +kernel
theorem dX8_minuteOf_119 : decode cX8_minuteOf 119 = .ok (.iadd, 1) := by decide +kernel
theorem dX8_minuteOf_120 : decode cX8_minuteOf 120 = .ok (.iconst 1, 1) := by decide +kernel
theorem dX8_minuteOf_121 : decode cX8_minuteOf 121 = .ok (.isub, 1) := by decide +kernel
theorem dX8_minuteOf_122 : decode cX8_minuteOf 122 = .ok (.iaload, 1) := by decide +kernel
theorem dX8_minuteOf_123 : decode cX8_minuteOf 123 = .ok (.ifCond .le 7, 3) := by decide +kernel
theorem dX8_minuteOf_126 : decode cX8_minuteOf 126 = .ok (.iconst 1, 1) := by decide +kernel
theorem dX8_minuteOf_127 : decode cX8_minuteOf 127 = .ok (.goto 4, 3) := by decide +kernel
theorem dX8_minuteOf_130 : decode cX8_minuteOf 130 = .ok (.iconst 0, 1) := by decide +kernel
theorem dX8_minuteOf_131 : decode cX8_minuteOf 131 = .ok (.istore 6, 2) := by decide +kernel
theorem dX8_minuteOf_133 : decode cX8_minuteOf 133 = .ok (.aload_n 0, 1) := by decide +kernel
theorem dX8_minuteOf_134 : decode cX8_minuteOf 134 = .ok (.iload_n 1, 1) := by decide +kernel
theorem dX8_minuteOf_135 : decode cX8_minuteOf 135 = .ok (.iconst 4, 1) := by decide +kernel
theorem dX8_minuteOf_136 : decode cX8_minuteOf 136 = .ok (.aload_n 0, 1) := by decide +kernel
theorem dX8_minuteOf_137 : decode cX8_minuteOf 137 = .ok (.iload_n 1, 1) := by decide +kernel
theorem dX8_minuteOf_138 : decode cX8_minuteOf 138 = .ok (.iconst 4, 1) := by decide +kernel
theorem dX8_minuteOf_139 : decode cX8_minuteOf 139 = .ok (.invokevirtual 37, 3) := by decide +kernel
theorem dX8_minuteOf_142 : decode cX8_minuteOf 142 = .ok (.iconst 1, 1) := by decide +kernel
theorem dX8_minuteOf_143 : decode cX8_minuteOf 143 = .ok (.isub, 1) := by decide +kernel
theorem dX8_minuteOf_144 : decode cX8_minuteOf 144 = .ok (.invokevirtual 76, 3) := by decide +kernel
theorem dX8_minuteOf_147 : decode cX8_minuteOf 147 = .ok (.aload_n 0, 1) := by decide +kernel
theorem dX8_minuteOf_148 : decode cX8_minuteOf 148 = .ok (.iload_n 1, 1) := by decide +kernel
theorem dX8_minuteOf_149 : decode cX8_minuteOf 149 = .ok (.bipush 6, 2) := by decide +kernel
theorem dX8_minuteOf_151 : decode cX8_minuteOf 151 = .ok (.aload_n 0, 1) := by decide +kernel
theorem dX8_minuteOf_152 : decode cX8_minuteOf 152 = .ok (.iload_n 1, 1) := by decide +kernel
theorem dX8_minuteOf_153 : decode cX8_minuteOf 153 = .ok (.bipush 6, 2) := by decide +kernel
theorem dX8_minuteOf_155 : decode cX8_minuteOf 155 = .ok (.invokevirtual 37, 3) := by decide +kernel
theorem dX8_minuteOf_158 : decode cX8_minuteOf 158 = .ok (.iload 4, 2) := by decide +kernel
theorem dX8_minuteOf_160 : decode cX8_minuteOf 160 = .ok (.iconst 2, 1) := by decide +kernel
theorem dX8_minuteOf_161 : decode cX8_minuteOf 161 = .ok (.if_icmp .ne 7, 3) := by decide +kernel
theorem dX8_minuteOf_164 : decode cX8_minuteOf 164 = .ok (.iconst 0, 1) := by decide +kernel
theorem dX8_minuteOf_165 : decode cX8_minuteOf 165 = .ok (.goto 13, 3) := by decide +kernel
theorem dX8_minuteOf_168 : decode cX8_minuteOf 168 = .ok (.iload 6, 2) := by decide +kernel
theorem dX8_minuteOf_170 : decode cX8_minuteOf 170 = .ok (.ifCond .eq 7, 3) := by decide +kernel
theorem dX8_minuteOf_173 : decode cX8_minuteOf 173 = .ok (.iconst 2, 1) := by decide +kernel
theorem dX8_minuteOf_174 : decode cX8_minuteOf 174 = .ok (.goto 4, 3) := by decide +kernel
theorem dX8_minuteOf_177 : decode cX8_minuteOf 177 = .ok (.iconst 1, 1) := by decide +kernel
theorem dX8_minuteOf_178 : decode cX8_minuteOf 178 = .ok (.iadd, 1) := by decide +kernel
theorem dX8_minuteOf_179 : decode cX8_minuteOf 179 = .ok (.invokevirtual 76, 3) := by decide +kernel
theorem dX8_minuteOf_182 : decode cX8_minuteOf 182 = .ok (.aload_n 0, 1) := by decide +kernel
theorem dX8_minuteOf_183 : decode cX8_minuteOf 183 = .ok (.iload_n 1, 1) := by decide +kernel
theorem dX8_minuteOf_184 : decode cX8_minuteOf 184 = .ok (.iconst 4, 1) := by decide +kernel
theorem dX8_minuteOf_185 : decode cX8_minuteOf 185 = .ok (.invokevirtual 37, 3) := by decide +kernel
theorem dX8_minuteOf_188 : decode cX8_minuteOf 188 = .ok (.ifCond .ne 17, 3) := by decide +kernel
theorem dX8_minuteOf_191 : decode cX8_minuteOf 191 = .ok (.iload 4, 2) := by decide +kernel
theorem dX8_minuteOf_193 : decode cX8_minuteOf 193 = .ok (.iconst 1, 1) := by decide +kernel
theorem dX8_minuteOf_194 : decode cX8_minuteOf 194 = .ok (.if_icmp .ne 11, 3) := by decide +kernel
theorem dX8_minuteOf_197 : decode cX8_minuteOf 197 = .ok (.aload_n 0, 1) := by decide +kernel
theorem dX8_minuteOf_198 : decode cX8_minuteOf 198 = .ok (.iload_n 1, 1) := by decide +kernel
theorem dX8_minuteOf_199 : decode cX8_minuteOf 199 = .ok (.invokevirtual 131, 3) := by decide +kernel
theorem dX8_minuteOf_202 : decode cX8_minuteOf 202 = .ok (.goto 17, 3) := by decide +kernel
theorem dX8_minuteOf_205 : decode cX8_minuteOf 205 = .ok (.aload_n 0, 1) := by decide +kernel
theorem dX8_minuteOf_206 : decode cX8_minuteOf 206 = .ok (.iload_n 1, 1) := by decide +kernel
theorem dX8_minuteOf_207 : decode cX8_minuteOf 207 = .ok (.iconst 4, 1) := by decide +kernel
theorem dX8_minuteOf_208 : decode cX8_minuteOf 208 = .ok (.invokevirtual 37, 3) := by decide +kernel
theorem dX8_minuteOf_211 : decode cX8_minuteOf 211 = .ok (.ifCond .ne 8, 3) := by decide +kernel
theorem dX8_minuteOf_214 : decode cX8_minuteOf 214 = .ok (.aload_n 0, 1) := by decide +kernel
theorem dX8_minuteOf_215 : decode cX8_minuteOf 215 = .ok (.iload_n 1, 1) := by decide +kernel
theorem dX8_minuteOf_216 : decode cX8_minuteOf 216 = .ok (.invokevirtual 134, 3) := by decide +kernel
theorem dX8_minuteOf_219 : decode cX8_minuteOf 219 = .ok (.iload_n 3, 1) := by decide +kernel
theorem dX8_minuteOf_220 : decode cX8_minuteOf 220 = .ok (.ifCond .eq 29, 3) := by decide +kernel
theorem dX8_minuteOf_223 : decode cX8_minuteOf 223 = .ok (.aload_n 0, 1) := by decide +kernel
theorem dX8_minuteOf_224 : decode cX8_minuteOf 224 = .ok (.iload_n 1, 1) := by decide +kernel
theorem dX8_minuteOf_225 : decode cX8_minuteOf 225 = .ok (.bipush 6, 2) := by decide +kernel
theorem dX8_minuteOf_227 : decode cX8_minuteOf 227 = .ok (.invokevirtual 37, 3) := by decide +kernel
theorem dX8_minuteOf_230 : decode cX8_minuteOf 230 = .ok (.ifCond .le 19, 3) := by decide +kernel
theorem dX8_minuteOf_233 : decode cX8_minuteOf 233 = .ok (.aload_n 0, 1) := by decide +kernel
theorem dX8_minuteOf_234 : decode cX8_minuteOf 234 = .ok (.iload_n 1, 1) := by decide +kernel
theorem dX8_minuteOf_235 : decode cX8_minuteOf 235 = .ok (.bipush 6, 2) := by decide +kernel
theorem dX8_minuteOf_237 : decode cX8_minuteOf 237 = .ok (.aload_n 0, 1) := by decide +kernel
theorem dX8_minuteOf_238 : decode cX8_minuteOf 238 = .ok (.iload_n 1, 1) := by decide +kernel
theorem dX8_minuteOf_239 : decode cX8_minuteOf 239 = .ok (.bipush 6, 2) := by decide +kernel
theorem dX8_minuteOf_241 : decode cX8_minuteOf 241 = .ok (.invokevirtual 37, 3) := by decide +kernel
theorem dX8_minuteOf_244 : decode cX8_minuteOf 244 = .ok (.iconst 1, 1) := by decide +kernel
theorem dX8_minuteOf_245 : decode cX8_minuteOf 245 = .ok (.isub, 1) := by decide +kernel
theorem dX8_minuteOf_246 : decode cX8_minuteOf 246 = .ok (.invokevirtual 76, 3) := by decide +kernel
theorem dX8_minuteOf_249 : decode cX8_minuteOf 249 = .ok (.aload_n 0, 1) := by decide +kernel
theorem dX8_minuteOf_250 : decode cX8_minuteOf 250 = .ok (.iload_n 1, 1) := by decide +kernel
theorem dX8_minuteOf_251 : decode cX8_minuteOf 251 = .ok (.bipush 7, 2) := by decide +kernel
theorem dX8_minuteOf_253 : decode cX8_minuteOf 253 = .ok (.aload_n 0, 1) := by decide +kernel
theorem dX8_minuteOf_254 : decode cX8_minuteOf 254 = .ok (.iload_n 1, 1) := by decide +kernel
theorem dX8_minuteOf_255 : decode cX8_minuteOf 255 = .ok (.invokevirtual 48, 3) := by decide +kernel
theorem dX8_minuteOf_258 : decode cX8_minuteOf 258 = .ok (.ifCond .eq 15, 3) := by decide +kernel
theorem dX8_minuteOf_261 : decode cX8_minuteOf 261 = .ok (.aload_n 0, 1) := by decide +kernel
theorem dX8_minuteOf_262 : decode cX8_minuteOf 262 = .ok (.iload_n 1, 1) := by decide +kernel
theorem dX8_minuteOf_263 : decode cX8_minuteOf 263 = .ok (.bipush 7, 2) := by decide +kernel
theorem dX8_minuteOf_265 : decode cX8_minuteOf 265 = .ok (.invokevirtual 37, 3) := by decide +kernel
theorem dX8_minuteOf_268 : decode cX8_minuteOf 268 = .ok (.iconst 1, 1) := by decide +kernel
theorem dX8_minuteOf_269 : decode cX8_minuteOf 269 = .ok (.iadd, 1) := by decide +kernel
theorem dX8_minuteOf_270 : decode cX8_minuteOf 270 = .ok (.goto 4, 3) := by decide +kernel
theorem dX8_minuteOf_273 : decode cX8_minuteOf 273 = .ok (.iconst 0, 1) := by decide +kernel
theorem dX8_minuteOf_274 : decode cX8_minuteOf 274 = .ok (.invokevirtual 76, 3) := by decide +kernel
theorem dX8_minuteOf_277 : decode cX8_minuteOf 277 = .ok (.aload_n 0, 1) := by decide +kernel
theorem dX8_minuteOf_278 : decode cX8_minuteOf 278 = .ok (.getfield 7, 3) := by decide +kernel
theorem dX8_minuteOf_281 : decode cX8_minuteOf 281 = .ok (.bipush 11, 2) := by decide +kernel
theorem dX8_minuteOf_283 : decode cX8_minuteOf 283 = .ok (.dup2, 1) := by decide +kernel
theorem dX8_minuteOf_284 : decode cX8_minuteOf 284 = .ok (.iaload, 1) := by decide +kernel
theorem dX8_minuteOf_285 : decode cX8_minuteOf 285 = .ok (.aload_n 0, 1) := by decide +kernel
theorem dX8_minuteOf_286 : decode cX8_minuteOf 286 = .ok (.iload_n 1, 1) := by decide +kernel
theorem dX8_minuteOf_287 : decode cX8_minuteOf 287 = .ok (.bipush 7, 2) := by decide +kernel
theorem dX8_minuteOf_289 : decode cX8_minuteOf 289 = .ok (.invokevirtual 37, 3) := by decide +kernel
theorem dX8_minuteOf_292 : decode cX8_minuteOf 292 = .ok (.aload_n 0, 1) := by decide +kernel
theorem dX8_minuteOf_293 : decode cX8_minuteOf 293 = .ok (.iload_n 1, 1) := by decide +kernel
theorem dX8_minuteOf_294 : decode cX8_minuteOf 294 = .ok (.iconst 0, 1) := by decide +kernel
theorem dX8_minuteOf_295 : decode cX8_minuteOf 295 = .ok (.invokevirtual 37, 3) := by decide +kernel
theorem dX8_minuteOf_298 : decode cX8_minuteOf 298 = .ok (.if_icmp .le 7, 3) := by decide +kernel
theorem dX8_minuteOf_301 : decode cX8_minuteOf 301 = .ok (.iconst 1, 1) := by decide +kernel
theorem dX8_minuteOf_302 : decode cX8_minuteOf 302 = .ok (.goto 4, 3) := by decide +kernel
theorem dX8_minuteOf_305 : decode cX8_minuteOf 305 = .ok (.iconst 0, 1) := by decide +kernel
theorem dX8_minuteOf_306 : decode cX8_minuteOf 306 = .ok (.iadd, 1) := by decide +kernel
theorem dX8_minuteOf_307 : decode cX8_minuteOf 307 = .ok (.iastore, 1) := by decide +kernel
theorem dX8_minuteOf_308 : decode cX8_minuteOf 308 = .ok (.return_, 1) := by decide +kernel
theorem dX8_minute_0 : decode cX8_minute 0 = .ok (.iconst 0, 1) := by decide +kernel
theorem dX8_minute_1 : decode cX8_minute 1 = .ok (.istore_n 1, 1) := by decide +kernel
theorem dX8_minute_2 : decode cX8_minute 2 = .ok (.iload_n 1, 1) := by decide +kernel
theorem dX8_minute_3 : decode cX8_minute 3 = .ok (.aload_n 0, 1) := by decide +kernel
theorem dX8_minute_4 : decode cX8_minute 4 = .ok (.getfield 7, 3) := by decide +kernel
theorem dX8_minute_7 : decode cX8_minute 7 = .ok (.iconst 2, 1) := by decide +kernel
theorem dX8_minute_8 : decode cX8_minute 8 = .ok (.iaload, 1) := by decide +kernel
theorem dX8_minute_9 : decode cX8_minute 9 = .ok (.if_icmp .ge 14, 3) := by decide +kernel
theorem dX8_minute_12 : decode cX8_minute 12 = .ok (.aload_n 0, 1) := by decide +kernel
theorem dX8_minute_13 : decode cX8_minute 13 = .ok (.iload_n 1, 1) := by decide +kernel
theorem dX8_minute_14 : decode cX8_minute 14 = .ok (.invokevirtual 137, 3) := by decide +kernel
theorem dX8_minute_17 : decode cX8_minute 17 = .ok (.iinc 1 1, 3) := by decide +kernel
theorem dX8_minute_20 : decode cX8_minute 20 = .ok (.goto (-18), 3) := by decide +kernel
theorem dX8_minute_23 : decode cX8_minute 23 = .ok (.iconst 0, 1) := by decide +kernel
theorem dX8_minute_24 : decode cX8_minute 24 = .ok (.istore_n 1, 1) := by decide +kernel
theorem dX8_minute_25 : decode cX8_minute 25 = .ok (.aload_n 0, 1) := by decide +kernel
theorem dX8_minute_26 : decode cX8_minute 26 = .ok (.getfield 7, 3) := by decide +kernel
theorem dX8_minute_29 : decode cX8_minute 29 = .ok (.iconst 3, 1) := by decide +kernel
theorem dX8_minute_30 : decode cX8_minute 30 = .ok (.iaload, 1) := by decide +kernel
theorem dX8_minute_31 : decode cX8_minute 31 = .ok (.aload_n 0, 1) := by decide +kernel
theorem dX8_minute_32 : decode cX8_minute 32 = .ok (.getfield 7, 3) := by decide +kernel
theorem dX8_minute_35 : decode cX8_minute 35 = .ok (.bipush 9, 2) := by decide +kernel
theorem dX8_minute_37 : decode cX8_minute 37 = .ok (.iaload, 1) := by decide +kernel
theorem dX8_minute_38 : decode cX8_minute 38 = .ok (.aload_n 0, 1) := by decide +kernel
theorem dX8_minute_39 : decode cX8_minute 39 = .ok (.getfield 7, 3) := by decide +kernel
theorem dX8_minute_42 : decode cX8_minute 42 = .ok (.bipush 10, 2) := by decide +kernel
theorem dX8_minute_44 : decode cX8_minute 44 = .ok (.iaload, 1) := by decide +kernel
theorem dX8_minute_45 : decode cX8_minute 45 = .ok (.iconst 1, 1) := by decide +kernel
theorem dX8_minute_46 : decode cX8_minute 46 = .ok (.isub, 1) := by decide +kernel
theorem dX8_minute_47 : decode cX8_minute 47 = .ok (.invokestatic 54, 3) := by decide +kernel
theorem dX8_minute_50 : decode cX8_minute 50 = .ok (.istore_n 2, 1) := by decide +kernel
theorem dX8_minute_51 : decode cX8_minute 51 = .ok (.aload_n 0, 1) := by decide +kernel
theorem dX8_minute_52 : decode cX8_minute 52 = .ok (.getfield 7, 3) := by decide +kernel
theorem dX8_minute_55 : decode cX8_minute 55 = .ok (.bipush 6, 2) := by decide +kernel
theorem dX8_minute_57 : decode cX8_minute 57 = .ok (.iaload, 1) := by decide +kernel
theorem dX8_minute_58 : decode cX8_minute 58 = .ok (.istore_n 3, 1) := by decide +kernel
theorem dX8_minute_59 : decode cX8_minute 59 = .ok (.iconst 0, 1) := by decide +kernel
theorem dX8_minute_60 : decode cX8_minute 60 = .ok (.istore 4, 2) := by decide +kernel
theorem dX8_minute_62 : decode cX8_minute 62 = .ok (.iconst 0, 1) := by decide +kernel
theorem dX8_minute_63 : decode cX8_minute 63 = .ok (.istore 5, 2) := by decide +kernel
theorem dX8_minute_65 : decode cX8_minute 65 = .ok (.iload 5, 2) := by decide +kernel
theorem dX8_minute_67 : decode cX8_minute 67 = .ok (.iload_n 3, 1) := by decide +kernel
theorem dX8_minute_68 : decode cX8_minute 68 = .ok (.if_icmp .ge 96, 3) := by decide +kernel
theorem dX8_minute_71 : decode cX8_minute 71 = .ok (.iload_n 2, 1) := by decide +kernel
theorem dX8_minute_72 : decode cX8_minute 72 = .ok (.ifCond .ne 92, 3) := by decide +kernel
theorem dX8_minute_75 : decode cX8_minute 75 = .ok (.bipush 112, 2) := by decide +kernel
theorem dX8_minute_77 : decode cX8_minute 77 = .ok (.iconst 3, 1) := by decide +kernel
theorem dX8_minute_78 : decode cX8_minute 78 = .ok (.iload 5, 2) := by decide +kernel
theorem dX8_minute_80 : decode cX8_minute 80 = .ok (.imul, 1) := by decide +kernel
theorem dX8_minute_81 : decode cX8_minute 81 = .ok (.iadd, 1) := by decide +kernel
theorem dX8_minute_82 : decode cX8_minute 82 = .ok (.istore 6, 2) := by decide +kernel
theorem dX8_minute_84 : decode cX8_minute 84 = .ok (.aload_n 0, 1) := by decide +kernel
theorem dX8_minute_85 : decode cX8_minute 85 = .ok (.getfield 7, 3) := by decide +kernel
theorem dX8_minute_88 : decode cX8_minute 88 = .ok (.iload 6, 2) := by decide +kernel
theorem dX8_minute_90 : decode cX8_minute 90 = .ok (.iconst 2, 1) := by decide +kernel
theorem dX8_minute_91 : decode cX8_minute 91 = .ok (.iadd, 1) := by decide +kernel
theorem dX8_minute_92 : decode cX8_minute 92 = .ok (.dup2, 1) := by decide +kernel
theorem dX8_minute_93 : decode cX8_minute 93 = .ok (.iaload, 1) := by decide +kernel
theorem dX8_minute_94 : decode cX8_minute 94 = .ok (.iconst 1, 1) := by decide +kernel
theorem dX8_minute_95 : decode cX8_minute 95 = .ok (.isub, 1) := by decide +kernel
theorem dX8_minute_96 : decode cX8_minute 96 = .ok (.iastore, 1) := by decide +kernel
theorem dX8_minute_97 : decode cX8_minute 97 = .ok (.aload_n 0, 1) := by decide +kernel
theorem dX8_minute_98 : decode cX8_minute 98 = .ok (.getfield 7, 3) := by decide +kernel
theorem dX8_minute_101 : decode cX8_minute 101 = .ok (.iload 6, 2) := by decide +kernel
theorem dX8_minute_103 : decode cX8_minute 103 = .ok (.iconst 2, 1) := by decide +kernel
theorem dX8_minute_104 : decode cX8_minute 104 = .ok (.iadd, 1) := by decide +kernel
theorem dX8_minute_105 : decode cX8_minute 105 = .ok (.iaload, 1) := by decide +kernel
theorem dX8_minute_106 : decode cX8_minute 106 = .ok (.ifCond .ne 9, 3) := by decide +kernel
theorem dX8_minute_109 : decode cX8_minute 109 = .ok (.iinc 1 1, 3) := by decide +kernel
theorem dX8_minute_112 : decode cX8_minute 112 = .ok (.goto 46, 3) := by decide +kernel
theorem dX8_minute_115 : decode cX8_minute 115 = .ok (.iconst 0, 1) := by decide +kernel
theorem dX8_minute_116 : decode cX8_minute 116 = .ok (.istore 7, 2) := by decide +kernel
theorem dX8_minute_118 : decode cX8_minute 118 = .ok (.iload 7, 2) := by decide +kernel
theorem dX8_minute_120 : decode cX8_minute 120 = .ok (.iconst 3, 1) := by decide +kernel
theorem dX8_minute_121 : decode cX8_minute 121 = .ok (.if_icmp .ge 34, 3) := by decide +kernel
theorem dX8_minute_124 : decode cX8_minute 124 = .ok (.aload_n 0, 1) := by decide +kernel
theorem dX8_minute_125 : decode cX8_minute 125 = .ok (.getfield 7, 3) := by decide +kernel
theorem dX8_minute_128 : decode cX8_minute 128 = .ok (.bipush 112, 2) := by decide +kernel
theorem dX8_minute_130 : decode cX8_minute 130 = .ok (.iconst 3, 1) := by decide +kernel
theorem dX8_minute_131 : decode cX8_minute 131 = .ok (.iload 4, 2) := by decide +kernel
theorem dX8_minute_133 : decode cX8_minute 133 = .ok (.imul, 1) := by decide +kernel
theorem dX8_minute_134 : decode cX8_minute 134 = .ok (.iadd, 1) := by decide +kernel
theorem dX8_minute_135 : decode cX8_minute 135 = .ok (.iload 7, 2) := by decide +kernel
theorem dX8_minute_137 : decode cX8_minute 137 = .ok (.iadd, 1) := by decide +kernel
theorem dX8_minute_138 : decode cX8_minute 138 = .ok (.aload_n 0, 1) := by decide +kernel
theorem dX8_minute_139 : decode cX8_minute 139 = .ok (.getfield 7, 3) := by decide +kernel
theorem dX8_minute_142 : decode cX8_minute 142 = .ok (.iload 6, 2) := by decide +kernel
theorem dX8_minute_144 : decode cX8_minute 144 = .ok (.iload 7, 2) := by decide +kernel
theorem dX8_minute_146 : decode cX8_minute 146 = .ok (.iadd, 1) := by decide +kernel
theorem dX8_minute_147 : decode cX8_minute 147 = .ok (.iaload, 1) := by decide +kernel
theorem dX8_minute_148 : decode cX8_minute 148 = .ok (.iastore, 1) := by decide +kernel
theorem dX8_minute_149 : decode cX8_minute 149 = .ok (.iinc 7 1, 3) := by decide +kernel
theorem dX8_minute_152 : decode cX8_minute 152 = .ok (.goto (-34), 3) := by decide +kernel
theorem dX8_minute_155 : decode cX8_minute 155 = .ok (.iinc 4 1, 3) := by decide +kernel
theorem dX8_minute_158 : decode cX8_minute 158 = .ok (.iinc 5 1, 3) := by decide +kernel
theorem dX8_minute_161 : decode cX8_minute 161 = .ok (.goto (-96), 3) := by decide +kernel
theorem dX8_minute_164 : decode cX8_minute 164 = .ok (.aload_n 0, 1) := by decide +kernel
theorem dX8_minute_165 : decode cX8_minute 165 = .ok (.getfield 7, 3) := by decide +kernel
theorem dX8_minute_168 : decode cX8_minute 168 = .ok (.bipush 6, 2) := by decide +kernel
theorem dX8_minute_170 : decode cX8_minute 170 = .ok (.iload_n 2, 1) := by decide +kernel
theorem dX8_minute_171 : decode cX8_minute 171 = .ok (.ifCond .eq 7, 3) := by decide +kernel
theorem dX8_minute_174 : decode cX8_minute 174 = .ok (.iload_n 3, 1) := by decide +kernel
theorem dX8_minute_175 : decode cX8_minute 175 = .ok (.goto 5, 3) := by decide +kernel
theorem dX8_minute_178 : decode cX8_minute 178 = .ok (.iload 4, 2) := by decide +kernel
theorem dX8_minute_180 : decode cX8_minute 180 = .ok (.iastore, 1) := by decide +kernel
theorem dX8_minute_181 : decode cX8_minute 181 = .ok (.aload_n 0, 1) := by decide +kernel
theorem dX8_minute_182 : decode cX8_minute 182 = .ok (.getfield 7, 3) := by decide +kernel
theorem dX8_minute_185 : decode cX8_minute 185 = .ok (.bipush 7, 2) := by decide +kernel
theorem dX8_minute_187 : decode cX8_minute 187 = .ok (.dup2, 1) := by decide +kernel
theorem dX8_minute_188 : decode cX8_minute 188 = .ok (.iaload, 1) := by decide +kernel
theorem dX8_minute_189 : decode cX8_minute 189 = .ok (.iload_n 1, 1) := by decide +kernel
theorem dX8_minute_190 : decode cX8_minute 190 = .ok (.iadd, 1) := by decide +kernel
theorem dX8_minute_191 : decode cX8_minute 191 = .ok (.iastore, 1) := by decide +kernel
theorem dX8_minute_192 : decode cX8_minute 192 = .ok (.aload_n 0, 1) := by decide +kernel
theorem dX8_minute_193 : decode cX8_minute 193 = .ok (.getfield 7, 3) := by decide +kernel
theorem dX8_minute_196 : decode cX8_minute 196 = .ok (.iconst 3, 1) := by decide +kernel
theorem dX8_minute_197 : decode cX8_minute 197 = .ok (.dup2, 1) := by decide +kernel
theorem dX8_minute_198 : decode cX8_minute 198 = .ok (.iaload, 1) := by decide +kernel
theorem dX8_minute_199 : decode cX8_minute 199 = .ok (.iconst 1, 1) := by decide +kernel
theorem dX8_minute_200 : decode cX8_minute 200 = .ok (.iadd, 1) := by decide +kernel
theorem dX8_minute_201 : decode cX8_minute 201 = .ok (.iastore, 1) := by decide +kernel
theorem dX8_minute_202 : decode cX8_minute 202 = .ok (.iload_n 1, 1) := by decide +kernel
theorem dX8_minute_203 : decode cX8_minute 203 = .ok (.ireturn, 1) := by decide +kernel
theorem dX8_passes_0 : decode cX8_passes 0 = .ok (.iload_n 1, 1) := by decide +kernel
theorem dX8_passes_1 : decode cX8_passes 1 = .ok (.iconst 1, 1) := by decide +kernel
theorem dX8_passes_2 : decode cX8_passes 2 = .ok (.sipush 600, 3) := by decide +kernel
theorem dX8_passes_5 : decode cX8_passes 5 = .ok (.invokestatic 54, 3) := by decide +kernel
theorem dX8_passes_8 : decode cX8_passes 8 = .ok (.ifCond .ne 5, 3) := by decide +kernel
theorem dX8_passes_11 : decode cX8_passes 11 = .ok (.iconst 1, 1) := by decide +kernel
theorem dX8_passes_12 : decode cX8_passes 12 = .ok (.ireturn, 1) := by decide +kernel
theorem dX8_passes_13 : decode cX8_passes 13 = .ok (.aload_n 0, 1) := by decide +kernel
theorem dX8_passes_14 : decode cX8_passes 14 = .ok (.getfield 7, 3) := by decide +kernel
theorem dX8_passes_17 : decode cX8_passes 17 = .ok (.iconst 3, 1) := by decide +kernel
theorem dX8_passes_18 : decode cX8_passes 18 = .ok (.iaload, 1) := by decide +kernel
theorem dX8_passes_19 : decode cX8_passes 19 = .ok (.iload_n 1, 1) := by decide +kernel
theorem dX8_passes_20 : decode cX8_passes 20 = .ok (.iadd, 1) := by decide +kernel
theorem dX8_passes_21 : decode cX8_passes 21 = .ok (.ldc 80, 2) := by decide +kernel
theorem dX8_passes_23 : decode cX8_passes 23 = .ok (.if_icmp .le 5, 3) := by decide +kernel
theorem dX8_passes_26 : decode cX8_passes 26 = .ok (.iconst 2, 1) := by decide +kernel
theorem dX8_passes_27 : decode cX8_passes 27 = .ok (.ireturn, 1) := by decide +kernel
theorem dX8_passes_28 : decode cX8_passes 28 = .ok (.aload_n 0, 1) := by decide +kernel
theorem dX8_passes_29 : decode cX8_passes 29 = .ok (.iconst 0, 1) := by decide +kernel
theorem dX8_passes_30 : decode cX8_passes 30 = .ok (.putfield 105, 3) := by decide +kernel
theorem dX8_passes_33 : decode cX8_passes 33 = .ok (.iconst 0, 1) := by decide +kernel
theorem dX8_passes_34 : decode cX8_passes 34 = .ok (.istore_n 2, 1) := by decide +kernel
theorem dX8_passes_35 : decode cX8_passes 35 = .ok (.iload_n 2, 1) := by decide +kernel
theorem dX8_passes_36 : decode cX8_passes 36 = .ok (.iload_n 1, 1) := by decide +kernel
theorem dX8_passes_37 : decode cX8_passes 37 = .ok (.if_icmp .ge 22, 3) := by decide +kernel
theorem dX8_passes_40 : decode cX8_passes 40 = .ok (.aload_n 0, 1) := by decide +kernel
theorem dX8_passes_41 : decode cX8_passes 41 = .ok (.dup, 1) := by decide +kernel
theorem dX8_passes_42 : decode cX8_passes 42 = .ok (.getfield 105, 3) := by decide +kernel
theorem dX8_passes_45 : decode cX8_passes 45 = .ok (.aload_n 0, 1) := by decide +kernel
theorem dX8_passes_46 : decode cX8_passes 46 = .ok (.invokevirtual 140, 3) := by decide +kernel
theorem dX8_passes_49 : decode cX8_passes 49 = .ok (.iadd, 1) := by decide +kernel
theorem dX8_passes_50 : decode cX8_passes 50 = .ok (.putfield 105, 3) := by decide +kernel
theorem dX8_passes_53 : decode cX8_passes 53 = .ok (.iinc 2 1, 3) := by decide +kernel
theorem dX8_passes_56 : decode cX8_passes 56 = .ok (.goto (-21), 3) := by decide +kernel
theorem dX8_passes_59 : decode cX8_passes 59 = .ok (.iconst 0, 1) := by decide +kernel
theorem dX8_passes_60 : decode cX8_passes 60 = .ok (.ireturn, 1) := by decide +kernel
theorem dX8_done_0 : decode cX8_done 0 = .ok (.iload_n 1, 1) := by decide +kernel
theorem dX8_done_1 : decode cX8_done 1 = .ok (.ifCond .le 11, 3) := by decide +kernel
theorem dX8_done_4 : decode cX8_done 4 = .ok (.aload_n 0, 1) := by decide +kernel
theorem dX8_done_5 : decode cX8_done 5 = .ok (.iload_n 1, 1) := by decide +kernel
theorem dX8_done_6 : decode cX8_done 6 = .ok (.invokevirtual 58, 3) := by decide +kernel
theorem dX8_done_9 : decode cX8_done 9 = .ok (.goto 11, 3) := by decide +kernel
theorem dX8_done_12 : decode cX8_done 12 = .ok (.aload_n 0, 1) := by decide +kernel
theorem dX8_done_13 : decode cX8_done 13 = .ok (.aload_n 0, 1) := by decide +kernel
theorem dX8_done_14 : decode cX8_done 14 = .ok (.getfield 105, 3) := by decide +kernel
theorem dX8_done_17 : decode cX8_done 17 = .ok (.invokevirtual 64, 3) := by decide +kernel
theorem dX8_done_20 : decode cX8_done 20 = .ok (.ireturn, 1) := by decide +kernel
theorem dX8_go_0 : decode cX8_go 0 = .ok (.aload_n 0, 1) := by decide +kernel
theorem dX8_go_1 : decode cX8_go 1 = .ok (.invokevirtual 61, 3) := by decide +kernel
theorem dX8_go_4 : decode cX8_go 4 = .ok (.aload_n 0, 1) := by decide +kernel
theorem dX8_go_5 : decode cX8_go 5 = .ok (.aload_n 0, 1) := by decide +kernel
theorem dX8_go_6 : decode cX8_go 6 = .ok (.iload_n 1, 1) := by decide +kernel
theorem dX8_go_7 : decode cX8_go 7 = .ok (.iload_n 2, 1) := by decide +kernel
theorem dX8_go_8 : decode cX8_go 8 = .ok (.invokevirtual 144, 3) := by decide +kernel
theorem dX8_go_11 : decode cX8_go 11 = .ok (.invokevirtual 147, 3) := by decide +kernel
theorem dX8_go_14 : decode cX8_go 14 = .ok (.ireturn, 1) := by decide +kernel
theorem dX8_take_0 : decode cX8_take 0 = .ok (.aload_n 0, 1) := by decide +kernel
theorem dX8_take_1 : decode cX8_take 1 = .ok (.invokevirtual 61, 3) := by decide +kernel
theorem dX8_take_4 : decode cX8_take 4 = .ok (.aload_n 0, 1) := by decide +kernel
theorem dX8_take_5 : decode cX8_take 5 = .ok (.aload_n 0, 1) := by decide +kernel
theorem dX8_take_6 : decode cX8_take 6 = .ok (.iload_n 1, 1) := by decide +kernel
theorem dX8_take_7 : decode cX8_take 7 = .ok (.iload_n 2, 1) := by decide +kernel
theorem dX8_take_8 : decode cX8_take 8 = .ok (.invokevirtual 150, 3) := by decide +kernel
theorem dX8_take_11 : decode cX8_take 11 = .ok (.invokevirtual 147, 3) := by decide +kernel
theorem dX8_take_14 : decode cX8_take 14 = .ok (.ireturn, 1) := by decide +kernel
theorem dX8_lay_0 : decode cX8_lay 0 = .ok (.aload_n 0, 1) := by decide +kernel
theorem dX8_lay_1 : decode cX8_lay 1 = .ok (.iload_n 1, 1) := by decide +kernel
theorem dX8_lay_2 : decode cX8_lay 2 = .ok (.invokevirtual 95, 3) := by decide +kernel
theorem dX8_lay_5 : decode cX8_lay 5 = .ok (.ifCond .ne 9, 3) := by decide +kernel
theorem dX8_lay_8 : decode cX8_lay 8 = .ok (.aload_n 0, 1) := by decide +kernel
theorem dX8_lay_9 : decode cX8_lay 9 = .ok (.iconst 1, 1) := by decide +kernel
theorem dX8_lay_10 : decode cX8_lay 10 = .ok (.invokevirtual 58, 3) := by decide +kernel
theorem dX8_lay_13 : decode cX8_lay 13 = .ok (.ireturn, 1) := by decide +kernel
theorem dX8_lay_14 : decode cX8_lay 14 = .ok (.aload_n 0, 1) := by decide +kernel
theorem dX8_lay_15 : decode cX8_lay 15 = .ok (.iload_n 1, 1) := by decide +kernel
theorem dX8_lay_16 : decode cX8_lay 16 = .ok (.iconst 5, 1) := by decide +kernel
theorem dX8_lay_17 : decode cX8_lay 17 = .ok (.invokevirtual 37, 3) := by decide +kernel
theorem dX8_lay_20 : decode cX8_lay 20 = .ok (.istore_n 2, 1) := by decide +kernel
theorem dX8_lay_21 : decode cX8_lay 21 = .ok (.aload_n 0, 1) := by decide +kernel
theorem dX8_lay_22 : decode cX8_lay 22 = .ok (.iload_n 1, 1) := by decide +kernel
theorem dX8_lay_23 : decode cX8_lay 23 = .ok (.invokevirtual 81, 3) := by decide +kernel
theorem dX8_lay_26 : decode cX8_lay 26 = .ok (.ifCond .eq 8, 3) := by decide +kernel
theorem dX8_lay_29 : decode cX8_lay 29 = .ok (.iload_n 2, 1) := by decide +kernel
theorem dX8_lay_30 : decode cX8_lay 30 = .ok (.iconst (-1), 1) := by decide +kernel
theorem dX8_lay_31 : decode cX8_lay 31 = .ok (.if_icmp .ne 9, 3) := by decide +kernel
theorem dX8_lay_34 : decode cX8_lay 34 = .ok (.aload_n 0, 1) := by decide +kernel
theorem dX8_lay_35 : decode cX8_lay 35 = .ok (.iconst 2, 1) := by decide +kernel
theorem dX8_lay_36 : decode cX8_lay 36 = .ok (.invokevirtual 58, 3) := by decide +kernel
theorem dX8_lay_39 : decode cX8_lay 39 = .ok (.ireturn, 1) := by decide +kernel
theorem dX8_lay_40 : decode cX8_lay 40 = .ok (.aload_n 0, 1) := by decide +kernel
theorem dX8_lay_41 : decode cX8_lay 41 = .ok (.invokevirtual 61, 3) := by decide +kernel
theorem dX8_lay_44 : decode cX8_lay 44 = .ok (.aload_n 0, 1) := by decide +kernel
theorem dX8_lay_45 : decode cX8_lay 45 = .ok (.iload_n 1, 1) := by decide +kernel
theorem dX8_lay_46 : decode cX8_lay 46 = .ok (.iconst 0, 1) := by decide +kernel
theorem dX8_lay_47 : decode cX8_lay 47 = .ok (.aload_n 0, 1) := by decide +kernel
theorem dX8_lay_48 : decode cX8_lay 48 = .ok (.iload_n 1, 1) := by decide +kernel
theorem dX8_lay_49 : decode cX8_lay 49 = .ok (.iconst 1, 1) := by decide +kernel
theorem dX8_lay_50 : decode cX8_lay 50 = .ok (.invokevirtual 37, 3) := by decide +kernel
theorem dX8_lay_53 : decode cX8_lay 53 = .ok (.invokevirtual 128, 3) := by decide +kernel
theorem dX8_lay_56 : decode cX8_lay 56 = .ok (.aload_n 0, 1) := by decide +kernel
theorem dX8_lay_57 : decode cX8_lay 57 = .ok (.iload_n 2, 1) := by decide +kernel
theorem dX8_lay_58 : decode cX8_lay 58 = .ok (.invokevirtual 64, 3) := by decide +kernel
theorem dX8_lay_61 : decode cX8_lay 61 = .ok (.ireturn, 1) := by decide +kernel
theorem dX8_rig_0 : decode cX8_rig 0 = .ok (.aload_n 0, 1) := by decide +kernel
theorem dX8_rig_1 : decode cX8_rig 1 = .ok (.invokevirtual 61, 3) := by decide +kernel
theorem dX8_rig_4 : decode cX8_rig 4 = .ok (.aload_n 0, 1) := by decide +kernel
theorem dX8_rig_5 : decode cX8_rig 5 = .ok (.aload_n 0, 1) := by decide +kernel
theorem dX8_rig_6 : decode cX8_rig 6 = .ok (.iload_n 1, 1) := by decide +kernel
theorem dX8_rig_7 : decode cX8_rig 7 = .ok (.invokevirtual 153, 3) := by decide +kernel
theorem dX8_rig_10 : decode cX8_rig 10 = .ok (.invokevirtual 147, 3) := by decide +kernel
theorem dX8_rig_13 : decode cX8_rig 13 = .ok (.ireturn, 1) := by decide +kernel
theorem dX8_takeOff_0 : decode cX8_takeOff 0 = .ok (.aload_n 0, 1) := by decide +kernel
theorem dX8_takeOff_1 : decode cX8_takeOff 1 = .ok (.iload_n 1, 1) := by decide +kernel
theorem dX8_takeOff_2 : decode cX8_takeOff 2 = .ok (.invokevirtual 95, 3) := by decide +kernel
theorem dX8_takeOff_5 : decode cX8_takeOff 5 = .ok (.ifCond .ne 9, 3) := by decide +kernel
theorem dX8_takeOff_8 : decode cX8_takeOff 8 = .ok (.aload_n 0, 1) := by decide +kernel
theorem dX8_takeOff_9 : decode cX8_takeOff 9 = .ok (.iconst 1, 1) := by decide +kernel
theorem dX8_takeOff_10 : decode cX8_takeOff 10 = .ok (.invokevirtual 58, 3) := by decide +kernel
theorem dX8_takeOff_13 : decode cX8_takeOff 13 = .ok (.ireturn, 1) := by decide +kernel
theorem dX8_takeOff_14 : decode cX8_takeOff 14 = .ok (.aload_n 0, 1) := by decide +kernel
theorem dX8_takeOff_15 : decode cX8_takeOff 15 = .ok (.iload_n 1, 1) := by decide +kernel
theorem dX8_takeOff_16 : decode cX8_takeOff 16 = .ok (.iconst 1, 1) := by decide +kernel
theorem dX8_takeOff_17 : decode cX8_takeOff 17 = .ok (.invokevirtual 37, 3) := by decide +kernel
theorem dX8_takeOff_20 : decode cX8_takeOff 20 = .ok (.istore_n 2, 1) := by decide +kernel
theorem dX8_takeOff_21 : decode cX8_takeOff 21 = .ok (.aload_n 0, 1) := by decide +kernel
theorem dX8_takeOff_22 : decode cX8_takeOff 22 = .ok (.iload_n 1, 1) := by decide +kernel
theorem dX8_takeOff_23 : decode cX8_takeOff 23 = .ok (.invokevirtual 81, 3) := by decide +kernel
theorem dX8_takeOff_26 : decode cX8_takeOff 26 = .ok (.ifCond .eq 42, 3) := by decide +kernel
theorem dX8_takeOff_29 : decode cX8_takeOff 29 = .ok (.aload_n 0, 1) := by decide +kernel
theorem dX8_takeOff_30 : decode cX8_takeOff 30 = .ok (.iload_n 1, 1) := by decide +kernel
theorem dX8_takeOff_31 : decode cX8_takeOff 31 = .ok (.iconst 5, 1) := by decide +kernel
theorem dX8_takeOff_32 : decode cX8_takeOff 32 = .ok (.invokevirtual 37, 3) := by decide +kernel
theorem dX8_takeOff_35 : decode cX8_takeOff 35 = .ok (.iconst (-1), 1) := by decide +kernel
theorem dX8_takeOff_36 : decode cX8_takeOff 36 = .ok (.if_icmp .ne 32, 3) := by decide +kernel
theorem dX8_takeOff_39 : decode cX8_takeOff 39 = .ok (.aload_n 0, 1) := by decide +kernel
theorem dX8_takeOff_40 : decode cX8_takeOff 40 = .ok (.iload_n 2, 1) := by decide +kernel
theorem dX8_takeOff_41 : decode cX8_takeOff 41 = .ok (.invokevirtual 67, 3) := by decide +kernel
theorem dX8_takeOff_44 : decode cX8_takeOff 44 = .ok (.ifCond .eq 24, 3) := by decide +kernel
theorem dX8_takeOff_47 : decode cX8_takeOff 47 = .ok (.aload_n 0, 1) := by decide +kernel
theorem dX8_takeOff_48 : decode cX8_takeOff 48 = .ok (.getfield 7, 3) := by decide +kernel
theorem dX8_takeOff_51 : decode cX8_takeOff 51 = .ok (.bipush 27, 2) := by decide +kernel
theorem dX8_takeOff_53 : decode cX8_takeOff 53 = .ok (.iload_n 2, 1) := by decide +kernel
theorem dX8_takeOff_54 : decode cX8_takeOff 54 = .ok (.iadd, 1) := by decide +kernel
theorem dX8_takeOff_55 : decode cX8_takeOff 55 = .ok (.iaload, 1) := by decide +kernel
theorem dX8_takeOff_56 : decode cX8_takeOff 56 = .ok (.iconst (-1), 1) := by decide +kernel
theorem dX8_takeOff_57 : decode cX8_takeOff 57 = .ok (.if_icmp .eq 11, 3) := by decide +kernel
theorem dX8_takeOff_60 : decode cX8_takeOff 60 = .ok (.aload_n 0, 1) := by decide +kernel
theorem dX8_takeOff_61 : decode cX8_takeOff 61 = .ok (.iload_n 2, 1) := by decide +kernel
theorem dX8_takeOff_62 : decode cX8_takeOff 62 = .ok (.invokevirtual 73, 3) := by decide +kernel
theorem dX8_takeOff_65 : decode cX8_takeOff 65 = .ok (.ifCond .le 9, 3) := by decide +kernel
theorem dX8_takeOff_68 : decode cX8_takeOff 68 = .ok (.aload_n 0, 1) := by decide +kernel
theorem dX8_takeOff_69 : decode cX8_takeOff 69 = .ok (.iconst 2, 1) := by decide +kernel
theorem dX8_takeOff_70 : decode cX8_takeOff 70 = .ok (.invokevirtual 58, 3) := by decide +kernel
theorem dX8_takeOff_73 : decode cX8_takeOff 73 = .ok (.ireturn, 1) := by decide +kernel
theorem dX8_takeOff_74 : decode cX8_takeOff 74 = .ok (.aload_n 0, 1) := by decide +kernel
theorem dX8_takeOff_75 : decode cX8_takeOff 75 = .ok (.invokevirtual 61, 3) := by decide +kernel
theorem dX8_takeOff_78 : decode cX8_takeOff 78 = .ok (.aload_n 0, 1) := by decide +kernel
theorem dX8_takeOff_79 : decode cX8_takeOff 79 = .ok (.getfield 7, 3) := by decide +kernel
theorem dX8_takeOff_82 : decode cX8_takeOff 82 = .ok (.bipush 27, 2) := by decide +kernel
theorem dX8_takeOff_84 : decode cX8_takeOff 84 = .ok (.iload_n 2, 1) := by decide +kernel
theorem dX8_takeOff_85 : decode cX8_takeOff 85 = .ok (.iadd, 1) := by decide +kernel
theorem dX8_takeOff_86 : decode cX8_takeOff 86 = .ok (.iaload, 1) := by decide +kernel
theorem dX8_takeOff_87 : decode cX8_takeOff 87 = .ok (.istore_n 3, 1) := by decide +kernel
theorem dX8_takeOff_88 : decode cX8_takeOff 88 = .ok (.aload_n 0, 1) := by decide +kernel
theorem dX8_takeOff_89 : decode cX8_takeOff 89 = .ok (.getfield 7, 3) := by decide +kernel
theorem dX8_takeOff_92 : decode cX8_takeOff 92 = .ok (.bipush 27, 2) := by decide +kernel
theorem dX8_takeOff_94 : decode cX8_takeOff 94 = .ok (.iload_n 2, 1) := by decide +kernel
theorem dX8_takeOff_95 : decode cX8_takeOff 95 = .ok (.iadd, 1) := by decide +kernel
theorem dX8_takeOff_96 : decode cX8_takeOff 96 = .ok (.iconst (-1), 1) := by decide +kernel
theorem dX8_takeOff_97 : decode cX8_takeOff 97 = .ok (.iastore, 1) := by decide +kernel
theorem dX8_takeOff_98 : decode cX8_takeOff 98 = .ok (.aload_n 0, 1) := by decide +kernel
theorem dX8_takeOff_99 : decode cX8_takeOff 99 = .ok (.iload_n 3, 1) := by decide +kernel
theorem dX8_takeOff_100 : decode cX8_takeOff 100 = .ok (.iload_n 1, 1) := by decide +kernel
theorem dX8_takeOff_101 : decode cX8_takeOff 101 = .ok (.invokevirtual 111, 3) := by decide +kernel
theorem dX8_takeOff_104 : decode cX8_takeOff 104 = .ok (.aload_n 0, 1) := by decide +kernel
theorem dX8_takeOff_105 : decode cX8_takeOff 105 = .ok (.iload_n 3, 1) := by decide +kernel
theorem dX8_takeOff_106 : decode cX8_takeOff 106 = .ok (.invokevirtual 64, 3) := by decide +kernel
theorem dX8_takeOff_109 : decode cX8_takeOff 109 = .ok (.ireturn, 1) := by decide +kernel
theorem dX8_carry_0 : decode cX8_carry 0 = .ok (.aload_n 0, 1) := by decide +kernel
theorem dX8_carry_1 : decode cX8_carry 1 = .ok (.invokevirtual 61, 3) := by decide +kernel
theorem dX8_carry_4 : decode cX8_carry 4 = .ok (.aload_n 0, 1) := by decide +kernel
theorem dX8_carry_5 : decode cX8_carry 5 = .ok (.aload_n 0, 1) := by decide +kernel
theorem dX8_carry_6 : decode cX8_carry 6 = .ok (.iload_n 1, 1) := by decide +kernel
theorem dX8_carry_7 : decode cX8_carry 7 = .ok (.invokevirtual 156, 3) := by decide +kernel
theorem dX8_carry_10 : decode cX8_carry 10 = .ok (.invokevirtual 147, 3) := by decide +kernel
theorem dX8_carry_13 : decode cX8_carry 13 = .ok (.ireturn, 1) := by decide +kernel
theorem dX8_send_0 : decode cX8_send 0 = .ok (.aload_n 0, 1) := by decide +kernel
theorem dX8_send_1 : decode cX8_send 1 = .ok (.invokevirtual 61, 3) := by decide +kernel
theorem dX8_send_4 : decode cX8_send 4 = .ok (.aload_n 0, 1) := by decide +kernel
theorem dX8_send_5 : decode cX8_send 5 = .ok (.aload_n 0, 1) := by decide +kernel
theorem dX8_send_6 : decode cX8_send 6 = .ok (.iload_n 1, 1) := by decide +kernel
theorem dX8_send_7 : decode cX8_send 7 = .ok (.invokevirtual 159, 3) := by decide +kernel
theorem dX8_send_10 : decode cX8_send 10 = .ok (.invokevirtual 147, 3) := by decide +kernel
theorem dX8_send_13 : decode cX8_send 13 = .ok (.ireturn, 1) := by decide +kernel
theorem dX8_pass_0 : decode cX8_pass 0 = .ok (.aload_n 0, 1) := by decide +kernel
theorem dX8_pass_1 : decode cX8_pass 1 = .ok (.invokevirtual 61, 3) := by decide +kernel
theorem dX8_pass_4 : decode cX8_pass 4 = .ok (.aload_n 0, 1) := by decide +kernel
theorem dX8_pass_5 : decode cX8_pass 5 = .ok (.aload_n 0, 1) := by decide +kernel
theorem dX8_pass_6 : decode cX8_pass 6 = .ok (.iload_n 1, 1) := by decide +kernel
theorem dX8_pass_7 : decode cX8_pass 7 = .ok (.invokevirtual 162, 3) := by decide +kernel
theorem dX8_pass_10 : decode cX8_pass 10 = .ok (.invokevirtual 147, 3) := by decide +kernel
theorem dX8_pass_13 : decode cX8_pass 13 = .ok (.ireturn, 1) := by decide +kernel
theorem dX8_passageFact_0 : decode cX8_passageFact 0 = .ok (.iload_n 2, 1) := by decide +kernel
theorem dX8_passageFact_1 : decode cX8_passageFact 1 = .ok (.tableswitch 67 0 3 #[31, 41, 51, 61], 31) := by decide +kernel
theorem dX8_passageFact_32 : decode cX8_passageFact 32 = .ok (.aload_n 0, 1) := by decide +kernel
theorem dX8_passageFact_33 : decode cX8_passageFact 33 = .ok (.getfield 7, 3) := by decide +kernel
theorem dX8_passageFact_36 : decode cX8_passageFact 36 = .ok (.bipush 13, 2) := by decide +kernel
theorem dX8_passageFact_38 : decode cX8_passageFact 38 = .ok (.iload_n 1, 1) := by decide +kernel
theorem dX8_passageFact_39 : decode cX8_passageFact 39 = .ok (.iadd, 1) := by decide +kernel
theorem dX8_passageFact_40 : decode cX8_passageFact 40 = .ok (.iaload, 1) := by decide +kernel
theorem dX8_passageFact_41 : decode cX8_passageFact 41 = .ok (.ireturn, 1) := by decide +kernel
theorem dX8_passageFact_42 : decode cX8_passageFact 42 = .ok (.aload_n 0, 1) := by decide +kernel
theorem dX8_passageFact_43 : decode cX8_passageFact 43 = .ok (.getfield 7, 3) := by decide +kernel
theorem dX8_passageFact_46 : decode cX8_passageFact 46 = .ok (.bipush 20, 2) := by decide +kernel
theorem dX8_passageFact_48 : decode cX8_passageFact 48 = .ok (.iload_n 1, 1) := by decide +kernel
theorem dX8_passageFact_49 : decode cX8_passageFact 49 = .ok (.iadd, 1) := by decide +kernel
theorem dX8_passageFact_50 : decode cX8_passageFact 50 = .ok (.iaload, 1) := by decide +kernel
theorem dX8_passageFact_51 : decode cX8_passageFact 51 = .ok (.ireturn, 1) := by decide +kernel
theorem dX8_passageFact_52 : decode cX8_passageFact 52 = .ok (.aload_n 0, 1) := by decide +kernel
theorem dX8_passageFact_53 : decode cX8_passageFact 53 = .ok (.getfield 7, 3) := by decide +kernel
theorem dX8_passageFact_56 : decode cX8_passageFact 56 = .ok (.bipush 27, 2) := by decide +kernel
theorem dX8_passageFact_58 : decode cX8_passageFact 58 = .ok (.iload_n 1, 1) := by decide +kernel
theorem dX8_passageFact_59 : decode cX8_passageFact 59 = .ok (.iadd, 1) := by decide +kernel
theorem dX8_passageFact_60 : decode cX8_passageFact 60 = .ok (.iaload, 1) := by decide +kernel
theorem dX8_passageFact_61 : decode cX8_passageFact 61 = .ok (.ireturn, 1) := by decide +kernel
theorem dX8_passageFact_62 : decode cX8_passageFact 62 = .ok (.aload_n 0, 1) := by decide +kernel
theorem dX8_passageFact_63 : decode cX8_passageFact 63 = .ok (.iload_n 1, 1) := by decide +kernel
theorem dX8_passageFact_64 : decode cX8_passageFact 64 = .ok (.invokevirtual 73, 3) := by decide +kernel
theorem dX8_passageFact_67 : decode cX8_passageFact 67 = .ok (.ireturn, 1) := by decide +kernel
theorem dX8_passageFact_68 : decode cX8_passageFact 68 = .ok (.aload_n 0, 1) := by decide +kernel
theorem dX8_passageFact_69 : decode cX8_passageFact 69 = .ok (.iload_n 1, 1) := by decide +kernel
theorem dX8_passageFact_70 : decode cX8_passageFact 70 = .ok (.invokevirtual 70, 3) := by decide +kernel
theorem dX8_passageFact_73 : decode cX8_passageFact 73 = .ok (.ireturn, 1) := by decide +kernel
theorem dX8_passage_0 : decode cX8_passage 0 = .ok (.aload_n 0, 1) := by decide +kernel
theorem dX8_passage_1 : decode cX8_passage 1 = .ok (.iload_n 1, 1) := by decide +kernel
theorem dX8_passage_2 : decode cX8_passage 2 = .ok (.invokevirtual 67, 3) := by decide +kernel
theorem dX8_passage_5 : decode cX8_passage 5 = .ok (.ifCond .ne 9, 3) := by decide +kernel
theorem dX8_passage_8 : decode cX8_passage 8 = .ok (.aload_n 0, 1) := by decide +kernel
theorem dX8_passage_9 : decode cX8_passage 9 = .ok (.iconst 1, 1) := by decide +kernel
theorem dX8_passage_10 : decode cX8_passage 10 = .ok (.invokevirtual 58, 3) := by decide +kernel
theorem dX8_passage_13 : decode cX8_passage 13 = .ok (.ireturn, 1) := by decide +kernel
theorem dX8_passage_14 : decode cX8_passage 14 = .ok (.iload_n 2, 1) := by decide +kernel
theorem dX8_passage_15 : decode cX8_passage 15 = .ok (.iconst 0, 1) := by decide +kernel
theorem dX8_passage_16 : decode cX8_passage 16 = .ok (.iconst 4, 1) := by decide +kernel
theorem dX8_passage_17 : decode cX8_passage 17 = .ok (.invokestatic 54, 3) := by decide +kernel
theorem dX8_passage_20 : decode cX8_passage 20 = .ok (.ifCond .eq 16, 3) := by decide +kernel
theorem dX8_passage_23 : decode cX8_passage 23 = .ok (.aload_n 0, 1) := by decide +kernel
theorem dX8_passage_24 : decode cX8_passage 24 = .ok (.aload_n 0, 1) := by decide +kernel
theorem dX8_passage_25 : decode cX8_passage 25 = .ok (.iload_n 1, 1) := by decide +kernel
theorem dX8_passage_26 : decode cX8_passage 26 = .ok (.iload_n 2, 1) := by decide +kernel
theorem dX8_passage_27 : decode cX8_passage 27 = .ok (.invokevirtual 165, 3) := by decide +kernel
theorem dX8_passage_30 : decode cX8_passage 30 = .ok (.invokevirtual 33, 3) := by decide +kernel
theorem dX8_passage_33 : decode cX8_passage 33 = .ok (.goto 8, 3) := by decide +kernel
theorem dX8_passage_36 : decode cX8_passage 36 = .ok (.aload_n 0, 1) := by decide +kernel
theorem dX8_passage_37 : decode cX8_passage 37 = .ok (.iconst 2, 1) := by decide +kernel
theorem dX8_passage_38 : decode cX8_passage 38 = .ok (.invokevirtual 58, 3) := by decide +kernel
theorem dX8_passage_41 : decode cX8_passage 41 = .ok (.ireturn, 1) := by decide +kernel
theorem dX8_rope_0 : decode cX8_rope 0 = .ok (.aload_n 0, 1) := by decide +kernel
theorem dX8_rope_1 : decode cX8_rope 1 = .ok (.iload_n 1, 1) := by decide +kernel
theorem dX8_rope_2 : decode cX8_rope 2 = .ok (.invokevirtual 108, 3) := by decide +kernel
theorem dX8_rope_5 : decode cX8_rope 5 = .ok (.ifCond .ne 9, 3) := by decide +kernel
theorem dX8_rope_8 : decode cX8_rope 8 = .ok (.aload_n 0, 1) := by decide +kernel
theorem dX8_rope_9 : decode cX8_rope 9 = .ok (.iconst 1, 1) := by decide +kernel
theorem dX8_rope_10 : decode cX8_rope 10 = .ok (.invokevirtual 58, 3) := by decide +kernel
theorem dX8_rope_13 : decode cX8_rope 13 = .ok (.ireturn, 1) := by decide +kernel
theorem dX8_rope_14 : decode cX8_rope 14 = .ok (.iload_n 2, 1) := by decide +kernel
theorem dX8_rope_15 : decode cX8_rope 15 = .ok (.iconst 0, 1) := by decide +kernel
theorem dX8_rope_16 : decode cX8_rope 16 = .ok (.iconst 2, 1) := by decide +kernel
theorem dX8_rope_17 : decode cX8_rope 17 = .ok (.invokestatic 54, 3) := by decide +kernel
theorem dX8_rope_20 : decode cX8_rope 20 = .ok (.ifCond .eq 23, 3) := by decide +kernel
theorem dX8_rope_23 : decode cX8_rope 23 = .ok (.aload_n 0, 1) := by decide +kernel
theorem dX8_rope_24 : decode cX8_rope 24 = .ok (.aload_n 0, 1) := by decide +kernel
theorem dX8_rope_25 : decode cX8_rope 25 = .ok (.getfield 7, 3) := by decide +kernel
theorem dX8_rope_28 : decode cX8_rope 28 = .ok (.bipush 34, 2) := by decide +kernel
theorem dX8_rope_30 : decode cX8_rope 30 = .ok (.iconst 3, 1) := by decide +kernel
theorem dX8_rope_31 : decode cX8_rope 31 = .ok (.iload_n 1, 1) := by decide +kernel
theorem dX8_rope_32 : decode cX8_rope 32 = .ok (.imul, 1) := by decide +kernel
theorem dX8_rope_33 : decode cX8_rope 33 = .ok (.iadd, 1) := by decide +kernel
theorem dX8_rope_34 : decode cX8_rope 34 = .ok (.iload_n 2, 1) := by decide +kernel
theorem dX8_rope_35 : decode cX8_rope 35 = .ok (.iadd, 1) := by decide +kernel
theorem dX8_rope_36 : decode cX8_rope 36 = .ok (.iaload, 1) := by decide +kernel
theorem dX8_rope_37 : decode cX8_rope 37 = .ok (.invokevirtual 33, 3) := by decide +kernel
theorem dX8_rope_40 : decode cX8_rope 40 = .ok (.goto 8, 3) := by decide +kernel
theorem dX8_rope_43 : decode cX8_rope 43 = .ok (.aload_n 0, 1) := by decide +kernel
theorem dX8_rope_44 : decode cX8_rope 44 = .ok (.iconst 2, 1) := by decide +kernel
theorem dX8_rope_45 : decode cX8_rope 45 = .ok (.invokevirtual 58, 3) := by decide +kernel
theorem dX8_rope_48 : decode cX8_rope 48 = .ok (.ireturn, 1) := by decide +kernel
theorem dX8_helper_0 : decode cX8_helper 0 = .ok (.aload_n 0, 1) := by decide +kernel
theorem dX8_helper_1 : decode cX8_helper 1 = .ok (.iload_n 1, 1) := by decide +kernel
theorem dX8_helper_2 : decode cX8_helper 2 = .ok (.invokevirtual 95, 3) := by decide +kernel
theorem dX8_helper_5 : decode cX8_helper 5 = .ok (.ifCond .ne 9, 3) := by decide +kernel
theorem dX8_helper_8 : decode cX8_helper 8 = .ok (.aload_n 0, 1) := by decide +kernel
theorem dX8_helper_9 : decode cX8_helper 9 = .ok (.iconst 1, 1) := by decide +kernel
theorem dX8_helper_10 : decode cX8_helper 10 = .ok (.invokevirtual 58, 3) := by decide +kernel
theorem dX8_helper_13 : decode cX8_helper 13 = .ok (.ireturn, 1) := by decide +kernel
theorem dX8_helper_14 : decode cX8_helper 14 = .ok (.iload_n 2, 1) := by decide +kernel
theorem dX8_helper_15 : decode cX8_helper 15 = .ok (.iconst 0, 1) := by decide +kernel
theorem dX8_helper_16 : decode cX8_helper 16 = .ok (.bipush 8, 2) := by decide +kernel
theorem dX8_helper_18 : decode cX8_helper 18 = .ok (.invokestatic 54, 3) := by decide +kernel
theorem dX8_helper_21 : decode cX8_helper 21 = .ok (.ifCond .eq 16, 3) := by decide +kernel
theorem dX8_helper_24 : decode cX8_helper 24 = .ok (.aload_n 0, 1) := by decide +kernel
theorem dX8_helper_25 : decode cX8_helper 25 = .ok (.aload_n 0, 1) := by decide +kernel
theorem dX8_helper_26 : decode cX8_helper 26 = .ok (.iload_n 1, 1) := by decide +kernel
theorem dX8_helper_27 : decode cX8_helper 27 = .ok (.iload_n 2, 1) := by decide +kernel
theorem dX8_helper_28 : decode cX8_helper 28 = .ok (.invokevirtual 37, 3) := by decide +kernel
theorem dX8_helper_31 : decode cX8_helper 31 = .ok (.invokevirtual 33, 3) := by decide +kernel
theorem dX8_helper_34 : decode cX8_helper 34 = .ok (.goto 8, 3) := by decide +kernel
theorem dX8_helper_37 : decode cX8_helper 37 = .ok (.aload_n 0, 1) := by decide +kernel
theorem dX8_helper_38 : decode cX8_helper 38 = .ok (.iconst 2, 1) := by decide +kernel
theorem dX8_helper_39 : decode cX8_helper 39 = .ok (.invokevirtual 58, 3) := by decide +kernel
theorem dX8_helper_42 : decode cX8_helper 42 = .ok (.ireturn, 1) := by decide +kernel
theorem dX8_below_0 : decode cX8_below 0 = .ok (.iconst 0, 1) := by decide +kernel
theorem dX8_below_1 : decode cX8_below 1 = .ok (.istore_n 1, 1) := by decide +kernel
theorem dX8_below_2 : decode cX8_below 2 = .ok (.iconst 0, 1) := by decide +kernel
theorem dX8_below_3 : decode cX8_below 3 = .ok (.istore_n 2, 1) := by decide +kernel
theorem dX8_below_4 : decode cX8_below 4 = .ok (.iload_n 2, 1) := by decide +kernel
theorem dX8_below_5 : decode cX8_below 5 = .ok (.aload_n 0, 1) := by decide +kernel
theorem dX8_below_6 : decode cX8_below 6 = .ok (.getfield 7, 3) := by decide +kernel
theorem dX8_below_9 : decode cX8_below 9 = .ok (.iconst 2, 1) := by decide +kernel
theorem dX8_below_10 : decode cX8_below 10 = .ok (.iaload, 1) := by decide +kernel
theorem dX8_below_11 : decode cX8_below 11 = .ok (.if_icmp .ge 25, 3) := by decide +kernel
theorem dX8_below_14 : decode cX8_below 14 = .ok (.iload_n 1, 1) := by decide +kernel
theorem dX8_below_15 : decode cX8_below 15 = .ok (.aload_n 0, 1) := by decide +kernel
theorem dX8_below_16 : decode cX8_below 16 = .ok (.iload_n 2, 1) := by decide +kernel
theorem dX8_below_17 : decode cX8_below 17 = .ok (.invokevirtual 48, 3) := by decide +kernel
theorem dX8_below_20 : decode cX8_below 20 = .ok (.ifCond .eq 7, 3) := by decide +kernel
theorem dX8_below_23 : decode cX8_below 23 = .ok (.iconst 1, 1) := by decide +kernel
theorem dX8_below_24 : decode cX8_below 24 = .ok (.goto 4, 3) := by decide +kernel
theorem dX8_below_27 : decode cX8_below 27 = .ok (.iconst 0, 1) := by decide +kernel
theorem dX8_below_28 : decode cX8_below 28 = .ok (.iadd, 1) := by decide +kernel
theorem dX8_below_29 : decode cX8_below 29 = .ok (.istore_n 1, 1) := by decide +kernel
theorem dX8_below_30 : decode cX8_below 30 = .ok (.iinc 2 1, 3) := by decide +kernel
theorem dX8_below_33 : decode cX8_below 33 = .ok (.goto (-29), 3) := by decide +kernel
theorem dX8_below_36 : decode cX8_below 36 = .ok (.iload_n 1, 1) := by decide +kernel
theorem dX8_below_37 : decode cX8_below 37 = .ok (.ireturn, 1) := by decide +kernel
theorem dX8_shut_0 : decode cX8_shut 0 = .ok (.iconst 0, 1) := by decide +kernel
theorem dX8_shut_1 : decode cX8_shut 1 = .ok (.istore_n 1, 1) := by decide +kernel
theorem dX8_shut_2 : decode cX8_shut 2 = .ok (.iconst 0, 1) := by decide +kernel
theorem dX8_shut_3 : decode cX8_shut 3 = .ok (.istore_n 2, 1) := by decide +kernel
theorem dX8_shut_4 : decode cX8_shut 4 = .ok (.iload_n 2, 1) := by decide +kernel
theorem dX8_shut_5 : decode cX8_shut 5 = .ok (.aload_n 0, 1) := by decide +kernel
theorem dX8_shut_6 : decode cX8_shut 6 = .ok (.getfield 7, 3) := by decide +kernel
theorem dX8_shut_9 : decode cX8_shut 9 = .ok (.iconst 0, 1) := by decide +kernel
theorem dX8_shut_10 : decode cX8_shut 10 = .ok (.iaload, 1) := by decide +kernel
theorem dX8_shut_11 : decode cX8_shut 11 = .ok (.if_icmp .ge 25, 3) := by decide +kernel
theorem dX8_shut_14 : decode cX8_shut 14 = .ok (.iload_n 1, 1) := by decide +kernel
theorem dX8_shut_15 : decode cX8_shut 15 = .ok (.aload_n 0, 1) := by decide +kernel
theorem dX8_shut_16 : decode cX8_shut 16 = .ok (.iload_n 2, 1) := by decide +kernel
theorem dX8_shut_17 : decode cX8_shut 17 = .ok (.invokevirtual 44, 3) := by decide +kernel
theorem dX8_shut_20 : decode cX8_shut 20 = .ok (.ifCond .eq 7, 3) := by decide +kernel
theorem dX8_shut_23 : decode cX8_shut 23 = .ok (.iconst 1, 1) := by decide +kernel
theorem dX8_shut_24 : decode cX8_shut 24 = .ok (.goto 4, 3) := by decide +kernel
theorem dX8_shut_27 : decode cX8_shut 27 = .ok (.iconst 0, 1) := by decide +kernel
theorem dX8_shut_28 : decode cX8_shut 28 = .ok (.iadd, 1) := by decide +kernel
theorem dX8_shut_29 : decode cX8_shut 29 = .ok (.istore_n 1, 1) := by decide +kernel
theorem dX8_shut_30 : decode cX8_shut 30 = .ok (.iinc 2 1, 3) := by decide +kernel
theorem dX8_shut_33 : decode cX8_shut 33 = .ok (.goto (-29), 3) := by decide +kernel
theorem dX8_shut_36 : decode cX8_shut 36 = .ok (.iload_n 1, 1) := by decide +kernel
theorem dX8_shut_37 : decode cX8_shut 37 = .ok (.ireturn, 1) := by decide +kernel
theorem dX8_valueOf_0 : decode cX8_valueOf 0 = .ok (.iload_n 1, 1) := by decide +kernel
theorem dX8_valueOf_1 : decode cX8_valueOf 1 = .ok (.bipush 6, 2) := by decide +kernel
theorem dX8_valueOf_3 : decode cX8_valueOf 3 = .ok (.if_icmp .ge 12, 3) := by decide +kernel
theorem dX8_valueOf_6 : decode cX8_valueOf 6 = .ok (.aload_n 0, 1) := by decide +kernel
theorem dX8_valueOf_7 : decode cX8_valueOf 7 = .ok (.getfield 7, 3) := by decide +kernel
theorem dX8_valueOf_10 : decode cX8_valueOf 10 = .ok (.iload_n 1, 1) := by decide +kernel
theorem dX8_valueOf_11 : decode cX8_valueOf 11 = .ok (.iaload, 1) := by decide +kernel
theorem dX8_valueOf_12 : decode cX8_valueOf 12 = .ok (.goto 54, 3) := by decide +kernel
theorem dX8_valueOf_15 : decode cX8_valueOf 15 = .ok (.iload_n 1, 1) := by decide +kernel
theorem dX8_valueOf_16 : decode cX8_valueOf 16 = .ok (.bipush 6, 2) := by decide +kernel
theorem dX8_valueOf_18 : decode cX8_valueOf 18 = .ok (.if_icmp .ne 10, 3) := by decide +kernel
theorem dX8_valueOf_21 : decode cX8_valueOf 21 = .ok (.aload_n 0, 1) := by decide +kernel
theorem dX8_valueOf_22 : decode cX8_valueOf 22 = .ok (.invokevirtual 168, 3) := by decide +kernel
theorem dX8_valueOf_25 : decode cX8_valueOf 25 = .ok (.goto 41, 3) := by decide +kernel
theorem dX8_valueOf_28 : decode cX8_valueOf 28 = .ok (.iload_n 1, 1) := by decide +kernel
theorem dX8_valueOf_29 : decode cX8_valueOf 29 = .ok (.bipush 10, 2) := by decide +kernel
theorem dX8_valueOf_31 : decode cX8_valueOf 31 = .ok (.if_icmp .ge 14, 3) := by decide +kernel
theorem dX8_valueOf_34 : decode cX8_valueOf 34 = .ok (.aload_n 0, 1) := by decide +kernel
theorem dX8_valueOf_35 : decode cX8_valueOf 35 = .ok (.getfield 7, 3) := by decide +kernel
theorem dX8_valueOf_38 : decode cX8_valueOf 38 = .ok (.iload_n 1, 1) := by decide +kernel
theorem dX8_valueOf_39 : decode cX8_valueOf 39 = .ok (.iconst 1, 1) := by decide +kernel
theorem dX8_valueOf_40 : decode cX8_valueOf 40 = .ok (.isub, 1) := by decide +kernel
theorem dX8_valueOf_41 : decode cX8_valueOf 41 = .ok (.iaload, 1) := by decide +kernel
theorem dX8_valueOf_42 : decode cX8_valueOf 42 = .ok (.goto 24, 3) := by decide +kernel
theorem dX8_valueOf_45 : decode cX8_valueOf 45 = .ok (.iload_n 1, 1) := by decide +kernel
theorem dX8_valueOf_46 : decode cX8_valueOf 46 = .ok (.bipush 10, 2) := by decide +kernel
theorem dX8_valueOf_48 : decode cX8_valueOf 48 = .ok (.if_icmp .ne 10, 3) := by decide +kernel
theorem dX8_valueOf_51 : decode cX8_valueOf 51 = .ok (.aload_n 0, 1) := by decide +kernel
theorem dX8_valueOf_52 : decode cX8_valueOf 52 = .ok (.invokevirtual 171, 3) := by decide +kernel
theorem dX8_valueOf_55 : decode cX8_valueOf 55 = .ok (.goto 11, 3) := by decide +kernel
theorem dX8_valueOf_58 : decode cX8_valueOf 58 = .ok (.aload_n 0, 1) := by decide +kernel
theorem dX8_valueOf_59 : decode cX8_valueOf 59 = .ok (.getfield 7, 3) := by decide +kernel
theorem dX8_valueOf_62 : decode cX8_valueOf 62 = .ok (.iload_n 1, 1) := by decide +kernel
theorem dX8_valueOf_63 : decode cX8_valueOf 63 = .ok (.iconst 2, 1) := by decide +kernel
theorem dX8_valueOf_64 : decode cX8_valueOf 64 = .ok (.isub, 1) := by decide +kernel
theorem dX8_valueOf_65 : decode cX8_valueOf 65 = .ok (.iaload, 1) := by decide +kernel
theorem dX8_valueOf_66 : decode cX8_valueOf 66 = .ok (.ireturn, 1) := by decide +kernel
theorem dX8_value_0 : decode cX8_value 0 = .ok (.iload_n 1, 1) := by decide +kernel
theorem dX8_value_1 : decode cX8_value 1 = .ok (.iconst 0, 1) := by decide +kernel
theorem dX8_value_2 : decode cX8_value 2 = .ok (.bipush 13, 2) := by decide +kernel
theorem dX8_value_4 : decode cX8_value 4 = .ok (.invokestatic 54, 3) := by decide +kernel
theorem dX8_value_7 : decode cX8_value 7 = .ok (.ifCond .eq 15, 3) := by decide +kernel
theorem dX8_value_10 : decode cX8_value 10 = .ok (.aload_n 0, 1) := by decide +kernel
theorem dX8_value_11 : decode cX8_value 11 = .ok (.aload_n 0, 1) := by decide +kernel
theorem dX8_value_12 : decode cX8_value 12 = .ok (.iload_n 1, 1) := by decide +kernel
theorem dX8_value_13 : decode cX8_value 13 = .ok (.invokevirtual 174, 3) := by decide +kernel
theorem dX8_value_16 : decode cX8_value 16 = .ok (.invokevirtual 33, 3) := by decide +kernel
theorem dX8_value_19 : decode cX8_value 19 = .ok (.goto 8, 3) := by decide +kernel
theorem dX8_value_22 : decode cX8_value 22 = .ok (.aload_n 0, 1) := by decide +kernel
theorem dX8_value_23 : decode cX8_value 23 = .ok (.iconst 1, 1) := by decide +kernel
theorem dX8_value_24 : decode cX8_value 24 = .ok (.invokevirtual 58, 3) := by decide +kernel
theorem dX8_value_27 : decode cX8_value 27 = .ok (.ireturn, 1) := by decide +kernel
theorem dX8_message_0 : decode cX8_message 0 = .ok (.iload_n 1, 1) := by decide +kernel
theorem dX8_message_1 : decode cX8_message 1 = .ok (.iconst 0, 1) := by decide +kernel
theorem dX8_message_2 : decode cX8_message 2 = .ok (.aload_n 0, 1) := by decide +kernel
theorem dX8_message_3 : decode cX8_message 3 = .ok (.getfield 7, 3) := by decide +kernel
theorem dX8_message_6 : decode cX8_message 6 = .ok (.bipush 6, 2) := by decide +kernel
theorem dX8_message_8 : decode cX8_message 8 = .ok (.iaload, 1) := by decide +kernel
theorem dX8_message_9 : decode cX8_message 9 = .ok (.iconst 1, 1) := by decide +kernel
theorem dX8_message_10 : decode cX8_message 10 = .ok (.isub, 1) := by decide +kernel
theorem dX8_message_11 : decode cX8_message 11 = .ok (.invokestatic 54, 3) := by decide +kernel
theorem dX8_message_14 : decode cX8_message 14 = .ok (.ifCond .ne 9, 3) := by decide +kernel
theorem dX8_message_17 : decode cX8_message 17 = .ok (.aload_n 0, 1) := by decide +kernel
theorem dX8_message_18 : decode cX8_message 18 = .ok (.iconst 1, 1) := by decide +kernel
theorem dX8_message_19 : decode cX8_message 19 = .ok (.invokevirtual 58, 3) := by decide +kernel
theorem dX8_message_22 : decode cX8_message 22 = .ok (.ireturn, 1) := by decide +kernel
theorem dX8_message_23 : decode cX8_message 23 = .ok (.iload_n 2, 1) := by decide +kernel
theorem dX8_message_24 : decode cX8_message 24 = .ok (.iconst 0, 1) := by decide +kernel
theorem dX8_message_25 : decode cX8_message 25 = .ok (.iconst 2, 1) := by decide +kernel
theorem dX8_message_26 : decode cX8_message 26 = .ok (.invokestatic 54, 3) := by decide +kernel
theorem dX8_message_29 : decode cX8_message 29 = .ok (.ifCond .eq 23, 3) := by decide +kernel
theorem dX8_message_32 : decode cX8_message 32 = .ok (.aload_n 0, 1) := by decide +kernel
theorem dX8_message_33 : decode cX8_message 33 = .ok (.aload_n 0, 1) := by decide +kernel
theorem dX8_message_34 : decode cX8_message 34 = .ok (.getfield 7, 3) := by decide +kernel
theorem dX8_message_37 : decode cX8_message 37 = .ok (.bipush 112, 2) := by decide +kernel
theorem dX8_message_39 : decode cX8_message 39 = .ok (.iconst 3, 1) := by decide +kernel
theorem dX8_message_40 : decode cX8_message 40 = .ok (.iload_n 1, 1) := by decide +kernel
theorem dX8_message_41 : decode cX8_message 41 = .ok (.imul, 1) := by decide +kernel
theorem dX8_message_42 : decode cX8_message 42 = .ok (.iadd, 1) := by decide +kernel
theorem dX8_message_43 : decode cX8_message 43 = .ok (.iload_n 2, 1) := by decide +kernel
theorem dX8_message_44 : decode cX8_message 44 = .ok (.iadd, 1) := by decide +kernel
theorem dX8_message_45 : decode cX8_message 45 = .ok (.iaload, 1) := by decide +kernel
theorem dX8_message_46 : decode cX8_message 46 = .ok (.invokevirtual 33, 3) := by decide +kernel
theorem dX8_message_49 : decode cX8_message 49 = .ok (.goto 8, 3) := by decide +kernel
theorem dX8_message_52 : decode cX8_message 52 = .ok (.aload_n 0, 1) := by decide +kernel
theorem dX8_message_53 : decode cX8_message 53 = .ok (.iconst 2, 1) := by decide +kernel
theorem dX8_message_54 : decode cX8_message 54 = .ok (.invokevirtual 58, 3) := by decide +kernel
theorem dX8_message_57 : decode cX8_message 57 = .ok (.ireturn, 1) := by decide +kernel
theorem dX8_carried_0 : decode cX8_carried 0 = .ok (.iload_n 1, 1) := by decide +kernel
theorem dX8_carried_1 : decode cX8_carried 1 = .ok (.iconst 0, 1) := by decide +kernel
theorem dX8_carried_2 : decode cX8_carried 2 = .ok (.aload_n 0, 1) := by decide +kernel
theorem dX8_carried_3 : decode cX8_carried 3 = .ok (.getfield 7, 3) := by decide +kernel
theorem dX8_carried_6 : decode cX8_carried 6 = .ok (.bipush 12, 2) := by decide +kernel
theorem dX8_carried_8 : decode cX8_carried 8 = .ok (.iaload, 1) := by decide +kernel
theorem dX8_carried_9 : decode cX8_carried 9 = .ok (.iconst 1, 1) := by decide +kernel
theorem dX8_carried_10 : decode cX8_carried 10 = .ok (.isub, 1) := by decide +kernel
theorem dX8_carried_11 : decode cX8_carried 11 = .ok (.invokestatic 54, 3) := by decide +kernel
theorem dX8_carried_14 : decode cX8_carried 14 = .ok (.ifCond .ne 9, 3) := by decide +kernel
theorem dX8_carried_17 : decode cX8_carried 17 = .ok (.aload_n 0, 1) := by decide +kernel
theorem dX8_carried_18 : decode cX8_carried 18 = .ok (.iconst 1, 1) := by decide +kernel
theorem dX8_carried_19 : decode cX8_carried 19 = .ok (.invokevirtual 58, 3) := by decide +kernel
theorem dX8_carried_22 : decode cX8_carried 22 = .ok (.ireturn, 1) := by decide +kernel
theorem dX8_carried_23 : decode cX8_carried 23 = .ok (.iload_n 2, 1) := by decide +kernel
theorem dX8_carried_24 : decode cX8_carried 24 = .ok (.iconst 0, 1) := by decide +kernel
theorem dX8_carried_25 : decode cX8_carried 25 = .ok (.iconst 2, 1) := by decide +kernel
theorem dX8_carried_26 : decode cX8_carried 26 = .ok (.invokestatic 54, 3) := by decide +kernel
theorem dX8_carried_29 : decode cX8_carried 29 = .ok (.ifCond .eq 24, 3) := by decide +kernel
theorem dX8_carried_32 : decode cX8_carried 32 = .ok (.aload_n 0, 1) := by decide +kernel
theorem dX8_carried_33 : decode cX8_carried 33 = .ok (.aload_n 0, 1) := by decide +kernel
theorem dX8_carried_34 : decode cX8_carried 34 = .ok (.getfield 7, 3) := by decide +kernel
theorem dX8_carried_37 : decode cX8_carried 37 = .ok (.sipush 142, 3) := by decide +kernel
theorem dX8_carried_40 : decode cX8_carried 40 = .ok (.iconst 3, 1) := by decide +kernel
theorem dX8_carried_41 : decode cX8_carried 41 = .ok (.iload_n 1, 1) := by decide +kernel
theorem dX8_carried_42 : decode cX8_carried 42 = .ok (.imul, 1) := by decide +kernel
theorem dX8_carried_43 : decode cX8_carried 43 = .ok (.iadd, 1) := by decide +kernel
theorem dX8_carried_44 : decode cX8_carried 44 = .ok (.iload_n 2, 1) := by decide +kernel
theorem dX8_carried_45 : decode cX8_carried 45 = .ok (.iadd, 1) := by decide +kernel
theorem dX8_carried_46 : decode cX8_carried 46 = .ok (.iaload, 1) := by decide +kernel
theorem dX8_carried_47 : decode cX8_carried 47 = .ok (.invokevirtual 33, 3) := by decide +kernel
theorem dX8_carried_50 : decode cX8_carried 50 = .ok (.goto 8, 3) := by decide +kernel
theorem dX8_carried_53 : decode cX8_carried 53 = .ok (.aload_n 0, 1) := by decide +kernel
theorem dX8_carried_54 : decode cX8_carried 54 = .ok (.iconst 2, 1) := by decide +kernel
theorem dX8_carried_55 : decode cX8_carried 55 = .ok (.invokevirtual 58, 3) := by decide +kernel
theorem dX8_carried_58 : decode cX8_carried 58 = .ok (.ireturn, 1) := by decide +kernel
theorem dX8_why_0 : decode cX8_why 0 = .ok (.aload_n 0, 1) := by decide +kernel
theorem dX8_why_1 : decode cX8_why 1 = .ok (.iload_n 1, 1) := by decide +kernel
theorem dX8_why_2 : decode cX8_why 2 = .ok (.invokevirtual 95, 3) := by decide +kernel
theorem dX8_why_5 : decode cX8_why 5 = .ok (.ifCond .eq 16, 3) := by decide +kernel
theorem dX8_why_8 : decode cX8_why 8 = .ok (.aload_n 0, 1) := by decide +kernel
theorem dX8_why_9 : decode cX8_why 9 = .ok (.aload_n 0, 1) := by decide +kernel
theorem dX8_why_10 : decode cX8_why 10 = .ok (.iload_n 1, 1) := by decide +kernel
theorem dX8_why_11 : decode cX8_why 11 = .ok (.iload_n 2, 1) := by decide +kernel
theorem dX8_why_12 : decode cX8_why 12 = .ok (.invokevirtual 98, 3) := by decide +kernel
theorem dX8_why_15 : decode cX8_why 15 = .ok (.invokevirtual 33, 3) := by decide +kernel
theorem dX8_why_18 : decode cX8_why 18 = .ok (.goto 8, 3) := by decide +kernel
theorem dX8_why_21 : decode cX8_why 21 = .ok (.aload_n 0, 1) := by decide +kernel
theorem dX8_why_22 : decode cX8_why 22 = .ok (.iconst 1, 1) := by decide +kernel
theorem dX8_why_23 : decode cX8_why 23 = .ok (.invokevirtual 58, 3) := by decide +kernel
theorem dX8_why_26 : decode cX8_why 26 = .ok (.ireturn, 1) := by decide +kernel
theorem dX8_timeUp_0 : decode cX8_timeUp 0 = .ok (.aload_n 0, 1) := by decide +kernel
theorem dX8_timeUp_1 : decode cX8_timeUp 1 = .ok (.iload_n 1, 1) := by decide +kernel
theorem dX8_timeUp_2 : decode cX8_timeUp 2 = .ok (.invokevirtual 81, 3) := by decide +kernel
theorem dX8_timeUp_5 : decode cX8_timeUp 5 = .ok (.ifCond .eq 16, 3) := by decide +kernel
theorem dX8_timeUp_8 : decode cX8_timeUp 8 = .ok (.aload_n 0, 1) := by decide +kernel
theorem dX8_timeUp_9 : decode cX8_timeUp 9 = .ok (.aload_n 0, 1) := by decide +kernel
theorem dX8_timeUp_10 : decode cX8_timeUp 10 = .ok (.iload_n 1, 1) := by decide +kernel
theorem dX8_timeUp_11 : decode cX8_timeUp 11 = .ok (.iconst 1, 1) := by decide +kernel
theorem dX8_timeUp_12 : decode cX8_timeUp 12 = .ok (.invokevirtual 37, 3) := by decide +kernel
theorem dX8_timeUp_15 : decode cX8_timeUp 15 = .ok (.invokevirtual 177, 3) := by decide +kernel
theorem dX8_timeUp_18 : decode cX8_timeUp 18 = .ok (.ifCond .eq 7, 3) := by decide +kernel
theorem dX8_timeUp_21 : decode cX8_timeUp 21 = .ok (.iconst (-1), 1) := by decide +kernel
theorem dX8_timeUp_22 : decode cX8_timeUp 22 = .ok (.goto 13, 3) := by decide +kernel
theorem dX8_timeUp_25 : decode cX8_timeUp 25 = .ok (.aload_n 0, 1) := by decide +kernel
theorem dX8_timeUp_26 : decode cX8_timeUp 26 = .ok (.aload_n 0, 1) := by decide +kernel
theorem dX8_timeUp_27 : decode cX8_timeUp 27 = .ok (.iload_n 1, 1) := by decide +kernel
theorem dX8_timeUp_28 : decode cX8_timeUp 28 = .ok (.iconst 1, 1) := by decide +kernel
theorem dX8_timeUp_29 : decode cX8_timeUp 29 = .ok (.invokevirtual 37, 3) := by decide +kernel
theorem dX8_timeUp_32 : decode cX8_timeUp 32 = .ok (.invokevirtual 51, 3) := by decide +kernel
theorem dX8_timeUp_35 : decode cX8_timeUp 35 = .ok (.ireturn, 1) := by decide +kernel
theorem dX8_minutesUp_0 : decode cX8_minutesUp 0 = .ok (.aload_n 0, 1) := by decide +kernel
theorem dX8_minutesUp_1 : decode cX8_minutesUp 1 = .ok (.iload_n 1, 1) := by decide +kernel
theorem dX8_minutesUp_2 : decode cX8_minutesUp 2 = .ok (.invokevirtual 95, 3) := by decide +kernel
theorem dX8_minutesUp_5 : decode cX8_minutesUp 5 = .ok (.ifCond .eq 15, 3) := by decide +kernel
theorem dX8_minutesUp_8 : decode cX8_minutesUp 8 = .ok (.aload_n 0, 1) := by decide +kernel
theorem dX8_minutesUp_9 : decode cX8_minutesUp 9 = .ok (.aload_n 0, 1) := by decide +kernel
theorem dX8_minutesUp_10 : decode cX8_minutesUp 10 = .ok (.iload_n 1, 1) := by decide +kernel
theorem dX8_minutesUp_11 : decode cX8_minutesUp 11 = .ok (.invokevirtual 180, 3) := by decide +kernel
theorem dX8_minutesUp_14 : decode cX8_minutesUp 14 = .ok (.invokevirtual 33, 3) := by decide +kernel
theorem dX8_minutesUp_17 : decode cX8_minutesUp 17 = .ok (.goto 8, 3) := by decide +kernel
theorem dX8_minutesUp_20 : decode cX8_minutesUp 20 = .ok (.aload_n 0, 1) := by decide +kernel
theorem dX8_minutesUp_21 : decode cX8_minutesUp 21 = .ok (.iconst 1, 1) := by decide +kernel
theorem dX8_minutesUp_22 : decode cX8_minutesUp 22 = .ok (.invokevirtual 58, 3) := by decide +kernel
theorem dX8_minutesUp_25 : decode cX8_minutesUp 25 = .ok (.ireturn, 1) := by decide +kernel
theorem dX8_spare_0 : decode cX8_spare 0 = .ok (.aload_n 0, 1) := by decide +kernel
theorem dX8_spare_1 : decode cX8_spare 1 = .ok (.iload_n 1, 1) := by decide +kernel
theorem dX8_spare_2 : decode cX8_spare 2 = .ok (.invokevirtual 95, 3) := by decide +kernel
theorem dX8_spare_5 : decode cX8_spare 5 = .ok (.ifCond .ne 9, 3) := by decide +kernel
theorem dX8_spare_8 : decode cX8_spare 8 = .ok (.aload_n 0, 1) := by decide +kernel
theorem dX8_spare_9 : decode cX8_spare 9 = .ok (.iconst 1, 1) := by decide +kernel
theorem dX8_spare_10 : decode cX8_spare 10 = .ok (.invokevirtual 58, 3) := by decide +kernel
theorem dX8_spare_13 : decode cX8_spare 13 = .ok (.ireturn, 1) := by decide +kernel
theorem dX8_spare_14 : decode cX8_spare 14 = .ok (.aload_n 0, 1) := by decide +kernel
theorem dX8_spare_15 : decode cX8_spare 15 = .ok (.iload_n 1, 1) := by decide +kernel
theorem dX8_spare_16 : decode cX8_spare 16 = .ok (.invokevirtual 180, 3) := by decide +kernel
theorem dX8_spare_19 : decode cX8_spare 19 = .ok (.istore_n 2, 1) := by decide +kernel
theorem dX8_spare_20 : decode cX8_spare 20 = .ok (.aload_n 0, 1) := by decide +kernel
theorem dX8_spare_21 : decode cX8_spare 21 = .ok (.iload_n 1, 1) := by decide +kernel
theorem dX8_spare_22 : decode cX8_spare 22 = .ok (.iconst 0, 1) := by decide +kernel
theorem dX8_spare_23 : decode cX8_spare 23 = .ok (.invokevirtual 37, 3) := by decide +kernel
theorem dX8_spare_26 : decode cX8_spare 26 = .ok (.aload_n 0, 1) := by decide +kernel
theorem dX8_spare_27 : decode cX8_spare 27 = .ok (.iload_n 1, 1) := by decide +kernel
theorem dX8_spare_28 : decode cX8_spare 28 = .ok (.bipush 7, 2) := by decide +kernel
theorem dX8_spare_30 : decode cX8_spare 30 = .ok (.invokevirtual 37, 3) := by decide +kernel
theorem dX8_spare_33 : decode cX8_spare 33 = .ok (.isub, 1) := by decide +kernel
theorem dX8_spare_34 : decode cX8_spare 34 = .ok (.iload_n 2, 1) := by decide +kernel
theorem dX8_spare_35 : decode cX8_spare 35 = .ok (.isub, 1) := by decide +kernel
theorem dX8_spare_36 : decode cX8_spare 36 = .ok (.istore_n 3, 1) := by decide +kernel
theorem dX8_spare_37 : decode cX8_spare 37 = .ok (.aload_n 0, 1) := by decide +kernel
theorem dX8_spare_38 : decode cX8_spare 38 = .ok (.iload_n 2, 1) := by decide +kernel
theorem dX8_spare_39 : decode cX8_spare 39 = .ok (.iconst (-1), 1) := by decide +kernel
theorem dX8_spare_40 : decode cX8_spare 40 = .ok (.if_icmp .eq 12, 3) := by decide +kernel
theorem dX8_spare_43 : decode cX8_spare 43 = .ok (.aload_n 0, 1) := by decide +kernel
theorem dX8_spare_44 : decode cX8_spare 44 = .ok (.iload_n 1, 1) := by decide +kernel
theorem dX8_spare_45 : decode cX8_spare 45 = .ok (.iconst 1, 1) := by decide +kernel
theorem dX8_spare_46 : decode cX8_spare 46 = .ok (.invokevirtual 37, 3) := by decide +kernel
theorem dX8_spare_49 : decode cX8_spare 49 = .ok (.ifCond .ne 7, 3) := by decide +kernel
theorem dX8_spare_52 : decode cX8_spare 52 = .ok (.iconst (-1), 1) := by decide +kernel
theorem dX8_spare_53 : decode cX8_spare 53 = .ok (.goto 12, 3) := by decide +kernel
theorem dX8_spare_56 : decode cX8_spare 56 = .ok (.iload_n 3, 1) := by decide +kernel
theorem dX8_spare_57 : decode cX8_spare 57 = .ok (.ifCond .ge 7, 3) := by decide +kernel
theorem dX8_spare_60 : decode cX8_spare 60 = .ok (.iconst 0, 1) := by decide +kernel
theorem dX8_spare_61 : decode cX8_spare 61 = .ok (.goto 4, 3) := by decide +kernel
theorem dX8_spare_64 : decode cX8_spare 64 = .ok (.iload_n 3, 1) := by decide +kernel
theorem dX8_spare_65 : decode cX8_spare 65 = .ok (.invokevirtual 33, 3) := by decide +kernel
theorem dX8_spare_68 : decode cX8_spare 68 = .ok (.ireturn, 1) := by decide +kernel
theorem dX8_bestRope_0 : decode cX8_bestRope 0 = .ok (.aload_n 0, 1) := by decide +kernel
theorem dX8_bestRope_1 : decode cX8_bestRope 1 = .ok (.iload_n 1, 1) := by decide +kernel
theorem dX8_bestRope_2 : decode cX8_bestRope 2 = .ok (.invokevirtual 67, 3) := by decide +kernel
theorem dX8_bestRope_5 : decode cX8_bestRope 5 = .ok (.ifCond .ne 9, 3) := by decide +kernel
theorem dX8_bestRope_8 : decode cX8_bestRope 8 = .ok (.aload_n 0, 1) := by decide +kernel
theorem dX8_bestRope_9 : decode cX8_bestRope 9 = .ok (.iconst 1, 1) := by decide +kernel
theorem dX8_bestRope_10 : decode cX8_bestRope 10 = .ok (.invokevirtual 58, 3) := by decide +kernel
theorem dX8_bestRope_13 : decode cX8_bestRope 13 = .ok (.ireturn, 1) := by decide +kernel
theorem dX8_bestRope_14 : decode cX8_bestRope 14 = .ok (.iconst (-1), 1) := by decide +kernel
theorem dX8_bestRope_15 : decode cX8_bestRope 15 = .ok (.istore_n 2, 1) := by decide +kernel
theorem dX8_bestRope_16 : decode cX8_bestRope 16 = .ok (.iconst 0, 1) := by decide +kernel
theorem dX8_bestRope_17 : decode cX8_bestRope 17 = .ok (.istore_n 3, 1) := by decide +kernel
theorem dX8_bestRope_18 : decode cX8_bestRope 18 = .ok (.iload_n 3, 1) := by decide +kernel
theorem dX8_bestRope_19 : decode cX8_bestRope 19 = .ok (.aload_n 0, 1) := by decide +kernel
theorem dX8_bestRope_20 : decode cX8_bestRope 20 = .ok (.getfield 7, 3) := by decide +kernel
theorem dX8_bestRope_23 : decode cX8_bestRope 23 = .ok (.iconst 1, 1) := by decide +kernel
theorem dX8_bestRope_24 : decode cX8_bestRope 24 = .ok (.iaload, 1) := by decide +kernel
theorem dX8_bestRope_25 : decode cX8_bestRope 25 = .ok (.if_icmp .ge 95, 3) := by decide +kernel
theorem dX8_bestRope_28 : decode cX8_bestRope 28 = .ok (.aload_n 0, 1) := by decide +kernel
theorem dX8_bestRope_29 : decode cX8_bestRope 29 = .ok (.getfield 7, 3) := by decide +kernel
theorem dX8_bestRope_32 : decode cX8_bestRope 32 = .ok (.bipush 13, 2) := by decide +kernel
theorem dX8_bestRope_34 : decode cX8_bestRope 34 = .ok (.iload_n 1, 1) := by decide +kernel
theorem dX8_bestRope_35 : decode cX8_bestRope 35 = .ok (.iadd, 1) := by decide +kernel
theorem dX8_bestRope_36 : decode cX8_bestRope 36 = .ok (.iaload, 1) := by decide +kernel
theorem dX8_bestRope_37 : decode cX8_bestRope 37 = .ok (.ifCond .le 83, 3) := by decide +kernel
theorem dX8_bestRope_40 : decode cX8_bestRope 40 = .ok (.aload_n 0, 1) := by decide +kernel
theorem dX8_bestRope_41 : decode cX8_bestRope 41 = .ok (.getfield 7, 3) := by decide +kernel
theorem dX8_bestRope_44 : decode cX8_bestRope 44 = .ok (.bipush 34, 2) := by decide +kernel
theorem dX8_bestRope_46 : decode cX8_bestRope 46 = .ok (.iconst 3, 1) := by decide +kernel
theorem dX8_bestRope_47 : decode cX8_bestRope 47 = .ok (.iload_n 3, 1) := by decide +kernel
theorem dX8_bestRope_48 : decode cX8_bestRope 48 = .ok (.imul, 1) := by decide +kernel
theorem dX8_bestRope_49 : decode cX8_bestRope 49 = .ok (.iadd, 1) := by decide +kernel
theorem dX8_bestRope_50 : decode cX8_bestRope 50 = .ok (.iconst 1, 1) := by decide +kernel
theorem dX8_bestRope_51 : decode cX8_bestRope 51 = .ok (.iadd, 1) := by decide +kernel
theorem dX8_bestRope_52 : decode cX8_bestRope 52 = .ok (.iaload, 1) := by decide +kernel
theorem dX8_bestRope_53 : decode cX8_bestRope 53 = .ok (.iconst 2, 1) := by decide +kernel
theorem dX8_bestRope_54 : decode cX8_bestRope 54 = .ok (.if_icmp .eq 16, 3) := by decide +kernel
theorem dX8_bestRope_57 : decode cX8_bestRope 57 = .ok (.aload_n 0, 1) := by decide +kernel
theorem dX8_bestRope_58 : decode cX8_bestRope 58 = .ok (.iload_n 3, 1) := by decide +kernel
theorem dX8_bestRope_59 : decode cX8_bestRope 59 = .ok (.iload_n 1, 1) := by decide +kernel
theorem dX8_bestRope_60 : decode cX8_bestRope 60 = .ok (.invokevirtual 114, 3) := by decide +kernel
theorem dX8_bestRope_63 : decode cX8_bestRope 63 = .ok (.ifCond .eq 7, 3) := by decide +kernel
theorem dX8_bestRope_66 : decode cX8_bestRope 66 = .ok (.iconst 1, 1) := by decide +kernel
theorem dX8_bestRope_67 : decode cX8_bestRope 67 = .ok (.goto 4, 3) := by decide +kernel
theorem dX8_bestRope_70 : decode cX8_bestRope 70 = .ok (.iconst 0, 1) := by decide +kernel
theorem dX8_bestRope_71 : decode cX8_bestRope 71 = .ok (.istore 4, 2) := by decide +kernel
theorem dX8_bestRope_73 : decode cX8_bestRope 73 = .ok (.iload 4, 2) := by decide +kernel
theorem dX8_bestRope_75 : decode cX8_bestRope 75 = .ok (.ifCond .eq 37, 3) := by decide +kernel
theorem dX8_bestRope_78 : decode cX8_bestRope 78 = .ok (.iload_n 2, 1) := by decide +kernel
theorem dX8_bestRope_79 : decode cX8_bestRope 79 = .ok (.iconst (-1), 1) := by decide +kernel
theorem dX8_bestRope_80 : decode cX8_bestRope 80 = .ok (.if_icmp .eq 28, 3) := by decide +kernel
theorem dX8_bestRope_83 : decode cX8_bestRope 83 = .ok (.aload_n 0, 1) := by decide +kernel
theorem dX8_bestRope_84 : decode cX8_bestRope 84 = .ok (.getfield 7, 3) := by decide +kernel
theorem dX8_bestRope_87 : decode cX8_bestRope 87 = .ok (.bipush 34, 2) := by decide +kernel
theorem dX8_bestRope_89 : decode cX8_bestRope 89 = .ok (.iconst 3, 1) := by decide +kernel
theorem dX8_bestRope_90 : decode cX8_bestRope 90 = .ok (.iload_n 3, 1) := by decide +kernel
theorem dX8_bestRope_91 : decode cX8_bestRope 91 = .ok (.imul, 1) := by decide +kernel
theorem dX8_bestRope_92 : decode cX8_bestRope 92 = .ok (.iadd, 1) := by decide +kernel
theorem dX8_bestRope_93 : decode cX8_bestRope 93 = .ok (.iaload, 1) := by decide +kernel
theorem dX8_bestRope_94 : decode cX8_bestRope 94 = .ok (.aload_n 0, 1) := by decide +kernel
theorem dX8_bestRope_95 : decode cX8_bestRope 95 = .ok (.getfield 7, 3) := by decide +kernel
theorem dX8_bestRope_98 : decode cX8_bestRope 98 = .ok (.bipush 34, 2) := by decide +kernel
theorem dX8_bestRope_100 : decode cX8_bestRope 100 = .ok (.iconst 3, 1) := by decide +kernel
theorem dX8_bestRope_101 : decode cX8_bestRope 101 = .ok (.iload_n 2, 1) := by decide +kernel
theorem dX8_bestRope_102 : decode cX8_bestRope 102 = .ok (.imul, 1) := by decide +kernel
theorem dX8_bestRope_103 : decode cX8_bestRope 103 = .ok (.iadd, 1) := by decide +kernel
theorem dX8_bestRope_104 : decode cX8_bestRope 104 = .ok (.iaload, 1) := by decide +kernel
theorem dX8_bestRope_105 : decode cX8_bestRope 105 = .ok (.if_icmp .ge 7, 3) := by decide +kernel
theorem dX8_bestRope_108 : decode cX8_bestRope 108 = .ok (.iload_n 3, 1) := by decide +kernel
theorem dX8_bestRope_109 : decode cX8_bestRope 109 = .ok (.goto 4, 3) := by decide +kernel
theorem dX8_bestRope_112 : decode cX8_bestRope 112 = .ok (.iload_n 2, 1) := by decide +kernel
theorem dX8_bestRope_113 : decode cX8_bestRope 113 = .ok (.istore_n 2, 1) := by decide +kernel
theorem dX8_bestRope_114 : decode cX8_bestRope 114 = .ok (.iinc 3 1, 3) := by decide +kernel
theorem dX8_bestRope_117 : decode cX8_bestRope 117 = .ok (.goto (-99), 3) := by decide +kernel
theorem dX8_bestRope_120 : decode cX8_bestRope 120 = .ok (.aload_n 0, 1) := by decide +kernel
theorem dX8_bestRope_121 : decode cX8_bestRope 121 = .ok (.iload_n 2, 1) := by decide +kernel
theorem dX8_bestRope_122 : decode cX8_bestRope 122 = .ok (.invokevirtual 33, 3) := by decide +kernel
theorem dX8_bestRope_125 : decode cX8_bestRope 125 = .ok (.ireturn, 1) := by decide +kernel
theorem dX8_carryMinutes_0 : decode cX8_carryMinutes 0 = .ok (.aload_n 0, 1) := by decide +kernel
theorem dX8_carryMinutes_1 : decode cX8_carryMinutes 1 = .ok (.aload_n 0, 1) := by decide +kernel
theorem dX8_carryMinutes_2 : decode cX8_carryMinutes 2 = .ok (.getfield 7, 3) := by decide +kernel
theorem dX8_carryMinutes_5 : decode cX8_carryMinutes 5 = .ok (.iconst 5, 1) := by decide +kernel
theorem dX8_carryMinutes_6 : decode cX8_carryMinutes 6 = .ok (.iaload, 1) := by decide +kernel
theorem dX8_carryMinutes_7 : decode cX8_carryMinutes 7 = .ok (.iconst 1, 1) := by decide +kernel
theorem dX8_carryMinutes_8 : decode cX8_carryMinutes 8 = .ok (.if_icmp .eq 16, 3) := by decide +kernel
theorem dX8_carryMinutes_11 : decode cX8_carryMinutes 11 = .ok (.aload_n 0, 1) := by decide +kernel
theorem dX8_carryMinutes_12 : decode cX8_carryMinutes 12 = .ok (.aload_n 0, 1) := by decide +kernel
theorem dX8_carryMinutes_13 : decode cX8_carryMinutes 13 = .ok (.getfield 7, 3) := by decide +kernel
theorem dX8_carryMinutes_16 : decode cX8_carryMinutes 16 = .ok (.iconst 4, 1) := by decide +kernel
theorem dX8_carryMinutes_17 : decode cX8_carryMinutes 17 = .ok (.iaload, 1) := by decide +kernel
theorem dX8_carryMinutes_18 : decode cX8_carryMinutes 18 = .ok (.invokevirtual 177, 3) := by decide +kernel
theorem dX8_carryMinutes_21 : decode cX8_carryMinutes 21 = .ok (.ifCond .eq 7, 3) := by decide +kernel
theorem dX8_carryMinutes_24 : decode cX8_carryMinutes 24 = .ok (.iconst (-1), 1) := by decide +kernel
theorem dX8_carryMinutes_25 : decode cX8_carryMinutes 25 = .ok (.goto 15, 3) := by decide +kernel
theorem dX8_carryMinutes_28 : decode cX8_carryMinutes 28 = .ok (.iconst 3, 1) := by decide +kernel
theorem dX8_carryMinutes_29 : decode cX8_carryMinutes 29 = .ok (.aload_n 0, 1) := by decide +kernel
theorem dX8_carryMinutes_30 : decode cX8_carryMinutes 30 = .ok (.aload_n 0, 1) := by decide +kernel
theorem dX8_carryMinutes_31 : decode cX8_carryMinutes 31 = .ok (.getfield 7, 3) := by decide +kernel
theorem dX8_carryMinutes_34 : decode cX8_carryMinutes 34 = .ok (.iconst 4, 1) := by decide +kernel
theorem dX8_carryMinutes_35 : decode cX8_carryMinutes 35 = .ok (.iaload, 1) := by decide +kernel
theorem dX8_carryMinutes_36 : decode cX8_carryMinutes 36 = .ok (.invokevirtual 51, 3) := by decide +kernel
theorem dX8_carryMinutes_39 : decode cX8_carryMinutes 39 = .ok (.imul, 1) := by decide +kernel
theorem dX8_carryMinutes_40 : decode cX8_carryMinutes 40 = .ok (.invokevirtual 33, 3) := by decide +kernel
theorem dX8_carryMinutes_43 : decode cX8_carryMinutes 43 = .ok (.ireturn, 1) := by decide +kernel
theorem dX8_team_0 : decode cX8_team 0 = .ok (.iconst 0, 1) := by decide +kernel
theorem dX8_team_1 : decode cX8_team 1 = .ok (.istore_n 1, 1) := by decide +kernel
theorem dX8_team_2 : decode cX8_team 2 = .ok (.iconst 0, 1) := by decide +kernel
theorem dX8_team_3 : decode cX8_team 3 = .ok (.istore_n 2, 1) := by decide +kernel
theorem dX8_team_4 : decode cX8_team 4 = .ok (.iload_n 2, 1) := by decide +kernel
theorem dX8_team_5 : decode cX8_team 5 = .ok (.aload_n 0, 1) := by decide +kernel
theorem dX8_team_6 : decode cX8_team 6 = .ok (.getfield 7, 3) := by decide +kernel
theorem dX8_team_9 : decode cX8_team 9 = .ok (.iconst 2, 1) := by decide +kernel
theorem dX8_team_10 : decode cX8_team 10 = .ok (.iaload, 1) := by decide +kernel
theorem dX8_team_11 : decode cX8_team 11 = .ok (.if_icmp .ge 34, 3) := by decide +kernel
theorem dX8_team_14 : decode cX8_team 14 = .ok (.aload_n 0, 1) := by decide +kernel
theorem dX8_team_15 : decode cX8_team 15 = .ok (.invokevirtual 121, 3) := by decide +kernel
theorem dX8_team_18 : decode cX8_team 18 = .ok (.ifCond .eq 27, 3) := by decide +kernel
theorem dX8_team_21 : decode cX8_team 21 = .ok (.iload_n 1, 1) := by decide +kernel
theorem dX8_team_22 : decode cX8_team 22 = .ok (.aload_n 0, 1) := by decide +kernel
theorem dX8_team_23 : decode cX8_team 23 = .ok (.iload_n 2, 1) := by decide +kernel
theorem dX8_team_24 : decode cX8_team 24 = .ok (.invokevirtual 125, 3) := by decide +kernel
theorem dX8_team_27 : decode cX8_team 27 = .ok (.ifCond .eq 9, 3) := by decide +kernel
theorem dX8_team_30 : decode cX8_team 30 = .ok (.iconst 1, 1) := by decide +kernel
theorem dX8_team_31 : decode cX8_team 31 = .ok (.iload_n 2, 1) := by decide +kernel
theorem dX8_team_32 : decode cX8_team 32 = .ok (.ishl, 1) := by decide +kernel
theorem dX8_team_33 : decode cX8_team 33 = .ok (.goto 4, 3) := by decide +kernel
theorem dX8_team_36 : decode cX8_team 36 = .ok (.iconst 0, 1) := by decide +kernel
theorem dX8_team_37 : decode cX8_team 37 = .ok (.ior, 1) := by decide +kernel
theorem dX8_team_38 : decode cX8_team 38 = .ok (.istore_n 1, 1) := by decide +kernel
theorem dX8_team_39 : decode cX8_team 39 = .ok (.iinc 2 1, 3) := by decide +kernel
theorem dX8_team_42 : decode cX8_team 42 = .ok (.goto (-38), 3) := by decide +kernel
theorem dX8_team_45 : decode cX8_team 45 = .ok (.aload_n 0, 1) := by decide +kernel
theorem dX8_team_46 : decode cX8_team 46 = .ok (.iload_n 1, 1) := by decide +kernel
theorem dX8_team_47 : decode cX8_team 47 = .ok (.invokevirtual 33, 3) := by decide +kernel
theorem dX8_team_50 : decode cX8_team 50 = .ok (.ireturn, 1) := by decide +kernel
theorem dX8_reach_0 : decode cX8_reach 0 = .ok (.aload_n 0, 1) := by decide +kernel
theorem dX8_reach_1 : decode cX8_reach 1 = .ok (.iload_n 1, 1) := by decide +kernel
theorem dX8_reach_2 : decode cX8_reach 2 = .ok (.invokevirtual 95, 3) := by decide +kernel
theorem dX8_reach_5 : decode cX8_reach 5 = .ok (.ifCond .ne 9, 3) := by decide +kernel
theorem dX8_reach_8 : decode cX8_reach 8 = .ok (.aload_n 0, 1) := by decide +kernel
theorem dX8_reach_9 : decode cX8_reach 9 = .ok (.iconst 1, 1) := by decide +kernel
theorem dX8_reach_10 : decode cX8_reach 10 = .ok (.invokevirtual 58, 3) := by decide +kernel
theorem dX8_reach_13 : decode cX8_reach 13 = .ok (.ireturn, 1) := by decide +kernel
theorem dX8_reach_14 : decode cX8_reach 14 = .ok (.aload_n 0, 1) := by decide +kernel
theorem dX8_reach_15 : decode cX8_reach 15 = .ok (.iload_n 1, 1) := by decide +kernel
theorem dX8_reach_16 : decode cX8_reach 16 = .ok (.invokevirtual 81, 3) := by decide +kernel
theorem dX8_reach_19 : decode cX8_reach 19 = .ok (.ifCond .ne 9, 3) := by decide +kernel
theorem dX8_reach_22 : decode cX8_reach 22 = .ok (.aload_n 0, 1) := by decide +kernel
theorem dX8_reach_23 : decode cX8_reach 23 = .ok (.iconst (-1), 1) := by decide +kernel
theorem dX8_reach_24 : decode cX8_reach 24 = .ok (.invokevirtual 33, 3) := by decide +kernel
theorem dX8_reach_27 : decode cX8_reach 27 = .ok (.ireturn, 1) := by decide +kernel
theorem dX8_reach_28 : decode cX8_reach 28 = .ok (.aload_n 0, 1) := by decide +kernel
theorem dX8_reach_29 : decode cX8_reach 29 = .ok (.iload_n 1, 1) := by decide +kernel
theorem dX8_reach_30 : decode cX8_reach 30 = .ok (.iconst 1, 1) := by decide +kernel
theorem dX8_reach_31 : decode cX8_reach 31 = .ok (.invokevirtual 37, 3) := by decide +kernel
theorem dX8_reach_34 : decode cX8_reach 34 = .ok (.istore_n 2, 1) := by decide +kernel
theorem dX8_reach_35 : decode cX8_reach 35 = .ok (.iconst 0, 1) := by decide +kernel
theorem dX8_reach_36 : decode cX8_reach 36 = .ok (.istore_n 3, 1) := by decide +kernel
theorem dX8_reach_37 : decode cX8_reach 37 = .ok (.iload_n 2, 1) := by decide +kernel
theorem dX8_reach_38 : decode cX8_reach 38 = .ok (.ifCond .le 54, 3) := by decide +kernel
theorem dX8_reach_41 : decode cX8_reach 41 = .ok (.iload_n 3, 1) := by decide +kernel
theorem dX8_reach_42 : decode cX8_reach 42 = .ok (.sipush 1000, 3) := by decide +kernel
theorem dX8_reach_45 : decode cX8_reach 45 = .ok (.if_icmp .gt 47, 3) := by decide +kernel
theorem dX8_reach_48 : decode cX8_reach 48 = .ok (.iload_n 2, 1) := by decide +kernel
theorem dX8_reach_49 : decode cX8_reach 49 = .ok (.aload_n 0, 1) := by decide +kernel
theorem dX8_reach_50 : decode cX8_reach 50 = .ok (.getfield 7, 3) := by decide +kernel
theorem dX8_reach_53 : decode cX8_reach 53 = .ok (.iconst 3, 1) := by decide +kernel
theorem dX8_reach_54 : decode cX8_reach 54 = .ok (.iaload, 1) := by decide +kernel
theorem dX8_reach_55 : decode cX8_reach 55 = .ok (.iload_n 3, 1) := by decide +kernel
theorem dX8_reach_56 : decode cX8_reach 56 = .ok (.iadd, 1) := by decide +kernel
theorem dX8_reach_57 : decode cX8_reach 57 = .ok (.aload_n 0, 1) := by decide +kernel
theorem dX8_reach_58 : decode cX8_reach 58 = .ok (.getfield 7, 3) := by decide +kernel
theorem dX8_reach_61 : decode cX8_reach 61 = .ok (.bipush 9, 2) := by decide +kernel
theorem dX8_reach_63 : decode cX8_reach 63 = .ok (.iaload, 1) := by decide +kernel
theorem dX8_reach_64 : decode cX8_reach 64 = .ok (.aload_n 0, 1) := by decide +kernel
theorem dX8_reach_65 : decode cX8_reach 65 = .ok (.getfield 7, 3) := by decide +kernel
theorem dX8_reach_68 : decode cX8_reach 68 = .ok (.bipush 10, 2) := by decide +kernel
theorem dX8_reach_70 : decode cX8_reach 70 = .ok (.iaload, 1) := by decide +kernel
theorem dX8_reach_71 : decode cX8_reach 71 = .ok (.iconst 1, 1) := by decide +kernel
theorem dX8_reach_72 : decode cX8_reach 72 = .ok (.isub, 1) := by decide +kernel
theorem dX8_reach_73 : decode cX8_reach 73 = .ok (.invokestatic 54, 3) := by decide +kernel
theorem dX8_reach_76 : decode cX8_reach 76 = .ok (.ifCond .eq 7, 3) := by decide +kernel
theorem dX8_reach_79 : decode cX8_reach 79 = .ok (.iconst 0, 1) := by decide +kernel
theorem dX8_reach_80 : decode cX8_reach 80 = .ok (.goto 4, 3) := by decide +kernel
theorem dX8_reach_83 : decode cX8_reach 83 = .ok (.iconst 1, 1) := by decide +kernel
theorem dX8_reach_84 : decode cX8_reach 84 = .ok (.isub, 1) := by decide +kernel
theorem dX8_reach_85 : decode cX8_reach 85 = .ok (.istore_n 2, 1) := by decide +kernel
theorem dX8_reach_86 : decode cX8_reach 86 = .ok (.iinc 3 1, 3) := by decide +kernel
theorem dX8_reach_89 : decode cX8_reach 89 = .ok (.goto (-52), 3) := by decide +kernel
theorem dX8_reach_92 : decode cX8_reach 92 = .ok (.aload_n 0, 1) := by decide +kernel
theorem dX8_reach_93 : decode cX8_reach 93 = .ok (.iload_n 2, 1) := by decide +kernel
theorem dX8_reach_94 : decode cX8_reach 94 = .ok (.ifCond .gt 10, 3) := by decide +kernel
theorem dX8_reach_97 : decode cX8_reach 97 = .ok (.iload_n 3, 1) := by decide +kernel
theorem dX8_reach_98 : decode cX8_reach 98 = .ok (.sipush 1000, 3) := by decide +kernel
theorem dX8_reach_101 : decode cX8_reach 101 = .ok (.if_icmp .le 7, 3) := by decide +kernel
theorem dX8_reach_104 : decode cX8_reach 104 = .ok (.iconst (-1), 1) := by decide +kernel
theorem dX8_reach_105 : decode cX8_reach 105 = .ok (.goto 4, 3) := by decide +kernel
theorem dX8_reach_108 : decode cX8_reach 108 = .ok (.iload_n 3, 1) := by decide +kernel
theorem dX8_reach_109 : decode cX8_reach 109 = .ok (.invokevirtual 33, 3) := by decide +kernel
theorem dX8_reach_112 : decode cX8_reach 112 = .ok (.ireturn, 1) := by decide +kernel
theorem dX8_meanTiredness_0 : decode cX8_meanTiredness 0 = .ok (.aload_n 0, 1) := by decide +kernel
theorem dX8_meanTiredness_1 : decode cX8_meanTiredness 1 = .ok (.iconst 0, 1) := by decide +kernel
theorem dX8_meanTiredness_2 : decode cX8_meanTiredness 2 = .ok (.putfield 26, 3) := by decide +kernel
theorem dX8_meanTiredness_5 : decode cX8_meanTiredness 5 = .ok (.iconst 0, 1) := by decide +kernel
theorem dX8_meanTiredness_6 : decode cX8_meanTiredness 6 = .ok (.istore_n 1, 1) := by decide +kernel
theorem dX8_meanTiredness_7 : decode cX8_meanTiredness 7 = .ok (.iconst 0, 1) := by decide +kernel
theorem dX8_meanTiredness_8 : decode cX8_meanTiredness 8 = .ok (.istore_n 2, 1) := by decide +kernel
theorem dX8_meanTiredness_9 : decode cX8_meanTiredness 9 = .ok (.iload_n 2, 1) := by decide +kernel
theorem dX8_meanTiredness_10 : decode cX8_meanTiredness 10 = .ok (.aload_n 0, 1) := by decide +kernel
theorem dX8_meanTiredness_11 : decode cX8_meanTiredness 11 = .ok (.getfield 7, 3) := by decide +kernel
theorem dX8_meanTiredness_14 : decode cX8_meanTiredness 14 = .ok (.iconst 2, 1) := by decide +kernel
theorem dX8_meanTiredness_15 : decode cX8_meanTiredness 15 = .ok (.iaload, 1) := by decide +kernel
theorem dX8_meanTiredness_16 : decode cX8_meanTiredness 16 = .ok (.if_icmp .ge 19, 3) := by decide +kernel
theorem dX8_meanTiredness_19 : decode cX8_meanTiredness 19 = .ok (.iload_n 1, 1) := by decide +kernel
theorem dX8_meanTiredness_20 : decode cX8_meanTiredness 20 = .ok (.aload_n 0, 1) := by decide +kernel
theorem dX8_meanTiredness_21 : decode cX8_meanTiredness 21 = .ok (.iload_n 2, 1) := by decide +kernel
theorem dX8_meanTiredness_22 : decode cX8_meanTiredness 22 = .ok (.bipush 6, 2) := by decide +kernel
theorem dX8_meanTiredness_24 : decode cX8_meanTiredness 24 = .ok (.invokevirtual 37, 3) := by decide +kernel
theorem dX8_meanTiredness_27 : decode cX8_meanTiredness 27 = .ok (.iadd, 1) := by decide +kernel
theorem dX8_meanTiredness_28 : decode cX8_meanTiredness 28 = .ok (.istore_n 1, 1) := by decide +kernel
theorem dX8_meanTiredness_29 : decode cX8_meanTiredness 29 = .ok (.iinc 2 1, 3) := by decide +kernel
theorem dX8_meanTiredness_32 : decode cX8_meanTiredness 32 = .ok (.goto (-23), 3) := by decide +kernel
theorem dX8_meanTiredness_35 : decode cX8_meanTiredness 35 = .ok (.aload_n 0, 1) := by decide +kernel
theorem dX8_meanTiredness_36 : decode cX8_meanTiredness 36 = .ok (.getfield 7, 3) := by decide +kernel
theorem dX8_meanTiredness_39 : decode cX8_meanTiredness 39 = .ok (.iconst 2, 1) := by decide +kernel
theorem dX8_meanTiredness_40 : decode cX8_meanTiredness 40 = .ok (.iaload, 1) := by decide +kernel
theorem dX8_meanTiredness_41 : decode cX8_meanTiredness 41 = .ok (.ifCond .ne 7, 3) := by decide +kernel
theorem dX8_meanTiredness_44 : decode cX8_meanTiredness 44 = .ok (.dconst 0, 1) := by decide +kernel
theorem dX8_meanTiredness_45 : decode cX8_meanTiredness 45 = .ok (.goto 13, 3) := by decide +kernel
theorem dX8_meanTiredness_48 : decode cX8_meanTiredness 48 = .ok (.iload_n 1, 1) := by decide +kernel
theorem dX8_meanTiredness_49 : decode cX8_meanTiredness 49 = .ok (.i2d, 1) := by decide +kernel
theorem dX8_meanTiredness_50 : decode cX8_meanTiredness 50 = .ok (.aload_n 0, 1) := by decide +kernel
theorem dX8_meanTiredness_51 : decode cX8_meanTiredness 51 = .ok (.getfield 7, 3) := by decide +kernel
theorem dX8_meanTiredness_54 : decode cX8_meanTiredness 54 = .ok (.iconst 2, 1) := by decide +kernel
theorem dX8_meanTiredness_55 : decode cX8_meanTiredness 55 = .ok (.iaload, 1) := by decide +kernel
theorem dX8_meanTiredness_56 : decode cX8_meanTiredness 56 = .ok (.i2d, 1) := by decide +kernel
theorem dX8_meanTiredness_57 : decode cX8_meanTiredness 57 = .ok (.ddiv, 1) := by decide +kernel
theorem dX8_meanTiredness_58 : decode cX8_meanTiredness 58 = .ok (.dreturn, 1) := by decide +kernel
theorem dX8_append_0 : decode cX8_append 0 = .ok (.iload_n 1, 1) := by decide +kernel
theorem dX8_append_1 : decode cX8_append 1 = .ok (.iconst 0, 1) := by decide +kernel
theorem dX8_append_2 : decode cX8_append 2 = .ok (.bipush 127, 2) := by decide +kernel
theorem dX8_append_4 : decode cX8_append 4 = .ok (.invokestatic 54, 3) := by decide +kernel
theorem dX8_append_7 : decode cX8_append 7 = .ok (.ifCond .ne 9, 3) := by decide +kernel
theorem dX8_append_10 : decode cX8_append 10 = .ok (.aload_n 0, 1) := by decide +kernel
theorem dX8_append_11 : decode cX8_append 11 = .ok (.iconst 1, 1) := by decide +kernel
theorem dX8_append_12 : decode cX8_append 12 = .ok (.invokevirtual 58, 3) := by decide +kernel
theorem dX8_append_15 : decode cX8_append 15 = .ok (.ireturn, 1) := by decide +kernel
theorem dX8_append_16 : decode cX8_append 16 = .ok (.aload_n 0, 1) := by decide +kernel
theorem dX8_append_17 : decode cX8_append 17 = .ok (.getfield 183, 3) := by decide +kernel
theorem dX8_append_20 : decode cX8_append 20 = .ok (.bipush 90, 2) := by decide +kernel
theorem dX8_append_22 : decode cX8_append 22 = .ok (.if_icmp .ne 9, 3) := by decide +kernel
theorem dX8_append_25 : decode cX8_append 25 = .ok (.aload_n 0, 1) := by decide +kernel
theorem dX8_append_26 : decode cX8_append 26 = .ok (.iconst 2, 1) := by decide +kernel
theorem dX8_append_27 : decode cX8_append 27 = .ok (.invokevirtual 58, 3) := by decide +kernel
theorem dX8_append_30 : decode cX8_append 30 = .ok (.ireturn, 1) := by decide +kernel
theorem dX8_append_31 : decode cX8_append 31 = .ok (.aload_n 0, 1) := by decide +kernel
theorem dX8_append_32 : decode cX8_append 32 = .ok (.getfield 19, 3) := by decide +kernel
theorem dX8_append_35 : decode cX8_append 35 = .ok (.aload_n 0, 1) := by decide +kernel
theorem dX8_append_36 : decode cX8_append 36 = .ok (.getfield 183, 3) := by decide +kernel
theorem dX8_append_39 : decode cX8_append 39 = .ok (.iload_n 1, 1) := by decide +kernel
theorem dX8_append_40 : decode cX8_append 40 = .ok (.iastore, 1) := by decide +kernel
theorem dX8_append_41 : decode cX8_append 41 = .ok (.aload_n 0, 1) := by decide +kernel
theorem dX8_append_42 : decode cX8_append 42 = .ok (.dup, 1) := by decide +kernel
theorem dX8_append_43 : decode cX8_append 43 = .ok (.getfield 183, 3) := by decide +kernel
theorem dX8_append_46 : decode cX8_append 46 = .ok (.iconst 1, 1) := by decide +kernel
theorem dX8_append_47 : decode cX8_append 47 = .ok (.iadd, 1) := by decide +kernel
theorem dX8_append_48 : decode cX8_append 48 = .ok (.putfield 183, 3) := by decide +kernel
theorem dX8_append_51 : decode cX8_append 51 = .ok (.aload_n 0, 1) := by decide +kernel
theorem dX8_append_52 : decode cX8_append 52 = .ok (.aload_n 0, 1) := by decide +kernel
theorem dX8_append_53 : decode cX8_append 53 = .ok (.getfield 183, 3) := by decide +kernel
theorem dX8_append_56 : decode cX8_append 56 = .ok (.invokevirtual 33, 3) := by decide +kernel
theorem dX8_append_59 : decode cX8_append 59 = .ok (.ireturn, 1) := by decide +kernel
theorem dX8_clearText_0 : decode cX8_clearText 0 = .ok (.aload_n 0, 1) := by decide +kernel
theorem dX8_clearText_1 : decode cX8_clearText 1 = .ok (.getfield 183, 3) := by decide +kernel
theorem dX8_clearText_4 : decode cX8_clearText 4 = .ok (.istore_n 1, 1) := by decide +kernel
theorem dX8_clearText_5 : decode cX8_clearText 5 = .ok (.aload_n 0, 1) := by decide +kernel
theorem dX8_clearText_6 : decode cX8_clearText 6 = .ok (.iconst 0, 1) := by decide +kernel
theorem dX8_clearText_7 : decode cX8_clearText 7 = .ok (.putfield 183, 3) := by decide +kernel
theorem dX8_clearText_10 : decode cX8_clearText 10 = .ok (.aload_n 0, 1) := by decide +kernel
theorem dX8_clearText_11 : decode cX8_clearText 11 = .ok (.iload_n 1, 1) := by decide +kernel
theorem dX8_clearText_12 : decode cX8_clearText 12 = .ok (.invokevirtual 33, 3) := by decide +kernel
theorem dX8_clearText_15 : decode cX8_clearText 15 = .ok (.ireturn, 1) := by decide +kernel
theorem dX8_digit_0 : decode cX8_digit 0 = .ok (.aload_n 0, 1) := by decide +kernel
theorem dX8_digit_1 : decode cX8_digit 1 = .ok (.getfield 186, 3) := by decide +kernel
theorem dX8_digit_4 : decode cX8_digit 4 = .ok (.aload_n 0, 1) := by decide +kernel
theorem dX8_digit_5 : decode cX8_digit 5 = .ok (.getfield 183, 3) := by decide +kernel
theorem dX8_digit_8 : decode cX8_digit 8 = .ok (.if_icmp .ge 18, 3) := by decide +kernel
theorem dX8_digit_11 : decode cX8_digit 11 = .ok (.aload_n 0, 1) := by decide +kernel
theorem dX8_digit_12 : decode cX8_digit 12 = .ok (.getfield 19, 3) := by decide +kernel
theorem dX8_digit_15 : decode cX8_digit 15 = .ok (.aload_n 0, 1) := by decide +kernel
theorem dX8_digit_16 : decode cX8_digit 16 = .ok (.getfield 186, 3) := by decide +kernel
theorem dX8_digit_19 : decode cX8_digit 19 = .ok (.iaload, 1) := by decide +kernel
theorem dX8_digit_20 : decode cX8_digit 20 = .ok (.bipush 48, 2) := by decide +kernel
theorem dX8_digit_22 : decode cX8_digit 22 = .ok (.isub, 1) := by decide +kernel
theorem dX8_digit_23 : decode cX8_digit 23 = .ok (.goto 4, 3) := by decide +kernel
theorem dX8_digit_26 : decode cX8_digit 26 = .ok (.iconst (-1), 1) := by decide +kernel
theorem dX8_digit_27 : decode cX8_digit 27 = .ok (.istore_n 2, 1) := by decide +kernel
theorem dX8_digit_28 : decode cX8_digit 28 = .ok (.iload_n 2, 1) := by decide +kernel
theorem dX8_digit_29 : decode cX8_digit 29 = .ok (.iconst 0, 1) := by decide +kernel
theorem dX8_digit_30 : decode cX8_digit 30 = .ok (.iload_n 1, 1) := by decide +kernel
theorem dX8_digit_31 : decode cX8_digit 31 = .ok (.invokestatic 54, 3) := by decide +kernel
theorem dX8_digit_34 : decode cX8_digit 34 = .ok (.istore_n 3, 1) := by decide +kernel
theorem dX8_digit_35 : decode cX8_digit 35 = .ok (.aload_n 0, 1) := by decide +kernel
theorem dX8_digit_36 : decode cX8_digit 36 = .ok (.dup, 1) := by decide +kernel
theorem dX8_digit_37 : decode cX8_digit 37 = .ok (.getfield 186, 3) := by decide +kernel
theorem dX8_digit_40 : decode cX8_digit 40 = .ok (.iload_n 3, 1) := by decide +kernel
theorem dX8_digit_41 : decode cX8_digit 41 = .ok (.ifCond .eq 7, 3) := by decide +kernel
theorem dX8_digit_44 : decode cX8_digit 44 = .ok (.iconst 1, 1) := by decide +kernel
theorem dX8_digit_45 : decode cX8_digit 45 = .ok (.goto 4, 3) := by decide +kernel
theorem dX8_digit_48 : decode cX8_digit 48 = .ok (.iconst 0, 1) := by decide +kernel
theorem dX8_digit_49 : decode cX8_digit 49 = .ok (.iadd, 1) := by decide +kernel
theorem dX8_digit_50 : decode cX8_digit 50 = .ok (.putfield 186, 3) := by decide +kernel
theorem dX8_digit_53 : decode cX8_digit 53 = .ok (.iload_n 3, 1) := by decide +kernel
theorem dX8_digit_54 : decode cX8_digit 54 = .ok (.ifCond .eq 7, 3) := by decide +kernel
theorem dX8_digit_57 : decode cX8_digit 57 = .ok (.iload_n 2, 1) := by decide +kernel
theorem dX8_digit_58 : decode cX8_digit 58 = .ok (.goto 4, 3) := by decide +kernel
theorem dX8_digit_61 : decode cX8_digit 61 = .ok (.iconst (-1), 1) := by decide +kernel
theorem dX8_digit_62 : decode cX8_digit 62 = .ok (.ireturn, 1) := by decide +kernel
theorem dX8_readsMinutes_0 : decode cX8_readsMinutes 0 = .ok (.aload_n 0, 1) := by decide +kernel
theorem dX8_readsMinutes_1 : decode cX8_readsMinutes 1 = .ok (.getfield 186, 3) := by decide +kernel
theorem dX8_readsMinutes_4 : decode cX8_readsMinutes 4 = .ok (.istore_n 1, 1) := by decide +kernel
theorem dX8_readsMinutes_5 : decode cX8_readsMinutes 5 = .ok (.aload_n 0, 1) := by decide +kernel
theorem dX8_readsMinutes_6 : decode cX8_readsMinutes 6 = .ok (.iconst 0, 1) := by decide +kernel
theorem dX8_readsMinutes_7 : decode cX8_readsMinutes 7 = .ok (.putfield 189, 3) := by decide +kernel
theorem dX8_readsMinutes_10 : decode cX8_readsMinutes 10 = .ok (.aload_n 0, 1) := by decide +kernel
theorem dX8_readsMinutes_11 : decode cX8_readsMinutes 11 = .ok (.bipush 9, 2) := by decide +kernel
theorem dX8_readsMinutes_13 : decode cX8_readsMinutes 13 = .ok (.invokevirtual 192, 3) := by decide +kernel
theorem dX8_readsMinutes_16 : decode cX8_readsMinutes 16 = .ok (.istore_n 2, 1) := by decide +kernel
theorem dX8_readsMinutes_17 : decode cX8_readsMinutes 17 = .ok (.iload_n 2, 1) := by decide +kernel
theorem dX8_readsMinutes_18 : decode cX8_readsMinutes 18 = .ok (.iconst (-1), 1) := by decide +kernel
theorem dX8_readsMinutes_19 : decode cX8_readsMinutes 19 = .ok (.if_icmp .eq 36, 3) := by decide +kernel
theorem dX8_readsMinutes_22 : decode cX8_readsMinutes 22 = .ok (.aload_n 0, 1) := by decide +kernel
theorem dX8_readsMinutes_23 : decode cX8_readsMinutes 23 = .ok (.getfield 186, 3) := by decide +kernel
theorem dX8_readsMinutes_26 : decode cX8_readsMinutes 26 = .ok (.iload_n 1, 1) := by decide +kernel
theorem dX8_readsMinutes_27 : decode cX8_readsMinutes 27 = .ok (.isub, 1) := by decide +kernel
theorem dX8_readsMinutes_28 : decode cX8_readsMinutes 28 = .ok (.iconst 3, 1) := by decide +kernel
theorem dX8_readsMinutes_29 : decode cX8_readsMinutes 29 = .ok (.if_icmp .gt 26, 3) := by decide +kernel
theorem dX8_readsMinutes_32 : decode cX8_readsMinutes 32 = .ok (.aload_n 0, 1) := by decide +kernel
theorem dX8_readsMinutes_33 : decode cX8_readsMinutes 33 = .ok (.bipush 10, 2) := by decide +kernel
theorem dX8_readsMinutes_35 : decode cX8_readsMinutes 35 = .ok (.aload_n 0, 1) := by decide +kernel
theorem dX8_readsMinutes_36 : decode cX8_readsMinutes 36 = .ok (.getfield 189, 3) := by decide +kernel
theorem dX8_readsMinutes_39 : decode cX8_readsMinutes 39 = .ok (.imul, 1) := by decide +kernel
theorem dX8_readsMinutes_40 : decode cX8_readsMinutes 40 = .ok (.iload_n 2, 1) := by decide +kernel
theorem dX8_readsMinutes_41 : decode cX8_readsMinutes 41 = .ok (.iadd, 1) := by decide +kernel
theorem dX8_readsMinutes_42 : decode cX8_readsMinutes 42 = .ok (.putfield 189, 3) := by decide +kernel
theorem dX8_readsMinutes_45 : decode cX8_readsMinutes 45 = .ok (.aload_n 0, 1) := by decide +kernel
theorem dX8_readsMinutes_46 : decode cX8_readsMinutes 46 = .ok (.bipush 9, 2) := by decide +kernel
theorem dX8_readsMinutes_48 : decode cX8_readsMinutes 48 = .ok (.invokevirtual 192, 3) := by decide +kernel
theorem dX8_readsMinutes_51 : decode cX8_readsMinutes 51 = .ok (.istore_n 2, 1) := by decide +kernel
theorem dX8_readsMinutes_52 : decode cX8_readsMinutes 52 = .ok (.goto (-35), 3) := by decide +kernel
theorem dX8_readsMinutes_55 : decode cX8_readsMinutes 55 = .ok (.aload_n 0, 1) := by decide +kernel
theorem dX8_readsMinutes_56 : decode cX8_readsMinutes 56 = .ok (.getfield 186, 3) := by decide +kernel
theorem dX8_readsMinutes_59 : decode cX8_readsMinutes 59 = .ok (.iload_n 1, 1) := by decide +kernel
theorem dX8_readsMinutes_60 : decode cX8_readsMinutes 60 = .ok (.isub, 1) := by decide +kernel
theorem dX8_readsMinutes_61 : decode cX8_readsMinutes 61 = .ok (.iconst 3, 1) := by decide +kernel
theorem dX8_readsMinutes_62 : decode cX8_readsMinutes 62 = .ok (.if_icmp .le 12, 3) := by decide +kernel
theorem dX8_readsMinutes_65 : decode cX8_readsMinutes 65 = .ok (.aload_n 0, 1) := by decide +kernel
theorem dX8_readsMinutes_66 : decode cX8_readsMinutes 66 = .ok (.iload_n 1, 1) := by decide +kernel
theorem dX8_readsMinutes_67 : decode cX8_readsMinutes 67 = .ok (.iconst 3, 1) := by decide +kernel
theorem dX8_readsMinutes_68 : decode cX8_readsMinutes 68 = .ok (.iadd, 1) := by decide +kernel
theorem dX8_readsMinutes_69 : decode cX8_readsMinutes 69 = .ok (.putfield 186, 3) := by decide +kernel
theorem dX8_readsMinutes_72 : decode cX8_readsMinutes 72 = .ok (.iconst 0, 1) := by decide +kernel
theorem dX8_readsMinutes_73 : decode cX8_readsMinutes 73 = .ok (.ireturn, 1) := by decide +kernel
theorem dX8_readsMinutes_74 : decode cX8_readsMinutes 74 = .ok (.aload_n 0, 1) := by decide +kernel
theorem dX8_readsMinutes_75 : decode cX8_readsMinutes 75 = .ok (.getfield 186, 3) := by decide +kernel
theorem dX8_readsMinutes_78 : decode cX8_readsMinutes 78 = .ok (.iload_n 1, 1) := by decide +kernel
theorem dX8_readsMinutes_79 : decode cX8_readsMinutes 79 = .ok (.if_icmp .eq 17, 3) := by decide +kernel
theorem dX8_readsMinutes_82 : decode cX8_readsMinutes 82 = .ok (.aload_n 0, 1) := by decide +kernel
theorem dX8_readsMinutes_83 : decode cX8_readsMinutes 83 = .ok (.getfield 189, 3) := by decide +kernel
theorem dX8_readsMinutes_86 : decode cX8_readsMinutes 86 = .ok (.iconst 1, 1) := by decide +kernel
theorem dX8_readsMinutes_87 : decode cX8_readsMinutes 87 = .ok (.sipush 600, 3) := by decide +kernel
theorem dX8_readsMinutes_90 : decode cX8_readsMinutes 90 = .ok (.invokestatic 54, 3) := by decide +kernel
theorem dX8_readsMinutes_93 : decode cX8_readsMinutes 93 = .ok (.ifCond .eq 7, 3) := by decide +kernel
theorem dX8_readsMinutes_96 : decode cX8_readsMinutes 96 = .ok (.iconst 1, 1) := by decide +kernel
theorem dX8_readsMinutes_97 : decode cX8_readsMinutes 97 = .ok (.goto 4, 3) := by decide +kernel
theorem dX8_readsMinutes_100 : decode cX8_readsMinutes 100 = .ok (.iconst 0, 1) := by decide +kernel
theorem dX8_readsMinutes_101 : decode cX8_readsMinutes 101 = .ok (.istore_n 3, 1) := by decide +kernel
theorem dX8_readsMinutes_102 : decode cX8_readsMinutes 102 = .ok (.aload_n 0, 1) := by decide +kernel
theorem dX8_readsMinutes_103 : decode cX8_readsMinutes 103 = .ok (.iload_n 3, 1) := by decide +kernel
theorem dX8_readsMinutes_104 : decode cX8_readsMinutes 104 = .ok (.ifCond .eq 10, 3) := by decide +kernel
theorem dX8_readsMinutes_107 : decode cX8_readsMinutes 107 = .ok (.aload_n 0, 1) := by decide +kernel
theorem dX8_readsMinutes_108 : decode cX8_readsMinutes 108 = .ok (.getfield 186, 3) := by decide +kernel
theorem dX8_readsMinutes_111 : decode cX8_readsMinutes 111 = .ok (.goto 4, 3) := by decide +kernel
theorem dX8_readsMinutes_114 : decode cX8_readsMinutes 114 = .ok (.iload_n 1, 1) := by decide +kernel
theorem dX8_readsMinutes_115 : decode cX8_readsMinutes 115 = .ok (.putfield 186, 3) := by decide +kernel
theorem dX8_readsMinutes_118 : decode cX8_readsMinutes 118 = .ok (.iload_n 3, 1) := by decide +kernel
theorem dX8_readsMinutes_119 : decode cX8_readsMinutes 119 = .ok (.ifCond .eq 15, 3) := by decide +kernel
theorem dX8_readsMinutes_122 : decode cX8_readsMinutes 122 = .ok (.aload_n 0, 1) := by decide +kernel
theorem dX8_readsMinutes_123 : decode cX8_readsMinutes 123 = .ok (.getfield 186, 3) := by decide +kernel
theorem dX8_readsMinutes_126 : decode cX8_readsMinutes 126 = .ok (.iload_n 1, 1) := by decide +kernel
theorem dX8_readsMinutes_127 : decode cX8_readsMinutes 127 = .ok (.if_icmp .le 7, 3) := by decide +kernel
theorem dX8_readsMinutes_130 : decode cX8_readsMinutes 130 = .ok (.iconst 1, 1) := by decide +kernel
theorem dX8_readsMinutes_131 : decode cX8_readsMinutes 131 = .ok (.goto 4, 3) := by decide +kernel
theorem dX8_readsMinutes_134 : decode cX8_readsMinutes 134 = .ok (.iconst 0, 1) := by decide +kernel
theorem dX8_readsMinutes_135 : decode cX8_readsMinutes 135 = .ok (.ireturn, 1) := by decide +kernel
theorem dX8_readsTeam_0 : decode cX8_readsTeam 0 = .ok (.aload_n 0, 1) := by decide +kernel
theorem dX8_readsTeam_1 : decode cX8_readsTeam 1 = .ok (.iconst 0, 1) := by decide +kernel
theorem dX8_readsTeam_2 : decode cX8_readsTeam 2 = .ok (.putfield 189, 3) := by decide +kernel
theorem dX8_readsTeam_5 : decode cX8_readsTeam 5 = .ok (.iconst (-1), 1) := by decide +kernel
theorem dX8_readsTeam_6 : decode cX8_readsTeam 6 = .ok (.istore_n 1, 1) := by decide +kernel
theorem dX8_readsTeam_7 : decode cX8_readsTeam 7 = .ok (.aload_n 0, 1) := by decide +kernel
theorem dX8_readsTeam_8 : decode cX8_readsTeam 8 = .ok (.iconst 5, 1) := by decide +kernel
theorem dX8_readsTeam_9 : decode cX8_readsTeam 9 = .ok (.invokevirtual 192, 3) := by decide +kernel
theorem dX8_readsTeam_12 : decode cX8_readsTeam 12 = .ok (.istore_n 2, 1) := by decide +kernel
theorem dX8_readsTeam_13 : decode cX8_readsTeam 13 = .ok (.iload_n 2, 1) := by decide +kernel
theorem dX8_readsTeam_14 : decode cX8_readsTeam 14 = .ok (.iload_n 1, 1) := by decide +kernel
theorem dX8_readsTeam_15 : decode cX8_readsTeam 15 = .ok (.if_icmp .le 26, 3) := by decide +kernel
theorem dX8_readsTeam_18 : decode cX8_readsTeam 18 = .ok (.aload_n 0, 1) := by decide +kernel
theorem dX8_readsTeam_19 : decode cX8_readsTeam 19 = .ok (.dup, 1) := by decide +kernel
theorem dX8_readsTeam_20 : decode cX8_readsTeam 20 = .ok (.getfield 189, 3) := by decide +kernel
theorem dX8_readsTeam_23 : decode cX8_readsTeam 23 = .ok (.iconst 1, 1) := by decide +kernel
theorem dX8_readsTeam_24 : decode cX8_readsTeam 24 = .ok (.iload_n 2, 1) := by decide +kernel
theorem dX8_readsTeam_25 : decode cX8_readsTeam 25 = .ok (.ishl, 1) := by decide +kernel
theorem dX8_readsTeam_26 : decode cX8_readsTeam 26 = .ok (.ior, 1) := by decide +kernel
theorem dX8_readsTeam_27 : decode cX8_readsTeam 27 = .ok (.putfield 189, 3) := by decide +kernel
theorem dX8_readsTeam_30 : decode cX8_readsTeam 30 = .ok (.iload_n 2, 1) := by decide +kernel
theorem dX8_readsTeam_31 : decode cX8_readsTeam 31 = .ok (.istore_n 1, 1) := by decide +kernel
theorem dX8_readsTeam_32 : decode cX8_readsTeam 32 = .ok (.aload_n 0, 1) := by decide +kernel
theorem dX8_readsTeam_33 : decode cX8_readsTeam 33 = .ok (.iconst 5, 1) := by decide +kernel
theorem dX8_readsTeam_34 : decode cX8_readsTeam 34 = .ok (.invokevirtual 192, 3) := by decide +kernel
theorem dX8_readsTeam_37 : decode cX8_readsTeam 37 = .ok (.istore_n 2, 1) := by decide +kernel
theorem dX8_readsTeam_38 : decode cX8_readsTeam 38 = .ok (.goto (-25), 3) := by decide +kernel
theorem dX8_readsTeam_41 : decode cX8_readsTeam 41 = .ok (.aload_n 0, 1) := by decide +kernel
theorem dX8_readsTeam_42 : decode cX8_readsTeam 42 = .ok (.dup, 1) := by decide +kernel
theorem dX8_readsTeam_43 : decode cX8_readsTeam 43 = .ok (.getfield 186, 3) := by decide +kernel
theorem dX8_readsTeam_46 : decode cX8_readsTeam 46 = .ok (.iload_n 2, 1) := by decide +kernel
theorem dX8_readsTeam_47 : decode cX8_readsTeam 47 = .ok (.iconst (-1), 1) := by decide +kernel
theorem dX8_readsTeam_48 : decode cX8_readsTeam 48 = .ok (.if_icmp .eq 7, 3) := by decide +kernel
theorem dX8_readsTeam_51 : decode cX8_readsTeam 51 = .ok (.iconst 1, 1) := by decide +kernel
theorem dX8_readsTeam_52 : decode cX8_readsTeam 52 = .ok (.goto 4, 3) := by decide +kernel
theorem dX8_readsTeam_55 : decode cX8_readsTeam 55 = .ok (.iconst 0, 1) := by decide +kernel
theorem dX8_readsTeam_56 : decode cX8_readsTeam 56 = .ok (.isub, 1) := by decide +kernel
theorem dX8_readsTeam_57 : decode cX8_readsTeam 57 = .ok (.putfield 186, 3) := by decide +kernel
theorem dX8_readsTeam_60 : decode cX8_readsTeam 60 = .ok (.iload_n 2, 1) := by decide +kernel
theorem dX8_readsTeam_61 : decode cX8_readsTeam 61 = .ok (.iconst (-1), 1) := by decide +kernel
theorem dX8_readsTeam_62 : decode cX8_readsTeam 62 = .ok (.if_icmp .ne 18, 3) := by decide +kernel
theorem dX8_readsTeam_65 : decode cX8_readsTeam 65 = .ok (.aload_n 0, 1) := by decide +kernel
theorem dX8_readsTeam_66 : decode cX8_readsTeam 66 = .ok (.getfield 189, 3) := by decide +kernel
theorem dX8_readsTeam_69 : decode cX8_readsTeam 69 = .ok (.invokestatic 118, 3) := by decide +kernel
theorem dX8_readsTeam_72 : decode cX8_readsTeam 72 = .ok (.iconst 2, 1) := by decide +kernel
theorem dX8_readsTeam_73 : decode cX8_readsTeam 73 = .ok (.if_icmp .le 7, 3) := by decide +kernel
theorem dX8_readsTeam_76 : decode cX8_readsTeam 76 = .ok (.iconst 1, 1) := by decide +kernel
theorem dX8_readsTeam_77 : decode cX8_readsTeam 77 = .ok (.goto 4, 3) := by decide +kernel
theorem dX8_readsTeam_80 : decode cX8_readsTeam 80 = .ok (.iconst 0, 1) := by decide +kernel
theorem dX8_readsTeam_81 : decode cX8_readsTeam 81 = .ok (.ireturn, 1) := by decide +kernel
theorem dX8_readsRest_0 : decode cX8_readsRest 0 = .ok (.aload_n 0, 1) := by decide +kernel
theorem dX8_readsRest_1 : decode cX8_readsRest 1 = .ok (.getfield 195, 3) := by decide +kernel
theorem dX8_readsRest_4 : decode cX8_readsRest 4 = .ok (.bipush 112, 2) := by decide +kernel
theorem dX8_readsRest_6 : decode cX8_readsRest 6 = .ok (.if_icmp .ne 8, 3) := by decide +kernel
theorem dX8_readsRest_9 : decode cX8_readsRest 9 = .ok (.aload_n 0, 1) := by decide +kernel
theorem dX8_readsRest_10 : decode cX8_readsRest 10 = .ok (.invokevirtual 198, 3) := by decide +kernel
theorem dX8_readsRest_13 : decode cX8_readsRest 13 = .ok (.ireturn, 1) := by decide +kernel
theorem dX8_readsRest_14 : decode cX8_readsRest 14 = .ok (.aload_n 0, 1) := by decide +kernel
theorem dX8_readsRest_15 : decode cX8_readsRest 15 = .ok (.getfield 195, 3) := by decide +kernel
theorem dX8_readsRest_18 : decode cX8_readsRest 18 = .ok (.bipush 99, 2) := by decide +kernel
theorem dX8_readsRest_20 : decode cX8_readsRest 20 = .ok (.if_icmp .ne 8, 3) := by decide +kernel
theorem dX8_readsRest_23 : decode cX8_readsRest 23 = .ok (.aload_n 0, 1) := by decide +kernel
theorem dX8_readsRest_24 : decode cX8_readsRest 24 = .ok (.invokevirtual 201, 3) := by decide +kernel
theorem dX8_readsRest_27 : decode cX8_readsRest 27 = .ok (.ireturn, 1) := by decide +kernel
theorem dX8_readsRest_28 : decode cX8_readsRest 28 = .ok (.aload_n 0, 1) := by decide +kernel
theorem dX8_readsRest_29 : decode cX8_readsRest 29 = .ok (.getfield 195, 3) := by decide +kernel
theorem dX8_readsRest_32 : decode cX8_readsRest 32 = .ok (.bipush 103, 2) := by decide +kernel
theorem dX8_readsRest_34 : decode cX8_readsRest 34 = .ok (.if_icmp .eq 42, 3) := by decide +kernel
theorem dX8_readsRest_37 : decode cX8_readsRest 37 = .ok (.aload_n 0, 1) := by decide +kernel
theorem dX8_readsRest_38 : decode cX8_readsRest 38 = .ok (.getfield 195, 3) := by decide +kernel
theorem dX8_readsRest_41 : decode cX8_readsRest 41 = .ok (.bipush 114, 2) := by decide +kernel
theorem dX8_readsRest_43 : decode cX8_readsRest 43 = .ok (.if_icmp .eq 33, 3) := by decide +kernel
theorem dX8_readsRest_46 : decode cX8_readsRest 46 = .ok (.aload_n 0, 1) := by decide +kernel
theorem dX8_readsRest_47 : decode cX8_readsRest 47 = .ok (.getfield 195, 3) := by decide +kernel
theorem dX8_readsRest_50 : decode cX8_readsRest 50 = .ok (.bipush 116, 2) := by decide +kernel
theorem dX8_readsRest_52 : decode cX8_readsRest 52 = .ok (.if_icmp .eq 24, 3) := by decide +kernel
theorem dX8_readsRest_55 : decode cX8_readsRest 55 = .ok (.aload_n 0, 1) := by decide +kernel
theorem dX8_readsRest_56 : decode cX8_readsRest 56 = .ok (.getfield 195, 3) := by decide +kernel
theorem dX8_readsRest_59 : decode cX8_readsRest 59 = .ok (.bipush 109, 2) := by decide +kernel
theorem dX8_readsRest_61 : decode cX8_readsRest 61 = .ok (.if_icmp .eq 15, 3) := by decide +kernel
theorem dX8_readsRest_64 : decode cX8_readsRest 64 = .ok (.aload_n 0, 1) := by decide +kernel
theorem dX8_readsRest_65 : decode cX8_readsRest 65 = .ok (.dup, 1) := by decide +kernel
theorem dX8_readsRest_66 : decode cX8_readsRest 66 = .ok (.getfield 186, 3) := by decide +kernel
theorem dX8_readsRest_69 : decode cX8_readsRest 69 = .ok (.iconst 1, 1) := by decide +kernel
theorem dX8_readsRest_70 : decode cX8_readsRest 70 = .ok (.isub, 1) := by decide +kernel
theorem dX8_readsRest_71 : decode cX8_readsRest 71 = .ok (.putfield 186, 3) := by decide +kernel
theorem dX8_readsRest_74 : decode cX8_readsRest 74 = .ok (.iconst 0, 1) := by decide +kernel
theorem dX8_readsRest_75 : decode cX8_readsRest 75 = .ok (.ireturn, 1) := by decide +kernel
theorem dX8_readsRest_76 : decode cX8_readsRest 76 = .ok (.aload_n 0, 1) := by decide +kernel
theorem dX8_readsRest_77 : decode cX8_readsRest 77 = .ok (.aload_n 0, 1) := by decide +kernel
theorem dX8_readsRest_78 : decode cX8_readsRest 78 = .ok (.iconst 5, 1) := by decide +kernel
theorem dX8_readsRest_79 : decode cX8_readsRest 79 = .ok (.invokevirtual 192, 3) := by decide +kernel
theorem dX8_readsRest_82 : decode cX8_readsRest 82 = .ok (.putfield 189, 3) := by decide +kernel
theorem dX8_readsRest_85 : decode cX8_readsRest 85 = .ok (.aload_n 0, 1) := by decide +kernel
theorem dX8_readsRest_86 : decode cX8_readsRest 86 = .ok (.getfield 189, 3) := by decide +kernel
theorem dX8_readsRest_89 : decode cX8_readsRest 89 = .ok (.iconst (-1), 1) := by decide +kernel
theorem dX8_readsRest_90 : decode cX8_readsRest 90 = .ok (.if_icmp .eq 21, 3) := by decide +kernel
theorem dX8_readsRest_93 : decode cX8_readsRest 93 = .ok (.aload_n 0, 1) := by decide +kernel
theorem dX8_readsRest_94 : decode cX8_readsRest 94 = .ok (.getfield 195, 3) := by decide +kernel
theorem dX8_readsRest_97 : decode cX8_readsRest 97 = .ok (.bipush 114, 2) := by decide +kernel
theorem dX8_readsRest_99 : decode cX8_readsRest 99 = .ok (.if_icmp .eq 12, 3) := by decide +kernel
theorem dX8_readsRest_102 : decode cX8_readsRest 102 = .ok (.aload_n 0, 1) := by decide +kernel
theorem dX8_readsRest_103 : decode cX8_readsRest 103 = .ok (.getfield 195, 3) := by decide +kernel
theorem dX8_readsRest_106 : decode cX8_readsRest 106 = .ok (.bipush 109, 2) := by decide +kernel
theorem dX8_readsRest_108 : decode cX8_readsRest 108 = .ok (.if_icmp .ne 17, 3) := by decide +kernel
theorem dX8_readsRest_111 : decode cX8_readsRest 111 = .ok (.aload_n 0, 1) := by decide +kernel
theorem dX8_readsRest_112 : decode cX8_readsRest 112 = .ok (.getfield 189, 3) := by decide +kernel
theorem dX8_readsRest_115 : decode cX8_readsRest 115 = .ok (.iconst (-1), 1) := by decide +kernel
theorem dX8_readsRest_116 : decode cX8_readsRest 116 = .ok (.if_icmp .eq 7, 3) := by decide +kernel
theorem dX8_readsRest_119 : decode cX8_readsRest 119 = .ok (.iconst 1, 1) := by decide +kernel
theorem dX8_readsRest_120 : decode cX8_readsRest 120 = .ok (.goto 4, 3) := by decide +kernel
theorem dX8_readsRest_123 : decode cX8_readsRest 123 = .ok (.iconst 0, 1) := by decide +kernel
theorem dX8_readsRest_124 : decode cX8_readsRest 124 = .ok (.ireturn, 1) := by decide +kernel
theorem dX8_readsRest_125 : decode cX8_readsRest 125 = .ok (.aload_n 0, 1) := by decide +kernel
theorem dX8_readsRest_126 : decode cX8_readsRest 126 = .ok (.aload_n 0, 1) := by decide +kernel
theorem dX8_readsRest_127 : decode cX8_readsRest 127 = .ok (.bipush 7, 2) := by decide +kernel
theorem dX8_readsRest_129 : decode cX8_readsRest 129 = .ok (.invokevirtual 192, 3) := by decide +kernel
theorem dX8_readsRest_132 : decode cX8_readsRest 132 = .ok (.putfield 204, 3) := by decide +kernel
theorem dX8_readsRest_135 : decode cX8_readsRest 135 = .ok (.aload_n 0, 1) := by decide +kernel
theorem dX8_readsRest_136 : decode cX8_readsRest 136 = .ok (.getfield 204, 3) := by decide +kernel
theorem dX8_readsRest_139 : decode cX8_readsRest 139 = .ok (.iconst (-1), 1) := by decide +kernel
theorem dX8_readsRest_140 : decode cX8_readsRest 140 = .ok (.if_icmp .eq 7, 3) := by decide +kernel
theorem dX8_readsRest_143 : decode cX8_readsRest 143 = .ok (.iconst 1, 1) := by decide +kernel
theorem dX8_readsRest_144 : decode cX8_readsRest 144 = .ok (.goto 4, 3) := by decide +kernel
theorem dX8_readsRest_147 : decode cX8_readsRest 147 = .ok (.iconst 0, 1) := by decide +kernel
theorem dX8_readsRest_148 : decode cX8_readsRest 148 = .ok (.ireturn, 1) := by decide +kernel
theorem dX8_readsOrder_0 : decode cX8_readsOrder 0 = .ok (.aload_n 0, 1) := by decide +kernel
theorem dX8_readsOrder_1 : decode cX8_readsOrder 1 = .ok (.aload_n 0, 1) := by decide +kernel
theorem dX8_readsOrder_2 : decode cX8_readsOrder 2 = .ok (.getfield 19, 3) := by decide +kernel
theorem dX8_readsOrder_5 : decode cX8_readsOrder 5 = .ok (.aload_n 0, 1) := by decide +kernel
theorem dX8_readsOrder_6 : decode cX8_readsOrder 6 = .ok (.getfield 186, 3) := by decide +kernel
theorem dX8_readsOrder_9 : decode cX8_readsOrder 9 = .ok (.iaload, 1) := by decide +kernel
theorem dX8_readsOrder_10 : decode cX8_readsOrder 10 = .ok (.putfield 195, 3) := by decide +kernel
theorem dX8_readsOrder_13 : decode cX8_readsOrder 13 = .ok (.aload_n 0, 1) := by decide +kernel
theorem dX8_readsOrder_14 : decode cX8_readsOrder 14 = .ok (.dup, 1) := by decide +kernel
theorem dX8_readsOrder_15 : decode cX8_readsOrder 15 = .ok (.getfield 186, 3) := by decide +kernel
theorem dX8_readsOrder_18 : decode cX8_readsOrder 18 = .ok (.iconst 1, 1) := by decide +kernel
theorem dX8_readsOrder_19 : decode cX8_readsOrder 19 = .ok (.iadd, 1) := by decide +kernel
theorem dX8_readsOrder_20 : decode cX8_readsOrder 20 = .ok (.putfield 186, 3) := by decide +kernel
theorem dX8_readsOrder_23 : decode cX8_readsOrder 23 = .ok (.aload_n 0, 1) := by decide +kernel
theorem dX8_readsOrder_24 : decode cX8_readsOrder 24 = .ok (.invokevirtual 207, 3) := by decide +kernel
theorem dX8_readsOrder_27 : decode cX8_readsOrder 27 = .ok (.ifCond .eq 28, 3) := by decide +kernel
theorem dX8_readsOrder_30 : decode cX8_readsOrder 30 = .ok (.aload_n 0, 1) := by decide +kernel
theorem dX8_readsOrder_31 : decode cX8_readsOrder 31 = .ok (.getfield 186, 3) := by decide +kernel
theorem dX8_readsOrder_34 : decode cX8_readsOrder 34 = .ok (.aload_n 0, 1) := by decide +kernel
theorem dX8_readsOrder_35 : decode cX8_readsOrder 35 = .ok (.getfield 183, 3) := by decide +kernel
theorem dX8_readsOrder_38 : decode cX8_readsOrder 38 = .ok (.if_icmp .eq 17, 3) := by decide +kernel
theorem dX8_readsOrder_41 : decode cX8_readsOrder 41 = .ok (.aload_n 0, 1) := by decide +kernel
theorem dX8_readsOrder_42 : decode cX8_readsOrder 42 = .ok (.getfield 19, 3) := by decide +kernel
theorem dX8_readsOrder_45 : decode cX8_readsOrder 45 = .ok (.aload_n 0, 1) := by decide +kernel
theorem dX8_readsOrder_46 : decode cX8_readsOrder 46 = .ok (.getfield 186, 3) := by decide +kernel
theorem dX8_readsOrder_49 : decode cX8_readsOrder 49 = .ok (.iaload, 1) := by decide +kernel
theorem dX8_readsOrder_50 : decode cX8_readsOrder 50 = .ok (.bipush 59, 2) := by decide +kernel
theorem dX8_readsOrder_52 : decode cX8_readsOrder 52 = .ok (.if_icmp .eq 5, 3) := by decide +kernel
theorem dX8_readsOrder_55 : decode cX8_readsOrder 55 = .ok (.iconst 0, 1) := by decide +kernel
theorem dX8_readsOrder_56 : decode cX8_readsOrder 56 = .ok (.ireturn, 1) := by decide +kernel
theorem dX8_readsOrder_57 : decode cX8_readsOrder 57 = .ok (.aload_n 0, 1) := by decide +kernel
theorem dX8_readsOrder_58 : decode cX8_readsOrder 58 = .ok (.dup, 1) := by decide +kernel
theorem dX8_readsOrder_59 : decode cX8_readsOrder 59 = .ok (.getfield 186, 3) := by decide +kernel
theorem dX8_readsOrder_62 : decode cX8_readsOrder 62 = .ok (.iconst 1, 1) := by decide +kernel
theorem dX8_readsOrder_63 : decode cX8_readsOrder 63 = .ok (.iadd, 1) := by decide +kernel
theorem dX8_readsOrder_64 : decode cX8_readsOrder 64 = .ok (.putfield 186, 3) := by decide +kernel
theorem dX8_readsOrder_67 : decode cX8_readsOrder 67 = .ok (.iconst 1, 1) := by decide +kernel
theorem dX8_readsOrder_68 : decode cX8_readsOrder 68 = .ok (.ireturn, 1) := by decide +kernel
theorem dX8_faultAt_0 : decode cX8_faultAt 0 = .ok (.aload_n 0, 1) := by decide +kernel
theorem dX8_faultAt_1 : decode cX8_faultAt 1 = .ok (.iconst 0, 1) := by decide +kernel
theorem dX8_faultAt_2 : decode cX8_faultAt 2 = .ok (.putfield 186, 3) := by decide +kernel
theorem dX8_faultAt_5 : decode cX8_faultAt 5 = .ok (.aload_n 0, 1) := by decide +kernel
theorem dX8_faultAt_6 : decode cX8_faultAt 6 = .ok (.getfield 186, 3) := by decide +kernel
theorem dX8_faultAt_9 : decode cX8_faultAt 9 = .ok (.aload_n 0, 1) := by decide +kernel
theorem dX8_faultAt_10 : decode cX8_faultAt 10 = .ok (.getfield 183, 3) := by decide +kernel
theorem dX8_faultAt_13 : decode cX8_faultAt 13 = .ok (.if_icmp .ge 15, 3) := by decide +kernel
theorem dX8_faultAt_16 : decode cX8_faultAt 16 = .ok (.aload_n 0, 1) := by decide +kernel
theorem dX8_faultAt_17 : decode cX8_faultAt 17 = .ok (.invokevirtual 210, 3) := by decide +kernel
theorem dX8_faultAt_20 : decode cX8_faultAt 20 = .ok (.ifCond .ne (-15), 3) := by decide +kernel
theorem dX8_faultAt_23 : decode cX8_faultAt 23 = .ok (.aload_n 0, 1) := by decide +kernel
theorem dX8_faultAt_24 : decode cX8_faultAt 24 = .ok (.getfield 186, 3) := by decide +kernel
theorem dX8_faultAt_27 : decode cX8_faultAt 27 = .ok (.ireturn, 1) := by decide +kernel
theorem dX8_faultAt_28 : decode cX8_faultAt 28 = .ok (.iconst (-1), 1) := by decide +kernel
theorem dX8_faultAt_29 : decode cX8_faultAt 29 = .ok (.ireturn, 1) := by decide +kernel
theorem dX8_does_0 : decode cX8_does 0 = .ok (.aload_n 0, 1) := by decide +kernel
theorem dX8_does_1 : decode cX8_does 1 = .ok (.getfield 195, 3) := by decide +kernel
theorem dX8_does_4 : decode cX8_does 4 = .ok (.lookupswitch 105 #[(99, 87), (103, 52), (109, 96), (114, 65), (116, 74)], 52) := by decide +kernel
theorem dX8_does_56 : decode cX8_does 56 = .ok (.aload_n 0, 1) := by decide +kernel
theorem dX8_does_57 : decode cX8_does 57 = .ok (.aload_n 0, 1) := by decide +kernel
theorem dX8_does_58 : decode cX8_does 58 = .ok (.getfield 189, 3) := by decide +kernel
theorem dX8_does_61 : decode cX8_does 61 = .ok (.aload_n 0, 1) := by decide +kernel
theorem dX8_does_62 : decode cX8_does 62 = .ok (.getfield 204, 3) := by decide +kernel
theorem dX8_does_65 : decode cX8_does 65 = .ok (.invokevirtual 144, 3) := by decide +kernel
theorem dX8_does_68 : decode cX8_does 68 = .ok (.ireturn, 1) := by decide +kernel
theorem dX8_does_69 : decode cX8_does 69 = .ok (.aload_n 0, 1) := by decide +kernel
theorem dX8_does_70 : decode cX8_does 70 = .ok (.aload_n 0, 1) := by decide +kernel
theorem dX8_does_71 : decode cX8_does 71 = .ok (.getfield 189, 3) := by decide +kernel
theorem dX8_does_74 : decode cX8_does 74 = .ok (.invokevirtual 153, 3) := by decide +kernel
theorem dX8_does_77 : decode cX8_does 77 = .ok (.ireturn, 1) := by decide +kernel
theorem dX8_does_78 : decode cX8_does 78 = .ok (.aload_n 0, 1) := by decide +kernel
theorem dX8_does_79 : decode cX8_does 79 = .ok (.aload_n 0, 1) := by decide +kernel
theorem dX8_does_80 : decode cX8_does 80 = .ok (.getfield 189, 3) := by decide +kernel
theorem dX8_does_83 : decode cX8_does 83 = .ok (.aload_n 0, 1) := by decide +kernel
theorem dX8_does_84 : decode cX8_does 84 = .ok (.getfield 204, 3) := by decide +kernel
theorem dX8_does_87 : decode cX8_does 87 = .ok (.invokevirtual 150, 3) := by decide +kernel
theorem dX8_does_90 : decode cX8_does 90 = .ok (.ireturn, 1) := by decide +kernel
theorem dX8_does_91 : decode cX8_does 91 = .ok (.aload_n 0, 1) := by decide +kernel
theorem dX8_does_92 : decode cX8_does 92 = .ok (.aload_n 0, 1) := by decide +kernel
theorem dX8_does_93 : decode cX8_does 93 = .ok (.getfield 189, 3) := by decide +kernel
theorem dX8_does_96 : decode cX8_does 96 = .ok (.invokevirtual 156, 3) := by decide +kernel
theorem dX8_does_99 : decode cX8_does 99 = .ok (.ireturn, 1) := by decide +kernel
theorem dX8_does_100 : decode cX8_does 100 = .ok (.aload_n 0, 1) := by decide +kernel
theorem dX8_does_101 : decode cX8_does 101 = .ok (.aload_n 0, 1) := by decide +kernel
theorem dX8_does_102 : decode cX8_does 102 = .ok (.getfield 189, 3) := by decide +kernel
theorem dX8_does_105 : decode cX8_does 105 = .ok (.invokevirtual 159, 3) := by decide +kernel
theorem dX8_does_108 : decode cX8_does 108 = .ok (.ireturn, 1) := by decide +kernel
theorem dX8_does_109 : decode cX8_does 109 = .ok (.aload_n 0, 1) := by decide +kernel
theorem dX8_does_110 : decode cX8_does 110 = .ok (.aload_n 0, 1) := by decide +kernel
theorem dX8_does_111 : decode cX8_does 111 = .ok (.getfield 189, 3) := by decide +kernel
theorem dX8_does_114 : decode cX8_does 114 = .ok (.invokevirtual 162, 3) := by decide +kernel
theorem dX8_does_117 : decode cX8_does 117 = .ok (.ireturn, 1) := by decide +kernel
theorem dX8_carryOut_0 : decode cX8_carryOut 0 = .ok (.aload_n 0, 1) := by decide +kernel
theorem dX8_carryOut_1 : decode cX8_carryOut 1 = .ok (.invokevirtual 213, 3) := by decide +kernel
theorem dX8_carryOut_4 : decode cX8_carryOut 4 = .ok (.istore_n 1, 1) := by decide +kernel
theorem dX8_carryOut_5 : decode cX8_carryOut 5 = .ok (.iload_n 1, 1) := by decide +kernel
theorem dX8_carryOut_6 : decode cX8_carryOut 6 = .ok (.iconst (-1), 1) := by decide +kernel
theorem dX8_carryOut_7 : decode cX8_carryOut 7 = .ok (.if_icmp .eq 12, 3) := by decide +kernel
theorem dX8_carryOut_10 : decode cX8_carryOut 10 = .ok (.aload_n 0, 1) := by decide +kernel
theorem dX8_carryOut_11 : decode cX8_carryOut 11 = .ok (.bipush (-10), 2) := by decide +kernel
theorem dX8_carryOut_13 : decode cX8_carryOut 13 = .ok (.iload_n 1, 1) := by decide +kernel
theorem dX8_carryOut_14 : decode cX8_carryOut 14 = .ok (.isub, 1) := by decide +kernel
theorem dX8_carryOut_15 : decode cX8_carryOut 15 = .ok (.invokevirtual 33, 3) := by decide +kernel
theorem dX8_carryOut_18 : decode cX8_carryOut 18 = .ok (.ireturn, 1) := by decide +kernel
theorem dX8_carryOut_19 : decode cX8_carryOut 19 = .ok (.aload_n 0, 1) := by decide +kernel
theorem dX8_carryOut_20 : decode cX8_carryOut 20 = .ok (.invokevirtual 61, 3) := by decide +kernel
theorem dX8_carryOut_23 : decode cX8_carryOut 23 = .ok (.aload_n 0, 1) := by decide +kernel
theorem dX8_carryOut_24 : decode cX8_carryOut 24 = .ok (.iconst 0, 1) := by decide +kernel
theorem dX8_carryOut_25 : decode cX8_carryOut 25 = .ok (.putfield 186, 3) := by decide +kernel
theorem dX8_carryOut_28 : decode cX8_carryOut 28 = .ok (.iconst 0, 1) := by decide +kernel
theorem dX8_carryOut_29 : decode cX8_carryOut 29 = .ok (.istore_n 2, 1) := by decide +kernel
theorem dX8_carryOut_30 : decode cX8_carryOut 30 = .ok (.iconst 1, 1) := by decide +kernel
theorem dX8_carryOut_31 : decode cX8_carryOut 31 = .ok (.istore_n 3, 1) := by decide +kernel
theorem dX8_carryOut_32 : decode cX8_carryOut 32 = .ok (.iload_n 3, 1) := by decide +kernel
theorem dX8_carryOut_33 : decode cX8_carryOut 33 = .ok (.ifCond .eq 49, 3) := by decide +kernel
theorem dX8_carryOut_36 : decode cX8_carryOut 36 = .ok (.aload_n 0, 1) := by decide +kernel
theorem dX8_carryOut_37 : decode cX8_carryOut 37 = .ok (.getfield 186, 3) := by decide +kernel
theorem dX8_carryOut_40 : decode cX8_carryOut 40 = .ok (.aload_n 0, 1) := by decide +kernel
theorem dX8_carryOut_41 : decode cX8_carryOut 41 = .ok (.getfield 183, 3) := by decide +kernel
theorem dX8_carryOut_44 : decode cX8_carryOut 44 = .ok (.if_icmp .ge 38, 3) := by decide +kernel
theorem dX8_carryOut_47 : decode cX8_carryOut 47 = .ok (.aload_n 0, 1) := by decide +kernel
theorem dX8_carryOut_48 : decode cX8_carryOut 48 = .ok (.invokevirtual 210, 3) := by decide +kernel
theorem dX8_carryOut_51 : decode cX8_carryOut 51 = .ok (.ifCond .eq 14, 3) := by decide +kernel
theorem dX8_carryOut_54 : decode cX8_carryOut 54 = .ok (.aload_n 0, 1) := by decide +kernel
theorem dX8_carryOut_55 : decode cX8_carryOut 55 = .ok (.invokevirtual 216, 3) := by decide +kernel
theorem dX8_carryOut_58 : decode cX8_carryOut 58 = .ok (.ifCond .ne 7, 3) := by decide +kernel
theorem dX8_carryOut_61 : decode cX8_carryOut 61 = .ok (.iconst 1, 1) := by decide +kernel
theorem dX8_carryOut_62 : decode cX8_carryOut 62 = .ok (.goto 4, 3) := by decide +kernel
theorem dX8_carryOut_65 : decode cX8_carryOut 65 = .ok (.iconst 0, 1) := by decide +kernel
theorem dX8_carryOut_66 : decode cX8_carryOut 66 = .ok (.istore_n 3, 1) := by decide +kernel
theorem dX8_carryOut_67 : decode cX8_carryOut 67 = .ok (.iload_n 2, 1) := by decide +kernel
theorem dX8_carryOut_68 : decode cX8_carryOut 68 = .ok (.iload_n 3, 1) := by decide +kernel
theorem dX8_carryOut_69 : decode cX8_carryOut 69 = .ok (.ifCond .eq 7, 3) := by decide +kernel
theorem dX8_carryOut_72 : decode cX8_carryOut 72 = .ok (.iconst 1, 1) := by decide +kernel
theorem dX8_carryOut_73 : decode cX8_carryOut 73 = .ok (.goto 4, 3) := by decide +kernel
theorem dX8_carryOut_76 : decode cX8_carryOut 76 = .ok (.iconst 0, 1) := by decide +kernel
theorem dX8_carryOut_77 : decode cX8_carryOut 77 = .ok (.iadd, 1) := by decide +kernel
theorem dX8_carryOut_78 : decode cX8_carryOut 78 = .ok (.istore_n 2, 1) := by decide +kernel
theorem dX8_carryOut_79 : decode cX8_carryOut 79 = .ok (.goto (-47), 3) := by decide +kernel
theorem dX8_carryOut_82 : decode cX8_carryOut 82 = .ok (.aload_n 0, 1) := by decide +kernel
theorem dX8_carryOut_83 : decode cX8_carryOut 83 = .ok (.iload_n 2, 1) := by decide +kernel
theorem dX8_carryOut_84 : decode cX8_carryOut 84 = .ok (.invokevirtual 64, 3) := by decide +kernel
theorem dX8_carryOut_87 : decode cX8_carryOut 87 = .ok (.ireturn, 1) := by decide +kernel
theorem dX8_undo_0 : decode cX8_undo 0 = .ok (.aload_n 0, 1) := by decide +kernel
theorem dX8_undo_1 : decode cX8_undo 1 = .ok (.getfield 30, 3) := by decide +kernel
theorem dX8_undo_4 : decode cX8_undo 4 = .ok (.ifCond .ne 9, 3) := by decide +kernel
theorem dX8_undo_7 : decode cX8_undo 7 = .ok (.aload_n 0, 1) := by decide +kernel
theorem dX8_undo_8 : decode cX8_undo 8 = .ok (.iconst 1, 1) := by decide +kernel
theorem dX8_undo_9 : decode cX8_undo 9 = .ok (.invokevirtual 58, 3) := by decide +kernel
theorem dX8_undo_12 : decode cX8_undo 12 = .ok (.ireturn, 1) := by decide +kernel
theorem dX8_undo_13 : decode cX8_undo 13 = .ok (.aload_n 0, 1) := by decide +kernel
theorem dX8_undo_14 : decode cX8_undo 14 = .ok (.dup, 1) := by decide +kernel
theorem dX8_undo_15 : decode cX8_undo 15 = .ok (.getfield 30, 3) := by decide +kernel
theorem dX8_undo_18 : decode cX8_undo 18 = .ok (.iconst 1, 1) := by decide +kernel
theorem dX8_undo_19 : decode cX8_undo 19 = .ok (.isub, 1) := by decide +kernel
theorem dX8_undo_20 : decode cX8_undo 20 = .ok (.putfield 30, 3) := by decide +kernel
theorem dX8_undo_23 : decode cX8_undo 23 = .ok (.iconst 0, 1) := by decide +kernel
theorem dX8_undo_24 : decode cX8_undo 24 = .ok (.istore_n 1, 1) := by decide +kernel
theorem dX8_undo_25 : decode cX8_undo 25 = .ok (.iload_n 1, 1) := by decide +kernel
theorem dX8_undo_26 : decode cX8_undo 26 = .ok (.sipush 178, 3) := by decide +kernel
theorem dX8_undo_29 : decode cX8_undo 29 = .ok (.if_icmp .ge 30, 3) := by decide +kernel
theorem dX8_undo_32 : decode cX8_undo 32 = .ok (.aload_n 0, 1) := by decide +kernel
theorem dX8_undo_33 : decode cX8_undo 33 = .ok (.getfield 7, 3) := by decide +kernel
theorem dX8_undo_36 : decode cX8_undo 36 = .ok (.iload_n 1, 1) := by decide +kernel
theorem dX8_undo_37 : decode cX8_undo 37 = .ok (.aload_n 0, 1) := by decide +kernel
theorem dX8_undo_38 : decode cX8_undo 38 = .ok (.getfield 13, 3) := by decide +kernel
theorem dX8_undo_41 : decode cX8_undo 41 = .ok (.sipush 178, 3) := by decide +kernel
theorem dX8_undo_44 : decode cX8_undo 44 = .ok (.aload_n 0, 1) := by decide +kernel
theorem dX8_undo_45 : decode cX8_undo 45 = .ok (.getfield 30, 3) := by decide +kernel
theorem dX8_undo_48 : decode cX8_undo 48 = .ok (.imul, 1) := by decide +kernel
theorem dX8_undo_49 : decode cX8_undo 49 = .ok (.iload_n 1, 1) := by decide +kernel
theorem dX8_undo_50 : decode cX8_undo 50 = .ok (.iadd, 1) := by decide +kernel
theorem dX8_undo_51 : decode cX8_undo 51 = .ok (.iaload, 1) := by decide +kernel
theorem dX8_undo_52 : decode cX8_undo 52 = .ok (.iastore, 1) := by decide +kernel
theorem dX8_undo_53 : decode cX8_undo 53 = .ok (.iinc 1 1, 3) := by decide +kernel
theorem dX8_undo_56 : decode cX8_undo 56 = .ok (.goto (-31), 3) := by decide +kernel
theorem dX8_undo_59 : decode cX8_undo 59 = .ok (.aload_n 0, 1) := by decide +kernel
theorem dX8_undo_60 : decode cX8_undo 60 = .ok (.aload_n 0, 1) := by decide +kernel
theorem dX8_undo_61 : decode cX8_undo 61 = .ok (.getfield 30, 3) := by decide +kernel
theorem dX8_undo_64 : decode cX8_undo 64 = .ok (.invokevirtual 33, 3) := by decide +kernel
theorem dX8_undo_67 : decode cX8_undo 67 = .ok (.ireturn, 1) := by decide +kernel
theorem dX8_mix_0 : decode cX8_mix 0 = .ok (.aload_n 0, 1) := by decide +kernel
theorem dX8_mix_1 : decode cX8_mix 1 = .ok (.ldc2_w 219, 3) := by decide +kernel
theorem dX8_mix_4 : decode cX8_mix 4 = .ok (.aload_n 0, 1) := by decide +kernel
theorem dX8_mix_5 : decode cX8_mix 5 = .ok (.getfield 221, 3) := by decide +kernel
theorem dX8_mix_8 : decode cX8_mix 8 = .ok (.lmul, 1) := by decide +kernel
theorem dX8_mix_9 : decode cX8_mix 9 = .ok (.iload_n 1, 1) := by decide +kernel
theorem dX8_mix_10 : decode cX8_mix 10 = .ok (.i2l, 1) := by decide +kernel
theorem dX8_mix_11 : decode cX8_mix 11 = .ok (.ladd, 1) := by decide +kernel
theorem dX8_mix_12 : decode cX8_mix 12 = .ok (.putfield 221, 3) := by decide +kernel
theorem dX8_mix_15 : decode cX8_mix 15 = .ok (.return_, 1) := by decide +kernel
theorem dX8_digest_0 : decode cX8_digest 0 = .ok (.aload_n 0, 1) := by decide +kernel
theorem dX8_digest_1 : decode cX8_digest 1 = .ok (.iconst 0, 1) := by decide +kernel
theorem dX8_digest_2 : decode cX8_digest 2 = .ok (.putfield 26, 3) := by decide +kernel
theorem dX8_digest_5 : decode cX8_digest 5 = .ok (.aload_n 0, 1) := by decide +kernel
theorem dX8_digest_6 : decode cX8_digest 6 = .ok (.ldc2_w 225, 3) := by decide +kernel
theorem dX8_digest_9 : decode cX8_digest 9 = .ok (.putfield 221, 3) := by decide +kernel
theorem dX8_digest_12 : decode cX8_digest 12 = .ok (.aload_n 0, 1) := by decide +kernel
theorem dX8_digest_13 : decode cX8_digest 13 = .ok (.aload_n 0, 1) := by decide +kernel
theorem dX8_digest_14 : decode cX8_digest 14 = .ok (.getfield 183, 3) := by decide +kernel
theorem dX8_digest_17 : decode cX8_digest 17 = .ok (.invokevirtual 227, 3) := by decide +kernel
theorem dX8_digest_20 : decode cX8_digest 20 = .ok (.iconst 0, 1) := by decide +kernel
theorem dX8_digest_21 : decode cX8_digest 21 = .ok (.istore_n 1, 1) := by decide +kernel
theorem dX8_digest_22 : decode cX8_digest 22 = .ok (.iload_n 1, 1) := by decide +kernel
theorem dX8_digest_23 : decode cX8_digest 23 = .ok (.bipush 14, 2) := by decide +kernel
theorem dX8_digest_25 : decode cX8_digest 25 = .ok (.if_icmp .ge 18, 3) := by decide +kernel
theorem dX8_digest_28 : decode cX8_digest 28 = .ok (.aload_n 0, 1) := by decide +kernel
theorem dX8_digest_29 : decode cX8_digest 29 = .ok (.aload_n 0, 1) := by decide +kernel
theorem dX8_digest_30 : decode cX8_digest 30 = .ok (.iload_n 1, 1) := by decide +kernel
theorem dX8_digest_31 : decode cX8_digest 31 = .ok (.invokevirtual 174, 3) := by decide +kernel
theorem dX8_digest_34 : decode cX8_digest 34 = .ok (.invokevirtual 227, 3) := by decide +kernel
theorem dX8_digest_37 : decode cX8_digest 37 = .ok (.iinc 1 1, 3) := by decide +kernel
theorem dX8_digest_40 : decode cX8_digest 40 = .ok (.goto (-18), 3) := by decide +kernel
theorem dX8_digest_43 : decode cX8_digest 43 = .ok (.iconst 0, 1) := by decide +kernel
theorem dX8_digest_44 : decode cX8_digest 44 = .ok (.istore_n 1, 1) := by decide +kernel
theorem dX8_digest_45 : decode cX8_digest 45 = .ok (.iload_n 1, 1) := by decide +kernel
theorem dX8_digest_46 : decode cX8_digest 46 = .ok (.iconst 5, 1) := by decide +kernel
theorem dX8_digest_47 : decode cX8_digest 47 = .ok (.aload_n 0, 1) := by decide +kernel
theorem dX8_digest_48 : decode cX8_digest 48 = .ok (.getfield 7, 3) := by decide +kernel
theorem dX8_digest_51 : decode cX8_digest 51 = .ok (.iconst 0, 1) := by decide +kernel
theorem dX8_digest_52 : decode cX8_digest 52 = .ok (.iaload, 1) := by decide +kernel
theorem dX8_digest_53 : decode cX8_digest 53 = .ok (.imul, 1) := by decide +kernel
theorem dX8_digest_54 : decode cX8_digest 54 = .ok (.if_icmp .ge 23, 3) := by decide +kernel
theorem dX8_digest_57 : decode cX8_digest 57 = .ok (.aload_n 0, 1) := by decide +kernel
theorem dX8_digest_58 : decode cX8_digest 58 = .ok (.aload_n 0, 1) := by decide +kernel
theorem dX8_digest_59 : decode cX8_digest 59 = .ok (.iload_n 1, 1) := by decide +kernel
theorem dX8_digest_60 : decode cX8_digest 60 = .ok (.iconst 5, 1) := by decide +kernel
theorem dX8_digest_61 : decode cX8_digest 61 = .ok (.idiv, 1) := by decide +kernel
theorem dX8_digest_62 : decode cX8_digest 62 = .ok (.iload_n 1, 1) := by decide +kernel
theorem dX8_digest_63 : decode cX8_digest 63 = .ok (.iconst 5, 1) := by decide +kernel
theorem dX8_digest_64 : decode cX8_digest 64 = .ok (.irem, 1) := by decide +kernel
theorem dX8_digest_65 : decode cX8_digest 65 = .ok (.invokevirtual 165, 3) := by decide +kernel
theorem dX8_digest_68 : decode cX8_digest 68 = .ok (.invokevirtual 227, 3) := by decide +kernel
theorem dX8_digest_71 : decode cX8_digest 71 = .ok (.iinc 1 1, 3) := by decide +kernel
theorem dX8_digest_74 : decode cX8_digest 74 = .ok (.goto (-29), 3) := by decide +kernel
theorem dX8_digest_77 : decode cX8_digest 77 = .ok (.iconst 0, 1) := by decide +kernel
theorem dX8_digest_78 : decode cX8_digest 78 = .ok (.istore_n 1, 1) := by decide +kernel
theorem dX8_digest_79 : decode cX8_digest 79 = .ok (.iload_n 1, 1) := by decide +kernel
theorem dX8_digest_80 : decode cX8_digest 80 = .ok (.iconst 3, 1) := by decide +kernel
theorem dX8_digest_81 : decode cX8_digest 81 = .ok (.aload_n 0, 1) := by decide +kernel
theorem dX8_digest_82 : decode cX8_digest 82 = .ok (.getfield 7, 3) := by decide +kernel
theorem dX8_digest_85 : decode cX8_digest 85 = .ok (.iconst 1, 1) := by decide +kernel
theorem dX8_digest_86 : decode cX8_digest 86 = .ok (.iaload, 1) := by decide +kernel
theorem dX8_digest_87 : decode cX8_digest 87 = .ok (.imul, 1) := by decide +kernel
theorem dX8_digest_88 : decode cX8_digest 88 = .ok (.if_icmp .ge 22, 3) := by decide +kernel
theorem dX8_digest_91 : decode cX8_digest 91 = .ok (.aload_n 0, 1) := by decide +kernel
theorem dX8_digest_92 : decode cX8_digest 92 = .ok (.aload_n 0, 1) := by decide +kernel
theorem dX8_digest_93 : decode cX8_digest 93 = .ok (.getfield 7, 3) := by decide +kernel
theorem dX8_digest_96 : decode cX8_digest 96 = .ok (.bipush 34, 2) := by decide +kernel
theorem dX8_digest_98 : decode cX8_digest 98 = .ok (.iload_n 1, 1) := by decide +kernel
theorem dX8_digest_99 : decode cX8_digest 99 = .ok (.iadd, 1) := by decide +kernel
theorem dX8_digest_100 : decode cX8_digest 100 = .ok (.iaload, 1) := by decide +kernel
theorem dX8_digest_101 : decode cX8_digest 101 = .ok (.invokevirtual 227, 3) := by decide +kernel
theorem dX8_digest_104 : decode cX8_digest 104 = .ok (.iinc 1 1, 3) := by decide +kernel
theorem dX8_digest_107 : decode cX8_digest 107 = .ok (.goto (-28), 3) := by decide +kernel
theorem dX8_digest_110 : decode cX8_digest 110 = .ok (.iconst 0, 1) := by decide +kernel
theorem dX8_digest_111 : decode cX8_digest 111 = .ok (.istore_n 1, 1) := by decide +kernel
theorem dX8_digest_112 : decode cX8_digest 112 = .ok (.iload_n 1, 1) := by decide +kernel
theorem dX8_digest_113 : decode cX8_digest 113 = .ok (.bipush 9, 2) := by decide +kernel
theorem dX8_digest_115 : decode cX8_digest 115 = .ok (.aload_n 0, 1) := by decide +kernel
theorem dX8_digest_116 : decode cX8_digest 116 = .ok (.getfield 7, 3) := by decide +kernel
theorem dX8_digest_119 : decode cX8_digest 119 = .ok (.iconst 2, 1) := by decide +kernel
theorem dX8_digest_120 : decode cX8_digest 120 = .ok (.iaload, 1) := by decide +kernel
theorem dX8_digest_121 : decode cX8_digest 121 = .ok (.imul, 1) := by decide +kernel
theorem dX8_digest_122 : decode cX8_digest 122 = .ok (.if_icmp .ge 22, 3) := by decide +kernel
theorem dX8_digest_125 : decode cX8_digest 125 = .ok (.aload_n 0, 1) := by decide +kernel
theorem dX8_digest_126 : decode cX8_digest 126 = .ok (.aload_n 0, 1) := by decide +kernel
theorem dX8_digest_127 : decode cX8_digest 127 = .ok (.getfield 7, 3) := by decide +kernel
theorem dX8_digest_130 : decode cX8_digest 130 = .ok (.bipush 58, 2) := by decide +kernel
theorem dX8_digest_132 : decode cX8_digest 132 = .ok (.iload_n 1, 1) := by decide +kernel
theorem dX8_digest_133 : decode cX8_digest 133 = .ok (.iadd, 1) := by decide +kernel
theorem dX8_digest_134 : decode cX8_digest 134 = .ok (.iaload, 1) := by decide +kernel
theorem dX8_digest_135 : decode cX8_digest 135 = .ok (.invokevirtual 227, 3) := by decide +kernel
theorem dX8_digest_138 : decode cX8_digest 138 = .ok (.iinc 1 1, 3) := by decide +kernel
theorem dX8_digest_141 : decode cX8_digest 141 = .ok (.goto (-29), 3) := by decide +kernel
theorem dX8_digest_144 : decode cX8_digest 144 = .ok (.iconst 0, 1) := by decide +kernel
theorem dX8_digest_145 : decode cX8_digest 145 = .ok (.istore_n 1, 1) := by decide +kernel
theorem dX8_digest_146 : decode cX8_digest 146 = .ok (.iload_n 1, 1) := by decide +kernel
theorem dX8_digest_147 : decode cX8_digest 147 = .ok (.iconst 3, 1) := by decide +kernel
theorem dX8_digest_148 : decode cX8_digest 148 = .ok (.aload_n 0, 1) := by decide +kernel
theorem dX8_digest_149 : decode cX8_digest 149 = .ok (.getfield 7, 3) := by decide +kernel
theorem dX8_digest_152 : decode cX8_digest 152 = .ok (.bipush 6, 2) := by decide +kernel
theorem dX8_digest_154 : decode cX8_digest 154 = .ok (.iaload, 1) := by decide +kernel
theorem dX8_digest_155 : decode cX8_digest 155 = .ok (.imul, 1) := by decide +kernel
theorem dX8_digest_156 : decode cX8_digest 156 = .ok (.if_icmp .ge 22, 3) := by decide +kernel
theorem dX8_digest_159 : decode cX8_digest 159 = .ok (.aload_n 0, 1) := by decide +kernel
theorem dX8_digest_160 : decode cX8_digest 160 = .ok (.aload_n 0, 1) := by decide +kernel
theorem dX8_digest_161 : decode cX8_digest 161 = .ok (.getfield 7, 3) := by decide +kernel
theorem dX8_digest_164 : decode cX8_digest 164 = .ok (.bipush 112, 2) := by decide +kernel
theorem dX8_digest_166 : decode cX8_digest 166 = .ok (.iload_n 1, 1) := by decide +kernel
theorem dX8_digest_167 : decode cX8_digest 167 = .ok (.iadd, 1) := by decide +kernel
theorem dX8_digest_168 : decode cX8_digest 168 = .ok (.iaload, 1) := by decide +kernel
theorem dX8_digest_169 : decode cX8_digest 169 = .ok (.invokevirtual 227, 3) := by decide +kernel
theorem dX8_digest_172 : decode cX8_digest 172 = .ok (.iinc 1 1, 3) := by decide +kernel
theorem dX8_digest_175 : decode cX8_digest 175 = .ok (.goto (-29), 3) := by decide +kernel
theorem dX8_digest_178 : decode cX8_digest 178 = .ok (.iconst 0, 1) := by decide +kernel
theorem dX8_digest_179 : decode cX8_digest 179 = .ok (.istore_n 1, 1) := by decide +kernel
theorem dX8_digest_180 : decode cX8_digest 180 = .ok (.iload_n 1, 1) := by decide +kernel
theorem dX8_digest_181 : decode cX8_digest 181 = .ok (.iconst 3, 1) := by decide +kernel
theorem dX8_digest_182 : decode cX8_digest 182 = .ok (.aload_n 0, 1) := by decide +kernel
theorem dX8_digest_183 : decode cX8_digest 183 = .ok (.getfield 7, 3) := by decide +kernel
theorem dX8_digest_186 : decode cX8_digest 186 = .ok (.bipush 12, 2) := by decide +kernel
theorem dX8_digest_188 : decode cX8_digest 188 = .ok (.iaload, 1) := by decide +kernel
theorem dX8_digest_189 : decode cX8_digest 189 = .ok (.imul, 1) := by decide +kernel
theorem dX8_digest_190 : decode cX8_digest 190 = .ok (.if_icmp .ge 23, 3) := by decide +kernel
theorem dX8_digest_193 : decode cX8_digest 193 = .ok (.aload_n 0, 1) := by decide +kernel
theorem dX8_digest_194 : decode cX8_digest 194 = .ok (.aload_n 0, 1) := by decide +kernel
theorem dX8_digest_195 : decode cX8_digest 195 = .ok (.getfield 7, 3) := by decide +kernel
theorem dX8_digest_198 : decode cX8_digest 198 = .ok (.sipush 142, 3) := by decide +kernel
theorem dX8_digest_201 : decode cX8_digest 201 = .ok (.iload_n 1, 1) := by decide +kernel
theorem dX8_digest_202 : decode cX8_digest 202 = .ok (.iadd, 1) := by decide +kernel
theorem dX8_digest_203 : decode cX8_digest 203 = .ok (.iaload, 1) := by decide +kernel
theorem dX8_digest_204 : decode cX8_digest 204 = .ok (.invokevirtual 227, 3) := by decide +kernel
theorem dX8_digest_207 : decode cX8_digest 207 = .ok (.iinc 1 1, 3) := by decide +kernel
theorem dX8_digest_210 : decode cX8_digest 210 = .ok (.goto (-30), 3) := by decide +kernel
theorem dX8_digest_213 : decode cX8_digest 213 = .ok (.aload_n 0, 1) := by decide +kernel
theorem dX8_digest_214 : decode cX8_digest 214 = .ok (.aload_n 0, 1) := by decide +kernel
theorem dX8_digest_215 : decode cX8_digest 215 = .ok (.getfield 30, 3) := by decide +kernel
theorem dX8_digest_218 : decode cX8_digest 218 = .ok (.invokevirtual 227, 3) := by decide +kernel
theorem dX8_digest_221 : decode cX8_digest 221 = .ok (.aload_n 0, 1) := by decide +kernel
theorem dX8_digest_222 : decode cX8_digest 222 = .ok (.getfield 221, 3) := by decide +kernel
theorem dX8_digest_225 : decode cX8_digest 225 = .ok (.lreturn, 1) := by decide +kernel
