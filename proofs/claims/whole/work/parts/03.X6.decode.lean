theorem dX6_init_0 : decode cX6_init 0 = .ok (.aload_n 0, 1) := by decide +kernel
theorem dX6_init_1 : decode cX6_init 1 = .ok (.invokespecial 3, 3) := by decide +kernel
theorem dX6_init_4 : decode cX6_init 4 = .ok (.aload_n 0, 1) := by decide +kernel
theorem dX6_init_5 : decode cX6_init 5 = .ok (.bipush 90, 2) := by decide +kernel
theorem dX6_init_7 : decode cX6_init 7 = .ok (.newarray .int, 2) := by decide +kernel
theorem dX6_init_9 : decode cX6_init 9 = .ok (.putfield 9, 3) := by decide +kernel
theorem dX6_init_12 : decode cX6_init 12 = .ok (.aload_n 0, 1) := by decide +kernel
theorem dX6_init_13 : decode cX6_init 13 = .ok (.iconst 0, 1) := by decide +kernel
theorem dX6_init_14 : decode cX6_init 14 = .ok (.putfield 15, 3) := by decide +kernel
theorem dX6_init_17 : decode cX6_init 17 = .ok (.return_, 1) := by decide +kernel
theorem dX6_add_0 : decode cX6_add 0 = .ok (.aload_n 0, 1) := by decide +kernel
theorem dX6_add_1 : decode cX6_add 1 = .ok (.getfield 15, 3) := by decide +kernel
theorem dX6_add_4 : decode cX6_add 4 = .ok (.bipush 90, 2) := by decide +kernel
theorem dX6_add_6 : decode cX6_add 6 = .ok (.if_icmp .ge 23, 3) := by decide +kernel
theorem dX6_add_9 : decode cX6_add 9 = .ok (.aload_n 0, 1) := by decide +kernel
theorem dX6_add_10 : decode cX6_add 10 = .ok (.getfield 9, 3) := by decide +kernel
theorem dX6_add_13 : decode cX6_add 13 = .ok (.aload_n 0, 1) := by decide +kernel
theorem dX6_add_14 : decode cX6_add 14 = .ok (.getfield 15, 3) := by decide +kernel
theorem dX6_add_17 : decode cX6_add 17 = .ok (.iload_n 1, 1) := by decide +kernel
theorem dX6_add_18 : decode cX6_add 18 = .ok (.iastore, 1) := by decide +kernel
theorem dX6_add_19 : decode cX6_add 19 = .ok (.aload_n 0, 1) := by decide +kernel
theorem dX6_add_20 : decode cX6_add 20 = .ok (.dup, 1) := by decide +kernel
theorem dX6_add_21 : decode cX6_add 21 = .ok (.getfield 15, 3) := by decide +kernel
theorem dX6_add_24 : decode cX6_add 24 = .ok (.iconst 1, 1) := by decide +kernel
theorem dX6_add_25 : decode cX6_add 25 = .ok (.iadd, 1) := by decide +kernel
theorem dX6_add_26 : decode cX6_add 26 = .ok (.putfield 15, 3) := by decide +kernel
theorem dX6_add_29 : decode cX6_add 29 = .ok (.return_, 1) := by decide +kernel
theorem dX6_byteAt_0 : decode cX6_byteAt 0 = .ok (.iload_n 1, 1) := by decide +kernel
theorem dX6_byteAt_1 : decode cX6_byteAt 1 = .ok (.ifCond .lt 20, 3) := by decide +kernel
theorem dX6_byteAt_4 : decode cX6_byteAt 4 = .ok (.iload_n 1, 1) := by decide +kernel
theorem dX6_byteAt_5 : decode cX6_byteAt 5 = .ok (.aload_n 0, 1) := by decide +kernel
theorem dX6_byteAt_6 : decode cX6_byteAt 6 = .ok (.getfield 15, 3) := by decide +kernel
theorem dX6_byteAt_9 : decode cX6_byteAt 9 = .ok (.if_icmp .ge 12, 3) := by decide +kernel
theorem dX6_byteAt_12 : decode cX6_byteAt 12 = .ok (.aload_n 0, 1) := by decide +kernel
theorem dX6_byteAt_13 : decode cX6_byteAt 13 = .ok (.getfield 9, 3) := by decide +kernel
theorem dX6_byteAt_16 : decode cX6_byteAt 16 = .ok (.iload_n 1, 1) := by decide +kernel
theorem dX6_byteAt_17 : decode cX6_byteAt 17 = .ok (.iaload, 1) := by decide +kernel
theorem dX6_byteAt_18 : decode cX6_byteAt 18 = .ok (.goto 4, 3) := by decide +kernel
theorem dX6_byteAt_21 : decode cX6_byteAt 21 = .ok (.iconst (-1), 1) := by decide +kernel
theorem dX6_byteAt_22 : decode cX6_byteAt 22 = .ok (.ireturn, 1) := by decide +kernel
theorem dX6_digitAt_0 : decode cX6_digitAt 0 = .ok (.aload_n 0, 1) := by decide +kernel
theorem dX6_digitAt_1 : decode cX6_digitAt 1 = .ok (.iload_n 1, 1) := by decide +kernel
theorem dX6_digitAt_2 : decode cX6_digitAt 2 = .ok (.invokevirtual 19, 3) := by decide +kernel
theorem dX6_digitAt_5 : decode cX6_digitAt 5 = .ok (.istore_n 2, 1) := by decide +kernel
theorem dX6_digitAt_6 : decode cX6_digitAt 6 = .ok (.iload_n 2, 1) := by decide +kernel
theorem dX6_digitAt_7 : decode cX6_digitAt 7 = .ok (.bipush 48, 2) := by decide +kernel
theorem dX6_digitAt_9 : decode cX6_digitAt 9 = .ok (.if_icmp .lt 16, 3) := by decide +kernel
theorem dX6_digitAt_12 : decode cX6_digitAt 12 = .ok (.iload_n 2, 1) := by decide +kernel
theorem dX6_digitAt_13 : decode cX6_digitAt 13 = .ok (.bipush 57, 2) := by decide +kernel
theorem dX6_digitAt_15 : decode cX6_digitAt 15 = .ok (.if_icmp .gt 10, 3) := by decide +kernel
theorem dX6_digitAt_18 : decode cX6_digitAt 18 = .ok (.iload_n 2, 1) := by decide +kernel
theorem dX6_digitAt_19 : decode cX6_digitAt 19 = .ok (.bipush 48, 2) := by decide +kernel
theorem dX6_digitAt_21 : decode cX6_digitAt 21 = .ok (.isub, 1) := by decide +kernel
theorem dX6_digitAt_22 : decode cX6_digitAt 22 = .ok (.goto 4, 3) := by decide +kernel
theorem dX6_digitAt_25 : decode cX6_digitAt 25 = .ok (.iconst (-1), 1) := by decide +kernel
theorem dX6_digitAt_26 : decode cX6_digitAt 26 = .ok (.ireturn, 1) := by decide +kernel
theorem dX6_firstWrong_0 : decode cX6_firstWrong 0 = .ok (.iconst 0, 1) := by decide +kernel
theorem dX6_firstWrong_1 : decode cX6_firstWrong 1 = .ok (.istore_n 1, 1) := by decide +kernel
theorem dX6_firstWrong_2 : decode cX6_firstWrong 2 = .ok (.iconst 0, 1) := by decide +kernel
theorem dX6_firstWrong_3 : decode cX6_firstWrong 3 = .ok (.istore_n 2, 1) := by decide +kernel
theorem dX6_firstWrong_4 : decode cX6_firstWrong 4 = .ok (.iload_n 2, 1) := by decide +kernel
theorem dX6_firstWrong_5 : decode cX6_firstWrong 5 = .ok (.bipush 90, 2) := by decide +kernel
theorem dX6_firstWrong_7 : decode cX6_firstWrong 7 = .ok (.if_icmp .ge 32, 3) := by decide +kernel
theorem dX6_firstWrong_10 : decode cX6_firstWrong 10 = .ok (.iload_n 1, 1) := by decide +kernel
theorem dX6_firstWrong_11 : decode cX6_firstWrong 11 = .ok (.aload_n 0, 1) := by decide +kernel
theorem dX6_firstWrong_12 : decode cX6_firstWrong 12 = .ok (.getfield 15, 3) := by decide +kernel
theorem dX6_firstWrong_15 : decode cX6_firstWrong 15 = .ok (.if_icmp .ge 24, 3) := by decide +kernel
theorem dX6_firstWrong_18 : decode cX6_firstWrong 18 = .ok (.aload_n 0, 1) := by decide +kernel
theorem dX6_firstWrong_19 : decode cX6_firstWrong 19 = .ok (.iload_n 1, 1) := by decide +kernel
theorem dX6_firstWrong_20 : decode cX6_firstWrong 20 = .ok (.invokevirtual 23, 3) := by decide +kernel
theorem dX6_firstWrong_23 : decode cX6_firstWrong 23 = .ok (.istore_n 1, 1) := by decide +kernel
theorem dX6_firstWrong_24 : decode cX6_firstWrong 24 = .ok (.iload_n 1, 1) := by decide +kernel
theorem dX6_firstWrong_25 : decode cX6_firstWrong 25 = .ok (.ifCond .ge 8, 3) := by decide +kernel
theorem dX6_firstWrong_28 : decode cX6_firstWrong 28 = .ok (.iload_n 1, 1) := by decide +kernel
theorem dX6_firstWrong_29 : decode cX6_firstWrong 29 = .ok (.invokestatic 26, 3) := by decide +kernel
theorem dX6_firstWrong_32 : decode cX6_firstWrong 32 = .ok (.ireturn, 1) := by decide +kernel
theorem dX6_firstWrong_33 : decode cX6_firstWrong 33 = .ok (.iinc 2 1, 3) := by decide +kernel
theorem dX6_firstWrong_36 : decode cX6_firstWrong 36 = .ok (.goto (-32), 3) := by decide +kernel
theorem dX6_firstWrong_39 : decode cX6_firstWrong 39 = .ok (.iconst (-1), 1) := by decide +kernel
theorem dX6_firstWrong_40 : decode cX6_firstWrong 40 = .ok (.ireturn, 1) := by decide +kernel
theorem dX6_wrongAt_0 : decode cX6_wrongAt 0 = .ok (.iconst (-1), 1) := by decide +kernel
theorem dX6_wrongAt_1 : decode cX6_wrongAt 1 = .ok (.iload_n 0, 1) := by decide +kernel
theorem dX6_wrongAt_2 : decode cX6_wrongAt 2 = .ok (.isub, 1) := by decide +kernel
theorem dX6_wrongAt_3 : decode cX6_wrongAt 3 = .ok (.ireturn, 1) := by decide +kernel
theorem dX6_behindOrder_0 : decode cX6_behindOrder 0 = .ok (.aload_n 0, 1) := by decide +kernel
theorem dX6_behindOrder_1 : decode cX6_behindOrder 1 = .ok (.iload_n 1, 1) := by decide +kernel
theorem dX6_behindOrder_2 : decode cX6_behindOrder 2 = .ok (.invokevirtual 19, 3) := by decide +kernel
theorem dX6_behindOrder_5 : decode cX6_behindOrder 5 = .ok (.tableswitch 139 99 116 #[123, 139, 139, 139, 87, 139, 139, 139, 139, 139, 95, 139, 139, 131, 139, 95, 139, 87], 87) := by decide +kernel
theorem dX6_behindOrder_92 : decode cX6_behindOrder 92 = .ok (.aload_n 0, 1) := by decide +kernel
theorem dX6_behindOrder_93 : decode cX6_behindOrder 93 = .ok (.iload_n 1, 1) := by decide +kernel
theorem dX6_behindOrder_94 : decode cX6_behindOrder 94 = .ok (.iconst 1, 1) := by decide +kernel
theorem dX6_behindOrder_95 : decode cX6_behindOrder 95 = .ok (.iadd, 1) := by decide +kernel
theorem dX6_behindOrder_96 : decode cX6_behindOrder 96 = .ok (.invokevirtual 29, 3) := by decide +kernel
theorem dX6_behindOrder_99 : decode cX6_behindOrder 99 = .ok (.ireturn, 1) := by decide +kernel
theorem dX6_behindOrder_100 : decode cX6_behindOrder 100 = .ok (.aload_n 0, 1) := by decide +kernel
theorem dX6_behindOrder_101 : decode cX6_behindOrder 101 = .ok (.iconst 5, 1) := by decide +kernel
theorem dX6_behindOrder_102 : decode cX6_behindOrder 102 = .ok (.iload_n 1, 1) := by decide +kernel
theorem dX6_behindOrder_103 : decode cX6_behindOrder 103 = .ok (.iconst 1, 1) := by decide +kernel
theorem dX6_behindOrder_104 : decode cX6_behindOrder 104 = .ok (.iadd, 1) := by decide +kernel
theorem dX6_behindOrder_105 : decode cX6_behindOrder 105 = .ok (.invokevirtual 32, 3) := by decide +kernel
theorem dX6_behindOrder_108 : decode cX6_behindOrder 108 = .ok (.ifCond .eq 13, 3) := by decide +kernel
theorem dX6_behindOrder_111 : decode cX6_behindOrder 111 = .ok (.aload_n 0, 1) := by decide +kernel
theorem dX6_behindOrder_112 : decode cX6_behindOrder 112 = .ok (.iload_n 1, 1) := by decide +kernel
theorem dX6_behindOrder_113 : decode cX6_behindOrder 113 = .ok (.iconst 2, 1) := by decide +kernel
theorem dX6_behindOrder_114 : decode cX6_behindOrder 114 = .ok (.iadd, 1) := by decide +kernel
theorem dX6_behindOrder_115 : decode cX6_behindOrder 115 = .ok (.invokevirtual 36, 3) := by decide +kernel
theorem dX6_behindOrder_118 : decode cX6_behindOrder 118 = .ok (.goto 9, 3) := by decide +kernel
theorem dX6_behindOrder_121 : decode cX6_behindOrder 121 = .ok (.iload_n 1, 1) := by decide +kernel
theorem dX6_behindOrder_122 : decode cX6_behindOrder 122 = .ok (.iconst 1, 1) := by decide +kernel
theorem dX6_behindOrder_123 : decode cX6_behindOrder 123 = .ok (.iadd, 1) := by decide +kernel
theorem dX6_behindOrder_124 : decode cX6_behindOrder 124 = .ok (.invokestatic 26, 3) := by decide +kernel
theorem dX6_behindOrder_127 : decode cX6_behindOrder 127 = .ok (.ireturn, 1) := by decide +kernel
theorem dX6_behindOrder_128 : decode cX6_behindOrder 128 = .ok (.aload_n 0, 1) := by decide +kernel
theorem dX6_behindOrder_129 : decode cX6_behindOrder 129 = .ok (.iload_n 1, 1) := by decide +kernel
theorem dX6_behindOrder_130 : decode cX6_behindOrder 130 = .ok (.iconst 1, 1) := by decide +kernel
theorem dX6_behindOrder_131 : decode cX6_behindOrder 131 = .ok (.iadd, 1) := by decide +kernel
theorem dX6_behindOrder_132 : decode cX6_behindOrder 132 = .ok (.invokevirtual 39, 3) := by decide +kernel
theorem dX6_behindOrder_135 : decode cX6_behindOrder 135 = .ok (.ireturn, 1) := by decide +kernel
theorem dX6_behindOrder_136 : decode cX6_behindOrder 136 = .ok (.aload_n 0, 1) := by decide +kernel
theorem dX6_behindOrder_137 : decode cX6_behindOrder 137 = .ok (.iload_n 1, 1) := by decide +kernel
theorem dX6_behindOrder_138 : decode cX6_behindOrder 138 = .ok (.iconst 1, 1) := by decide +kernel
theorem dX6_behindOrder_139 : decode cX6_behindOrder 139 = .ok (.iadd, 1) := by decide +kernel
theorem dX6_behindOrder_140 : decode cX6_behindOrder 140 = .ok (.invokevirtual 42, 3) := by decide +kernel
theorem dX6_behindOrder_143 : decode cX6_behindOrder 143 = .ok (.ireturn, 1) := by decide +kernel
theorem dX6_behindOrder_144 : decode cX6_behindOrder 144 = .ok (.iload_n 1, 1) := by decide +kernel
theorem dX6_behindOrder_145 : decode cX6_behindOrder 145 = .ok (.invokestatic 26, 3) := by decide +kernel
theorem dX6_behindOrder_148 : decode cX6_behindOrder 148 = .ok (.ireturn, 1) := by decide +kernel
theorem dX6_behindEnd_0 : decode cX6_behindEnd 0 = .ok (.aload_n 0, 1) := by decide +kernel
theorem dX6_behindEnd_1 : decode cX6_behindEnd 1 = .ok (.iload_n 1, 1) := by decide +kernel
theorem dX6_behindEnd_2 : decode cX6_behindEnd 2 = .ok (.invokevirtual 19, 3) := by decide +kernel
theorem dX6_behindEnd_5 : decode cX6_behindEnd 5 = .ok (.bipush 59, 2) := by decide +kernel
theorem dX6_behindEnd_7 : decode cX6_behindEnd 7 = .ok (.if_icmp .ne 9, 3) := by decide +kernel
theorem dX6_behindEnd_10 : decode cX6_behindEnd 10 = .ok (.iload_n 1, 1) := by decide +kernel
theorem dX6_behindEnd_11 : decode cX6_behindEnd 11 = .ok (.iconst 1, 1) := by decide +kernel
theorem dX6_behindEnd_12 : decode cX6_behindEnd 12 = .ok (.iadd, 1) := by decide +kernel
theorem dX6_behindEnd_13 : decode cX6_behindEnd 13 = .ok (.goto 7, 3) := by decide +kernel
theorem dX6_behindEnd_16 : decode cX6_behindEnd 16 = .ok (.iload_n 1, 1) := by decide +kernel
theorem dX6_behindEnd_17 : decode cX6_behindEnd 17 = .ok (.invokestatic 26, 3) := by decide +kernel
theorem dX6_behindEnd_20 : decode cX6_behindEnd 20 = .ok (.ireturn, 1) := by decide +kernel
theorem dX6_isUpTo_0 : decode cX6_isUpTo 0 = .ok (.aload_n 0, 1) := by decide +kernel
theorem dX6_isUpTo_1 : decode cX6_isUpTo 1 = .ok (.iload_n 2, 1) := by decide +kernel
theorem dX6_isUpTo_2 : decode cX6_isUpTo 2 = .ok (.invokevirtual 45, 3) := by decide +kernel
theorem dX6_isUpTo_5 : decode cX6_isUpTo 5 = .ok (.istore_n 3, 1) := by decide +kernel
theorem dX6_isUpTo_6 : decode cX6_isUpTo 6 = .ok (.iload_n 3, 1) := by decide +kernel
theorem dX6_isUpTo_7 : decode cX6_isUpTo 7 = .ok (.iconst (-1), 1) := by decide +kernel
theorem dX6_isUpTo_8 : decode cX6_isUpTo 8 = .ok (.if_icmp .eq 12, 3) := by decide +kernel
theorem dX6_isUpTo_11 : decode cX6_isUpTo 11 = .ok (.iload_n 3, 1) := by decide +kernel
theorem dX6_isUpTo_12 : decode cX6_isUpTo 12 = .ok (.iload_n 1, 1) := by decide +kernel
theorem dX6_isUpTo_13 : decode cX6_isUpTo 13 = .ok (.if_icmp .gt 7, 3) := by decide +kernel
theorem dX6_isUpTo_16 : decode cX6_isUpTo 16 = .ok (.iconst 1, 1) := by decide +kernel
theorem dX6_isUpTo_17 : decode cX6_isUpTo 17 = .ok (.goto 4, 3) := by decide +kernel
theorem dX6_isUpTo_20 : decode cX6_isUpTo 20 = .ok (.iconst 0, 1) := by decide +kernel
theorem dX6_isUpTo_21 : decode cX6_isUpTo 21 = .ok (.ireturn, 1) := by decide +kernel
theorem dX6_behindTwoDigits_0 : decode cX6_behindTwoDigits 0 = .ok (.aload_n 0, 1) := by decide +kernel
theorem dX6_behindTwoDigits_1 : decode cX6_behindTwoDigits 1 = .ok (.iconst 5, 1) := by decide +kernel
theorem dX6_behindTwoDigits_2 : decode cX6_behindTwoDigits 2 = .ok (.iload_n 1, 1) := by decide +kernel
theorem dX6_behindTwoDigits_3 : decode cX6_behindTwoDigits 3 = .ok (.invokevirtual 32, 3) := by decide +kernel
theorem dX6_behindTwoDigits_6 : decode cX6_behindTwoDigits 6 = .ok (.ifCond .ne 8, 3) := by decide +kernel
theorem dX6_behindTwoDigits_9 : decode cX6_behindTwoDigits 9 = .ok (.iload_n 1, 1) := by decide +kernel
theorem dX6_behindTwoDigits_10 : decode cX6_behindTwoDigits 10 = .ok (.invokestatic 26, 3) := by decide +kernel
theorem dX6_behindTwoDigits_13 : decode cX6_behindTwoDigits 13 = .ok (.ireturn, 1) := by decide +kernel
theorem dX6_behindTwoDigits_14 : decode cX6_behindTwoDigits 14 = .ok (.aload_n 0, 1) := by decide +kernel
theorem dX6_behindTwoDigits_15 : decode cX6_behindTwoDigits 15 = .ok (.bipush 7, 2) := by decide +kernel
theorem dX6_behindTwoDigits_17 : decode cX6_behindTwoDigits 17 = .ok (.iload_n 1, 1) := by decide +kernel
theorem dX6_behindTwoDigits_18 : decode cX6_behindTwoDigits 18 = .ok (.iconst 1, 1) := by decide +kernel
theorem dX6_behindTwoDigits_19 : decode cX6_behindTwoDigits 19 = .ok (.iadd, 1) := by decide +kernel
theorem dX6_behindTwoDigits_20 : decode cX6_behindTwoDigits 20 = .ok (.invokevirtual 32, 3) := by decide +kernel
theorem dX6_behindTwoDigits_23 : decode cX6_behindTwoDigits 23 = .ok (.ifCond .eq 13, 3) := by decide +kernel
theorem dX6_behindTwoDigits_26 : decode cX6_behindTwoDigits 26 = .ok (.aload_n 0, 1) := by decide +kernel
theorem dX6_behindTwoDigits_27 : decode cX6_behindTwoDigits 27 = .ok (.iload_n 1, 1) := by decide +kernel
theorem dX6_behindTwoDigits_28 : decode cX6_behindTwoDigits 28 = .ok (.iconst 2, 1) := by decide +kernel
theorem dX6_behindTwoDigits_29 : decode cX6_behindTwoDigits 29 = .ok (.iadd, 1) := by decide +kernel
theorem dX6_behindTwoDigits_30 : decode cX6_behindTwoDigits 30 = .ok (.invokevirtual 36, 3) := by decide +kernel
theorem dX6_behindTwoDigits_33 : decode cX6_behindTwoDigits 33 = .ok (.goto 9, 3) := by decide +kernel
theorem dX6_behindTwoDigits_36 : decode cX6_behindTwoDigits 36 = .ok (.iload_n 1, 1) := by decide +kernel
theorem dX6_behindTwoDigits_37 : decode cX6_behindTwoDigits 37 = .ok (.iconst 1, 1) := by decide +kernel
theorem dX6_behindTwoDigits_38 : decode cX6_behindTwoDigits 38 = .ok (.iadd, 1) := by decide +kernel
theorem dX6_behindTwoDigits_39 : decode cX6_behindTwoDigits 39 = .ok (.invokestatic 26, 3) := by decide +kernel
theorem dX6_behindTwoDigits_42 : decode cX6_behindTwoDigits 42 = .ok (.ireturn, 1) := by decide +kernel
theorem dX6_behindSet_0 : decode cX6_behindSet 0 = .ok (.aload_n 0, 1) := by decide +kernel
theorem dX6_behindSet_1 : decode cX6_behindSet 1 = .ok (.iload_n 1, 1) := by decide +kernel
theorem dX6_behindSet_2 : decode cX6_behindSet 2 = .ok (.invokevirtual 48, 3) := by decide +kernel
theorem dX6_behindSet_5 : decode cX6_behindSet 5 = .ok (.istore_n 2, 1) := by decide +kernel
theorem dX6_behindSet_6 : decode cX6_behindSet 6 = .ok (.iload_n 2, 1) := by decide +kernel
theorem dX6_behindSet_7 : decode cX6_behindSet 7 = .ok (.iconst 3, 1) := by decide +kernel
theorem dX6_behindSet_8 : decode cX6_behindSet 8 = .ok (.if_icmp .ge 12, 3) := by decide +kernel
theorem dX6_behindSet_11 : decode cX6_behindSet 11 = .ok (.iload_n 1, 1) := by decide +kernel
theorem dX6_behindSet_12 : decode cX6_behindSet 12 = .ok (.iload_n 2, 1) := by decide +kernel
theorem dX6_behindSet_13 : decode cX6_behindSet 13 = .ok (.iadd, 1) := by decide +kernel
theorem dX6_behindSet_14 : decode cX6_behindSet 14 = .ok (.invokestatic 26, 3) := by decide +kernel
theorem dX6_behindSet_17 : decode cX6_behindSet 17 = .ok (.goto 10, 3) := by decide +kernel
theorem dX6_behindSet_20 : decode cX6_behindSet 20 = .ok (.aload_n 0, 1) := by decide +kernel
theorem dX6_behindSet_21 : decode cX6_behindSet 21 = .ok (.iload_n 1, 1) := by decide +kernel
theorem dX6_behindSet_22 : decode cX6_behindSet 22 = .ok (.iload_n 2, 1) := by decide +kernel
theorem dX6_behindSet_23 : decode cX6_behindSet 23 = .ok (.iadd, 1) := by decide +kernel
theorem dX6_behindSet_24 : decode cX6_behindSet 24 = .ok (.invokevirtual 36, 3) := by decide +kernel
theorem dX6_behindSet_27 : decode cX6_behindSet 27 = .ok (.ireturn, 1) := by decide +kernel
theorem dX6_digitsOfSet_0 : decode cX6_digitsOfSet 0 = .ok (.iconst (-1), 1) := by decide +kernel
theorem dX6_digitsOfSet_1 : decode cX6_digitsOfSet 1 = .ok (.istore_n 2, 1) := by decide +kernel
theorem dX6_digitsOfSet_2 : decode cX6_digitsOfSet 2 = .ok (.iconst 0, 1) := by decide +kernel
theorem dX6_digitsOfSet_3 : decode cX6_digitsOfSet 3 = .ok (.istore_n 3, 1) := by decide +kernel
theorem dX6_digitsOfSet_4 : decode cX6_digitsOfSet 4 = .ok (.iload_n 3, 1) := by decide +kernel
theorem dX6_digitsOfSet_5 : decode cX6_digitsOfSet 5 = .ok (.bipush 6, 2) := by decide +kernel
theorem dX6_digitsOfSet_7 : decode cX6_digitsOfSet 7 = .ok (.if_icmp .ge 36, 3) := by decide +kernel
theorem dX6_digitsOfSet_10 : decode cX6_digitsOfSet 10 = .ok (.aload_n 0, 1) := by decide +kernel
theorem dX6_digitsOfSet_11 : decode cX6_digitsOfSet 11 = .ok (.iload_n 1, 1) := by decide +kernel
theorem dX6_digitsOfSet_12 : decode cX6_digitsOfSet 12 = .ok (.iload_n 3, 1) := by decide +kernel
theorem dX6_digitsOfSet_13 : decode cX6_digitsOfSet 13 = .ok (.iadd, 1) := by decide +kernel
theorem dX6_digitsOfSet_14 : decode cX6_digitsOfSet 14 = .ok (.invokevirtual 45, 3) := by decide +kernel
theorem dX6_digitsOfSet_17 : decode cX6_digitsOfSet 17 = .ok (.istore 4, 2) := by decide +kernel
theorem dX6_digitsOfSet_19 : decode cX6_digitsOfSet 19 = .ok (.iload 4, 2) := by decide +kernel
theorem dX6_digitsOfSet_21 : decode cX6_digitsOfSet 21 = .ok (.iload_n 2, 1) := by decide +kernel
theorem dX6_digitsOfSet_22 : decode cX6_digitsOfSet 22 = .ok (.if_icmp .le 10, 3) := by decide +kernel
theorem dX6_digitsOfSet_25 : decode cX6_digitsOfSet 25 = .ok (.iload 4, 2) := by decide +kernel
theorem dX6_digitsOfSet_27 : decode cX6_digitsOfSet 27 = .ok (.bipush 6, 2) := by decide +kernel
theorem dX6_digitsOfSet_29 : decode cX6_digitsOfSet 29 = .ok (.if_icmp .lt 5, 3) := by decide +kernel
theorem dX6_digitsOfSet_32 : decode cX6_digitsOfSet 32 = .ok (.iload_n 3, 1) := by decide +kernel
theorem dX6_digitsOfSet_33 : decode cX6_digitsOfSet 33 = .ok (.ireturn, 1) := by decide +kernel
theorem dX6_digitsOfSet_34 : decode cX6_digitsOfSet 34 = .ok (.iload 4, 2) := by decide +kernel
theorem dX6_digitsOfSet_36 : decode cX6_digitsOfSet 36 = .ok (.istore_n 2, 1) := by decide +kernel
theorem dX6_digitsOfSet_37 : decode cX6_digitsOfSet 37 = .ok (.iinc 3 1, 3) := by decide +kernel
theorem dX6_digitsOfSet_40 : decode cX6_digitsOfSet 40 = .ok (.goto (-36), 3) := by decide +kernel
theorem dX6_digitsOfSet_43 : decode cX6_digitsOfSet 43 = .ok (.bipush 6, 2) := by decide +kernel
theorem dX6_digitsOfSet_45 : decode cX6_digitsOfSet 45 = .ok (.ireturn, 1) := by decide +kernel
theorem dX6_setAt_0 : decode cX6_setAt 0 = .ok (.iconst 0, 1) := by decide +kernel
theorem dX6_setAt_1 : decode cX6_setAt 1 = .ok (.istore_n 2, 1) := by decide +kernel
theorem dX6_setAt_2 : decode cX6_setAt 2 = .ok (.aload_n 0, 1) := by decide +kernel
theorem dX6_setAt_3 : decode cX6_setAt 3 = .ok (.iload_n 1, 1) := by decide +kernel
theorem dX6_setAt_4 : decode cX6_setAt 4 = .ok (.invokevirtual 48, 3) := by decide +kernel
theorem dX6_setAt_7 : decode cX6_setAt 7 = .ok (.istore_n 3, 1) := by decide +kernel
theorem dX6_setAt_8 : decode cX6_setAt 8 = .ok (.iconst 0, 1) := by decide +kernel
theorem dX6_setAt_9 : decode cX6_setAt 9 = .ok (.istore 4, 2) := by decide +kernel
theorem dX6_setAt_11 : decode cX6_setAt 11 = .ok (.iload 4, 2) := by decide +kernel
theorem dX6_setAt_13 : decode cX6_setAt 13 = .ok (.iload_n 3, 1) := by decide +kernel
theorem dX6_setAt_14 : decode cX6_setAt 14 = .ok (.if_icmp .ge 22, 3) := by decide +kernel
theorem dX6_setAt_17 : decode cX6_setAt 17 = .ok (.iload_n 2, 1) := by decide +kernel
theorem dX6_setAt_18 : decode cX6_setAt 18 = .ok (.iconst 1, 1) := by decide +kernel
theorem dX6_setAt_19 : decode cX6_setAt 19 = .ok (.aload_n 0, 1) := by decide +kernel
theorem dX6_setAt_20 : decode cX6_setAt 20 = .ok (.iload_n 1, 1) := by decide +kernel
theorem dX6_setAt_21 : decode cX6_setAt 21 = .ok (.iload 4, 2) := by decide +kernel
theorem dX6_setAt_23 : decode cX6_setAt 23 = .ok (.iadd, 1) := by decide +kernel
theorem dX6_setAt_24 : decode cX6_setAt 24 = .ok (.invokevirtual 45, 3) := by decide +kernel
theorem dX6_setAt_27 : decode cX6_setAt 27 = .ok (.ishl, 1) := by decide +kernel
theorem dX6_setAt_28 : decode cX6_setAt 28 = .ok (.ior, 1) := by decide +kernel
theorem dX6_setAt_29 : decode cX6_setAt 29 = .ok (.istore_n 2, 1) := by decide +kernel
theorem dX6_setAt_30 : decode cX6_setAt 30 = .ok (.iinc 4 1, 3) := by decide +kernel
theorem dX6_setAt_33 : decode cX6_setAt 33 = .ok (.goto (-22), 3) := by decide +kernel
theorem dX6_setAt_36 : decode cX6_setAt 36 = .ok (.iload_n 2, 1) := by decide +kernel
theorem dX6_setAt_37 : decode cX6_setAt 37 = .ok (.ireturn, 1) := by decide +kernel
theorem dX6_behindNumber_0 : decode cX6_behindNumber 0 = .ok (.aload_n 0, 1) := by decide +kernel
theorem dX6_behindNumber_1 : decode cX6_behindNumber 1 = .ok (.iload_n 1, 1) := by decide +kernel
theorem dX6_behindNumber_2 : decode cX6_behindNumber 2 = .ok (.invokevirtual 51, 3) := by decide +kernel
theorem dX6_behindNumber_5 : decode cX6_behindNumber 5 = .ok (.istore_n 2, 1) := by decide +kernel
theorem dX6_behindNumber_6 : decode cX6_behindNumber 6 = .ok (.iload_n 2, 1) := by decide +kernel
theorem dX6_behindNumber_7 : decode cX6_behindNumber 7 = .ok (.ifCond .eq 14, 3) := by decide +kernel
theorem dX6_behindNumber_10 : decode cX6_behindNumber 10 = .ok (.aload_n 0, 1) := by decide +kernel
theorem dX6_behindNumber_11 : decode cX6_behindNumber 11 = .ok (.iload_n 1, 1) := by decide +kernel
theorem dX6_behindNumber_12 : decode cX6_behindNumber 12 = .ok (.iload_n 2, 1) := by decide +kernel
theorem dX6_behindNumber_13 : decode cX6_behindNumber 13 = .ok (.iadd, 1) := by decide +kernel
theorem dX6_behindNumber_14 : decode cX6_behindNumber 14 = .ok (.invokevirtual 45, 3) := by decide +kernel
theorem dX6_behindNumber_17 : decode cX6_behindNumber 17 = .ok (.iconst (-1), 1) := by decide +kernel
theorem dX6_behindNumber_18 : decode cX6_behindNumber 18 = .ok (.if_icmp .eq 10, 3) := by decide +kernel
theorem dX6_behindNumber_21 : decode cX6_behindNumber 21 = .ok (.iload_n 1, 1) := by decide +kernel
theorem dX6_behindNumber_22 : decode cX6_behindNumber 22 = .ok (.iload_n 2, 1) := by decide +kernel
theorem dX6_behindNumber_23 : decode cX6_behindNumber 23 = .ok (.iadd, 1) := by decide +kernel
theorem dX6_behindNumber_24 : decode cX6_behindNumber 24 = .ok (.invokestatic 26, 3) := by decide +kernel
theorem dX6_behindNumber_27 : decode cX6_behindNumber 27 = .ok (.ireturn, 1) := by decide +kernel
theorem dX6_behindNumber_28 : decode cX6_behindNumber 28 = .ok (.aload_n 0, 1) := by decide +kernel
theorem dX6_behindNumber_29 : decode cX6_behindNumber 29 = .ok (.iload_n 1, 1) := by decide +kernel
theorem dX6_behindNumber_30 : decode cX6_behindNumber 30 = .ok (.iload_n 2, 1) := by decide +kernel
theorem dX6_behindNumber_31 : decode cX6_behindNumber 31 = .ok (.invokevirtual 54, 3) := by decide +kernel
theorem dX6_behindNumber_34 : decode cX6_behindNumber 34 = .ok (.istore_n 3, 1) := by decide +kernel
theorem dX6_behindNumber_35 : decode cX6_behindNumber 35 = .ok (.iload_n 3, 1) := by decide +kernel
theorem dX6_behindNumber_36 : decode cX6_behindNumber 36 = .ok (.iconst 1, 1) := by decide +kernel
theorem dX6_behindNumber_37 : decode cX6_behindNumber 37 = .ok (.if_icmp .lt 10, 3) := by decide +kernel
theorem dX6_behindNumber_40 : decode cX6_behindNumber 40 = .ok (.iload_n 3, 1) := by decide +kernel
theorem dX6_behindNumber_41 : decode cX6_behindNumber 41 = .ok (.sipush 600, 3) := by decide +kernel
theorem dX6_behindNumber_44 : decode cX6_behindNumber 44 = .ok (.if_icmp .le 10, 3) := by decide +kernel
theorem dX6_behindNumber_47 : decode cX6_behindNumber 47 = .ok (.iload_n 1, 1) := by decide +kernel
theorem dX6_behindNumber_48 : decode cX6_behindNumber 48 = .ok (.invokestatic 26, 3) := by decide +kernel
theorem dX6_behindNumber_51 : decode cX6_behindNumber 51 = .ok (.goto 10, 3) := by decide +kernel
theorem dX6_behindNumber_54 : decode cX6_behindNumber 54 = .ok (.aload_n 0, 1) := by decide +kernel
theorem dX6_behindNumber_55 : decode cX6_behindNumber 55 = .ok (.iload_n 1, 1) := by decide +kernel
theorem dX6_behindNumber_56 : decode cX6_behindNumber 56 = .ok (.iload_n 2, 1) := by decide +kernel
theorem dX6_behindNumber_57 : decode cX6_behindNumber 57 = .ok (.iadd, 1) := by decide +kernel
theorem dX6_behindNumber_58 : decode cX6_behindNumber 58 = .ok (.invokevirtual 36, 3) := by decide +kernel
theorem dX6_behindNumber_61 : decode cX6_behindNumber 61 = .ok (.ireturn, 1) := by decide +kernel
theorem dX6_digitsOfNumber_0 : decode cX6_digitsOfNumber 0 = .ok (.iconst 0, 1) := by decide +kernel
theorem dX6_digitsOfNumber_1 : decode cX6_digitsOfNumber 1 = .ok (.istore_n 2, 1) := by decide +kernel
theorem dX6_digitsOfNumber_2 : decode cX6_digitsOfNumber 2 = .ok (.iload_n 2, 1) := by decide +kernel
theorem dX6_digitsOfNumber_3 : decode cX6_digitsOfNumber 3 = .ok (.iconst 3, 1) := by decide +kernel
theorem dX6_digitsOfNumber_4 : decode cX6_digitsOfNumber 4 = .ok (.if_icmp .ge 22, 3) := by decide +kernel
theorem dX6_digitsOfNumber_7 : decode cX6_digitsOfNumber 7 = .ok (.aload_n 0, 1) := by decide +kernel
theorem dX6_digitsOfNumber_8 : decode cX6_digitsOfNumber 8 = .ok (.iload_n 1, 1) := by decide +kernel
theorem dX6_digitsOfNumber_9 : decode cX6_digitsOfNumber 9 = .ok (.iload_n 2, 1) := by decide +kernel
theorem dX6_digitsOfNumber_10 : decode cX6_digitsOfNumber 10 = .ok (.iadd, 1) := by decide +kernel
theorem dX6_digitsOfNumber_11 : decode cX6_digitsOfNumber 11 = .ok (.invokevirtual 45, 3) := by decide +kernel
theorem dX6_digitsOfNumber_14 : decode cX6_digitsOfNumber 14 = .ok (.iconst (-1), 1) := by decide +kernel
theorem dX6_digitsOfNumber_15 : decode cX6_digitsOfNumber 15 = .ok (.if_icmp .ne 5, 3) := by decide +kernel
theorem dX6_digitsOfNumber_18 : decode cX6_digitsOfNumber 18 = .ok (.iload_n 2, 1) := by decide +kernel
theorem dX6_digitsOfNumber_19 : decode cX6_digitsOfNumber 19 = .ok (.ireturn, 1) := by decide +kernel
theorem dX6_digitsOfNumber_20 : decode cX6_digitsOfNumber 20 = .ok (.iinc 2 1, 3) := by decide +kernel
theorem dX6_digitsOfNumber_23 : decode cX6_digitsOfNumber 23 = .ok (.goto (-21), 3) := by decide +kernel
theorem dX6_digitsOfNumber_26 : decode cX6_digitsOfNumber 26 = .ok (.iconst 3, 1) := by decide +kernel
theorem dX6_digitsOfNumber_27 : decode cX6_digitsOfNumber 27 = .ok (.ireturn, 1) := by decide +kernel
theorem dX6_numberAt_0 : decode cX6_numberAt 0 = .ok (.aload_n 0, 1) := by decide +kernel
theorem dX6_numberAt_1 : decode cX6_numberAt 1 = .ok (.iload_n 1, 1) := by decide +kernel
theorem dX6_numberAt_2 : decode cX6_numberAt 2 = .ok (.aload_n 0, 1) := by decide +kernel
theorem dX6_numberAt_3 : decode cX6_numberAt 3 = .ok (.iload_n 1, 1) := by decide +kernel
theorem dX6_numberAt_4 : decode cX6_numberAt 4 = .ok (.invokevirtual 51, 3) := by decide +kernel
theorem dX6_numberAt_7 : decode cX6_numberAt 7 = .ok (.invokevirtual 54, 3) := by decide +kernel
theorem dX6_numberAt_10 : decode cX6_numberAt 10 = .ok (.ireturn, 1) := by decide +kernel
theorem dX6_numberOf_0 : decode cX6_numberOf 0 = .ok (.iconst 0, 1) := by decide +kernel
theorem dX6_numberOf_1 : decode cX6_numberOf 1 = .ok (.istore_n 3, 1) := by decide +kernel
theorem dX6_numberOf_2 : decode cX6_numberOf 2 = .ok (.iconst 0, 1) := by decide +kernel
theorem dX6_numberOf_3 : decode cX6_numberOf 3 = .ok (.istore 4, 2) := by decide +kernel
theorem dX6_numberOf_5 : decode cX6_numberOf 5 = .ok (.iload 4, 2) := by decide +kernel
theorem dX6_numberOf_7 : decode cX6_numberOf 7 = .ok (.iload_n 2, 1) := by decide +kernel
theorem dX6_numberOf_8 : decode cX6_numberOf 8 = .ok (.if_icmp .ge 23, 3) := by decide +kernel
theorem dX6_numberOf_11 : decode cX6_numberOf 11 = .ok (.bipush 10, 2) := by decide +kernel
theorem dX6_numberOf_13 : decode cX6_numberOf 13 = .ok (.iload_n 3, 1) := by decide +kernel
theorem dX6_numberOf_14 : decode cX6_numberOf 14 = .ok (.imul, 1) := by decide +kernel
theorem dX6_numberOf_15 : decode cX6_numberOf 15 = .ok (.aload_n 0, 1) := by decide +kernel
theorem dX6_numberOf_16 : decode cX6_numberOf 16 = .ok (.iload_n 1, 1) := by decide +kernel
theorem dX6_numberOf_17 : decode cX6_numberOf 17 = .ok (.iload 4, 2) := by decide +kernel
theorem dX6_numberOf_19 : decode cX6_numberOf 19 = .ok (.iadd, 1) := by decide +kernel
theorem dX6_numberOf_20 : decode cX6_numberOf 20 = .ok (.invokevirtual 45, 3) := by decide +kernel
theorem dX6_numberOf_23 : decode cX6_numberOf 23 = .ok (.iadd, 1) := by decide +kernel
theorem dX6_numberOf_24 : decode cX6_numberOf 24 = .ok (.istore_n 3, 1) := by decide +kernel
theorem dX6_numberOf_25 : decode cX6_numberOf 25 = .ok (.iinc 4 1, 3) := by decide +kernel
theorem dX6_numberOf_28 : decode cX6_numberOf 28 = .ok (.goto (-23), 3) := by decide +kernel
theorem dX6_numberOf_31 : decode cX6_numberOf 31 = .ok (.iload_n 3, 1) := by decide +kernel
theorem dX6_numberOf_32 : decode cX6_numberOf 32 = .ok (.ireturn, 1) := by decide +kernel
