theorem dL_cell_0 : decode cL_cell 0 = .ok (.iload_n 1, 1) := by decide +kernel
theorem dL_cell_1 : decode cL_cell 1 = .ok (.aload_n 0, 1) := by decide +kernel
theorem dL_cell_2 : decode cL_cell 2 = .ok (.arraylength, 1) := by decide +kernel
theorem dL_cell_3 : decode cL_cell 3 = .ok (.if_icmp .ge 9, 3) := by decide +kernel
theorem dL_cell_6 : decode cL_cell 6 = .ok (.aload_n 0, 1) := by decide +kernel
theorem dL_cell_7 : decode cL_cell 7 = .ok (.iload_n 1, 1) := by decide +kernel
theorem dL_cell_8 : decode cL_cell 8 = .ok (.iaload, 1) := by decide +kernel
theorem dL_cell_9 : decode cL_cell 9 = .ok (.goto 9, 3) := by decide +kernel
theorem dL_cell_12 : decode cL_cell 12 = .ok (.ldc 7, 2) := by decide +kernel
theorem dL_cell_14 : decode cL_cell 14 = .ok (.iload_n 1, 1) := by decide +kernel
theorem dL_cell_15 : decode cL_cell 15 = .ok (.iconst 3, 1) := by decide +kernel
theorem dL_cell_16 : decode cL_cell 16 = .ok (.iadd, 1) := by decide +kernel
theorem dL_cell_17 : decode cL_cell 17 = .ok (.imul, 1) := by decide +kernel
theorem dL_cell_18 : decode cL_cell 18 = .ok (.ireturn, 1) := by decide +kernel
theorem dL_low_0 : decode cL_low 0 = .ok (.iload_n 0, 1) := by decide +kernel
theorem dL_low_1 : decode cL_low 1 = .ok (.ldc 8, 2) := by decide +kernel
theorem dL_low_3 : decode cL_low 3 = .ok (.iand, 1) := by decide +kernel
theorem dL_low_4 : decode cL_low 4 = .ok (.iload_n 1, 1) := by decide +kernel
theorem dL_low_5 : decode cL_low 5 = .ok (.irem, 1) := by decide +kernel
theorem dL_low_6 : decode cL_low 6 = .ok (.ireturn, 1) := by decide +kernel
theorem dL_upFrom_0 : decode cL_upFrom 0 = .ok (.iconst 0, 1) := by decide +kernel
theorem dL_upFrom_1 : decode cL_upFrom 1 = .ok (.istore_n 2, 1) := by decide +kernel
theorem dL_upFrom_2 : decode cL_upFrom 2 = .ok (.iload_n 1, 1) := by decide +kernel
theorem dL_upFrom_3 : decode cL_upFrom 3 = .ok (.iconst 1, 1) := by decide +kernel
theorem dL_upFrom_4 : decode cL_upFrom 4 = .ok (.isub, 1) := by decide +kernel
theorem dL_upFrom_5 : decode cL_upFrom 5 = .ok (.istore_n 3, 1) := by decide +kernel
theorem dL_upFrom_6 : decode cL_upFrom 6 = .ok (.iload_n 3, 1) := by decide +kernel
theorem dL_upFrom_7 : decode cL_upFrom 7 = .ok (.ifCond .lt 15, 3) := by decide +kernel
theorem dL_upFrom_10 : decode cL_upFrom 10 = .ok (.iload_n 2, 1) := by decide +kernel
theorem dL_upFrom_11 : decode cL_upFrom 11 = .ok (.aload_n 0, 1) := by decide +kernel
theorem dL_upFrom_12 : decode cL_upFrom 12 = .ok (.iload_n 3, 1) := by decide +kernel
theorem dL_upFrom_13 : decode cL_upFrom 13 = .ok (.iaload, 1) := by decide +kernel
theorem dL_upFrom_14 : decode cL_upFrom 14 = .ok (.iadd, 1) := by decide +kernel
theorem dL_upFrom_15 : decode cL_upFrom 15 = .ok (.istore_n 2, 1) := by decide +kernel
theorem dL_upFrom_16 : decode cL_upFrom 16 = .ok (.iinc 3 (-1), 3) := by decide +kernel
theorem dL_upFrom_19 : decode cL_upFrom 19 = .ok (.goto (-13), 3) := by decide +kernel
theorem dL_upFrom_22 : decode cL_upFrom 22 = .ok (.iload_n 2, 1) := by decide +kernel
theorem dL_upFrom_23 : decode cL_upFrom 23 = .ok (.ireturn, 1) := by decide +kernel
theorem dL_inTime_0 : decode cL_inTime 0 = .ok (.aload_n 1, 1) := by decide +kernel
theorem dL_inTime_1 : decode cL_inTime 1 = .ok (.bipush 9, 2) := by decide +kernel
theorem dL_inTime_3 : decode cL_inTime 3 = .ok (.iload_n 2, 1) := by decide +kernel
theorem dL_inTime_4 : decode cL_inTime 4 = .ok (.imul, 1) := by decide +kernel
theorem dL_inTime_5 : decode cL_inTime 5 = .ok (.iconst 2, 1) := by decide +kernel
theorem dL_inTime_6 : decode cL_inTime 6 = .ok (.iadd, 1) := by decide +kernel
theorem dL_inTime_7 : decode cL_inTime 7 = .ok (.iaload, 1) := by decide +kernel
theorem dL_inTime_8 : decode cL_inTime 8 = .ok (.iconst 1, 1) := by decide +kernel
theorem dL_inTime_9 : decode cL_inTime 9 = .ok (.if_icmp .eq 14, 3) := by decide +kernel
theorem dL_inTime_12 : decode cL_inTime 12 = .ok (.aload_n 1, 1) := by decide +kernel
theorem dL_inTime_13 : decode cL_inTime 13 = .ok (.bipush 9, 2) := by decide +kernel
theorem dL_inTime_15 : decode cL_inTime 15 = .ok (.iload_n 2, 1) := by decide +kernel
theorem dL_inTime_16 : decode cL_inTime 16 = .ok (.imul, 1) := by decide +kernel
theorem dL_inTime_17 : decode cL_inTime 17 = .ok (.iconst 1, 1) := by decide +kernel
theorem dL_inTime_18 : decode cL_inTime 18 = .ok (.iadd, 1) := by decide +kernel
theorem dL_inTime_19 : decode cL_inTime 19 = .ok (.iaload, 1) := by decide +kernel
theorem dL_inTime_20 : decode cL_inTime 20 = .ok (.ifCond .eq 7, 3) := by decide +kernel
theorem dL_inTime_23 : decode cL_inTime 23 = .ok (.iconst 1, 1) := by decide +kernel
theorem dL_inTime_24 : decode cL_inTime 24 = .ok (.goto 4, 3) := by decide +kernel
theorem dL_inTime_27 : decode cL_inTime 27 = .ok (.iconst 0, 1) := by decide +kernel
theorem dL_inTime_28 : decode cL_inTime 28 = .ok (.istore 5, 2) := by decide +kernel
theorem dL_inTime_30 : decode cL_inTime 30 = .ok (.iload 5, 2) := by decide +kernel
theorem dL_inTime_32 : decode cL_inTime 32 = .ok (.ifCond .eq 15, 3) := by decide +kernel
theorem dL_inTime_35 : decode cL_inTime 35 = .ok (.aload_n 1, 1) := by decide +kernel
theorem dL_inTime_36 : decode cL_inTime 36 = .ok (.bipush 9, 2) := by decide +kernel
theorem dL_inTime_38 : decode cL_inTime 38 = .ok (.iload_n 2, 1) := by decide +kernel
theorem dL_inTime_39 : decode cL_inTime 39 = .ok (.imul, 1) := by decide +kernel
theorem dL_inTime_40 : decode cL_inTime 40 = .ok (.bipush 7, 2) := by decide +kernel
theorem dL_inTime_42 : decode cL_inTime 42 = .ok (.iadd, 1) := by decide +kernel
theorem dL_inTime_43 : decode cL_inTime 43 = .ok (.iaload, 1) := by decide +kernel
theorem dL_inTime_44 : decode cL_inTime 44 = .ok (.goto 4, 3) := by decide +kernel
theorem dL_inTime_47 : decode cL_inTime 47 = .ok (.iconst 0, 1) := by decide +kernel
theorem dL_inTime_48 : decode cL_inTime 48 = .ok (.iload 4, 2) := by decide +kernel
theorem dL_inTime_50 : decode cL_inTime 50 = .ok (.iadd, 1) := by decide +kernel
theorem dL_inTime_51 : decode cL_inTime 51 = .ok (.aload_n 0, 1) := by decide +kernel
theorem dL_inTime_52 : decode cL_inTime 52 = .ok (.iload_n 3, 1) := by decide +kernel
theorem dL_inTime_53 : decode cL_inTime 53 = .ok (.invokestatic 9, 3) := by decide +kernel
theorem dL_inTime_56 : decode cL_inTime 56 = .ok (.iadd, 1) := by decide +kernel
theorem dL_inTime_57 : decode cL_inTime 57 = .ok (.aload_n 1, 1) := by decide +kernel
theorem dL_inTime_58 : decode cL_inTime 58 = .ok (.bipush 9, 2) := by decide +kernel
theorem dL_inTime_60 : decode cL_inTime 60 = .ok (.iload_n 2, 1) := by decide +kernel
theorem dL_inTime_61 : decode cL_inTime 61 = .ok (.imul, 1) := by decide +kernel
theorem dL_inTime_62 : decode cL_inTime 62 = .ok (.iaload, 1) := by decide +kernel
theorem dL_inTime_63 : decode cL_inTime 63 = .ok (.if_icmp .gt 7, 3) := by decide +kernel
theorem dL_inTime_66 : decode cL_inTime 66 = .ok (.iconst 1, 1) := by decide +kernel
theorem dL_inTime_67 : decode cL_inTime 67 = .ok (.goto 4, 3) := by decide +kernel
theorem dL_inTime_70 : decode cL_inTime 70 = .ok (.iconst 0, 1) := by decide +kernel
theorem dL_inTime_71 : decode cL_inTime 71 = .ok (.ireturn, 1) := by decide +kernel
theorem dL_through_0 : decode cL_through 0 = .ok (.aload_n 0, 1) := by decide +kernel
theorem dL_through_1 : decode cL_through 1 = .ok (.bipush 9, 2) := by decide +kernel
theorem dL_through_3 : decode cL_through 3 = .ok (.iload_n 1, 1) := by decide +kernel
theorem dL_through_4 : decode cL_through 4 = .ok (.imul, 1) := by decide +kernel
theorem dL_through_5 : decode cL_through 5 = .ok (.iconst 1, 1) := by decide +kernel
theorem dL_through_6 : decode cL_through 6 = .ok (.iadd, 1) := by decide +kernel
theorem dL_through_7 : decode cL_through 7 = .ok (.iaload, 1) := by decide +kernel
theorem dL_through_8 : decode cL_through 8 = .ok (.istore_n 2, 1) := by decide +kernel
theorem dL_through_9 : decode cL_through 9 = .ok (.aload_n 0, 1) := by decide +kernel
theorem dL_through_10 : decode cL_through 10 = .ok (.bipush 9, 2) := by decide +kernel
theorem dL_through_12 : decode cL_through 12 = .ok (.iload_n 1, 1) := by decide +kernel
theorem dL_through_13 : decode cL_through 13 = .ok (.imul, 1) := by decide +kernel
theorem dL_through_14 : decode cL_through 14 = .ok (.iconst 3, 1) := by decide +kernel
theorem dL_through_15 : decode cL_through 15 = .ok (.iadd, 1) := by decide +kernel
theorem dL_through_16 : decode cL_through 16 = .ok (.iaload, 1) := by decide +kernel
theorem dL_through_17 : decode cL_through 17 = .ok (.istore_n 3, 1) := by decide +kernel
theorem dL_through_18 : decode cL_through 18 = .ok (.aload_n 0, 1) := by decide +kernel
theorem dL_through_19 : decode cL_through 19 = .ok (.bipush 9, 2) := by decide +kernel
theorem dL_through_21 : decode cL_through 21 = .ok (.iload_n 1, 1) := by decide +kernel
theorem dL_through_22 : decode cL_through 22 = .ok (.imul, 1) := by decide +kernel
theorem dL_through_23 : decode cL_through 23 = .ok (.iconst 2, 1) := by decide +kernel
theorem dL_through_24 : decode cL_through 24 = .ok (.iadd, 1) := by decide +kernel
theorem dL_through_25 : decode cL_through 25 = .ok (.iaload, 1) := by decide +kernel
theorem dL_through_26 : decode cL_through 26 = .ok (.iconst 1, 1) := by decide +kernel
theorem dL_through_27 : decode cL_through 27 = .ok (.if_icmp .eq 7, 3) := by decide +kernel
theorem dL_through_30 : decode cL_through 30 = .ok (.iconst (-1), 1) := by decide +kernel
theorem dL_through_31 : decode cL_through 31 = .ok (.goto 13, 3) := by decide +kernel
theorem dL_through_34 : decode cL_through 34 = .ok (.iload_n 2, 1) := by decide +kernel
theorem dL_through_35 : decode cL_through 35 = .ok (.iload_n 3, 1) := by decide +kernel
theorem dL_through_36 : decode cL_through 36 = .ok (.if_icmp .ge 7, 3) := by decide +kernel
theorem dL_through_39 : decode cL_through 39 = .ok (.iload_n 2, 1) := by decide +kernel
theorem dL_through_40 : decode cL_through 40 = .ok (.goto 4, 3) := by decide +kernel
theorem dL_through_43 : decode cL_through 43 = .ok (.iload_n 3, 1) := by decide +kernel
theorem dL_through_44 : decode cL_through 44 = .ok (.ireturn, 1) := by decide +kernel
theorem dL_many_0 : decode cL_many 0 = .ok (.iconst 0, 1) := by decide +kernel
theorem dL_many_1 : decode cL_many 1 = .ok (.istore_n 3, 1) := by decide +kernel
theorem dL_many_2 : decode cL_many 2 = .ok (.iconst 0, 1) := by decide +kernel
theorem dL_many_3 : decode cL_many 3 = .ok (.istore 4, 2) := by decide +kernel
theorem dL_many_5 : decode cL_many 5 = .ok (.iload 4, 2) := by decide +kernel
theorem dL_many_7 : decode cL_many 7 = .ok (.aload_n 0, 1) := by decide +kernel
theorem dL_many_8 : decode cL_many 8 = .ok (.iconst 2, 1) := by decide +kernel
theorem dL_many_9 : decode cL_many 9 = .ok (.iaload, 1) := by decide +kernel
theorem dL_many_10 : decode cL_many 10 = .ok (.if_icmp .ge 27, 3) := by decide +kernel
theorem dL_many_13 : decode cL_many 13 = .ok (.iload_n 3, 1) := by decide +kernel
theorem dL_many_14 : decode cL_many 14 = .ok (.aload_n 1, 1) := by decide +kernel
theorem dL_many_15 : decode cL_many 15 = .ok (.iload 4, 2) := by decide +kernel
theorem dL_many_17 : decode cL_many 17 = .ok (.invokestatic 15, 3) := by decide +kernel
theorem dL_many_20 : decode cL_many 20 = .ok (.iload_n 2, 1) := by decide +kernel
theorem dL_many_21 : decode cL_many 21 = .ok (.if_icmp .ne 7, 3) := by decide +kernel
theorem dL_many_24 : decode cL_many 24 = .ok (.iconst 1, 1) := by decide +kernel
theorem dL_many_25 : decode cL_many 25 = .ok (.goto 4, 3) := by decide +kernel
theorem dL_many_28 : decode cL_many 28 = .ok (.iconst 0, 1) := by decide +kernel
theorem dL_many_29 : decode cL_many 29 = .ok (.iadd, 1) := by decide +kernel
theorem dL_many_30 : decode cL_many 30 = .ok (.istore_n 3, 1) := by decide +kernel
theorem dL_many_31 : decode cL_many 31 = .ok (.iinc 4 1, 3) := by decide +kernel
theorem dL_many_34 : decode cL_many 34 = .ok (.goto (-29), 3) := by decide +kernel
theorem dL_many_37 : decode cL_many 37 = .ok (.iload_n 3, 1) := by decide +kernel
theorem dL_many_38 : decode cL_many 38 = .ok (.ireturn, 1) := by decide +kernel
theorem dL_rigger_0 : decode cL_rigger 0 = .ok (.iconst (-1), 1) := by decide +kernel
theorem dL_rigger_1 : decode cL_rigger 1 = .ok (.istore_n 3, 1) := by decide +kernel
theorem dL_rigger_2 : decode cL_rigger 2 = .ok (.iconst 0, 1) := by decide +kernel
theorem dL_rigger_3 : decode cL_rigger 3 = .ok (.istore 4, 2) := by decide +kernel
theorem dL_rigger_5 : decode cL_rigger 5 = .ok (.iload 4, 2) := by decide +kernel
theorem dL_rigger_7 : decode cL_rigger 7 = .ok (.aload_n 0, 1) := by decide +kernel
theorem dL_rigger_8 : decode cL_rigger 8 = .ok (.iconst 2, 1) := by decide +kernel
theorem dL_rigger_9 : decode cL_rigger 9 = .ok (.iaload, 1) := by decide +kernel
theorem dL_rigger_10 : decode cL_rigger 10 = .ok (.if_icmp .ge 42, 3) := by decide +kernel
theorem dL_rigger_13 : decode cL_rigger 13 = .ok (.aload_n 1, 1) := by decide +kernel
theorem dL_rigger_14 : decode cL_rigger 14 = .ok (.bipush 9, 2) := by decide +kernel
theorem dL_rigger_16 : decode cL_rigger 16 = .ok (.iload 4, 2) := by decide +kernel
theorem dL_rigger_18 : decode cL_rigger 18 = .ok (.imul, 1) := by decide +kernel
theorem dL_rigger_19 : decode cL_rigger 19 = .ok (.iconst 2, 1) := by decide +kernel
theorem dL_rigger_20 : decode cL_rigger 20 = .ok (.iadd, 1) := by decide +kernel
theorem dL_rigger_21 : decode cL_rigger 21 = .ok (.iaload, 1) := by decide +kernel
theorem dL_rigger_22 : decode cL_rigger 22 = .ok (.iconst 2, 1) := by decide +kernel
theorem dL_rigger_23 : decode cL_rigger 23 = .ok (.if_icmp .ne 21, 3) := by decide +kernel
theorem dL_rigger_26 : decode cL_rigger 26 = .ok (.aload_n 1, 1) := by decide +kernel
theorem dL_rigger_27 : decode cL_rigger 27 = .ok (.bipush 9, 2) := by decide +kernel
theorem dL_rigger_29 : decode cL_rigger 29 = .ok (.iload 4, 2) := by decide +kernel
theorem dL_rigger_31 : decode cL_rigger 31 = .ok (.imul, 1) := by decide +kernel
theorem dL_rigger_32 : decode cL_rigger 32 = .ok (.iconst 1, 1) := by decide +kernel
theorem dL_rigger_33 : decode cL_rigger 33 = .ok (.iadd, 1) := by decide +kernel
theorem dL_rigger_34 : decode cL_rigger 34 = .ok (.iaload, 1) := by decide +kernel
theorem dL_rigger_35 : decode cL_rigger 35 = .ok (.iload_n 2, 1) := by decide +kernel
theorem dL_rigger_36 : decode cL_rigger 36 = .ok (.if_icmp .ne 8, 3) := by decide +kernel
theorem dL_rigger_39 : decode cL_rigger 39 = .ok (.iload 4, 2) := by decide +kernel
theorem dL_rigger_41 : decode cL_rigger 41 = .ok (.goto 4, 3) := by decide +kernel
theorem dL_rigger_44 : decode cL_rigger 44 = .ok (.iload_n 3, 1) := by decide +kernel
theorem dL_rigger_45 : decode cL_rigger 45 = .ok (.istore_n 3, 1) := by decide +kernel
theorem dL_rigger_46 : decode cL_rigger 46 = .ok (.iinc 4 1, 3) := by decide +kernel
theorem dL_rigger_49 : decode cL_rigger 49 = .ok (.goto (-44), 3) := by decide +kernel
theorem dL_rigger_52 : decode cL_rigger 52 = .ok (.iload_n 3, 1) := by decide +kernel
theorem dL_rigger_53 : decode cL_rigger 53 = .ok (.ireturn, 1) := by decide +kernel
theorem dL_why_0 : decode cL_why 0 = .ok (.aload 4, 2) := by decide +kernel
theorem dL_why_2 : decode cL_why 2 = .ok (.bipush 9, 2) := by decide +kernel
theorem dL_why_4 : decode cL_why 4 = .ok (.iload 5, 2) := by decide +kernel
theorem dL_why_6 : decode cL_why 6 = .ok (.imul, 1) := by decide +kernel
theorem dL_why_7 : decode cL_why 7 = .ok (.iconst 1, 1) := by decide +kernel
theorem dL_why_8 : decode cL_why 8 = .ok (.iadd, 1) := by decide +kernel
theorem dL_why_9 : decode cL_why 9 = .ok (.iaload, 1) := by decide +kernel
theorem dL_why_10 : decode cL_why 10 = .ok (.istore 7, 2) := by decide +kernel
theorem dL_why_12 : decode cL_why 12 = .ok (.iload 6, 2) := by decide +kernel
theorem dL_why_14 : decode cL_why 14 = .ok (.iload 7, 2) := by decide +kernel
theorem dL_why_16 : decode cL_why 16 = .ok (.if_icmp .ge 8, 3) := by decide +kernel
theorem dL_why_19 : decode cL_why 19 = .ok (.iload 6, 2) := by decide +kernel
theorem dL_why_21 : decode cL_why 21 = .ok (.goto 5, 3) := by decide +kernel
theorem dL_why_24 : decode cL_why 24 = .ok (.iload 7, 2) := by decide +kernel
theorem dL_why_26 : decode cL_why 26 = .ok (.istore 8, 2) := by decide +kernel
theorem dL_why_28 : decode cL_why 28 = .ok (.aload 4, 2) := by decide +kernel
theorem dL_why_30 : decode cL_why 30 = .ok (.bipush 9, 2) := by decide +kernel
theorem dL_why_32 : decode cL_why 32 = .ok (.iload 5, 2) := by decide +kernel
theorem dL_why_34 : decode cL_why 34 = .ok (.imul, 1) := by decide +kernel
theorem dL_why_35 : decode cL_why 35 = .ok (.iconst 2, 1) := by decide +kernel
theorem dL_why_36 : decode cL_why 36 = .ok (.iadd, 1) := by decide +kernel
theorem dL_why_37 : decode cL_why 37 = .ok (.iaload, 1) := by decide +kernel
theorem dL_why_38 : decode cL_why 38 = .ok (.ifCond .le 5, 3) := by decide +kernel
theorem dL_why_41 : decode cL_why 41 = .ok (.iconst 1, 1) := by decide +kernel
theorem dL_why_42 : decode cL_why 42 = .ok (.ireturn, 1) := by decide +kernel
theorem dL_why_43 : decode cL_why 43 = .ok (.iload 6, 2) := by decide +kernel
theorem dL_why_45 : decode cL_why 45 = .ok (.ifCond .lt 26, 3) := by decide +kernel
theorem dL_why_48 : decode cL_why 48 = .ok (.iload 6, 2) := by decide +kernel
theorem dL_why_50 : decode cL_why 50 = .ok (.aload_n 0, 1) := by decide +kernel
theorem dL_why_51 : decode cL_why 51 = .ok (.iconst 0, 1) := by decide +kernel
theorem dL_why_52 : decode cL_why 52 = .ok (.iaload, 1) := by decide +kernel
theorem dL_why_53 : decode cL_why 53 = .ok (.if_icmp .gt 18, 3) := by decide +kernel
theorem dL_why_56 : decode cL_why 56 = .ok (.iload 6, 2) := by decide +kernel
theorem dL_why_58 : decode cL_why 58 = .ok (.iload 7, 2) := by decide +kernel
theorem dL_why_60 : decode cL_why 60 = .ok (.isub, 1) := by decide +kernel
theorem dL_why_61 : decode cL_why 61 = .ok (.iload 6, 2) := by decide +kernel
theorem dL_why_63 : decode cL_why 63 = .ok (.iload 7, 2) := by decide +kernel
theorem dL_why_65 : decode cL_why 65 = .ok (.isub, 1) := by decide +kernel
theorem dL_why_66 : decode cL_why 66 = .ok (.imul, 1) := by decide +kernel
theorem dL_why_67 : decode cL_why 67 = .ok (.iconst 1, 1) := by decide +kernel
theorem dL_why_68 : decode cL_why 68 = .ok (.if_icmp .eq 5, 3) := by decide +kernel
theorem dL_why_71 : decode cL_why 71 = .ok (.iconst 2, 1) := by decide +kernel
theorem dL_why_72 : decode cL_why 72 = .ok (.ireturn, 1) := by decide +kernel
theorem dL_why_73 : decode cL_why 73 = .ok (.iload 6, 2) := by decide +kernel
theorem dL_why_75 : decode cL_why 75 = .ok (.iload 7, 2) := by decide +kernel
theorem dL_why_77 : decode cL_why 77 = .ok (.if_icmp .ge 19, 3) := by decide +kernel
theorem dL_why_80 : decode cL_why 80 = .ok (.aload_n 1, 1) := by decide +kernel
theorem dL_why_81 : decode cL_why 81 = .ok (.iload 8, 2) := by decide +kernel
theorem dL_why_83 : decode cL_why 83 = .ok (.iaload, 1) := by decide +kernel
theorem dL_why_84 : decode cL_why 84 = .ok (.ifCond .le 12, 3) := by decide +kernel
theorem dL_why_87 : decode cL_why 87 = .ok (.iconst 2, 1) := by decide +kernel
theorem dL_why_88 : decode cL_why 88 = .ok (.aload_n 2, 1) := by decide +kernel
theorem dL_why_89 : decode cL_why 89 = .ok (.iload 8, 2) := by decide +kernel
theorem dL_why_91 : decode cL_why 91 = .ok (.iaload, 1) := by decide +kernel
theorem dL_why_92 : decode cL_why 92 = .ok (.imul, 1) := by decide +kernel
theorem dL_why_93 : decode cL_why 93 = .ok (.goto 7, 3) := by decide +kernel
theorem dL_why_96 : decode cL_why 96 = .ok (.aload_n 2, 1) := by decide +kernel
theorem dL_why_97 : decode cL_why 97 = .ok (.iload 8, 2) := by decide +kernel
theorem dL_why_99 : decode cL_why 99 = .ok (.iaload, 1) := by decide +kernel
theorem dL_why_100 : decode cL_why 100 = .ok (.istore 9, 2) := by decide +kernel
theorem dL_why_102 : decode cL_why 102 = .ok (.aload_n 1, 1) := by decide +kernel
theorem dL_why_103 : decode cL_why 103 = .ok (.iload 8, 2) := by decide +kernel
theorem dL_why_105 : decode cL_why 105 = .ok (.iaload, 1) := by decide +kernel
theorem dL_why_106 : decode cL_why 106 = .ok (.ifCond .le 14, 3) := by decide +kernel
theorem dL_why_109 : decode cL_why 109 = .ok (.aload_n 3, 1) := by decide +kernel
theorem dL_why_110 : decode cL_why 110 = .ok (.iload 8, 2) := by decide +kernel
theorem dL_why_112 : decode cL_why 112 = .ok (.iaload, 1) := by decide +kernel
theorem dL_why_113 : decode cL_why 113 = .ok (.ifCond .ge 7, 3) := by decide +kernel
theorem dL_why_116 : decode cL_why 116 = .ok (.iconst 3, 1) := by decide +kernel
theorem dL_why_117 : decode cL_why 117 = .ok (.goto 55, 3) := by decide +kernel
theorem dL_why_120 : decode cL_why 120 = .ok (.aload 4, 2) := by decide +kernel
theorem dL_why_122 : decode cL_why 122 = .ok (.bipush 9, 2) := by decide +kernel
theorem dL_why_124 : decode cL_why 124 = .ok (.iload 5, 2) := by decide +kernel
theorem dL_why_126 : decode cL_why 126 = .ok (.imul, 1) := by decide +kernel
theorem dL_why_127 : decode cL_why 127 = .ok (.bipush 6, 2) := by decide +kernel
theorem dL_why_129 : decode cL_why 129 = .ok (.iadd, 1) := by decide +kernel
theorem dL_why_130 : decode cL_why 130 = .ok (.iaload, 1) := by decide +kernel
theorem dL_why_131 : decode cL_why 131 = .ok (.iload 9, 2) := by decide +kernel
theorem dL_why_133 : decode cL_why 133 = .ok (.iadd, 1) := by decide +kernel
theorem dL_why_134 : decode cL_why 134 = .ok (.bipush 100, 2) := by decide +kernel
theorem dL_why_136 : decode cL_why 136 = .ok (.if_icmp .le 7, 3) := by decide +kernel
theorem dL_why_139 : decode cL_why 139 = .ok (.iconst 4, 1) := by decide +kernel
theorem dL_why_140 : decode cL_why 140 = .ok (.goto 32, 3) := by decide +kernel
theorem dL_why_143 : decode cL_why 143 = .ok (.iload 6, 2) := by decide +kernel
theorem dL_why_145 : decode cL_why 145 = .ok (.iload 7, 2) := by decide +kernel
theorem dL_why_147 : decode cL_why 147 = .ok (.if_icmp .le 24, 3) := by decide +kernel
theorem dL_why_150 : decode cL_why 150 = .ok (.aload_n 2, 1) := by decide +kernel
theorem dL_why_151 : decode cL_why 151 = .ok (.aload 4, 2) := by decide +kernel
theorem dL_why_153 : decode cL_why 153 = .ok (.iload 5, 2) := by decide +kernel
theorem dL_why_155 : decode cL_why 155 = .ok (.iload 6, 2) := by decide +kernel
theorem dL_why_157 : decode cL_why 157 = .ok (.aload_n 2, 1) := by decide +kernel
theorem dL_why_158 : decode cL_why 158 = .ok (.iload 8, 2) := by decide +kernel
theorem dL_why_160 : decode cL_why 160 = .ok (.iaload, 1) := by decide +kernel
theorem dL_why_161 : decode cL_why 161 = .ok (.invokestatic 18, 3) := by decide +kernel
theorem dL_why_164 : decode cL_why 164 = .ok (.ifCond .ne 7, 3) := by decide +kernel
theorem dL_why_167 : decode cL_why 167 = .ok (.iconst 5, 1) := by decide +kernel
theorem dL_why_168 : decode cL_why 168 = .ok (.goto 4, 3) := by decide +kernel
theorem dL_why_171 : decode cL_why 171 = .ok (.iconst 0, 1) := by decide +kernel
theorem dL_why_172 : decode cL_why 172 = .ok (.ireturn, 1) := by decide +kernel
theorem dL_could_0 : decode cL_could 0 = .ok (.aload_n 0, 1) := by decide +kernel
theorem dL_could_1 : decode cL_could 1 = .ok (.iconst 4, 1) := by decide +kernel
theorem dL_could_2 : decode cL_could 2 = .ok (.iaload, 1) := by decide +kernel
theorem dL_could_3 : decode cL_could 3 = .ok (.istore 6, 2) := by decide +kernel
theorem dL_could_5 : decode cL_could 5 = .ok (.aload_n 0, 1) := by decide +kernel
theorem dL_could_6 : decode cL_could 6 = .ok (.iconst 5, 1) := by decide +kernel
theorem dL_could_7 : decode cL_could 7 = .ok (.iaload, 1) := by decide +kernel
theorem dL_could_8 : decode cL_could 8 = .ok (.iconst 1, 1) := by decide +kernel
theorem dL_could_9 : decode cL_could 9 = .ok (.if_icmp .eq 26, 3) := by decide +kernel
theorem dL_could_12 : decode cL_could 12 = .ok (.iload 6, 2) := by decide +kernel
theorem dL_could_14 : decode cL_could 14 = .ok (.ifCond .eq 21, 3) := by decide +kernel
theorem dL_could_17 : decode cL_could 17 = .ok (.aload_n 1, 1) := by decide +kernel
theorem dL_could_18 : decode cL_could 18 = .ok (.iload 6, 2) := by decide +kernel
theorem dL_could_20 : decode cL_could 20 = .ok (.iconst 1, 1) := by decide +kernel
theorem dL_could_21 : decode cL_could 21 = .ok (.isub, 1) := by decide +kernel
theorem dL_could_22 : decode cL_could 22 = .ok (.iaload, 1) := by decide +kernel
theorem dL_could_23 : decode cL_could 23 = .ok (.ifCond .le 14, 3) := by decide +kernel
theorem dL_could_26 : decode cL_could 26 = .ok (.aload_n 3, 1) := by decide +kernel
theorem dL_could_27 : decode cL_could 27 = .ok (.iload 6, 2) := by decide +kernel
theorem dL_could_29 : decode cL_could 29 = .ok (.iconst 1, 1) := by decide +kernel
theorem dL_could_30 : decode cL_could 30 = .ok (.isub, 1) := by decide +kernel
theorem dL_could_31 : decode cL_could 31 = .ok (.iaload, 1) := by decide +kernel
theorem dL_could_32 : decode cL_could 32 = .ok (.ifCond .ge 5, 3) := by decide +kernel
theorem dL_could_35 : decode cL_could 35 = .ok (.iconst 0, 1) := by decide +kernel
theorem dL_could_36 : decode cL_could 36 = .ok (.ireturn, 1) := by decide +kernel
theorem dL_could_37 : decode cL_could 37 = .ok (.aload 4, 2) := by decide +kernel
theorem dL_could_39 : decode cL_could 39 = .ok (.bipush 9, 2) := by decide +kernel
theorem dL_could_41 : decode cL_could 41 = .ok (.iload 5, 2) := by decide +kernel
theorem dL_could_43 : decode cL_could 43 = .ok (.imul, 1) := by decide +kernel
theorem dL_could_44 : decode cL_could 44 = .ok (.iconst 2, 1) := by decide +kernel
theorem dL_could_45 : decode cL_could 45 = .ok (.iadd, 1) := by decide +kernel
theorem dL_could_46 : decode cL_could 46 = .ok (.iaload, 1) := by decide +kernel
theorem dL_could_47 : decode cL_could 47 = .ok (.ifCond .ne 71, 3) := by decide +kernel
theorem dL_could_50 : decode cL_could 50 = .ok (.aload 4, 2) := by decide +kernel
theorem dL_could_52 : decode cL_could 52 = .ok (.bipush 9, 2) := by decide +kernel
theorem dL_could_54 : decode cL_could 54 = .ok (.iload 5, 2) := by decide +kernel
theorem dL_could_56 : decode cL_could 56 = .ok (.imul, 1) := by decide +kernel
theorem dL_could_57 : decode cL_could 57 = .ok (.iconst 1, 1) := by decide +kernel
theorem dL_could_58 : decode cL_could 58 = .ok (.iadd, 1) := by decide +kernel
theorem dL_could_59 : decode cL_could 59 = .ok (.iaload, 1) := by decide +kernel
theorem dL_could_60 : decode cL_could 60 = .ok (.iload 6, 2) := by decide +kernel
theorem dL_could_62 : decode cL_could 62 = .ok (.if_icmp .ne 56, 3) := by decide +kernel
theorem dL_could_65 : decode cL_could 65 = .ok (.aload 4, 2) := by decide +kernel
theorem dL_could_67 : decode cL_could 67 = .ok (.bipush 9, 2) := by decide +kernel
theorem dL_could_69 : decode cL_could 69 = .ok (.iload 5, 2) := by decide +kernel
theorem dL_could_71 : decode cL_could 71 = .ok (.imul, 1) := by decide +kernel
theorem dL_could_72 : decode cL_could 72 = .ok (.bipush 6, 2) := by decide +kernel
theorem dL_could_74 : decode cL_could 74 = .ok (.iadd, 1) := by decide +kernel
theorem dL_could_75 : decode cL_could 75 = .ok (.iaload, 1) := by decide +kernel
theorem dL_could_76 : decode cL_could 76 = .ok (.bipush 6, 2) := by decide +kernel
theorem dL_could_78 : decode cL_could 78 = .ok (.aload_n 2, 1) := by decide +kernel
theorem dL_could_79 : decode cL_could 79 = .ok (.iload 6, 2) := by decide +kernel
theorem dL_could_81 : decode cL_could 81 = .ok (.iconst 1, 1) := by decide +kernel
theorem dL_could_82 : decode cL_could 82 = .ok (.isub, 1) := by decide +kernel
theorem dL_could_83 : decode cL_could 83 = .ok (.iaload, 1) := by decide +kernel
theorem dL_could_84 : decode cL_could 84 = .ok (.imul, 1) := by decide +kernel
theorem dL_could_85 : decode cL_could 85 = .ok (.iadd, 1) := by decide +kernel
theorem dL_could_86 : decode cL_could 86 = .ok (.bipush 100, 2) := by decide +kernel
theorem dL_could_88 : decode cL_could 88 = .ok (.if_icmp .gt 30, 3) := by decide +kernel
theorem dL_could_91 : decode cL_could 91 = .ok (.aload_n 2, 1) := by decide +kernel
theorem dL_could_92 : decode cL_could 92 = .ok (.aload 4, 2) := by decide +kernel
theorem dL_could_94 : decode cL_could 94 = .ok (.iload 5, 2) := by decide +kernel
theorem dL_could_96 : decode cL_could 96 = .ok (.iload 6, 2) := by decide +kernel
theorem dL_could_98 : decode cL_could 98 = .ok (.iconst 1, 1) := by decide +kernel
theorem dL_could_99 : decode cL_could 99 = .ok (.isub, 1) := by decide +kernel
theorem dL_could_100 : decode cL_could 100 = .ok (.iconst 3, 1) := by decide +kernel
theorem dL_could_101 : decode cL_could 101 = .ok (.aload_n 2, 1) := by decide +kernel
theorem dL_could_102 : decode cL_could 102 = .ok (.iload 6, 2) := by decide +kernel
theorem dL_could_104 : decode cL_could 104 = .ok (.iconst 1, 1) := by decide +kernel
theorem dL_could_105 : decode cL_could 105 = .ok (.isub, 1) := by decide +kernel
theorem dL_could_106 : decode cL_could 106 = .ok (.iaload, 1) := by decide +kernel
theorem dL_could_107 : decode cL_could 107 = .ok (.imul, 1) := by decide +kernel
theorem dL_could_108 : decode cL_could 108 = .ok (.invokestatic 18, 3) := by decide +kernel
theorem dL_could_111 : decode cL_could 111 = .ok (.ifCond .eq 7, 3) := by decide +kernel
theorem dL_could_114 : decode cL_could 114 = .ok (.iconst 1, 1) := by decide +kernel
theorem dL_could_115 : decode cL_could 115 = .ok (.goto 4, 3) := by decide +kernel
theorem dL_could_118 : decode cL_could 118 = .ok (.iconst 0, 1) := by decide +kernel
theorem dL_could_119 : decode cL_could 119 = .ok (.ireturn, 1) := by decide +kernel
theorem dL_sets_0 : decode cL_sets 0 = .ok (.aload_n 1, 1) := by decide +kernel
theorem dL_sets_1 : decode cL_sets 1 = .ok (.bipush 9, 2) := by decide +kernel
theorem dL_sets_3 : decode cL_sets 3 = .ok (.iload_n 2, 1) := by decide +kernel
theorem dL_sets_4 : decode cL_sets 4 = .ok (.imul, 1) := by decide +kernel
theorem dL_sets_5 : decode cL_sets 5 = .ok (.iconst 2, 1) := by decide +kernel
theorem dL_sets_6 : decode cL_sets 6 = .ok (.iadd, 1) := by decide +kernel
theorem dL_sets_7 : decode cL_sets 7 = .ok (.iconst 1, 1) := by decide +kernel
theorem dL_sets_8 : decode cL_sets 8 = .ok (.iastore, 1) := by decide +kernel
theorem dL_sets_9 : decode cL_sets 9 = .ok (.aload_n 1, 1) := by decide +kernel
theorem dL_sets_10 : decode cL_sets 10 = .ok (.bipush 9, 2) := by decide +kernel
theorem dL_sets_12 : decode cL_sets 12 = .ok (.iload_n 2, 1) := by decide +kernel
theorem dL_sets_13 : decode cL_sets 13 = .ok (.imul, 1) := by decide +kernel
theorem dL_sets_14 : decode cL_sets 14 = .ok (.iconst 3, 1) := by decide +kernel
theorem dL_sets_15 : decode cL_sets 15 = .ok (.iadd, 1) := by decide +kernel
theorem dL_sets_16 : decode cL_sets 16 = .ok (.iload_n 3, 1) := by decide +kernel
theorem dL_sets_17 : decode cL_sets 17 = .ok (.iastore, 1) := by decide +kernel
theorem dL_sets_18 : decode cL_sets 18 = .ok (.aload_n 1, 1) := by decide +kernel
theorem dL_sets_19 : decode cL_sets 19 = .ok (.bipush 9, 2) := by decide +kernel
theorem dL_sets_21 : decode cL_sets 21 = .ok (.iload_n 2, 1) := by decide +kernel
theorem dL_sets_22 : decode cL_sets 22 = .ok (.imul, 1) := by decide +kernel
theorem dL_sets_23 : decode cL_sets 23 = .ok (.iconst 4, 1) := by decide +kernel
theorem dL_sets_24 : decode cL_sets 24 = .ok (.iadd, 1) := by decide +kernel
theorem dL_sets_25 : decode cL_sets 25 = .ok (.aload_n 0, 1) := by decide +kernel
theorem dL_sets_26 : decode cL_sets 26 = .ok (.iload_n 3, 1) := by decide +kernel
theorem dL_sets_27 : decode cL_sets 27 = .ok (.aload_n 1, 1) := by decide +kernel
theorem dL_sets_28 : decode cL_sets 28 = .ok (.bipush 9, 2) := by decide +kernel
theorem dL_sets_30 : decode cL_sets 30 = .ok (.iload_n 2, 1) := by decide +kernel
theorem dL_sets_31 : decode cL_sets 31 = .ok (.imul, 1) := by decide +kernel
theorem dL_sets_32 : decode cL_sets 32 = .ok (.iconst 1, 1) := by decide +kernel
theorem dL_sets_33 : decode cL_sets 33 = .ok (.iadd, 1) := by decide +kernel
theorem dL_sets_34 : decode cL_sets 34 = .ok (.iaload, 1) := by decide +kernel
theorem dL_sets_35 : decode cL_sets 35 = .ok (.if_icmp .ge 7, 3) := by decide +kernel
theorem dL_sets_38 : decode cL_sets 38 = .ok (.iload_n 3, 1) := by decide +kernel
theorem dL_sets_39 : decode cL_sets 39 = .ok (.goto 6, 3) := by decide +kernel
theorem dL_sets_42 : decode cL_sets 42 = .ok (.iload_n 3, 1) := by decide +kernel
theorem dL_sets_43 : decode cL_sets 43 = .ok (.iconst 1, 1) := by decide +kernel
theorem dL_sets_44 : decode cL_sets 44 = .ok (.isub, 1) := by decide +kernel
theorem dL_sets_45 : decode cL_sets 45 = .ok (.iaload, 1) := by decide +kernel
theorem dL_sets_46 : decode cL_sets 46 = .ok (.iastore, 1) := by decide +kernel
theorem dL_sets_47 : decode cL_sets 47 = .ok (.aload_n 1, 1) := by decide +kernel
theorem dL_sets_48 : decode cL_sets 48 = .ok (.bipush 9, 2) := by decide +kernel
theorem dL_sets_50 : decode cL_sets 50 = .ok (.iload_n 2, 1) := by decide +kernel
theorem dL_sets_51 : decode cL_sets 51 = .ok (.imul, 1) := by decide +kernel
theorem dL_sets_52 : decode cL_sets 52 = .ok (.bipush 8, 2) := by decide +kernel
theorem dL_sets_54 : decode cL_sets 54 = .ok (.iadd, 1) := by decide +kernel
theorem dL_sets_55 : decode cL_sets 55 = .ok (.iconst 0, 1) := by decide +kernel
theorem dL_sets_56 : decode cL_sets 56 = .ok (.iastore, 1) := by decide +kernel
theorem dL_sets_57 : decode cL_sets 57 = .ok (.return_, 1) := by decide +kernel
theorem dL_minute_0 : decode cL_minute 0 = .ok (.iconst 0, 1) := by decide +kernel
theorem dL_minute_1 : decode cL_minute 1 = .ok (.istore 7, 2) := by decide +kernel
theorem dL_minute_3 : decode cL_minute 3 = .ok (.iload 7, 2) := by decide +kernel
theorem dL_minute_5 : decode cL_minute 5 = .ok (.aload_n 0, 1) := by decide +kernel
theorem dL_minute_6 : decode cL_minute 6 = .ok (.iconst 2, 1) := by decide +kernel
theorem dL_minute_7 : decode cL_minute 7 = .ok (.iaload, 1) := by decide +kernel
theorem dL_minute_8 : decode cL_minute 8 = .ok (.if_icmp .ge 532, 3) := by decide +kernel
theorem dL_minute_11 : decode cL_minute 11 = .ok (.bipush 9, 2) := by decide +kernel
theorem dL_minute_13 : decode cL_minute 13 = .ok (.iload 7, 2) := by decide +kernel
theorem dL_minute_15 : decode cL_minute 15 = .ok (.imul, 1) := by decide +kernel
theorem dL_minute_16 : decode cL_minute 16 = .ok (.istore 8, 2) := by decide +kernel
theorem dL_minute_18 : decode cL_minute 18 = .ok (.aload 5, 2) := by decide +kernel
theorem dL_minute_20 : decode cL_minute 20 = .ok (.iload 8, 2) := by decide +kernel
theorem dL_minute_22 : decode cL_minute 22 = .ok (.iconst 1, 1) := by decide +kernel
theorem dL_minute_23 : decode cL_minute 23 = .ok (.iadd, 1) := by decide +kernel
theorem dL_minute_24 : decode cL_minute 24 = .ok (.iaload, 1) := by decide +kernel
theorem dL_minute_25 : decode cL_minute 25 = .ok (.ifCond .ne 17, 3) := by decide +kernel
theorem dL_minute_28 : decode cL_minute 28 = .ok (.aload 5, 2) := by decide +kernel
theorem dL_minute_30 : decode cL_minute 30 = .ok (.iload 8, 2) := by decide +kernel
theorem dL_minute_32 : decode cL_minute 32 = .ok (.iconst 2, 1) := by decide +kernel
theorem dL_minute_33 : decode cL_minute 33 = .ok (.iadd, 1) := by decide +kernel
theorem dL_minute_34 : decode cL_minute 34 = .ok (.iaload, 1) := by decide +kernel
theorem dL_minute_35 : decode cL_minute 35 = .ok (.ifCond .ne 7, 3) := by decide +kernel
theorem dL_minute_38 : decode cL_minute 38 = .ok (.iconst 1, 1) := by decide +kernel
theorem dL_minute_39 : decode cL_minute 39 = .ok (.goto 4, 3) := by decide +kernel
theorem dL_minute_42 : decode cL_minute 42 = .ok (.iconst 0, 1) := by decide +kernel
theorem dL_minute_43 : decode cL_minute 43 = .ok (.istore 9, 2) := by decide +kernel
theorem dL_minute_45 : decode cL_minute 45 = .ok (.aload 5, 2) := by decide +kernel
theorem dL_minute_47 : decode cL_minute 47 = .ok (.iload 8, 2) := by decide +kernel
theorem dL_minute_49 : decode cL_minute 49 = .ok (.iconst 2, 1) := by decide +kernel
theorem dL_minute_50 : decode cL_minute 50 = .ok (.iadd, 1) := by decide +kernel
theorem dL_minute_51 : decode cL_minute 51 = .ok (.iaload, 1) := by decide +kernel
theorem dL_minute_52 : decode cL_minute 52 = .ok (.ifCond .ne 72, 3) := by decide +kernel
theorem dL_minute_55 : decode cL_minute 55 = .ok (.aload 5, 2) := by decide +kernel
theorem dL_minute_57 : decode cL_minute 57 = .ok (.iload 8, 2) := by decide +kernel
theorem dL_minute_59 : decode cL_minute 59 = .ok (.iconst 1, 1) := by decide +kernel
theorem dL_minute_60 : decode cL_minute 60 = .ok (.iadd, 1) := by decide +kernel
theorem dL_minute_61 : decode cL_minute 61 = .ok (.iaload, 1) := by decide +kernel
theorem dL_minute_62 : decode cL_minute 62 = .ok (.ifCond .le 62, 3) := by decide +kernel
theorem dL_minute_65 : decode cL_minute 65 = .ok (.aload_n 2, 1) := by decide +kernel
theorem dL_minute_66 : decode cL_minute 66 = .ok (.aload 5, 2) := by decide +kernel
theorem dL_minute_68 : decode cL_minute 68 = .ok (.iload 7, 2) := by decide +kernel
theorem dL_minute_70 : decode cL_minute 70 = .ok (.aload 5, 2) := by decide +kernel
theorem dL_minute_72 : decode cL_minute 72 = .ok (.iload 8, 2) := by decide +kernel
theorem dL_minute_74 : decode cL_minute 74 = .ok (.iconst 1, 1) := by decide +kernel
theorem dL_minute_75 : decode cL_minute 75 = .ok (.iadd, 1) := by decide +kernel
theorem dL_minute_76 : decode cL_minute 76 = .ok (.iaload, 1) := by decide +kernel
theorem dL_minute_77 : decode cL_minute 77 = .ok (.iconst 1, 1) := by decide +kernel
theorem dL_minute_78 : decode cL_minute 78 = .ok (.invokestatic 18, 3) := by decide +kernel
theorem dL_minute_81 : decode cL_minute 81 = .ok (.ifCond .ne 43, 3) := by decide +kernel
theorem dL_minute_84 : decode cL_minute 84 = .ok (.aload_n 0, 1) := by decide +kernel
theorem dL_minute_85 : decode cL_minute 85 = .ok (.aload_n 1, 1) := by decide +kernel
theorem dL_minute_86 : decode cL_minute 86 = .ok (.aload_n 2, 1) := by decide +kernel
theorem dL_minute_87 : decode cL_minute 87 = .ok (.aload_n 3, 1) := by decide +kernel
theorem dL_minute_88 : decode cL_minute 88 = .ok (.aload 5, 2) := by decide +kernel
theorem dL_minute_90 : decode cL_minute 90 = .ok (.iload 7, 2) := by decide +kernel
theorem dL_minute_92 : decode cL_minute 92 = .ok (.aload 5, 2) := by decide +kernel
theorem dL_minute_94 : decode cL_minute 94 = .ok (.iload 8, 2) := by decide +kernel
theorem dL_minute_96 : decode cL_minute 96 = .ok (.iconst 1, 1) := by decide +kernel
theorem dL_minute_97 : decode cL_minute 97 = .ok (.iadd, 1) := by decide +kernel
theorem dL_minute_98 : decode cL_minute 98 = .ok (.iaload, 1) := by decide +kernel
theorem dL_minute_99 : decode cL_minute 99 = .ok (.iconst 1, 1) := by decide +kernel
theorem dL_minute_100 : decode cL_minute 100 = .ok (.isub, 1) := by decide +kernel
theorem dL_minute_101 : decode cL_minute 101 = .ok (.invokestatic 22, 3) := by decide +kernel
theorem dL_minute_104 : decode cL_minute 104 = .ok (.ifCond .ne 20, 3) := by decide +kernel
theorem dL_minute_107 : decode cL_minute 107 = .ok (.aload_n 2, 1) := by decide +kernel
theorem dL_minute_108 : decode cL_minute 108 = .ok (.aload 5, 2) := by decide +kernel
theorem dL_minute_110 : decode cL_minute 110 = .ok (.iload 7, 2) := by decide +kernel
theorem dL_minute_112 : decode cL_minute 112 = .ok (.aload 5, 2) := by decide +kernel
theorem dL_minute_114 : decode cL_minute 114 = .ok (.iload 8, 2) := by decide +kernel
theorem dL_minute_116 : decode cL_minute 116 = .ok (.iconst 1, 1) := by decide +kernel
theorem dL_minute_117 : decode cL_minute 117 = .ok (.iadd, 1) := by decide +kernel
theorem dL_minute_118 : decode cL_minute 118 = .ok (.iaload, 1) := by decide +kernel
theorem dL_minute_119 : decode cL_minute 119 = .ok (.iconst 1, 1) := by decide +kernel
theorem dL_minute_120 : decode cL_minute 120 = .ok (.isub, 1) := by decide +kernel
theorem dL_minute_121 : decode cL_minute 121 = .ok (.invokestatic 26, 3) := by decide +kernel
theorem dL_minute_124 : decode cL_minute 124 = .ok (.aload 5, 2) := by decide +kernel
theorem dL_minute_126 : decode cL_minute 126 = .ok (.iload 8, 2) := by decide +kernel
theorem dL_minute_128 : decode cL_minute 128 = .ok (.iconst 2, 1) := by decide +kernel
theorem dL_minute_129 : decode cL_minute 129 = .ok (.iadd, 1) := by decide +kernel
theorem dL_minute_130 : decode cL_minute 130 = .ok (.iaload, 1) := by decide +kernel
theorem dL_minute_131 : decode cL_minute 131 = .ok (.ifCond .le 300, 3) := by decide +kernel
theorem dL_minute_134 : decode cL_minute 134 = .ok (.aload 5, 2) := by decide +kernel
theorem dL_minute_136 : decode cL_minute 136 = .ok (.iload 8, 2) := by decide +kernel
theorem dL_minute_138 : decode cL_minute 138 = .ok (.iconst 4, 1) := by decide +kernel
theorem dL_minute_139 : decode cL_minute 139 = .ok (.iadd, 1) := by decide +kernel
theorem dL_minute_140 : decode cL_minute 140 = .ok (.dup2, 1) := by decide +kernel
theorem dL_minute_141 : decode cL_minute 141 = .ok (.iaload, 1) := by decide +kernel
theorem dL_minute_142 : decode cL_minute 142 = .ok (.iconst 1, 1) := by decide +kernel
theorem dL_minute_143 : decode cL_minute 143 = .ok (.isub, 1) := by decide +kernel
theorem dL_minute_144 : decode cL_minute 144 = .ok (.iastore, 1) := by decide +kernel
theorem dL_minute_145 : decode cL_minute 145 = .ok (.aload 5, 2) := by decide +kernel
theorem dL_minute_147 : decode cL_minute 147 = .ok (.iload 8, 2) := by decide +kernel
theorem dL_minute_149 : decode cL_minute 149 = .ok (.bipush 8, 2) := by decide +kernel
theorem dL_minute_151 : decode cL_minute 151 = .ok (.iadd, 1) := by decide +kernel
theorem dL_minute_152 : decode cL_minute 152 = .ok (.iaload, 1) := by decide +kernel
theorem dL_minute_153 : decode cL_minute 153 = .ok (.iconst 1, 1) := by decide +kernel
theorem dL_minute_154 : decode cL_minute 154 = .ok (.if_icmp .eq 43, 3) := by decide +kernel
theorem dL_minute_157 : decode cL_minute 157 = .ok (.aload 5, 2) := by decide +kernel
theorem dL_minute_159 : decode cL_minute 159 = .ok (.iload 8, 2) := by decide +kernel
theorem dL_minute_161 : decode cL_minute 161 = .ok (.iconst 2, 1) := by decide +kernel
theorem dL_minute_162 : decode cL_minute 162 = .ok (.iadd, 1) := by decide +kernel
theorem dL_minute_163 : decode cL_minute 163 = .ok (.iaload, 1) := by decide +kernel
theorem dL_minute_164 : decode cL_minute 164 = .ok (.iconst 1, 1) := by decide +kernel
theorem dL_minute_165 : decode cL_minute 165 = .ok (.if_icmp .ne 36, 3) := by decide +kernel
theorem dL_minute_168 : decode cL_minute 168 = .ok (.aload 5, 2) := by decide +kernel
theorem dL_minute_170 : decode cL_minute 170 = .ok (.iload 8, 2) := by decide +kernel
theorem dL_minute_172 : decode cL_minute 172 = .ok (.iconst 3, 1) := by decide +kernel
theorem dL_minute_173 : decode cL_minute 173 = .ok (.iadd, 1) := by decide +kernel
theorem dL_minute_174 : decode cL_minute 174 = .ok (.iaload, 1) := by decide +kernel
theorem dL_minute_175 : decode cL_minute 175 = .ok (.aload 5, 2) := by decide +kernel
theorem dL_minute_177 : decode cL_minute 177 = .ok (.iload 8, 2) := by decide +kernel
theorem dL_minute_179 : decode cL_minute 179 = .ok (.iconst 1, 1) := by decide +kernel
theorem dL_minute_180 : decode cL_minute 180 = .ok (.iadd, 1) := by decide +kernel
theorem dL_minute_181 : decode cL_minute 181 = .ok (.iaload, 1) := by decide +kernel
theorem dL_minute_182 : decode cL_minute 182 = .ok (.if_icmp .ge 19, 3) := by decide +kernel
theorem dL_minute_185 : decode cL_minute 185 = .ok (.aload_n 1, 1) := by decide +kernel
theorem dL_minute_186 : decode cL_minute 186 = .ok (.aload 5, 2) := by decide +kernel
theorem dL_minute_188 : decode cL_minute 188 = .ok (.iload 8, 2) := by decide +kernel
theorem dL_minute_190 : decode cL_minute 190 = .ok (.iconst 3, 1) := by decide +kernel
theorem dL_minute_191 : decode cL_minute 191 = .ok (.iadd, 1) := by decide +kernel
theorem dL_minute_192 : decode cL_minute 192 = .ok (.iaload, 1) := by decide +kernel
theorem dL_minute_193 : decode cL_minute 193 = .ok (.iaload, 1) := by decide +kernel
theorem dL_minute_194 : decode cL_minute 194 = .ok (.ifCond .le 7, 3) := by decide +kernel
theorem dL_minute_197 : decode cL_minute 197 = .ok (.iconst 1, 1) := by decide +kernel
theorem dL_minute_198 : decode cL_minute 198 = .ok (.goto 4, 3) := by decide +kernel
theorem dL_minute_201 : decode cL_minute 201 = .ok (.iconst 0, 1) := by decide +kernel
theorem dL_minute_202 : decode cL_minute 202 = .ok (.istore 10, 2) := by decide +kernel
theorem dL_minute_204 : decode cL_minute 204 = .ok (.aload 5, 2) := by decide +kernel
theorem dL_minute_206 : decode cL_minute 206 = .ok (.iload 8, 2) := by decide +kernel
theorem dL_minute_208 : decode cL_minute 208 = .ok (.bipush 6, 2) := by decide +kernel
theorem dL_minute_210 : decode cL_minute 210 = .ok (.iadd, 1) := by decide +kernel
theorem dL_minute_211 : decode cL_minute 211 = .ok (.dup2, 1) := by decide +kernel
theorem dL_minute_212 : decode cL_minute 212 = .ok (.iaload, 1) := by decide +kernel
theorem dL_minute_213 : decode cL_minute 213 = .ok (.aload 5, 2) := by decide +kernel
theorem dL_minute_215 : decode cL_minute 215 = .ok (.iload 8, 2) := by decide +kernel
theorem dL_minute_217 : decode cL_minute 217 = .ok (.iconst 2, 1) := by decide +kernel
theorem dL_minute_218 : decode cL_minute 218 = .ok (.iadd, 1) := by decide +kernel
theorem dL_minute_219 : decode cL_minute 219 = .ok (.iaload, 1) := by decide +kernel
theorem dL_minute_220 : decode cL_minute 220 = .ok (.iconst 2, 1) := by decide +kernel
theorem dL_minute_221 : decode cL_minute 221 = .ok (.if_icmp .ne 7, 3) := by decide +kernel
theorem dL_minute_224 : decode cL_minute 224 = .ok (.iconst 0, 1) := by decide +kernel
theorem dL_minute_225 : decode cL_minute 225 = .ok (.goto 13, 3) := by decide +kernel
theorem dL_minute_228 : decode cL_minute 228 = .ok (.iload 10, 2) := by decide +kernel
theorem dL_minute_230 : decode cL_minute 230 = .ok (.ifCond .eq 7, 3) := by decide +kernel
theorem dL_minute_233 : decode cL_minute 233 = .ok (.iconst 2, 1) := by decide +kernel
theorem dL_minute_234 : decode cL_minute 234 = .ok (.goto 4, 3) := by decide +kernel
theorem dL_minute_237 : decode cL_minute 237 = .ok (.iconst 1, 1) := by decide +kernel
theorem dL_minute_238 : decode cL_minute 238 = .ok (.iadd, 1) := by decide +kernel
theorem dL_minute_239 : decode cL_minute 239 = .ok (.iastore, 1) := by decide +kernel
theorem dL_minute_240 : decode cL_minute 240 = .ok (.aload 5, 2) := by decide +kernel
theorem dL_minute_242 : decode cL_minute 242 = .ok (.iload 8, 2) := by decide +kernel
theorem dL_minute_244 : decode cL_minute 244 = .ok (.iconst 4, 1) := by decide +kernel
theorem dL_minute_245 : decode cL_minute 245 = .ok (.iadd, 1) := by decide +kernel
theorem dL_minute_246 : decode cL_minute 246 = .ok (.iaload, 1) := by decide +kernel
theorem dL_minute_247 : decode cL_minute 247 = .ok (.ifCond .ne 106, 3) := by decide +kernel
theorem dL_minute_250 : decode cL_minute 250 = .ok (.aload 5, 2) := by decide +kernel
theorem dL_minute_252 : decode cL_minute 252 = .ok (.iload 8, 2) := by decide +kernel
theorem dL_minute_254 : decode cL_minute 254 = .ok (.iconst 2, 1) := by decide +kernel
theorem dL_minute_255 : decode cL_minute 255 = .ok (.iadd, 1) := by decide +kernel
theorem dL_minute_256 : decode cL_minute 256 = .ok (.iaload, 1) := by decide +kernel
theorem dL_minute_257 : decode cL_minute 257 = .ok (.iconst 1, 1) := by decide +kernel
theorem dL_minute_258 : decode cL_minute 258 = .ok (.if_icmp .ne 95, 3) := by decide +kernel
theorem dL_minute_261 : decode cL_minute 261 = .ok (.aload_n 0, 1) := by decide +kernel
theorem dL_minute_262 : decode cL_minute 262 = .ok (.iconst 4, 1) := by decide +kernel
theorem dL_minute_263 : decode cL_minute 263 = .ok (.aload 5, 2) := by decide +kernel
theorem dL_minute_265 : decode cL_minute 265 = .ok (.iload 8, 2) := by decide +kernel
theorem dL_minute_267 : decode cL_minute 267 = .ok (.bipush 8, 2) := by decide +kernel
theorem dL_minute_269 : decode cL_minute 269 = .ok (.iadd, 1) := by decide +kernel
theorem dL_minute_270 : decode cL_minute 270 = .ok (.iaload, 1) := by decide +kernel
theorem dL_minute_271 : decode cL_minute 271 = .ok (.iconst 1, 1) := by decide +kernel
theorem dL_minute_272 : decode cL_minute 272 = .ok (.if_icmp .ne 13, 3) := by decide +kernel
theorem dL_minute_275 : decode cL_minute 275 = .ok (.aload 5, 2) := by decide +kernel
theorem dL_minute_277 : decode cL_minute 277 = .ok (.iload 8, 2) := by decide +kernel
theorem dL_minute_279 : decode cL_minute 279 = .ok (.iconst 3, 1) := by decide +kernel
theorem dL_minute_280 : decode cL_minute 280 = .ok (.iadd, 1) := by decide +kernel
theorem dL_minute_281 : decode cL_minute 281 = .ok (.iaload, 1) := by decide +kernel
theorem dL_minute_282 : decode cL_minute 282 = .ok (.goto 6, 3) := by decide +kernel
theorem dL_minute_285 : decode cL_minute 285 = .ok (.aload_n 0, 1) := by decide +kernel
theorem dL_minute_286 : decode cL_minute 286 = .ok (.iconst 4, 1) := by decide +kernel
theorem dL_minute_287 : decode cL_minute 287 = .ok (.iaload, 1) := by decide +kernel
theorem dL_minute_288 : decode cL_minute 288 = .ok (.iastore, 1) := by decide +kernel
theorem dL_minute_289 : decode cL_minute 289 = .ok (.aload_n 0, 1) := by decide +kernel
theorem dL_minute_290 : decode cL_minute 290 = .ok (.iconst 5, 1) := by decide +kernel
theorem dL_minute_291 : decode cL_minute 291 = .ok (.aload 5, 2) := by decide +kernel
theorem dL_minute_293 : decode cL_minute 293 = .ok (.iload 8, 2) := by decide +kernel
theorem dL_minute_295 : decode cL_minute 295 = .ok (.bipush 8, 2) := by decide +kernel
theorem dL_minute_297 : decode cL_minute 297 = .ok (.iadd, 1) := by decide +kernel
theorem dL_minute_298 : decode cL_minute 298 = .ok (.iaload, 1) := by decide +kernel
theorem dL_minute_299 : decode cL_minute 299 = .ok (.iconst 1, 1) := by decide +kernel
theorem dL_minute_300 : decode cL_minute 300 = .ok (.if_icmp .ne 7, 3) := by decide +kernel
theorem dL_minute_303 : decode cL_minute 303 = .ok (.iconst 0, 1) := by decide +kernel
theorem dL_minute_304 : decode cL_minute 304 = .ok (.goto 6, 3) := by decide +kernel
theorem dL_minute_307 : decode cL_minute 307 = .ok (.aload_n 0, 1) := by decide +kernel
theorem dL_minute_308 : decode cL_minute 308 = .ok (.iconst 5, 1) := by decide +kernel
theorem dL_minute_309 : decode cL_minute 309 = .ok (.iaload, 1) := by decide +kernel
theorem dL_minute_310 : decode cL_minute 310 = .ok (.iastore, 1) := by decide +kernel
theorem dL_minute_311 : decode cL_minute 311 = .ok (.aload 5, 2) := by decide +kernel
theorem dL_minute_313 : decode cL_minute 313 = .ok (.iload 8, 2) := by decide +kernel
theorem dL_minute_315 : decode cL_minute 315 = .ok (.iconst 1, 1) := by decide +kernel
theorem dL_minute_316 : decode cL_minute 316 = .ok (.iadd, 1) := by decide +kernel
theorem dL_minute_317 : decode cL_minute 317 = .ok (.aload 5, 2) := by decide +kernel
theorem dL_minute_319 : decode cL_minute 319 = .ok (.iload 8, 2) := by decide +kernel
theorem dL_minute_321 : decode cL_minute 321 = .ok (.iconst 3, 1) := by decide +kernel
theorem dL_minute_322 : decode cL_minute 322 = .ok (.iadd, 1) := by decide +kernel
theorem dL_minute_323 : decode cL_minute 323 = .ok (.iaload, 1) := by decide +kernel
theorem dL_minute_324 : decode cL_minute 324 = .ok (.iastore, 1) := by decide +kernel
theorem dL_minute_325 : decode cL_minute 325 = .ok (.aload 5, 2) := by decide +kernel
theorem dL_minute_327 : decode cL_minute 327 = .ok (.iload 8, 2) := by decide +kernel
theorem dL_minute_329 : decode cL_minute 329 = .ok (.iconst 2, 1) := by decide +kernel
theorem dL_minute_330 : decode cL_minute 330 = .ok (.iadd, 1) := by decide +kernel
theorem dL_minute_331 : decode cL_minute 331 = .ok (.iconst 0, 1) := by decide +kernel
theorem dL_minute_332 : decode cL_minute 332 = .ok (.iastore, 1) := by decide +kernel
theorem dL_minute_333 : decode cL_minute 333 = .ok (.aload 5, 2) := by decide +kernel
theorem dL_minute_335 : decode cL_minute 335 = .ok (.iload 8, 2) := by decide +kernel
theorem dL_minute_337 : decode cL_minute 337 = .ok (.iconst 3, 1) := by decide +kernel
theorem dL_minute_338 : decode cL_minute 338 = .ok (.iadd, 1) := by decide +kernel
theorem dL_minute_339 : decode cL_minute 339 = .ok (.iconst (-1), 1) := by decide +kernel
theorem dL_minute_340 : decode cL_minute 340 = .ok (.iastore, 1) := by decide +kernel
theorem dL_minute_341 : decode cL_minute 341 = .ok (.aload 5, 2) := by decide +kernel
theorem dL_minute_343 : decode cL_minute 343 = .ok (.iload 8, 2) := by decide +kernel
theorem dL_minute_345 : decode cL_minute 345 = .ok (.bipush 8, 2) := by decide +kernel
theorem dL_minute_347 : decode cL_minute 347 = .ok (.iadd, 1) := by decide +kernel
theorem dL_minute_348 : decode cL_minute 348 = .ok (.iconst 0, 1) := by decide +kernel
theorem dL_minute_349 : decode cL_minute 349 = .ok (.iastore, 1) := by decide +kernel
theorem dL_minute_350 : decode cL_minute 350 = .ok (.goto 81, 3) := by decide +kernel
theorem dL_minute_353 : decode cL_minute 353 = .ok (.aload 5, 2) := by decide +kernel
theorem dL_minute_355 : decode cL_minute 355 = .ok (.iload 8, 2) := by decide +kernel
theorem dL_minute_357 : decode cL_minute 357 = .ok (.iconst 4, 1) := by decide +kernel
theorem dL_minute_358 : decode cL_minute 358 = .ok (.iadd, 1) := by decide +kernel
theorem dL_minute_359 : decode cL_minute 359 = .ok (.iaload, 1) := by decide +kernel
theorem dL_minute_360 : decode cL_minute 360 = .ok (.ifCond .ne 71, 3) := by decide +kernel
theorem dL_minute_363 : decode cL_minute 363 = .ok (.aload_n 3, 1) := by decide +kernel
theorem dL_minute_364 : decode cL_minute 364 = .ok (.aload 5, 2) := by decide +kernel
theorem dL_minute_366 : decode cL_minute 366 = .ok (.iload 8, 2) := by decide +kernel
theorem dL_minute_368 : decode cL_minute 368 = .ok (.iconst 1, 1) := by decide +kernel
theorem dL_minute_369 : decode cL_minute 369 = .ok (.iadd, 1) := by decide +kernel
theorem dL_minute_370 : decode cL_minute 370 = .ok (.iaload, 1) := by decide +kernel
theorem dL_minute_371 : decode cL_minute 371 = .ok (.aload 5, 2) := by decide +kernel
theorem dL_minute_373 : decode cL_minute 373 = .ok (.iload 8, 2) := by decide +kernel
theorem dL_minute_375 : decode cL_minute 375 = .ok (.iconst 5, 1) := by decide +kernel
theorem dL_minute_376 : decode cL_minute 376 = .ok (.iadd, 1) := by decide +kernel
theorem dL_minute_377 : decode cL_minute 377 = .ok (.iaload, 1) := by decide +kernel
theorem dL_minute_378 : decode cL_minute 378 = .ok (.iastore, 1) := by decide +kernel
theorem dL_minute_379 : decode cL_minute 379 = .ok (.aload 4, 2) := by decide +kernel
theorem dL_minute_381 : decode cL_minute 381 = .ok (.iconst 3, 1) := by decide +kernel
theorem dL_minute_382 : decode cL_minute 382 = .ok (.aload 5, 2) := by decide +kernel
theorem dL_minute_384 : decode cL_minute 384 = .ok (.iload 8, 2) := by decide +kernel
theorem dL_minute_386 : decode cL_minute 386 = .ok (.iconst 5, 1) := by decide +kernel
theorem dL_minute_387 : decode cL_minute 387 = .ok (.iadd, 1) := by decide +kernel
theorem dL_minute_388 : decode cL_minute 388 = .ok (.iaload, 1) := by decide +kernel
theorem dL_minute_389 : decode cL_minute 389 = .ok (.imul, 1) := by decide +kernel
theorem dL_minute_390 : decode cL_minute 390 = .ok (.iconst 1, 1) := by decide +kernel
theorem dL_minute_391 : decode cL_minute 391 = .ok (.iadd, 1) := by decide +kernel
theorem dL_minute_392 : decode cL_minute 392 = .ok (.iconst 2, 1) := by decide +kernel
theorem dL_minute_393 : decode cL_minute 393 = .ok (.iastore, 1) := by decide +kernel
theorem dL_minute_394 : decode cL_minute 394 = .ok (.aload 4, 2) := by decide +kernel
theorem dL_minute_396 : decode cL_minute 396 = .ok (.iconst 3, 1) := by decide +kernel
theorem dL_minute_397 : decode cL_minute 397 = .ok (.aload 5, 2) := by decide +kernel
theorem dL_minute_399 : decode cL_minute 399 = .ok (.iload 8, 2) := by decide +kernel
theorem dL_minute_401 : decode cL_minute 401 = .ok (.iconst 5, 1) := by decide +kernel
theorem dL_minute_402 : decode cL_minute 402 = .ok (.iadd, 1) := by decide +kernel
theorem dL_minute_403 : decode cL_minute 403 = .ok (.iaload, 1) := by decide +kernel
theorem dL_minute_404 : decode cL_minute 404 = .ok (.imul, 1) := by decide +kernel
theorem dL_minute_405 : decode cL_minute 405 = .ok (.iconst 2, 1) := by decide +kernel
theorem dL_minute_406 : decode cL_minute 406 = .ok (.iadd, 1) := by decide +kernel
theorem dL_minute_407 : decode cL_minute 407 = .ok (.aload 5, 2) := by decide +kernel
theorem dL_minute_409 : decode cL_minute 409 = .ok (.iload 8, 2) := by decide +kernel
theorem dL_minute_411 : decode cL_minute 411 = .ok (.iconst 1, 1) := by decide +kernel
theorem dL_minute_412 : decode cL_minute 412 = .ok (.iadd, 1) := by decide +kernel
theorem dL_minute_413 : decode cL_minute 413 = .ok (.iaload, 1) := by decide +kernel
theorem dL_minute_414 : decode cL_minute 414 = .ok (.iastore, 1) := by decide +kernel
theorem dL_minute_415 : decode cL_minute 415 = .ok (.aload 5, 2) := by decide +kernel
theorem dL_minute_417 : decode cL_minute 417 = .ok (.iload 8, 2) := by decide +kernel
theorem dL_minute_419 : decode cL_minute 419 = .ok (.iconst 5, 1) := by decide +kernel
theorem dL_minute_420 : decode cL_minute 420 = .ok (.iadd, 1) := by decide +kernel
theorem dL_minute_421 : decode cL_minute 421 = .ok (.iconst (-1), 1) := by decide +kernel
theorem dL_minute_422 : decode cL_minute 422 = .ok (.iastore, 1) := by decide +kernel
theorem dL_minute_423 : decode cL_minute 423 = .ok (.aload 5, 2) := by decide +kernel
theorem dL_minute_425 : decode cL_minute 425 = .ok (.iload 8, 2) := by decide +kernel
theorem dL_minute_427 : decode cL_minute 427 = .ok (.iconst 2, 1) := by decide +kernel
theorem dL_minute_428 : decode cL_minute 428 = .ok (.iadd, 1) := by decide +kernel
theorem dL_minute_429 : decode cL_minute 429 = .ok (.iconst 0, 1) := by decide +kernel
theorem dL_minute_430 : decode cL_minute 430 = .ok (.iastore, 1) := by decide +kernel
theorem dL_minute_431 : decode cL_minute 431 = .ok (.aload 5, 2) := by decide +kernel
theorem dL_minute_433 : decode cL_minute 433 = .ok (.iload 8, 2) := by decide +kernel
theorem dL_minute_435 : decode cL_minute 435 = .ok (.bipush 6, 2) := by decide +kernel
theorem dL_minute_437 : decode cL_minute 437 = .ok (.iadd, 1) := by decide +kernel
theorem dL_minute_438 : decode cL_minute 438 = .ok (.dup2, 1) := by decide +kernel
theorem dL_minute_439 : decode cL_minute 439 = .ok (.iaload, 1) := by decide +kernel
theorem dL_minute_440 : decode cL_minute 440 = .ok (.iload 9, 2) := by decide +kernel
theorem dL_minute_442 : decode cL_minute 442 = .ok (.ifCond .eq 18, 3) := by decide +kernel
theorem dL_minute_445 : decode cL_minute 445 = .ok (.aload 5, 2) := by decide +kernel
theorem dL_minute_447 : decode cL_minute 447 = .ok (.iload 8, 2) := by decide +kernel
theorem dL_minute_449 : decode cL_minute 449 = .ok (.bipush 6, 2) := by decide +kernel
theorem dL_minute_451 : decode cL_minute 451 = .ok (.iadd, 1) := by decide +kernel
theorem dL_minute_452 : decode cL_minute 452 = .ok (.iaload, 1) := by decide +kernel
theorem dL_minute_453 : decode cL_minute 453 = .ok (.ifCond .le 7, 3) := by decide +kernel
theorem dL_minute_456 : decode cL_minute 456 = .ok (.iconst 1, 1) := by decide +kernel
theorem dL_minute_457 : decode cL_minute 457 = .ok (.goto 4, 3) := by decide +kernel
theorem dL_minute_460 : decode cL_minute 460 = .ok (.iconst 0, 1) := by decide +kernel
theorem dL_minute_461 : decode cL_minute 461 = .ok (.isub, 1) := by decide +kernel
theorem dL_minute_462 : decode cL_minute 462 = .ok (.iastore, 1) := by decide +kernel
theorem dL_minute_463 : decode cL_minute 463 = .ok (.aload 5, 2) := by decide +kernel
theorem dL_minute_465 : decode cL_minute 465 = .ok (.iload 8, 2) := by decide +kernel
theorem dL_minute_467 : decode cL_minute 467 = .ok (.bipush 7, 2) := by decide +kernel
theorem dL_minute_469 : decode cL_minute 469 = .ok (.iadd, 1) := by decide +kernel
theorem dL_minute_470 : decode cL_minute 470 = .ok (.aload 5, 2) := by decide +kernel
theorem dL_minute_472 : decode cL_minute 472 = .ok (.iload 8, 2) := by decide +kernel
theorem dL_minute_474 : decode cL_minute 474 = .ok (.iconst 2, 1) := by decide +kernel
theorem dL_minute_475 : decode cL_minute 475 = .ok (.iadd, 1) := by decide +kernel
theorem dL_minute_476 : decode cL_minute 476 = .ok (.iaload, 1) := by decide +kernel
theorem dL_minute_477 : decode cL_minute 477 = .ok (.iconst 1, 1) := by decide +kernel
theorem dL_minute_478 : decode cL_minute 478 = .ok (.if_icmp .eq 13, 3) := by decide +kernel
theorem dL_minute_481 : decode cL_minute 481 = .ok (.aload 5, 2) := by decide +kernel
theorem dL_minute_483 : decode cL_minute 483 = .ok (.iload 8, 2) := by decide +kernel
theorem dL_minute_485 : decode cL_minute 485 = .ok (.iconst 1, 1) := by decide +kernel
theorem dL_minute_486 : decode cL_minute 486 = .ok (.iadd, 1) := by decide +kernel
theorem dL_minute_487 : decode cL_minute 487 = .ok (.iaload, 1) := by decide +kernel
theorem dL_minute_488 : decode cL_minute 488 = .ok (.ifCond .le 16, 3) := by decide +kernel
theorem dL_minute_491 : decode cL_minute 491 = .ok (.aload 5, 2) := by decide +kernel
theorem dL_minute_493 : decode cL_minute 493 = .ok (.iload 8, 2) := by decide +kernel
theorem dL_minute_495 : decode cL_minute 495 = .ok (.bipush 7, 2) := by decide +kernel
theorem dL_minute_497 : decode cL_minute 497 = .ok (.iadd, 1) := by decide +kernel
theorem dL_minute_498 : decode cL_minute 498 = .ok (.iaload, 1) := by decide +kernel
theorem dL_minute_499 : decode cL_minute 499 = .ok (.iconst 1, 1) := by decide +kernel
theorem dL_minute_500 : decode cL_minute 500 = .ok (.iadd, 1) := by decide +kernel
theorem dL_minute_501 : decode cL_minute 501 = .ok (.goto 4, 3) := by decide +kernel
theorem dL_minute_504 : decode cL_minute 504 = .ok (.iconst 0, 1) := by decide +kernel
theorem dL_minute_505 : decode cL_minute 505 = .ok (.iastore, 1) := by decide +kernel
theorem dL_minute_506 : decode cL_minute 506 = .ok (.aload_n 0, 1) := by decide +kernel
theorem dL_minute_507 : decode cL_minute 507 = .ok (.bipush 11, 2) := by decide +kernel
theorem dL_minute_509 : decode cL_minute 509 = .ok (.dup2, 1) := by decide +kernel
theorem dL_minute_510 : decode cL_minute 510 = .ok (.iaload, 1) := by decide +kernel
theorem dL_minute_511 : decode cL_minute 511 = .ok (.aload 5, 2) := by decide +kernel
theorem dL_minute_513 : decode cL_minute 513 = .ok (.iload 8, 2) := by decide +kernel
theorem dL_minute_515 : decode cL_minute 515 = .ok (.bipush 7, 2) := by decide +kernel
theorem dL_minute_517 : decode cL_minute 517 = .ok (.iadd, 1) := by decide +kernel
theorem dL_minute_518 : decode cL_minute 518 = .ok (.iaload, 1) := by decide +kernel
theorem dL_minute_519 : decode cL_minute 519 = .ok (.aload 5, 2) := by decide +kernel
theorem dL_minute_521 : decode cL_minute 521 = .ok (.iload 8, 2) := by decide +kernel
theorem dL_minute_523 : decode cL_minute 523 = .ok (.iaload, 1) := by decide +kernel
theorem dL_minute_524 : decode cL_minute 524 = .ok (.if_icmp .le 7, 3) := by decide +kernel
theorem dL_minute_527 : decode cL_minute 527 = .ok (.iconst 1, 1) := by decide +kernel
theorem dL_minute_528 : decode cL_minute 528 = .ok (.goto 4, 3) := by decide +kernel
theorem dL_minute_531 : decode cL_minute 531 = .ok (.iconst 0, 1) := by decide +kernel
theorem dL_minute_532 : decode cL_minute 532 = .ok (.iadd, 1) := by decide +kernel
theorem dL_minute_533 : decode cL_minute 533 = .ok (.iastore, 1) := by decide +kernel
theorem dL_minute_534 : decode cL_minute 534 = .ok (.iinc 7 1, 3) := by decide +kernel
theorem dL_minute_537 : decode cL_minute 537 = .ok (.goto (-534), 3) := by decide +kernel
theorem dL_minute_540 : decode cL_minute 540 = .ok (.iconst 0, 1) := by decide +kernel
theorem dL_minute_541 : decode cL_minute 541 = .ok (.istore 7, 2) := by decide +kernel
theorem dL_minute_543 : decode cL_minute 543 = .ok (.aload_n 0, 1) := by decide +kernel
theorem dL_minute_544 : decode cL_minute 544 = .ok (.bipush 9, 2) := by decide +kernel
theorem dL_minute_546 : decode cL_minute 546 = .ok (.iaload, 1) := by decide +kernel
theorem dL_minute_547 : decode cL_minute 547 = .ok (.aload_n 0, 1) := by decide +kernel
theorem dL_minute_548 : decode cL_minute 548 = .ok (.iconst 3, 1) := by decide +kernel
theorem dL_minute_549 : decode cL_minute 549 = .ok (.iaload, 1) := by decide +kernel
theorem dL_minute_550 : decode cL_minute 550 = .ok (.if_icmp .gt 17, 3) := by decide +kernel
theorem dL_minute_553 : decode cL_minute 553 = .ok (.aload_n 0, 1) := by decide +kernel
theorem dL_minute_554 : decode cL_minute 554 = .ok (.iconst 3, 1) := by decide +kernel
theorem dL_minute_555 : decode cL_minute 555 = .ok (.iaload, 1) := by decide +kernel
theorem dL_minute_556 : decode cL_minute 556 = .ok (.aload_n 0, 1) := by decide +kernel
theorem dL_minute_557 : decode cL_minute 557 = .ok (.bipush 10, 2) := by decide +kernel
theorem dL_minute_559 : decode cL_minute 559 = .ok (.iaload, 1) := by decide +kernel
theorem dL_minute_560 : decode cL_minute 560 = .ok (.if_icmp .ge 7, 3) := by decide +kernel
theorem dL_minute_563 : decode cL_minute 563 = .ok (.iconst 1, 1) := by decide +kernel
theorem dL_minute_564 : decode cL_minute 564 = .ok (.goto 4, 3) := by decide +kernel
theorem dL_minute_567 : decode cL_minute 567 = .ok (.iconst 0, 1) := by decide +kernel
theorem dL_minute_568 : decode cL_minute 568 = .ok (.istore 8, 2) := by decide +kernel
theorem dL_minute_570 : decode cL_minute 570 = .ok (.iconst 0, 1) := by decide +kernel
theorem dL_minute_571 : decode cL_minute 571 = .ok (.istore 9, 2) := by decide +kernel
theorem dL_minute_573 : decode cL_minute 573 = .ok (.iconst 0, 1) := by decide +kernel
theorem dL_minute_574 : decode cL_minute 574 = .ok (.istore 10, 2) := by decide +kernel
theorem dL_minute_576 : decode cL_minute 576 = .ok (.iload 10, 2) := by decide +kernel
theorem dL_minute_578 : decode cL_minute 578 = .ok (.aload_n 0, 1) := by decide +kernel
theorem dL_minute_579 : decode cL_minute 579 = .ok (.bipush 6, 2) := by decide +kernel
theorem dL_minute_581 : decode cL_minute 581 = .ok (.iaload, 1) := by decide +kernel
theorem dL_minute_582 : decode cL_minute 582 = .ok (.if_icmp .ge 97, 3) := by decide +kernel
theorem dL_minute_585 : decode cL_minute 585 = .ok (.aload 6, 2) := by decide +kernel
theorem dL_minute_587 : decode cL_minute 587 = .ok (.iconst 3, 1) := by decide +kernel
theorem dL_minute_588 : decode cL_minute 588 = .ok (.iload 10, 2) := by decide +kernel
theorem dL_minute_590 : decode cL_minute 590 = .ok (.imul, 1) := by decide +kernel
theorem dL_minute_591 : decode cL_minute 591 = .ok (.iconst 2, 1) := by decide +kernel
theorem dL_minute_592 : decode cL_minute 592 = .ok (.iadd, 1) := by decide +kernel
theorem dL_minute_593 : decode cL_minute 593 = .ok (.iaload, 1) := by decide +kernel
theorem dL_minute_594 : decode cL_minute 594 = .ok (.iload 8, 2) := by decide +kernel
theorem dL_minute_596 : decode cL_minute 596 = .ok (.ifCond .eq 7, 3) := by decide +kernel
theorem dL_minute_599 : decode cL_minute 599 = .ok (.iconst 0, 1) := by decide +kernel
theorem dL_minute_600 : decode cL_minute 600 = .ok (.goto 4, 3) := by decide +kernel
theorem dL_minute_603 : decode cL_minute 603 = .ok (.iconst 1, 1) := by decide +kernel
theorem dL_minute_604 : decode cL_minute 604 = .ok (.isub, 1) := by decide +kernel
theorem dL_minute_605 : decode cL_minute 605 = .ok (.istore 11, 2) := by decide +kernel
theorem dL_minute_607 : decode cL_minute 607 = .ok (.iload 7, 2) := by decide +kernel
theorem dL_minute_609 : decode cL_minute 609 = .ok (.iload 11, 2) := by decide +kernel
theorem dL_minute_611 : decode cL_minute 611 = .ok (.ifCond .ne 7, 3) := by decide +kernel
theorem dL_minute_614 : decode cL_minute 614 = .ok (.iconst 1, 1) := by decide +kernel
theorem dL_minute_615 : decode cL_minute 615 = .ok (.goto 4, 3) := by decide +kernel
theorem dL_minute_618 : decode cL_minute 618 = .ok (.iconst 0, 1) := by decide +kernel
theorem dL_minute_619 : decode cL_minute 619 = .ok (.iadd, 1) := by decide +kernel
theorem dL_minute_620 : decode cL_minute 620 = .ok (.istore 7, 2) := by decide +kernel
theorem dL_minute_622 : decode cL_minute 622 = .ok (.iload 11, 2) := by decide +kernel
theorem dL_minute_624 : decode cL_minute 624 = .ok (.ifCond .le 49, 3) := by decide +kernel
theorem dL_minute_627 : decode cL_minute 627 = .ok (.aload 6, 2) := by decide +kernel
theorem dL_minute_629 : decode cL_minute 629 = .ok (.iconst 3, 1) := by decide +kernel
theorem dL_minute_630 : decode cL_minute 630 = .ok (.iload 9, 2) := by decide +kernel
theorem dL_minute_632 : decode cL_minute 632 = .ok (.imul, 1) := by decide +kernel
theorem dL_minute_633 : decode cL_minute 633 = .ok (.aload 6, 2) := by decide +kernel
theorem dL_minute_635 : decode cL_minute 635 = .ok (.iconst 3, 1) := by decide +kernel
theorem dL_minute_636 : decode cL_minute 636 = .ok (.iload 10, 2) := by decide +kernel
theorem dL_minute_638 : decode cL_minute 638 = .ok (.imul, 1) := by decide +kernel
theorem dL_minute_639 : decode cL_minute 639 = .ok (.iaload, 1) := by decide +kernel
theorem dL_minute_640 : decode cL_minute 640 = .ok (.iastore, 1) := by decide +kernel
theorem dL_minute_641 : decode cL_minute 641 = .ok (.aload 6, 2) := by decide +kernel
theorem dL_minute_643 : decode cL_minute 643 = .ok (.iconst 3, 1) := by decide +kernel
theorem dL_minute_644 : decode cL_minute 644 = .ok (.iload 9, 2) := by decide +kernel
theorem dL_minute_646 : decode cL_minute 646 = .ok (.imul, 1) := by decide +kernel
theorem dL_minute_647 : decode cL_minute 647 = .ok (.iconst 1, 1) := by decide +kernel
theorem dL_minute_648 : decode cL_minute 648 = .ok (.iadd, 1) := by decide +kernel
theorem dL_minute_649 : decode cL_minute 649 = .ok (.aload 6, 2) := by decide +kernel
theorem dL_minute_651 : decode cL_minute 651 = .ok (.iconst 3, 1) := by decide +kernel
theorem dL_minute_652 : decode cL_minute 652 = .ok (.iload 10, 2) := by decide +kernel
theorem dL_minute_654 : decode cL_minute 654 = .ok (.imul, 1) := by decide +kernel
theorem dL_minute_655 : decode cL_minute 655 = .ok (.iconst 1, 1) := by decide +kernel
theorem dL_minute_656 : decode cL_minute 656 = .ok (.iadd, 1) := by decide +kernel
theorem dL_minute_657 : decode cL_minute 657 = .ok (.iaload, 1) := by decide +kernel
theorem dL_minute_658 : decode cL_minute 658 = .ok (.iastore, 1) := by decide +kernel
theorem dL_minute_659 : decode cL_minute 659 = .ok (.aload 6, 2) := by decide +kernel
theorem dL_minute_661 : decode cL_minute 661 = .ok (.iconst 3, 1) := by decide +kernel
theorem dL_minute_662 : decode cL_minute 662 = .ok (.iload 9, 2) := by decide +kernel
theorem dL_minute_664 : decode cL_minute 664 = .ok (.imul, 1) := by decide +kernel
theorem dL_minute_665 : decode cL_minute 665 = .ok (.iconst 2, 1) := by decide +kernel
theorem dL_minute_666 : decode cL_minute 666 = .ok (.iadd, 1) := by decide +kernel
theorem dL_minute_667 : decode cL_minute 667 = .ok (.iload 11, 2) := by decide +kernel
theorem dL_minute_669 : decode cL_minute 669 = .ok (.iastore, 1) := by decide +kernel
theorem dL_minute_670 : decode cL_minute 670 = .ok (.iinc 9 1, 3) := by decide +kernel
theorem dL_minute_673 : decode cL_minute 673 = .ok (.iinc 10 1, 3) := by decide +kernel
theorem dL_minute_676 : decode cL_minute 676 = .ok (.goto (-100), 3) := by decide +kernel
theorem dL_minute_679 : decode cL_minute 679 = .ok (.aload_n 0, 1) := by decide +kernel
theorem dL_minute_680 : decode cL_minute 680 = .ok (.bipush 6, 2) := by decide +kernel
theorem dL_minute_682 : decode cL_minute 682 = .ok (.iload 9, 2) := by decide +kernel
theorem dL_minute_684 : decode cL_minute 684 = .ok (.iastore, 1) := by decide +kernel
theorem dL_minute_685 : decode cL_minute 685 = .ok (.aload_n 0, 1) := by decide +kernel
theorem dL_minute_686 : decode cL_minute 686 = .ok (.bipush 7, 2) := by decide +kernel
theorem dL_minute_688 : decode cL_minute 688 = .ok (.dup2, 1) := by decide +kernel
theorem dL_minute_689 : decode cL_minute 689 = .ok (.iaload, 1) := by decide +kernel
theorem dL_minute_690 : decode cL_minute 690 = .ok (.iload 7, 2) := by decide +kernel
theorem dL_minute_692 : decode cL_minute 692 = .ok (.iadd, 1) := by decide +kernel
theorem dL_minute_693 : decode cL_minute 693 = .ok (.iastore, 1) := by decide +kernel
theorem dL_minute_694 : decode cL_minute 694 = .ok (.aload_n 0, 1) := by decide +kernel
theorem dL_minute_695 : decode cL_minute 695 = .ok (.iconst 3, 1) := by decide +kernel
theorem dL_minute_696 : decode cL_minute 696 = .ok (.dup2, 1) := by decide +kernel
theorem dL_minute_697 : decode cL_minute 697 = .ok (.iaload, 1) := by decide +kernel
theorem dL_minute_698 : decode cL_minute 698 = .ok (.iconst 1, 1) := by decide +kernel
theorem dL_minute_699 : decode cL_minute 699 = .ok (.iadd, 1) := by decide +kernel
theorem dL_minute_700 : decode cL_minute 700 = .ok (.iastore, 1) := by decide +kernel
theorem dL_minute_701 : decode cL_minute 701 = .ok (.iload 7, 2) := by decide +kernel
theorem dL_minute_703 : decode cL_minute 703 = .ok (.ireturn, 1) := by decide +kernel
theorem dL_acts_0 : decode cL_acts 0 = .ok (.iload 9, 2) := by decide +kernel
theorem dL_acts_2 : decode cL_acts 2 = .ok (.iconst 5, 1) := by decide +kernel
theorem dL_acts_3 : decode cL_acts 3 = .ok (.ishr, 1) := by decide +kernel
theorem dL_acts_4 : decode cL_acts 4 = .ok (.ldc 30, 2) := by decide +kernel
theorem dL_acts_6 : decode cL_acts 6 = .ok (.invokestatic 31, 3) := by decide +kernel
theorem dL_acts_9 : decode cL_acts 9 = .ok (.istore 10, 2) := by decide +kernel
theorem dL_acts_11 : decode cL_acts 11 = .ok (.iload 9, 2) := by decide +kernel
theorem dL_acts_13 : decode cL_acts 13 = .ok (.bipush 30, 2) := by decide +kernel
theorem dL_acts_15 : decode cL_acts 15 = .ok (.invokestatic 31, 3) := by decide +kernel
theorem dL_acts_18 : decode cL_acts 18 = .ok (.istore 11, 2) := by decide +kernel
theorem dL_acts_20 : decode cL_acts 20 = .ok (.iload 11, 2) := by decide +kernel
theorem dL_acts_22 : decode cL_acts 22 = .ok (.ifCond .ne 164, 3) := by decide +kernel
theorem dL_acts_25 : decode cL_acts 25 = .ok (.iload 10, 2) := by decide +kernel
theorem dL_acts_27 : decode cL_acts 27 = .ok (.iconst 4, 1) := by decide +kernel
theorem dL_acts_28 : decode cL_acts 28 = .ok (.irem, 1) := by decide +kernel
theorem dL_acts_29 : decode cL_acts 29 = .ok (.ifCond .ne 157, 3) := by decide +kernel
theorem dL_acts_32 : decode cL_acts 32 = .ok (.aload_n 1, 1) := by decide +kernel
theorem dL_acts_33 : decode cL_acts 33 = .ok (.iconst 3, 1) := by decide +kernel
theorem dL_acts_34 : decode cL_acts 34 = .ok (.iaload, 1) := by decide +kernel
theorem dL_acts_35 : decode cL_acts 35 = .ok (.istore 12, 2) := by decide +kernel
theorem dL_acts_37 : decode cL_acts 37 = .ok (.iconst 0, 1) := by decide +kernel
theorem dL_acts_38 : decode cL_acts 38 = .ok (.istore 13, 2) := by decide +kernel
theorem dL_acts_40 : decode cL_acts 40 = .ok (.iload 13, 2) := by decide +kernel
theorem dL_acts_42 : decode cL_acts 42 = .ok (.bipush 13, 2) := by decide +kernel
theorem dL_acts_44 : decode cL_acts 44 = .ok (.if_icmp .ge 37, 3) := by decide +kernel
theorem dL_acts_47 : decode cL_acts 47 = .ok (.aload_n 1, 1) := by decide +kernel
theorem dL_acts_48 : decode cL_acts 48 = .ok (.iload 13, 2) := by decide +kernel
theorem dL_acts_50 : decode cL_acts 50 = .ok (.iload 13, 2) := by decide +kernel
theorem dL_acts_52 : decode cL_acts 52 = .ok (.ifCond .eq 9, 3) := by decide +kernel
theorem dL_acts_55 : decode cL_acts 55 = .ok (.iload 13, 2) := by decide +kernel
theorem dL_acts_57 : decode cL_acts 57 = .ok (.iconst 4, 1) := by decide +kernel
theorem dL_acts_58 : decode cL_acts 58 = .ok (.if_icmp .ne 15, 3) := by decide +kernel
theorem dL_acts_61 : decode cL_acts 61 = .ok (.iconst 1, 1) := by decide +kernel
theorem dL_acts_62 : decode cL_acts 62 = .ok (.iload 10, 2) := by decide +kernel
theorem dL_acts_64 : decode cL_acts 64 = .ok (.iconst 4, 1) := by decide +kernel
theorem dL_acts_65 : decode cL_acts 65 = .ok (.idiv, 1) := by decide +kernel
theorem dL_acts_66 : decode cL_acts 66 = .ok (.bipush 7, 2) := by decide +kernel
theorem dL_acts_68 : decode cL_acts 68 = .ok (.irem, 1) := by decide +kernel
theorem dL_acts_69 : decode cL_acts 69 = .ok (.iadd, 1) := by decide +kernel
theorem dL_acts_70 : decode cL_acts 70 = .ok (.goto 4, 3) := by decide +kernel
theorem dL_acts_73 : decode cL_acts 73 = .ok (.iconst 0, 1) := by decide +kernel
theorem dL_acts_74 : decode cL_acts 74 = .ok (.iastore, 1) := by decide +kernel
theorem dL_acts_75 : decode cL_acts 75 = .ok (.iinc 13 1, 3) := by decide +kernel
theorem dL_acts_78 : decode cL_acts 78 = .ok (.goto (-38), 3) := by decide +kernel
theorem dL_acts_81 : decode cL_acts 81 = .ok (.iconst 0, 1) := by decide +kernel
theorem dL_acts_82 : decode cL_acts 82 = .ok (.istore 13, 2) := by decide +kernel
theorem dL_acts_84 : decode cL_acts 84 = .ok (.iload 13, 2) := by decide +kernel
theorem dL_acts_86 : decode cL_acts 86 = .ok (.bipush 7, 2) := by decide +kernel
theorem dL_acts_88 : decode cL_acts 88 = .ok (.if_icmp .ge 80, 3) := by decide +kernel
theorem dL_acts_91 : decode cL_acts 91 = .ok (.aload_n 2, 1) := by decide +kernel
theorem dL_acts_92 : decode cL_acts 92 = .ok (.iload 13, 2) := by decide +kernel
theorem dL_acts_94 : decode cL_acts 94 = .ok (.iload 13, 2) := by decide +kernel
theorem dL_acts_96 : decode cL_acts 96 = .ok (.iconst 1, 1) := by decide +kernel
theorem dL_acts_97 : decode cL_acts 97 = .ok (.if_icmp .ne 8, 3) := by decide +kernel
theorem dL_acts_100 : decode cL_acts 100 = .ok (.bipush 20, 2) := by decide +kernel
theorem dL_acts_102 : decode cL_acts 102 = .ok (.goto 15, 3) := by decide +kernel
theorem dL_acts_105 : decode cL_acts 105 = .ok (.iload 13, 2) := by decide +kernel
theorem dL_acts_107 : decode cL_acts 107 = .ok (.iconst 3, 1) := by decide +kernel
theorem dL_acts_108 : decode cL_acts 108 = .ok (.if_icmp .ne 8, 3) := by decide +kernel
theorem dL_acts_111 : decode cL_acts 111 = .ok (.bipush 35, 2) := by decide +kernel
theorem dL_acts_113 : decode cL_acts 113 = .ok (.goto 4, 3) := by decide +kernel
theorem dL_acts_116 : decode cL_acts 116 = .ok (.iconst 0, 1) := by decide +kernel
theorem dL_acts_117 : decode cL_acts 117 = .ok (.iastore, 1) := by decide +kernel
theorem dL_acts_118 : decode cL_acts 118 = .ok (.aload_n 3, 1) := by decide +kernel
theorem dL_acts_119 : decode cL_acts 119 = .ok (.iload 13, 2) := by decide +kernel
theorem dL_acts_121 : decode cL_acts 121 = .ok (.iload 13, 2) := by decide +kernel
theorem dL_acts_123 : decode cL_acts 123 = .ok (.iconst 1, 1) := by decide +kernel
theorem dL_acts_124 : decode cL_acts 124 = .ok (.if_icmp .ne 8, 3) := by decide +kernel
theorem dL_acts_127 : decode cL_acts 127 = .ok (.bipush 8, 2) := by decide +kernel
theorem dL_acts_129 : decode cL_acts 129 = .ok (.goto 26, 3) := by decide +kernel
theorem dL_acts_132 : decode cL_acts 132 = .ok (.iload 13, 2) := by decide +kernel
theorem dL_acts_134 : decode cL_acts 134 = .ok (.iconst 2, 1) := by decide +kernel
theorem dL_acts_135 : decode cL_acts 135 = .ok (.if_icmp .ne 8, 3) := by decide +kernel
theorem dL_acts_138 : decode cL_acts 138 = .ok (.bipush 6, 2) := by decide +kernel
theorem dL_acts_140 : decode cL_acts 140 = .ok (.goto 15, 3) := by decide +kernel
theorem dL_acts_143 : decode cL_acts 143 = .ok (.iload 13, 2) := by decide +kernel
theorem dL_acts_145 : decode cL_acts 145 = .ok (.iconst 3, 1) := by decide +kernel
theorem dL_acts_146 : decode cL_acts 146 = .ok (.if_icmp .ne 8, 3) := by decide +kernel
theorem dL_acts_149 : decode cL_acts 149 = .ok (.bipush 10, 2) := by decide +kernel
theorem dL_acts_151 : decode cL_acts 151 = .ok (.goto 4, 3) := by decide +kernel
theorem dL_acts_154 : decode cL_acts 154 = .ok (.iconst 5, 1) := by decide +kernel
theorem dL_acts_155 : decode cL_acts 155 = .ok (.iastore, 1) := by decide +kernel
theorem dL_acts_156 : decode cL_acts 156 = .ok (.aload 4, 2) := by decide +kernel
theorem dL_acts_158 : decode cL_acts 158 = .ok (.iload 13, 2) := by decide +kernel
theorem dL_acts_160 : decode cL_acts 160 = .ok (.iconst (-1), 1) := by decide +kernel
theorem dL_acts_161 : decode cL_acts 161 = .ok (.iastore, 1) := by decide +kernel
theorem dL_acts_162 : decode cL_acts 162 = .ok (.iinc 13 1, 3) := by decide +kernel
theorem dL_acts_165 : decode cL_acts 165 = .ok (.goto (-81), 3) := by decide +kernel
theorem dL_acts_168 : decode cL_acts 168 = .ok (.aload_n 0, 1) := by decide +kernel
theorem dL_acts_169 : decode cL_acts 169 = .ok (.aload_n 1, 1) := by decide +kernel
theorem dL_acts_170 : decode cL_acts 170 = .ok (.iconst 0, 1) := by decide +kernel
theorem dL_acts_171 : decode cL_acts 171 = .ok (.iaload, 1) := by decide +kernel
theorem dL_acts_172 : decode cL_acts 172 = .ok (.invokestatic 35, 3) := by decide +kernel
theorem dL_acts_175 : decode cL_acts 175 = .ok (.iload 12, 2) := by decide +kernel
theorem dL_acts_177 : decode cL_acts 177 = .ok (.if_icmp .ne 7, 3) := by decide +kernel
theorem dL_acts_180 : decode cL_acts 180 = .ok (.iconst 1, 1) := by decide +kernel
theorem dL_acts_181 : decode cL_acts 181 = .ok (.goto 4, 3) := by decide +kernel
theorem dL_acts_184 : decode cL_acts 184 = .ok (.iconst 0, 1) := by decide +kernel
theorem dL_acts_185 : decode cL_acts 185 = .ok (.ireturn, 1) := by decide +kernel
theorem dL_acts_186 : decode cL_acts 186 = .ok (.iload 11, 2) := by decide +kernel
theorem dL_acts_188 : decode cL_acts 188 = .ok (.iconst 3, 1) := by decide +kernel
theorem dL_acts_189 : decode cL_acts 189 = .ok (.if_icmp .ge 157, 3) := by decide +kernel
theorem dL_acts_192 : decode cL_acts 192 = .ok (.iload 10, 2) := by decide +kernel
theorem dL_acts_194 : decode cL_acts 194 = .ok (.aload_n 1, 1) := by decide +kernel
theorem dL_acts_195 : decode cL_acts 195 = .ok (.iconst 0, 1) := by decide +kernel
theorem dL_acts_196 : decode cL_acts 196 = .ok (.iaload, 1) := by decide +kernel
theorem dL_acts_197 : decode cL_acts 197 = .ok (.irem, 1) := by decide +kernel
theorem dL_acts_198 : decode cL_acts 198 = .ok (.istore 12, 2) := by decide +kernel
theorem dL_acts_200 : decode cL_acts 200 = .ok (.aload 4, 2) := by decide +kernel
theorem dL_acts_202 : decode cL_acts 202 = .ok (.iload 12, 2) := by decide +kernel
theorem dL_acts_204 : decode cL_acts 204 = .ok (.iaload, 1) := by decide +kernel
theorem dL_acts_205 : decode cL_acts 205 = .ok (.ifCond .ge 25, 3) := by decide +kernel
theorem dL_acts_208 : decode cL_acts 208 = .ok (.aload_n 1, 1) := by decide +kernel
theorem dL_acts_209 : decode cL_acts 209 = .ok (.aload 6, 2) := by decide +kernel
theorem dL_acts_211 : decode cL_acts 211 = .ok (.iload 12, 2) := by decide +kernel
theorem dL_acts_213 : decode cL_acts 213 = .ok (.invokestatic 39, 3) := by decide +kernel
theorem dL_acts_216 : decode cL_acts 216 = .ok (.ifCond .ge 14, 3) := by decide +kernel
theorem dL_acts_219 : decode cL_acts 219 = .ok (.aload_n 1, 1) := by decide +kernel
theorem dL_acts_220 : decode cL_acts 220 = .ok (.aload 6, 2) := by decide +kernel
theorem dL_acts_222 : decode cL_acts 222 = .ok (.iload 12, 2) := by decide +kernel
theorem dL_acts_224 : decode cL_acts 224 = .ok (.invokestatic 43, 3) := by decide +kernel
theorem dL_acts_227 : decode cL_acts 227 = .ok (.ifCond .le 36, 3) := by decide +kernel
theorem dL_acts_230 : decode cL_acts 230 = .ok (.aload_n 0, 1) := by decide +kernel
theorem dL_acts_231 : decode cL_acts 231 = .ok (.iload 12, 2) := by decide +kernel
theorem dL_acts_233 : decode cL_acts 233 = .ok (.iconst 0, 1) := by decide +kernel
theorem dL_acts_234 : decode cL_acts 234 = .ok (.iconst 1, 1) := by decide +kernel
theorem dL_acts_235 : decode cL_acts 235 = .ok (.invokestatic 46, 3) := by decide +kernel
theorem dL_acts_238 : decode cL_acts 238 = .ok (.ldc 50, 2) := by decide +kernel
theorem dL_acts_240 : decode cL_acts 240 = .ok (.if_icmp .ne 21, 3) := by decide +kernel
theorem dL_acts_243 : decode cL_acts 243 = .ok (.aload_n 0, 1) := by decide +kernel
theorem dL_acts_244 : decode cL_acts 244 = .ok (.iload 12, 2) := by decide +kernel
theorem dL_acts_246 : decode cL_acts 246 = .ok (.bipush 61, 2) := by decide +kernel
theorem dL_acts_248 : decode cL_acts 248 = .ok (.iconst 1, 1) := by decide +kernel
theorem dL_acts_249 : decode cL_acts 249 = .ok (.invokestatic 46, 3) := by decide +kernel
theorem dL_acts_252 : decode cL_acts 252 = .ok (.ldc 51, 2) := by decide +kernel
theorem dL_acts_254 : decode cL_acts 254 = .ok (.if_icmp .ne 7, 3) := by decide +kernel
theorem dL_acts_257 : decode cL_acts 257 = .ok (.iconst 1, 1) := by decide +kernel
theorem dL_acts_258 : decode cL_acts 258 = .ok (.goto 4, 3) := by decide +kernel
theorem dL_acts_261 : decode cL_acts 261 = .ok (.iconst 0, 1) := by decide +kernel
theorem dL_acts_262 : decode cL_acts 262 = .ok (.ireturn, 1) := by decide +kernel
theorem dL_acts_263 : decode cL_acts 263 = .ok (.aload_n 2, 1) := by decide +kernel
theorem dL_acts_264 : decode cL_acts 264 = .ok (.iload 12, 2) := by decide +kernel
theorem dL_acts_266 : decode cL_acts 266 = .ok (.iaload, 1) := by decide +kernel
theorem dL_acts_267 : decode cL_acts 267 = .ok (.istore 13, 2) := by decide +kernel
theorem dL_acts_269 : decode cL_acts 269 = .ok (.aload_n 2, 1) := by decide +kernel
theorem dL_acts_270 : decode cL_acts 270 = .ok (.iload 12, 2) := by decide +kernel
theorem dL_acts_272 : decode cL_acts 272 = .ok (.iload 10, 2) := by decide +kernel
theorem dL_acts_274 : decode cL_acts 274 = .ok (.bipush 7, 2) := by decide +kernel
theorem dL_acts_276 : decode cL_acts 276 = .ok (.idiv, 1) := by decide +kernel
theorem dL_acts_277 : decode cL_acts 277 = .ok (.iconst 3, 1) := by decide +kernel
theorem dL_acts_278 : decode cL_acts 278 = .ok (.irem, 1) := by decide +kernel
theorem dL_acts_279 : decode cL_acts 279 = .ok (.ifCond .ne 14, 3) := by decide +kernel
theorem dL_acts_282 : decode cL_acts 282 = .ok (.iload 10, 2) := by decide +kernel
theorem dL_acts_284 : decode cL_acts 284 = .ok (.bipush 21, 2) := by decide +kernel
theorem dL_acts_286 : decode cL_acts 286 = .ok (.idiv, 1) := by decide +kernel
theorem dL_acts_287 : decode cL_acts 287 = .ok (.bipush 61, 2) := by decide +kernel
theorem dL_acts_289 : decode cL_acts 289 = .ok (.irem, 1) := by decide +kernel
theorem dL_acts_290 : decode cL_acts 290 = .ok (.goto 4, 3) := by decide +kernel
theorem dL_acts_293 : decode cL_acts 293 = .ok (.iconst 0, 1) := by decide +kernel
theorem dL_acts_294 : decode cL_acts 294 = .ok (.iastore, 1) := by decide +kernel
theorem dL_acts_295 : decode cL_acts 295 = .ok (.aload_n 3, 1) := by decide +kernel
theorem dL_acts_296 : decode cL_acts 296 = .ok (.iload 12, 2) := by decide +kernel
theorem dL_acts_298 : decode cL_acts 298 = .ok (.iconst 1, 1) := by decide +kernel
theorem dL_acts_299 : decode cL_acts 299 = .ok (.iload 10, 2) := by decide +kernel
theorem dL_acts_301 : decode cL_acts 301 = .ok (.bipush 7, 2) := by decide +kernel
theorem dL_acts_303 : decode cL_acts 303 = .ok (.idiv, 1) := by decide +kernel
theorem dL_acts_304 : decode cL_acts 304 = .ok (.iload 10, 2) := by decide +kernel
theorem dL_acts_306 : decode cL_acts 306 = .ok (.iconst 5, 1) := by decide +kernel
theorem dL_acts_307 : decode cL_acts 307 = .ok (.irem, 1) := by decide +kernel
theorem dL_acts_308 : decode cL_acts 308 = .ok (.ifCond .ne 8, 3) := by decide +kernel
theorem dL_acts_311 : decode cL_acts 311 = .ok (.bipush 30, 2) := by decide +kernel
theorem dL_acts_313 : decode cL_acts 313 = .ok (.goto 5, 3) := by decide +kernel
theorem dL_acts_316 : decode cL_acts 316 = .ok (.bipush 6, 2) := by decide +kernel
theorem dL_acts_318 : decode cL_acts 318 = .ok (.irem, 1) := by decide +kernel
theorem dL_acts_319 : decode cL_acts 319 = .ok (.iadd, 1) := by decide +kernel
theorem dL_acts_320 : decode cL_acts 320 = .ok (.iastore, 1) := by decide +kernel
theorem dL_acts_321 : decode cL_acts 321 = .ok (.aload_n 0, 1) := by decide +kernel
theorem dL_acts_322 : decode cL_acts 322 = .ok (.iload 12, 2) := by decide +kernel
theorem dL_acts_324 : decode cL_acts 324 = .ok (.aload_n 2, 1) := by decide +kernel
theorem dL_acts_325 : decode cL_acts 325 = .ok (.iload 12, 2) := by decide +kernel
theorem dL_acts_327 : decode cL_acts 327 = .ok (.iaload, 1) := by decide +kernel
theorem dL_acts_328 : decode cL_acts 328 = .ok (.aload_n 3, 1) := by decide +kernel
theorem dL_acts_329 : decode cL_acts 329 = .ok (.iload 12, 2) := by decide +kernel
theorem dL_acts_331 : decode cL_acts 331 = .ok (.iaload, 1) := by decide +kernel
theorem dL_acts_332 : decode cL_acts 332 = .ok (.invokestatic 46, 3) := by decide +kernel
theorem dL_acts_335 : decode cL_acts 335 = .ok (.iload 13, 2) := by decide +kernel
theorem dL_acts_337 : decode cL_acts 337 = .ok (.if_icmp .ne 7, 3) := by decide +kernel
theorem dL_acts_340 : decode cL_acts 340 = .ok (.iconst 1, 1) := by decide +kernel
theorem dL_acts_341 : decode cL_acts 341 = .ok (.goto 4, 3) := by decide +kernel
theorem dL_acts_344 : decode cL_acts 344 = .ok (.iconst 0, 1) := by decide +kernel
theorem dL_acts_345 : decode cL_acts 345 = .ok (.ireturn, 1) := by decide +kernel
theorem dL_acts_346 : decode cL_acts 346 = .ok (.iload 11, 2) := by decide +kernel
theorem dL_acts_348 : decode cL_acts 348 = .ok (.iconst 3, 1) := by decide +kernel
theorem dL_acts_349 : decode cL_acts 349 = .ok (.if_icmp .ne 112, 3) := by decide +kernel
theorem dL_acts_352 : decode cL_acts 352 = .ok (.aload_n 1, 1) := by decide +kernel
theorem dL_acts_353 : decode cL_acts 353 = .ok (.iconst 1, 1) := by decide +kernel
theorem dL_acts_354 : decode cL_acts 354 = .ok (.iaload, 1) := by decide +kernel
theorem dL_acts_355 : decode cL_acts 355 = .ok (.bipush 8, 2) := by decide +kernel
theorem dL_acts_357 : decode cL_acts 357 = .ok (.if_icmp .ne 31, 3) := by decide +kernel
theorem dL_acts_360 : decode cL_acts 360 = .ok (.aload_n 0, 1) := by decide +kernel
theorem dL_acts_361 : decode cL_acts 361 = .ok (.bipush 10, 2) := by decide +kernel
theorem dL_acts_363 : decode cL_acts 363 = .ok (.invokestatic 52, 3) := by decide +kernel
theorem dL_acts_366 : decode cL_acts 366 = .ok (.ldc 50, 2) := by decide +kernel
theorem dL_acts_368 : decode cL_acts 368 = .ok (.if_icmp .ne 18, 3) := by decide +kernel
theorem dL_acts_371 : decode cL_acts 371 = .ok (.aload_n 0, 1) := by decide +kernel
theorem dL_acts_372 : decode cL_acts 372 = .ok (.bipush 9, 2) := by decide +kernel
theorem dL_acts_374 : decode cL_acts 374 = .ok (.invokestatic 52, 3) := by decide +kernel
theorem dL_acts_377 : decode cL_acts 377 = .ok (.ldc 51, 2) := by decide +kernel
theorem dL_acts_379 : decode cL_acts 379 = .ok (.if_icmp .ne 7, 3) := by decide +kernel
theorem dL_acts_382 : decode cL_acts 382 = .ok (.iconst 1, 1) := by decide +kernel
theorem dL_acts_383 : decode cL_acts 383 = .ok (.goto 4, 3) := by decide +kernel
theorem dL_acts_386 : decode cL_acts 386 = .ok (.iconst 0, 1) := by decide +kernel
theorem dL_acts_387 : decode cL_acts 387 = .ok (.ireturn, 1) := by decide +kernel
theorem dL_acts_388 : decode cL_acts 388 = .ok (.aload 5, 2) := by decide +kernel
theorem dL_acts_390 : decode cL_acts 390 = .ok (.iconst 3, 1) := by decide +kernel
theorem dL_acts_391 : decode cL_acts 391 = .ok (.aload_n 1, 1) := by decide +kernel
theorem dL_acts_392 : decode cL_acts 392 = .ok (.iconst 1, 1) := by decide +kernel
theorem dL_acts_393 : decode cL_acts 393 = .ok (.iaload, 1) := by decide +kernel
theorem dL_acts_394 : decode cL_acts 394 = .ok (.imul, 1) := by decide +kernel
theorem dL_acts_395 : decode cL_acts 395 = .ok (.bipush 10, 2) := by decide +kernel
theorem dL_acts_397 : decode cL_acts 397 = .ok (.iload 10, 2) := by decide +kernel
theorem dL_acts_399 : decode cL_acts 399 = .ok (.bipush 71, 2) := by decide +kernel
theorem dL_acts_401 : decode cL_acts 401 = .ok (.irem, 1) := by decide +kernel
theorem dL_acts_402 : decode cL_acts 402 = .ok (.iadd, 1) := by decide +kernel
theorem dL_acts_403 : decode cL_acts 403 = .ok (.iastore, 1) := by decide +kernel
theorem dL_acts_404 : decode cL_acts 404 = .ok (.aload 5, 2) := by decide +kernel
theorem dL_acts_406 : decode cL_acts 406 = .ok (.iconst 3, 1) := by decide +kernel
theorem dL_acts_407 : decode cL_acts 407 = .ok (.aload_n 1, 1) := by decide +kernel
theorem dL_acts_408 : decode cL_acts 408 = .ok (.iconst 1, 1) := by decide +kernel
theorem dL_acts_409 : decode cL_acts 409 = .ok (.iaload, 1) := by decide +kernel
theorem dL_acts_410 : decode cL_acts 410 = .ok (.imul, 1) := by decide +kernel
theorem dL_acts_411 : decode cL_acts 411 = .ok (.iconst 1, 1) := by decide +kernel
theorem dL_acts_412 : decode cL_acts 412 = .ok (.iadd, 1) := by decide +kernel
theorem dL_acts_413 : decode cL_acts 413 = .ok (.iconst 0, 1) := by decide +kernel
theorem dL_acts_414 : decode cL_acts 414 = .ok (.iastore, 1) := by decide +kernel
theorem dL_acts_415 : decode cL_acts 415 = .ok (.aload 5, 2) := by decide +kernel
theorem dL_acts_417 : decode cL_acts 417 = .ok (.iconst 3, 1) := by decide +kernel
theorem dL_acts_418 : decode cL_acts 418 = .ok (.aload_n 1, 1) := by decide +kernel
theorem dL_acts_419 : decode cL_acts 419 = .ok (.iconst 1, 1) := by decide +kernel
theorem dL_acts_420 : decode cL_acts 420 = .ok (.iaload, 1) := by decide +kernel
theorem dL_acts_421 : decode cL_acts 421 = .ok (.imul, 1) := by decide +kernel
theorem dL_acts_422 : decode cL_acts 422 = .ok (.iconst 2, 1) := by decide +kernel
theorem dL_acts_423 : decode cL_acts 423 = .ok (.iadd, 1) := by decide +kernel
theorem dL_acts_424 : decode cL_acts 424 = .ok (.iconst 0, 1) := by decide +kernel
theorem dL_acts_425 : decode cL_acts 425 = .ok (.iastore, 1) := by decide +kernel
theorem dL_acts_426 : decode cL_acts 426 = .ok (.aload_n 1, 1) := by decide +kernel
theorem dL_acts_427 : decode cL_acts 427 = .ok (.iconst 1, 1) := by decide +kernel
theorem dL_acts_428 : decode cL_acts 428 = .ok (.dup2, 1) := by decide +kernel
theorem dL_acts_429 : decode cL_acts 429 = .ok (.iaload, 1) := by decide +kernel
theorem dL_acts_430 : decode cL_acts 430 = .ok (.iconst 1, 1) := by decide +kernel
theorem dL_acts_431 : decode cL_acts 431 = .ok (.iadd, 1) := by decide +kernel
theorem dL_acts_432 : decode cL_acts 432 = .ok (.iastore, 1) := by decide +kernel
theorem dL_acts_433 : decode cL_acts 433 = .ok (.aload_n 0, 1) := by decide +kernel
theorem dL_acts_434 : decode cL_acts 434 = .ok (.aload 5, 2) := by decide +kernel
theorem dL_acts_436 : decode cL_acts 436 = .ok (.iconst 3, 1) := by decide +kernel
theorem dL_acts_437 : decode cL_acts 437 = .ok (.aload_n 1, 1) := by decide +kernel
theorem dL_acts_438 : decode cL_acts 438 = .ok (.iconst 1, 1) := by decide +kernel
theorem dL_acts_439 : decode cL_acts 439 = .ok (.iaload, 1) := by decide +kernel
theorem dL_acts_440 : decode cL_acts 440 = .ok (.imul, 1) := by decide +kernel
theorem dL_acts_441 : decode cL_acts 441 = .ok (.iconst 3, 1) := by decide +kernel
theorem dL_acts_442 : decode cL_acts 442 = .ok (.isub, 1) := by decide +kernel
theorem dL_acts_443 : decode cL_acts 443 = .ok (.iaload, 1) := by decide +kernel
theorem dL_acts_444 : decode cL_acts 444 = .ok (.invokestatic 52, 3) := by decide +kernel
theorem dL_acts_447 : decode cL_acts 447 = .ok (.aload_n 1, 1) := by decide +kernel
theorem dL_acts_448 : decode cL_acts 448 = .ok (.iconst 1, 1) := by decide +kernel
theorem dL_acts_449 : decode cL_acts 449 = .ok (.iaload, 1) := by decide +kernel
theorem dL_acts_450 : decode cL_acts 450 = .ok (.iconst 1, 1) := by decide +kernel
theorem dL_acts_451 : decode cL_acts 451 = .ok (.isub, 1) := by decide +kernel
theorem dL_acts_452 : decode cL_acts 452 = .ok (.if_icmp .ne 7, 3) := by decide +kernel
theorem dL_acts_455 : decode cL_acts 455 = .ok (.iconst 1, 1) := by decide +kernel
theorem dL_acts_456 : decode cL_acts 456 = .ok (.goto 4, 3) := by decide +kernel
theorem dL_acts_459 : decode cL_acts 459 = .ok (.iconst 0, 1) := by decide +kernel
theorem dL_acts_460 : decode cL_acts 460 = .ok (.ireturn, 1) := by decide +kernel
theorem dL_acts_461 : decode cL_acts 461 = .ok (.iload 11, 2) := by decide +kernel
theorem dL_acts_463 : decode cL_acts 463 = .ok (.iconst 4, 1) := by decide +kernel
theorem dL_acts_464 : decode cL_acts 464 = .ok (.if_icmp .eq 9, 3) := by decide +kernel
theorem dL_acts_467 : decode cL_acts 467 = .ok (.aload_n 1, 1) := by decide +kernel
theorem dL_acts_468 : decode cL_acts 468 = .ok (.iconst 2, 1) := by decide +kernel
theorem dL_acts_469 : decode cL_acts 469 = .ok (.iaload, 1) := by decide +kernel
theorem dL_acts_470 : decode cL_acts 470 = .ok (.ifCond .ne 148, 3) := by decide +kernel
theorem dL_acts_473 : decode cL_acts 473 = .ok (.aload_n 1, 1) := by decide +kernel
theorem dL_acts_474 : decode cL_acts 474 = .ok (.iconst 2, 1) := by decide +kernel
theorem dL_acts_475 : decode cL_acts 475 = .ok (.iaload, 1) := by decide +kernel
theorem dL_acts_476 : decode cL_acts 476 = .ok (.bipush 6, 2) := by decide +kernel
theorem dL_acts_478 : decode cL_acts 478 = .ok (.if_icmp .ne 32, 3) := by decide +kernel
theorem dL_acts_481 : decode cL_acts 481 = .ok (.aload_n 0, 1) := by decide +kernel
theorem dL_acts_482 : decode cL_acts 482 = .ok (.bipush 30, 2) := by decide +kernel
theorem dL_acts_484 : decode cL_acts 484 = .ok (.invokestatic 55, 3) := by decide +kernel
theorem dL_acts_487 : decode cL_acts 487 = .ok (.ldc 50, 2) := by decide +kernel
theorem dL_acts_489 : decode cL_acts 489 = .ok (.if_icmp .ne 19, 3) := by decide +kernel
theorem dL_acts_492 : decode cL_acts 492 = .ok (.aload_n 0, 1) := by decide +kernel
theorem dL_acts_493 : decode cL_acts 493 = .ok (.sipush 601, 3) := by decide +kernel
theorem dL_acts_496 : decode cL_acts 496 = .ok (.invokestatic 55, 3) := by decide +kernel
theorem dL_acts_499 : decode cL_acts 499 = .ok (.ldc 51, 2) := by decide +kernel
theorem dL_acts_501 : decode cL_acts 501 = .ok (.if_icmp .ne 7, 3) := by decide +kernel
theorem dL_acts_504 : decode cL_acts 504 = .ok (.iconst 1, 1) := by decide +kernel
theorem dL_acts_505 : decode cL_acts 505 = .ok (.goto 4, 3) := by decide +kernel
theorem dL_acts_508 : decode cL_acts 508 = .ok (.iconst 0, 1) := by decide +kernel
theorem dL_acts_509 : decode cL_acts 509 = .ok (.ireturn, 1) := by decide +kernel
theorem dL_acts_510 : decode cL_acts 510 = .ok (.bipush 9, 2) := by decide +kernel
theorem dL_acts_512 : decode cL_acts 512 = .ok (.aload_n 1, 1) := by decide +kernel
theorem dL_acts_513 : decode cL_acts 513 = .ok (.iconst 2, 1) := by decide +kernel
theorem dL_acts_514 : decode cL_acts 514 = .ok (.iaload, 1) := by decide +kernel
theorem dL_acts_515 : decode cL_acts 515 = .ok (.imul, 1) := by decide +kernel
theorem dL_acts_516 : decode cL_acts 516 = .ok (.istore 12, 2) := by decide +kernel
theorem dL_acts_518 : decode cL_acts 518 = .ok (.iconst 0, 1) := by decide +kernel
theorem dL_acts_519 : decode cL_acts 519 = .ok (.istore 13, 2) := by decide +kernel
theorem dL_acts_521 : decode cL_acts 521 = .ok (.iload 13, 2) := by decide +kernel
theorem dL_acts_523 : decode cL_acts 523 = .ok (.bipush 9, 2) := by decide +kernel
theorem dL_acts_525 : decode cL_acts 525 = .ok (.if_icmp .ge 63, 3) := by decide +kernel
theorem dL_acts_528 : decode cL_acts 528 = .ok (.aload 6, 2) := by decide +kernel
theorem dL_acts_530 : decode cL_acts 530 = .ok (.iload 12, 2) := by decide +kernel
theorem dL_acts_532 : decode cL_acts 532 = .ok (.iload 13, 2) := by decide +kernel
theorem dL_acts_534 : decode cL_acts 534 = .ok (.iadd, 1) := by decide +kernel
theorem dL_acts_535 : decode cL_acts 535 = .ok (.iload 13, 2) := by decide +kernel
theorem dL_acts_537 : decode cL_acts 537 = .ok (.ifCond .ne 27, 3) := by decide +kernel
theorem dL_acts_540 : decode cL_acts 540 = .ok (.bipush 30, 2) := by decide +kernel
theorem dL_acts_542 : decode cL_acts 542 = .ok (.iload 10, 2) := by decide +kernel
theorem dL_acts_544 : decode cL_acts 544 = .ok (.iload 10, 2) := by decide +kernel
theorem dL_acts_546 : decode cL_acts 546 = .ok (.iconst 2, 1) := by decide +kernel
theorem dL_acts_547 : decode cL_acts 547 = .ok (.irem, 1) := by decide +kernel
theorem dL_acts_548 : decode cL_acts 548 = .ok (.ifCond .ne 9, 3) := by decide +kernel
theorem dL_acts_551 : decode cL_acts 551 = .ok (.sipush 571, 3) := by decide +kernel
theorem dL_acts_554 : decode cL_acts 554 = .ok (.goto 5, 3) := by decide +kernel
theorem dL_acts_557 : decode cL_acts 557 = .ok (.bipush 60, 2) := by decide +kernel
theorem dL_acts_559 : decode cL_acts 559 = .ok (.irem, 1) := by decide +kernel
theorem dL_acts_560 : decode cL_acts 560 = .ok (.iadd, 1) := by decide +kernel
theorem dL_acts_561 : decode cL_acts 561 = .ok (.goto 20, 3) := by decide +kernel
theorem dL_acts_564 : decode cL_acts 564 = .ok (.iload 13, 2) := by decide +kernel
theorem dL_acts_566 : decode cL_acts 566 = .ok (.iconst 3, 1) := by decide +kernel
theorem dL_acts_567 : decode cL_acts 567 = .ok (.if_icmp .eq 9, 3) := by decide +kernel
theorem dL_acts_570 : decode cL_acts 570 = .ok (.iload 13, 2) := by decide +kernel
theorem dL_acts_572 : decode cL_acts 572 = .ok (.iconst 5, 1) := by decide +kernel
theorem dL_acts_573 : decode cL_acts 573 = .ok (.if_icmp .ne 7, 3) := by decide +kernel
theorem dL_acts_576 : decode cL_acts 576 = .ok (.iconst (-1), 1) := by decide +kernel
theorem dL_acts_577 : decode cL_acts 577 = .ok (.goto 4, 3) := by decide +kernel
theorem dL_acts_580 : decode cL_acts 580 = .ok (.iconst 0, 1) := by decide +kernel
theorem dL_acts_581 : decode cL_acts 581 = .ok (.iastore, 1) := by decide +kernel
theorem dL_acts_582 : decode cL_acts 582 = .ok (.iinc 13 1, 3) := by decide +kernel
theorem dL_acts_585 : decode cL_acts 585 = .ok (.goto (-64), 3) := by decide +kernel
theorem dL_acts_588 : decode cL_acts 588 = .ok (.aload_n 1, 1) := by decide +kernel
theorem dL_acts_589 : decode cL_acts 589 = .ok (.iconst 2, 1) := by decide +kernel
theorem dL_acts_590 : decode cL_acts 590 = .ok (.dup2, 1) := by decide +kernel
theorem dL_acts_591 : decode cL_acts 591 = .ok (.iaload, 1) := by decide +kernel
theorem dL_acts_592 : decode cL_acts 592 = .ok (.iconst 1, 1) := by decide +kernel
theorem dL_acts_593 : decode cL_acts 593 = .ok (.iadd, 1) := by decide +kernel
theorem dL_acts_594 : decode cL_acts 594 = .ok (.iastore, 1) := by decide +kernel
theorem dL_acts_595 : decode cL_acts 595 = .ok (.aload_n 0, 1) := by decide +kernel
theorem dL_acts_596 : decode cL_acts 596 = .ok (.aload 6, 2) := by decide +kernel
theorem dL_acts_598 : decode cL_acts 598 = .ok (.iload 12, 2) := by decide +kernel
theorem dL_acts_600 : decode cL_acts 600 = .ok (.iaload, 1) := by decide +kernel
theorem dL_acts_601 : decode cL_acts 601 = .ok (.invokestatic 55, 3) := by decide +kernel
theorem dL_acts_604 : decode cL_acts 604 = .ok (.aload_n 1, 1) := by decide +kernel
theorem dL_acts_605 : decode cL_acts 605 = .ok (.iconst 2, 1) := by decide +kernel
theorem dL_acts_606 : decode cL_acts 606 = .ok (.iaload, 1) := by decide +kernel
theorem dL_acts_607 : decode cL_acts 607 = .ok (.iconst 1, 1) := by decide +kernel
theorem dL_acts_608 : decode cL_acts 608 = .ok (.isub, 1) := by decide +kernel
theorem dL_acts_609 : decode cL_acts 609 = .ok (.if_icmp .ne 7, 3) := by decide +kernel
theorem dL_acts_612 : decode cL_acts 612 = .ok (.iconst 1, 1) := by decide +kernel
theorem dL_acts_613 : decode cL_acts 613 = .ok (.goto 4, 3) := by decide +kernel
theorem dL_acts_616 : decode cL_acts 616 = .ok (.iconst 0, 1) := by decide +kernel
theorem dL_acts_617 : decode cL_acts 617 = .ok (.ireturn, 1) := by decide +kernel
theorem dL_acts_618 : decode cL_acts 618 = .ok (.iload 11, 2) := by decide +kernel
theorem dL_acts_620 : decode cL_acts 620 = .ok (.iconst 5, 1) := by decide +kernel
theorem dL_acts_621 : decode cL_acts 621 = .ok (.if_icmp .ne 62, 3) := by decide +kernel
theorem dL_acts_624 : decode cL_acts 624 = .ok (.aload_n 1, 1) := by decide +kernel
theorem dL_acts_625 : decode cL_acts 625 = .ok (.bipush 10, 2) := by decide +kernel
theorem dL_acts_627 : decode cL_acts 627 = .ok (.iaload, 1) := by decide +kernel
theorem dL_acts_628 : decode cL_acts 628 = .ok (.istore 12, 2) := by decide +kernel
theorem dL_acts_630 : decode cL_acts 630 = .ok (.aload_n 1, 1) := by decide +kernel
theorem dL_acts_631 : decode cL_acts 631 = .ok (.bipush 9, 2) := by decide +kernel
theorem dL_acts_633 : decode cL_acts 633 = .ok (.aload_n 1, 1) := by decide +kernel
theorem dL_acts_634 : decode cL_acts 634 = .ok (.iconst 3, 1) := by decide +kernel
theorem dL_acts_635 : decode cL_acts 635 = .ok (.iaload, 1) := by decide +kernel
theorem dL_acts_636 : decode cL_acts 636 = .ok (.iload 10, 2) := by decide +kernel
theorem dL_acts_638 : decode cL_acts 638 = .ok (.bipush 9, 2) := by decide +kernel
theorem dL_acts_640 : decode cL_acts 640 = .ok (.irem, 1) := by decide +kernel
theorem dL_acts_641 : decode cL_acts 641 = .ok (.iadd, 1) := by decide +kernel
theorem dL_acts_642 : decode cL_acts 642 = .ok (.iastore, 1) := by decide +kernel
theorem dL_acts_643 : decode cL_acts 643 = .ok (.aload_n 1, 1) := by decide +kernel
theorem dL_acts_644 : decode cL_acts 644 = .ok (.bipush 10, 2) := by decide +kernel
theorem dL_acts_646 : decode cL_acts 646 = .ok (.aload_n 1, 1) := by decide +kernel
theorem dL_acts_647 : decode cL_acts 647 = .ok (.bipush 9, 2) := by decide +kernel
theorem dL_acts_649 : decode cL_acts 649 = .ok (.iaload, 1) := by decide +kernel
theorem dL_acts_650 : decode cL_acts 650 = .ok (.iload 10, 2) := by decide +kernel
theorem dL_acts_652 : decode cL_acts 652 = .ok (.bipush 9, 2) := by decide +kernel
theorem dL_acts_654 : decode cL_acts 654 = .ok (.idiv, 1) := by decide +kernel
theorem dL_acts_655 : decode cL_acts 655 = .ok (.bipush 12, 2) := by decide +kernel
theorem dL_acts_657 : decode cL_acts 657 = .ok (.irem, 1) := by decide +kernel
theorem dL_acts_658 : decode cL_acts 658 = .ok (.iadd, 1) := by decide +kernel
theorem dL_acts_659 : decode cL_acts 659 = .ok (.iastore, 1) := by decide +kernel
theorem dL_acts_660 : decode cL_acts 660 = .ok (.aload_n 0, 1) := by decide +kernel
theorem dL_acts_661 : decode cL_acts 661 = .ok (.aload_n 1, 1) := by decide +kernel
theorem dL_acts_662 : decode cL_acts 662 = .ok (.bipush 9, 2) := by decide +kernel
theorem dL_acts_664 : decode cL_acts 664 = .ok (.iaload, 1) := by decide +kernel
theorem dL_acts_665 : decode cL_acts 665 = .ok (.aload_n 1, 1) := by decide +kernel
theorem dL_acts_666 : decode cL_acts 666 = .ok (.bipush 10, 2) := by decide +kernel
theorem dL_acts_668 : decode cL_acts 668 = .ok (.iaload, 1) := by decide +kernel
theorem dL_acts_669 : decode cL_acts 669 = .ok (.invokestatic 58, 3) := by decide +kernel
theorem dL_acts_672 : decode cL_acts 672 = .ok (.iload 12, 2) := by decide +kernel
theorem dL_acts_674 : decode cL_acts 674 = .ok (.if_icmp .ne 7, 3) := by decide +kernel
theorem dL_acts_677 : decode cL_acts 677 = .ok (.iconst 1, 1) := by decide +kernel
theorem dL_acts_678 : decode cL_acts 678 = .ok (.goto 4, 3) := by decide +kernel
theorem dL_acts_681 : decode cL_acts 681 = .ok (.iconst 0, 1) := by decide +kernel
theorem dL_acts_682 : decode cL_acts 682 = .ok (.ireturn, 1) := by decide +kernel
theorem dL_acts_683 : decode cL_acts 683 = .ok (.iload 10, 2) := by decide +kernel
theorem dL_acts_685 : decode cL_acts 685 = .ok (.aload_n 1, 1) := by decide +kernel
theorem dL_acts_686 : decode cL_acts 686 = .ok (.iconst 2, 1) := by decide +kernel
theorem dL_acts_687 : decode cL_acts 687 = .ok (.iaload, 1) := by decide +kernel
theorem dL_acts_688 : decode cL_acts 688 = .ok (.irem, 1) := by decide +kernel
theorem dL_acts_689 : decode cL_acts 689 = .ok (.istore 12, 2) := by decide +kernel
theorem dL_acts_691 : decode cL_acts 691 = .ok (.bipush 9, 2) := by decide +kernel
theorem dL_acts_693 : decode cL_acts 693 = .ok (.iload 12, 2) := by decide +kernel
theorem dL_acts_695 : decode cL_acts 695 = .ok (.imul, 1) := by decide +kernel
theorem dL_acts_696 : decode cL_acts 696 = .ok (.istore 13, 2) := by decide +kernel
theorem dL_acts_698 : decode cL_acts 698 = .ok (.aload 6, 2) := by decide +kernel
theorem dL_acts_700 : decode cL_acts 700 = .ok (.iload 13, 2) := by decide +kernel
theorem dL_acts_702 : decode cL_acts 702 = .ok (.iconst 1, 1) := by decide +kernel
theorem dL_acts_703 : decode cL_acts 703 = .ok (.iadd, 1) := by decide +kernel
theorem dL_acts_704 : decode cL_acts 704 = .ok (.iaload, 1) := by decide +kernel
theorem dL_acts_705 : decode cL_acts 705 = .ok (.istore 14, 2) := by decide +kernel
theorem dL_acts_707 : decode cL_acts 707 = .ok (.iload 11, 2) := by decide +kernel
theorem dL_acts_709 : decode cL_acts 709 = .ok (.bipush 13, 2) := by decide +kernel
theorem dL_acts_711 : decode cL_acts 711 = .ok (.if_icmp .ge 96, 3) := by decide +kernel
theorem dL_acts_714 : decode cL_acts 714 = .ok (.iload 10, 2) := by decide +kernel
theorem dL_acts_716 : decode cL_acts 716 = .ok (.bipush 6, 2) := by decide +kernel
theorem dL_acts_718 : decode cL_acts 718 = .ok (.idiv, 1) := by decide +kernel
theorem dL_acts_719 : decode cL_acts 719 = .ok (.iconst 4, 1) := by decide +kernel
theorem dL_acts_720 : decode cL_acts 720 = .ok (.irem, 1) := by decide +kernel
theorem dL_acts_721 : decode cL_acts 721 = .ok (.ifCond .ne 10, 3) := by decide +kernel
theorem dL_acts_724 : decode cL_acts 724 = .ok (.iload 14, 2) := by decide +kernel
theorem dL_acts_726 : decode cL_acts 726 = .ok (.iconst 1, 1) := by decide +kernel
theorem dL_acts_727 : decode cL_acts 727 = .ok (.isub, 1) := by decide +kernel
theorem dL_acts_728 : decode cL_acts 728 = .ok (.goto 7, 3) := by decide +kernel
theorem dL_acts_731 : decode cL_acts 731 = .ok (.iload 14, 2) := by decide +kernel
theorem dL_acts_733 : decode cL_acts 733 = .ok (.iconst 1, 1) := by decide +kernel
theorem dL_acts_734 : decode cL_acts 734 = .ok (.iadd, 1) := by decide +kernel
theorem dL_acts_735 : decode cL_acts 735 = .ok (.istore 15, 2) := by decide +kernel
theorem dL_acts_737 : decode cL_acts 737 = .ok (.aload_n 1, 1) := by decide +kernel
theorem dL_acts_738 : decode cL_acts 738 = .ok (.aload_n 2, 1) := by decide +kernel
theorem dL_acts_739 : decode cL_acts 739 = .ok (.aload_n 3, 1) := by decide +kernel
theorem dL_acts_740 : decode cL_acts 740 = .ok (.aload 4, 2) := by decide +kernel
theorem dL_acts_742 : decode cL_acts 742 = .ok (.aload 6, 2) := by decide +kernel
theorem dL_acts_744 : decode cL_acts 744 = .ok (.iload 12, 2) := by decide +kernel
theorem dL_acts_746 : decode cL_acts 746 = .ok (.iload 15, 2) := by decide +kernel
theorem dL_acts_748 : decode cL_acts 748 = .ok (.invokestatic 22, 3) := by decide +kernel
theorem dL_acts_751 : decode cL_acts 751 = .ok (.ifCond .le 22, 3) := by decide +kernel
theorem dL_acts_754 : decode cL_acts 754 = .ok (.aload_n 0, 1) := by decide +kernel
theorem dL_acts_755 : decode cL_acts 755 = .ok (.iload 12, 2) := by decide +kernel
theorem dL_acts_757 : decode cL_acts 757 = .ok (.iload 15, 2) := by decide +kernel
theorem dL_acts_759 : decode cL_acts 759 = .ok (.invokestatic 62, 3) := by decide +kernel
theorem dL_acts_762 : decode cL_acts 762 = .ok (.ldc 50, 2) := by decide +kernel
theorem dL_acts_764 : decode cL_acts 764 = .ok (.if_icmp .ne 7, 3) := by decide +kernel
theorem dL_acts_767 : decode cL_acts 767 = .ok (.iconst 1, 1) := by decide +kernel
theorem dL_acts_768 : decode cL_acts 768 = .ok (.goto 4, 3) := by decide +kernel
theorem dL_acts_771 : decode cL_acts 771 = .ok (.iconst 0, 1) := by decide +kernel
theorem dL_acts_772 : decode cL_acts 772 = .ok (.ireturn, 1) := by decide +kernel
theorem dL_acts_773 : decode cL_acts 773 = .ok (.aload_n 3, 1) := by decide +kernel
theorem dL_acts_774 : decode cL_acts 774 = .ok (.aload 6, 2) := by decide +kernel
theorem dL_acts_776 : decode cL_acts 776 = .ok (.iload 12, 2) := by decide +kernel
theorem dL_acts_778 : decode cL_acts 778 = .ok (.iload 15, 2) := by decide +kernel
theorem dL_acts_780 : decode cL_acts 780 = .ok (.invokestatic 26, 3) := by decide +kernel
theorem dL_acts_783 : decode cL_acts 783 = .ok (.aload_n 0, 1) := by decide +kernel
theorem dL_acts_784 : decode cL_acts 784 = .ok (.iload 12, 2) := by decide +kernel
theorem dL_acts_786 : decode cL_acts 786 = .ok (.iload 15, 2) := by decide +kernel
theorem dL_acts_788 : decode cL_acts 788 = .ok (.invokestatic 62, 3) := by decide +kernel
theorem dL_acts_791 : decode cL_acts 791 = .ok (.aload 6, 2) := by decide +kernel
theorem dL_acts_793 : decode cL_acts 793 = .ok (.iload 13, 2) := by decide +kernel
theorem dL_acts_795 : decode cL_acts 795 = .ok (.iconst 4, 1) := by decide +kernel
theorem dL_acts_796 : decode cL_acts 796 = .ok (.iadd, 1) := by decide +kernel
theorem dL_acts_797 : decode cL_acts 797 = .ok (.iaload, 1) := by decide +kernel
theorem dL_acts_798 : decode cL_acts 798 = .ok (.if_icmp .ne 7, 3) := by decide +kernel
theorem dL_acts_801 : decode cL_acts 801 = .ok (.iconst 1, 1) := by decide +kernel
theorem dL_acts_802 : decode cL_acts 802 = .ok (.goto 4, 3) := by decide +kernel
theorem dL_acts_805 : decode cL_acts 805 = .ok (.iconst 0, 1) := by decide +kernel
theorem dL_acts_806 : decode cL_acts 806 = .ok (.ireturn, 1) := by decide +kernel
theorem dL_acts_807 : decode cL_acts 807 = .ok (.iload 11, 2) := by decide +kernel
theorem dL_acts_809 : decode cL_acts 809 = .ok (.bipush 15, 2) := by decide +kernel
theorem dL_acts_811 : decode cL_acts 811 = .ok (.if_icmp .ge 157, 3) := by decide +kernel
theorem dL_acts_814 : decode cL_acts 814 = .ok (.aload_n 1, 1) := by decide +kernel
theorem dL_acts_815 : decode cL_acts 815 = .ok (.iconst 1, 1) := by decide +kernel
theorem dL_acts_816 : decode cL_acts 816 = .ok (.iaload, 1) := by decide +kernel
theorem dL_acts_817 : decode cL_acts 817 = .ok (.ifCond .ne 21, 3) := by decide +kernel
theorem dL_acts_820 : decode cL_acts 820 = .ok (.aload_n 0, 1) := by decide +kernel
theorem dL_acts_821 : decode cL_acts 821 = .ok (.iload 12, 2) := by decide +kernel
theorem dL_acts_823 : decode cL_acts 823 = .ok (.iconst 0, 1) := by decide +kernel
theorem dL_acts_824 : decode cL_acts 824 = .ok (.invokestatic 65, 3) := by decide +kernel
theorem dL_acts_827 : decode cL_acts 827 = .ok (.ldc 68, 2) := by decide +kernel
theorem dL_acts_829 : decode cL_acts 829 = .ok (.if_icmp .ne 7, 3) := by decide +kernel
theorem dL_acts_832 : decode cL_acts 832 = .ok (.iconst 1, 1) := by decide +kernel
theorem dL_acts_833 : decode cL_acts 833 = .ok (.goto 4, 3) := by decide +kernel
theorem dL_acts_836 : decode cL_acts 836 = .ok (.iconst 0, 1) := by decide +kernel
theorem dL_acts_837 : decode cL_acts 837 = .ok (.ireturn, 1) := by decide +kernel
theorem dL_acts_838 : decode cL_acts 838 = .ok (.iload 10, 2) := by decide +kernel
theorem dL_acts_840 : decode cL_acts 840 = .ok (.bipush 6, 2) := by decide +kernel
theorem dL_acts_842 : decode cL_acts 842 = .ok (.idiv, 1) := by decide +kernel
theorem dL_acts_843 : decode cL_acts 843 = .ok (.aload_n 1, 1) := by decide +kernel
theorem dL_acts_844 : decode cL_acts 844 = .ok (.iconst 1, 1) := by decide +kernel
theorem dL_acts_845 : decode cL_acts 845 = .ok (.iaload, 1) := by decide +kernel
theorem dL_acts_846 : decode cL_acts 846 = .ok (.irem, 1) := by decide +kernel
theorem dL_acts_847 : decode cL_acts 847 = .ok (.istore 15, 2) := by decide +kernel
theorem dL_acts_849 : decode cL_acts 849 = .ok (.aload 6, 2) := by decide +kernel
theorem dL_acts_851 : decode cL_acts 851 = .ok (.iload 13, 2) := by decide +kernel
theorem dL_acts_853 : decode cL_acts 853 = .ok (.iconst 2, 1) := by decide +kernel
theorem dL_acts_854 : decode cL_acts 854 = .ok (.iadd, 1) := by decide +kernel
theorem dL_acts_855 : decode cL_acts 855 = .ok (.iaload, 1) := by decide +kernel
theorem dL_acts_856 : decode cL_acts 856 = .ok (.ifCond .gt 39, 3) := by decide +kernel
theorem dL_acts_859 : decode cL_acts 859 = .ok (.aload 6, 2) := by decide +kernel
theorem dL_acts_861 : decode cL_acts 861 = .ok (.iload 13, 2) := by decide +kernel
theorem dL_acts_863 : decode cL_acts 863 = .ok (.iconst 5, 1) := by decide +kernel
theorem dL_acts_864 : decode cL_acts 864 = .ok (.iadd, 1) := by decide +kernel
theorem dL_acts_865 : decode cL_acts 865 = .ok (.iaload, 1) := by decide +kernel
theorem dL_acts_866 : decode cL_acts 866 = .ok (.ifCond .ge 29, 3) := by decide +kernel
theorem dL_acts_869 : decode cL_acts 869 = .ok (.aload 5, 2) := by decide +kernel
theorem dL_acts_871 : decode cL_acts 871 = .ok (.iconst 3, 1) := by decide +kernel
theorem dL_acts_872 : decode cL_acts 872 = .ok (.iload 15, 2) := by decide +kernel
theorem dL_acts_874 : decode cL_acts 874 = .ok (.imul, 1) := by decide +kernel
theorem dL_acts_875 : decode cL_acts 875 = .ok (.iconst 1, 1) := by decide +kernel
theorem dL_acts_876 : decode cL_acts 876 = .ok (.iadd, 1) := by decide +kernel
theorem dL_acts_877 : decode cL_acts 877 = .ok (.iaload, 1) := by decide +kernel
theorem dL_acts_878 : decode cL_acts 878 = .ok (.ifCond .gt 17, 3) := by decide +kernel
theorem dL_acts_881 : decode cL_acts 881 = .ok (.aload 5, 2) := by decide +kernel
theorem dL_acts_883 : decode cL_acts 883 = .ok (.iconst 3, 1) := by decide +kernel
theorem dL_acts_884 : decode cL_acts 884 = .ok (.iload 15, 2) := by decide +kernel
theorem dL_acts_886 : decode cL_acts 886 = .ok (.imul, 1) := by decide +kernel
theorem dL_acts_887 : decode cL_acts 887 = .ok (.iconst 2, 1) := by decide +kernel
theorem dL_acts_888 : decode cL_acts 888 = .ok (.iadd, 1) := by decide +kernel
theorem dL_acts_889 : decode cL_acts 889 = .ok (.iaload, 1) := by decide +kernel
theorem dL_acts_890 : decode cL_acts 890 = .ok (.iload 14, 2) := by decide +kernel
theorem dL_acts_892 : decode cL_acts 892 = .ok (.if_icmp .eq 22, 3) := by decide +kernel
theorem dL_acts_895 : decode cL_acts 895 = .ok (.aload_n 0, 1) := by decide +kernel
theorem dL_acts_896 : decode cL_acts 896 = .ok (.iload 12, 2) := by decide +kernel
theorem dL_acts_898 : decode cL_acts 898 = .ok (.iload 15, 2) := by decide +kernel
theorem dL_acts_900 : decode cL_acts 900 = .ok (.invokestatic 65, 3) := by decide +kernel
theorem dL_acts_903 : decode cL_acts 903 = .ok (.ldc 50, 2) := by decide +kernel
theorem dL_acts_905 : decode cL_acts 905 = .ok (.if_icmp .ne 7, 3) := by decide +kernel
theorem dL_acts_908 : decode cL_acts 908 = .ok (.iconst 1, 1) := by decide +kernel
theorem dL_acts_909 : decode cL_acts 909 = .ok (.goto 4, 3) := by decide +kernel
theorem dL_acts_912 : decode cL_acts 912 = .ok (.iconst 0, 1) := by decide +kernel
theorem dL_acts_913 : decode cL_acts 913 = .ok (.ireturn, 1) := by decide +kernel
theorem dL_acts_914 : decode cL_acts 914 = .ok (.aload 6, 2) := by decide +kernel
theorem dL_acts_916 : decode cL_acts 916 = .ok (.iload 13, 2) := by decide +kernel
theorem dL_acts_918 : decode cL_acts 918 = .ok (.iconst 5, 1) := by decide +kernel
theorem dL_acts_919 : decode cL_acts 919 = .ok (.iadd, 1) := by decide +kernel
theorem dL_acts_920 : decode cL_acts 920 = .ok (.iload 15, 2) := by decide +kernel
theorem dL_acts_922 : decode cL_acts 922 = .ok (.iastore, 1) := by decide +kernel
theorem dL_acts_923 : decode cL_acts 923 = .ok (.aload 5, 2) := by decide +kernel
theorem dL_acts_925 : decode cL_acts 925 = .ok (.iconst 3, 1) := by decide +kernel
theorem dL_acts_926 : decode cL_acts 926 = .ok (.iload 15, 2) := by decide +kernel
theorem dL_acts_928 : decode cL_acts 928 = .ok (.imul, 1) := by decide +kernel
theorem dL_acts_929 : decode cL_acts 929 = .ok (.iconst 1, 1) := by decide +kernel
theorem dL_acts_930 : decode cL_acts 930 = .ok (.iadd, 1) := by decide +kernel
theorem dL_acts_931 : decode cL_acts 931 = .ok (.iconst 1, 1) := by decide +kernel
theorem dL_acts_932 : decode cL_acts 932 = .ok (.iastore, 1) := by decide +kernel
theorem dL_acts_933 : decode cL_acts 933 = .ok (.aload 5, 2) := by decide +kernel
theorem dL_acts_935 : decode cL_acts 935 = .ok (.iconst 3, 1) := by decide +kernel
theorem dL_acts_936 : decode cL_acts 936 = .ok (.iload 15, 2) := by decide +kernel
theorem dL_acts_938 : decode cL_acts 938 = .ok (.imul, 1) := by decide +kernel
theorem dL_acts_939 : decode cL_acts 939 = .ok (.iconst 2, 1) := by decide +kernel
theorem dL_acts_940 : decode cL_acts 940 = .ok (.iadd, 1) := by decide +kernel
theorem dL_acts_941 : decode cL_acts 941 = .ok (.iload 12, 2) := by decide +kernel
theorem dL_acts_943 : decode cL_acts 943 = .ok (.iastore, 1) := by decide +kernel
theorem dL_acts_944 : decode cL_acts 944 = .ok (.aload_n 0, 1) := by decide +kernel
theorem dL_acts_945 : decode cL_acts 945 = .ok (.iload 12, 2) := by decide +kernel
theorem dL_acts_947 : decode cL_acts 947 = .ok (.iload 15, 2) := by decide +kernel
theorem dL_acts_949 : decode cL_acts 949 = .ok (.invokestatic 65, 3) := by decide +kernel
theorem dL_acts_952 : decode cL_acts 952 = .ok (.aload 5, 2) := by decide +kernel
theorem dL_acts_954 : decode cL_acts 954 = .ok (.iconst 3, 1) := by decide +kernel
theorem dL_acts_955 : decode cL_acts 955 = .ok (.iload 15, 2) := by decide +kernel
theorem dL_acts_957 : decode cL_acts 957 = .ok (.imul, 1) := by decide +kernel
theorem dL_acts_958 : decode cL_acts 958 = .ok (.iaload, 1) := by decide +kernel
theorem dL_acts_959 : decode cL_acts 959 = .ok (.if_icmp .ne 7, 3) := by decide +kernel
theorem dL_acts_962 : decode cL_acts 962 = .ok (.iconst 1, 1) := by decide +kernel
theorem dL_acts_963 : decode cL_acts 963 = .ok (.goto 4, 3) := by decide +kernel
theorem dL_acts_966 : decode cL_acts 966 = .ok (.iconst 0, 1) := by decide +kernel
theorem dL_acts_967 : decode cL_acts 967 = .ok (.ireturn, 1) := by decide +kernel
theorem dL_acts_968 : decode cL_acts 968 = .ok (.iload 11, 2) := by decide +kernel
theorem dL_acts_970 : decode cL_acts 970 = .ok (.bipush 15, 2) := by decide +kernel
theorem dL_acts_972 : decode cL_acts 972 = .ok (.if_icmp .ne 90, 3) := by decide +kernel
theorem dL_acts_975 : decode cL_acts 975 = .ok (.aload 6, 2) := by decide +kernel
theorem dL_acts_977 : decode cL_acts 977 = .ok (.iload 13, 2) := by decide +kernel
theorem dL_acts_979 : decode cL_acts 979 = .ok (.iconst 5, 1) := by decide +kernel
theorem dL_acts_980 : decode cL_acts 980 = .ok (.iadd, 1) := by decide +kernel
theorem dL_acts_981 : decode cL_acts 981 = .ok (.iaload, 1) := by decide +kernel
theorem dL_acts_982 : decode cL_acts 982 = .ok (.istore 15, 2) := by decide +kernel
theorem dL_acts_984 : decode cL_acts 984 = .ok (.aload 6, 2) := by decide +kernel
theorem dL_acts_986 : decode cL_acts 986 = .ok (.iload 13, 2) := by decide +kernel
theorem dL_acts_988 : decode cL_acts 988 = .ok (.iconst 2, 1) := by decide +kernel
theorem dL_acts_989 : decode cL_acts 989 = .ok (.iadd, 1) := by decide +kernel
theorem dL_acts_990 : decode cL_acts 990 = .ok (.iaload, 1) := by decide +kernel
theorem dL_acts_991 : decode cL_acts 991 = .ok (.ifCond .gt 8, 3) := by decide +kernel
theorem dL_acts_994 : decode cL_acts 994 = .ok (.iload 15, 2) := by decide +kernel
theorem dL_acts_996 : decode cL_acts 996 = .ok (.ifCond .ge 20, 3) := by decide +kernel
theorem dL_acts_999 : decode cL_acts 999 = .ok (.aload_n 0, 1) := by decide +kernel
theorem dL_acts_1000 : decode cL_acts 1000 = .ok (.iload 12, 2) := by decide +kernel
theorem dL_acts_1002 : decode cL_acts 1002 = .ok (.invokestatic 69, 3) := by decide +kernel
theorem dL_acts_1005 : decode cL_acts 1005 = .ok (.ldc 50, 2) := by decide +kernel
theorem dL_acts_1007 : decode cL_acts 1007 = .ok (.if_icmp .ne 7, 3) := by decide +kernel
theorem dL_acts_1010 : decode cL_acts 1010 = .ok (.iconst 1, 1) := by decide +kernel
theorem dL_acts_1011 : decode cL_acts 1011 = .ok (.goto 4, 3) := by decide +kernel
theorem dL_acts_1014 : decode cL_acts 1014 = .ok (.iconst 0, 1) := by decide +kernel
theorem dL_acts_1015 : decode cL_acts 1015 = .ok (.ireturn, 1) := by decide +kernel
theorem dL_acts_1016 : decode cL_acts 1016 = .ok (.aload 6, 2) := by decide +kernel
theorem dL_acts_1018 : decode cL_acts 1018 = .ok (.iload 13, 2) := by decide +kernel
theorem dL_acts_1020 : decode cL_acts 1020 = .ok (.iconst 5, 1) := by decide +kernel
theorem dL_acts_1021 : decode cL_acts 1021 = .ok (.iadd, 1) := by decide +kernel
theorem dL_acts_1022 : decode cL_acts 1022 = .ok (.iconst (-1), 1) := by decide +kernel
theorem dL_acts_1023 : decode cL_acts 1023 = .ok (.iastore, 1) := by decide +kernel
theorem dL_acts_1024 : decode cL_acts 1024 = .ok (.aload 5, 2) := by decide +kernel
theorem dL_acts_1026 : decode cL_acts 1026 = .ok (.iconst 3, 1) := by decide +kernel
theorem dL_acts_1027 : decode cL_acts 1027 = .ok (.iload 15, 2) := by decide +kernel
theorem dL_acts_1029 : decode cL_acts 1029 = .ok (.imul, 1) := by decide +kernel
theorem dL_acts_1030 : decode cL_acts 1030 = .ok (.iconst 1, 1) := by decide +kernel
theorem dL_acts_1031 : decode cL_acts 1031 = .ok (.iadd, 1) := by decide +kernel
theorem dL_acts_1032 : decode cL_acts 1032 = .ok (.iconst 0, 1) := by decide +kernel
theorem dL_acts_1033 : decode cL_acts 1033 = .ok (.iastore, 1) := by decide +kernel
theorem dL_acts_1034 : decode cL_acts 1034 = .ok (.aload 5, 2) := by decide +kernel
theorem dL_acts_1036 : decode cL_acts 1036 = .ok (.iconst 3, 1) := by decide +kernel
theorem dL_acts_1037 : decode cL_acts 1037 = .ok (.iload 15, 2) := by decide +kernel
theorem dL_acts_1039 : decode cL_acts 1039 = .ok (.imul, 1) := by decide +kernel
theorem dL_acts_1040 : decode cL_acts 1040 = .ok (.iconst 2, 1) := by decide +kernel
theorem dL_acts_1041 : decode cL_acts 1041 = .ok (.iadd, 1) := by decide +kernel
theorem dL_acts_1042 : decode cL_acts 1042 = .ok (.iload 14, 2) := by decide +kernel
theorem dL_acts_1044 : decode cL_acts 1044 = .ok (.iastore, 1) := by decide +kernel
theorem dL_acts_1045 : decode cL_acts 1045 = .ok (.aload_n 0, 1) := by decide +kernel
theorem dL_acts_1046 : decode cL_acts 1046 = .ok (.iload 12, 2) := by decide +kernel
theorem dL_acts_1048 : decode cL_acts 1048 = .ok (.invokestatic 69, 3) := by decide +kernel
theorem dL_acts_1051 : decode cL_acts 1051 = .ok (.iload 15, 2) := by decide +kernel
theorem dL_acts_1053 : decode cL_acts 1053 = .ok (.if_icmp .ne 7, 3) := by decide +kernel
theorem dL_acts_1056 : decode cL_acts 1056 = .ok (.iconst 1, 1) := by decide +kernel
theorem dL_acts_1057 : decode cL_acts 1057 = .ok (.goto 4, 3) := by decide +kernel
theorem dL_acts_1060 : decode cL_acts 1060 = .ok (.iconst 0, 1) := by decide +kernel
theorem dL_acts_1061 : decode cL_acts 1061 = .ok (.ireturn, 1) := by decide +kernel
theorem dL_acts_1062 : decode cL_acts 1062 = .ok (.iload 11, 2) := by decide +kernel
theorem dL_acts_1064 : decode cL_acts 1064 = .ok (.bipush 18, 2) := by decide +kernel
theorem dL_acts_1066 : decode cL_acts 1066 = .ok (.if_icmp .ge 168, 3) := by decide +kernel
theorem dL_acts_1069 : decode cL_acts 1069 = .ok (.aload 6, 2) := by decide +kernel
theorem dL_acts_1071 : decode cL_acts 1071 = .ok (.iload 13, 2) := by decide +kernel
theorem dL_acts_1073 : decode cL_acts 1073 = .ok (.iconst 2, 1) := by decide +kernel
theorem dL_acts_1074 : decode cL_acts 1074 = .ok (.iadd, 1) := by decide +kernel
theorem dL_acts_1075 : decode cL_acts 1075 = .ok (.iaload, 1) := by decide +kernel
theorem dL_acts_1076 : decode cL_acts 1076 = .ok (.ifCond .ne 99, 3) := by decide +kernel
theorem dL_acts_1079 : decode cL_acts 1079 = .ok (.aload 6, 2) := by decide +kernel
theorem dL_acts_1081 : decode cL_acts 1081 = .ok (.iload 13, 2) := by decide +kernel
theorem dL_acts_1083 : decode cL_acts 1083 = .ok (.iconst 5, 1) := by decide +kernel
theorem dL_acts_1084 : decode cL_acts 1084 = .ok (.iadd, 1) := by decide +kernel
theorem dL_acts_1085 : decode cL_acts 1085 = .ok (.iaload, 1) := by decide +kernel
theorem dL_acts_1086 : decode cL_acts 1086 = .ok (.ifCond .lt 89, 3) := by decide +kernel
theorem dL_acts_1089 : decode cL_acts 1089 = .ok (.iload 14, 2) := by decide +kernel
theorem dL_acts_1091 : decode cL_acts 1091 = .ok (.aload_n 1, 1) := by decide +kernel
theorem dL_acts_1092 : decode cL_acts 1092 = .ok (.iconst 0, 1) := by decide +kernel
theorem dL_acts_1093 : decode cL_acts 1093 = .ok (.iaload, 1) := by decide +kernel
theorem dL_acts_1094 : decode cL_acts 1094 = .ok (.if_icmp .ge 81, 3) := by decide +kernel
theorem dL_acts_1097 : decode cL_acts 1097 = .ok (.aload_n 2, 1) := by decide +kernel
theorem dL_acts_1098 : decode cL_acts 1098 = .ok (.iload 14, 2) := by decide +kernel
theorem dL_acts_1100 : decode cL_acts 1100 = .ok (.bipush 7, 2) := by decide +kernel
theorem dL_acts_1102 : decode cL_acts 1102 = .ok (.if_icmp .ge 8, 3) := by decide +kernel
theorem dL_acts_1105 : decode cL_acts 1105 = .ok (.iload 14, 2) := by decide +kernel
theorem dL_acts_1107 : decode cL_acts 1107 = .ok (.goto 5, 3) := by decide +kernel
theorem dL_acts_1110 : decode cL_acts 1110 = .ok (.bipush 6, 2) := by decide +kernel
theorem dL_acts_1112 : decode cL_acts 1112 = .ok (.iaload, 1) := by decide +kernel
theorem dL_acts_1113 : decode cL_acts 1113 = .ok (.ifCond .le 62, 3) := by decide +kernel
theorem dL_acts_1116 : decode cL_acts 1116 = .ok (.aload 4, 2) := by decide +kernel
theorem dL_acts_1118 : decode cL_acts 1118 = .ok (.iload 14, 2) := by decide +kernel
theorem dL_acts_1120 : decode cL_acts 1120 = .ok (.iaload, 1) := by decide +kernel
theorem dL_acts_1121 : decode cL_acts 1121 = .ok (.ifCond .ge 54, 3) := by decide +kernel
theorem dL_acts_1124 : decode cL_acts 1124 = .ok (.aload_n 1, 1) := by decide +kernel
theorem dL_acts_1125 : decode cL_acts 1125 = .ok (.aload 6, 2) := by decide +kernel
theorem dL_acts_1127 : decode cL_acts 1127 = .ok (.iload 14, 2) := by decide +kernel
theorem dL_acts_1129 : decode cL_acts 1129 = .ok (.invokestatic 39, 3) := by decide +kernel
theorem dL_acts_1132 : decode cL_acts 1132 = .ok (.ifCond .ge 43, 3) := by decide +kernel
theorem dL_acts_1135 : decode cL_acts 1135 = .ok (.aload 5, 2) := by decide +kernel
theorem dL_acts_1137 : decode cL_acts 1137 = .ok (.iconst 3, 1) := by decide +kernel
theorem dL_acts_1138 : decode cL_acts 1138 = .ok (.aload 6, 2) := by decide +kernel
theorem dL_acts_1140 : decode cL_acts 1140 = .ok (.iload 13, 2) := by decide +kernel
theorem dL_acts_1142 : decode cL_acts 1142 = .ok (.iconst 5, 1) := by decide +kernel
theorem dL_acts_1143 : decode cL_acts 1143 = .ok (.iadd, 1) := by decide +kernel
theorem dL_acts_1144 : decode cL_acts 1144 = .ok (.iaload, 1) := by decide +kernel
theorem dL_acts_1145 : decode cL_acts 1145 = .ok (.imul, 1) := by decide +kernel
theorem dL_acts_1146 : decode cL_acts 1146 = .ok (.iaload, 1) := by decide +kernel
theorem dL_acts_1147 : decode cL_acts 1147 = .ok (.aload_n 2, 1) := by decide +kernel
theorem dL_acts_1148 : decode cL_acts 1148 = .ok (.iload 14, 2) := by decide +kernel
theorem dL_acts_1150 : decode cL_acts 1150 = .ok (.iaload, 1) := by decide +kernel
theorem dL_acts_1151 : decode cL_acts 1151 = .ok (.iconst 3, 1) := by decide +kernel
theorem dL_acts_1152 : decode cL_acts 1152 = .ok (.iadd, 1) := by decide +kernel
theorem dL_acts_1153 : decode cL_acts 1153 = .ok (.if_icmp .lt 22, 3) := by decide +kernel
theorem dL_acts_1156 : decode cL_acts 1156 = .ok (.aload_n 3, 1) := by decide +kernel
theorem dL_acts_1157 : decode cL_acts 1157 = .ok (.aload 6, 2) := by decide +kernel
theorem dL_acts_1159 : decode cL_acts 1159 = .ok (.iload 12, 2) := by decide +kernel
theorem dL_acts_1161 : decode cL_acts 1161 = .ok (.iload 14, 2) := by decide +kernel
theorem dL_acts_1163 : decode cL_acts 1163 = .ok (.bipush 10, 2) := by decide +kernel
theorem dL_acts_1165 : decode cL_acts 1165 = .ok (.invokestatic 18, 3) := by decide +kernel
theorem dL_acts_1168 : decode cL_acts 1168 = .ok (.ifCond .eq 7, 3) := by decide +kernel
theorem dL_acts_1171 : decode cL_acts 1171 = .ok (.iconst 1, 1) := by decide +kernel
theorem dL_acts_1172 : decode cL_acts 1172 = .ok (.goto 4, 3) := by decide +kernel
theorem dL_acts_1175 : decode cL_acts 1175 = .ok (.iconst 0, 1) := by decide +kernel
theorem dL_acts_1176 : decode cL_acts 1176 = .ok (.istore 15, 2) := by decide +kernel
theorem dL_acts_1178 : decode cL_acts 1178 = .ok (.iload 15, 2) := by decide +kernel
theorem dL_acts_1180 : decode cL_acts 1180 = .ok (.ifCond .ne 20, 3) := by decide +kernel
theorem dL_acts_1183 : decode cL_acts 1183 = .ok (.aload_n 0, 1) := by decide +kernel
theorem dL_acts_1184 : decode cL_acts 1184 = .ok (.iload 12, 2) := by decide +kernel
theorem dL_acts_1186 : decode cL_acts 1186 = .ok (.invokestatic 72, 3) := by decide +kernel
theorem dL_acts_1189 : decode cL_acts 1189 = .ok (.ldc 50, 2) := by decide +kernel
theorem dL_acts_1191 : decode cL_acts 1191 = .ok (.if_icmp .ne 7, 3) := by decide +kernel
theorem dL_acts_1194 : decode cL_acts 1194 = .ok (.iconst 1, 1) := by decide +kernel
theorem dL_acts_1195 : decode cL_acts 1195 = .ok (.goto 4, 3) := by decide +kernel
theorem dL_acts_1198 : decode cL_acts 1198 = .ok (.iconst 0, 1) := by decide +kernel
theorem dL_acts_1199 : decode cL_acts 1199 = .ok (.ireturn, 1) := by decide +kernel
theorem dL_acts_1200 : decode cL_acts 1200 = .ok (.aload 6, 2) := by decide +kernel
theorem dL_acts_1202 : decode cL_acts 1202 = .ok (.iload 13, 2) := by decide +kernel
theorem dL_acts_1204 : decode cL_acts 1204 = .ok (.iconst 2, 1) := by decide +kernel
theorem dL_acts_1205 : decode cL_acts 1205 = .ok (.iadd, 1) := by decide +kernel
theorem dL_acts_1206 : decode cL_acts 1206 = .ok (.iconst 2, 1) := by decide +kernel
theorem dL_acts_1207 : decode cL_acts 1207 = .ok (.iastore, 1) := by decide +kernel
theorem dL_acts_1208 : decode cL_acts 1208 = .ok (.aload 6, 2) := by decide +kernel
theorem dL_acts_1210 : decode cL_acts 1210 = .ok (.iload 13, 2) := by decide +kernel
theorem dL_acts_1212 : decode cL_acts 1212 = .ok (.iconst 4, 1) := by decide +kernel
theorem dL_acts_1213 : decode cL_acts 1213 = .ok (.iadd, 1) := by decide +kernel
theorem dL_acts_1214 : decode cL_acts 1214 = .ok (.bipush 10, 2) := by decide +kernel
theorem dL_acts_1216 : decode cL_acts 1216 = .ok (.iastore, 1) := by decide +kernel
theorem dL_acts_1217 : decode cL_acts 1217 = .ok (.aload_n 0, 1) := by decide +kernel
theorem dL_acts_1218 : decode cL_acts 1218 = .ok (.iload 12, 2) := by decide +kernel
theorem dL_acts_1220 : decode cL_acts 1220 = .ok (.invokestatic 72, 3) := by decide +kernel
theorem dL_acts_1223 : decode cL_acts 1223 = .ok (.iload 14, 2) := by decide +kernel
theorem dL_acts_1225 : decode cL_acts 1225 = .ok (.if_icmp .ne 7, 3) := by decide +kernel
theorem dL_acts_1228 : decode cL_acts 1228 = .ok (.iconst 1, 1) := by decide +kernel
theorem dL_acts_1229 : decode cL_acts 1229 = .ok (.goto 4, 3) := by decide +kernel
theorem dL_acts_1232 : decode cL_acts 1232 = .ok (.iconst 0, 1) := by decide +kernel
theorem dL_acts_1233 : decode cL_acts 1233 = .ok (.ireturn, 1) := by decide +kernel
theorem dL_acts_1234 : decode cL_acts 1234 = .ok (.iload 11, 2) := by decide +kernel
theorem dL_acts_1236 : decode cL_acts 1236 = .ok (.bipush 18, 2) := by decide +kernel
theorem dL_acts_1238 : decode cL_acts 1238 = .ok (.if_icmp .ne 127, 3) := by decide +kernel
theorem dL_acts_1241 : decode cL_acts 1241 = .ok (.aload 6, 2) := by decide +kernel
theorem dL_acts_1243 : decode cL_acts 1243 = .ok (.iload 13, 2) := by decide +kernel
theorem dL_acts_1245 : decode cL_acts 1245 = .ok (.iconst 2, 1) := by decide +kernel
theorem dL_acts_1246 : decode cL_acts 1246 = .ok (.iadd, 1) := by decide +kernel
theorem dL_acts_1247 : decode cL_acts 1247 = .ok (.iaload, 1) := by decide +kernel
theorem dL_acts_1248 : decode cL_acts 1248 = .ok (.ifCond .gt 40, 3) := by decide +kernel
theorem dL_acts_1251 : decode cL_acts 1251 = .ok (.aload 6, 2) := by decide +kernel
theorem dL_acts_1253 : decode cL_acts 1253 = .ok (.iload 13, 2) := by decide +kernel
theorem dL_acts_1255 : decode cL_acts 1255 = .ok (.iconst 5, 1) := by decide +kernel
theorem dL_acts_1256 : decode cL_acts 1256 = .ok (.iadd, 1) := by decide +kernel
theorem dL_acts_1257 : decode cL_acts 1257 = .ok (.iaload, 1) := by decide +kernel
theorem dL_acts_1258 : decode cL_acts 1258 = .ok (.ifCond .ge 30, 3) := by decide +kernel
theorem dL_acts_1261 : decode cL_acts 1261 = .ok (.iload 14, 2) := by decide +kernel
theorem dL_acts_1263 : decode cL_acts 1263 = .ok (.aload_n 1, 1) := by decide +kernel
theorem dL_acts_1264 : decode cL_acts 1264 = .ok (.iconst 0, 1) := by decide +kernel
theorem dL_acts_1265 : decode cL_acts 1265 = .ok (.iaload, 1) := by decide +kernel
theorem dL_acts_1266 : decode cL_acts 1266 = .ok (.if_icmp .ge 22, 3) := by decide +kernel
theorem dL_acts_1269 : decode cL_acts 1269 = .ok (.aload 4, 2) := by decide +kernel
theorem dL_acts_1271 : decode cL_acts 1271 = .ok (.iload 14, 2) := by decide +kernel
theorem dL_acts_1273 : decode cL_acts 1273 = .ok (.iaload, 1) := by decide +kernel
theorem dL_acts_1274 : decode cL_acts 1274 = .ok (.ifCond .lt 14, 3) := by decide +kernel
theorem dL_acts_1277 : decode cL_acts 1277 = .ok (.aload_n 1, 1) := by decide +kernel
theorem dL_acts_1278 : decode cL_acts 1278 = .ok (.aload 6, 2) := by decide +kernel
theorem dL_acts_1280 : decode cL_acts 1280 = .ok (.iload 14, 2) := by decide +kernel
theorem dL_acts_1282 : decode cL_acts 1282 = .ok (.invokestatic 43, 3) := by decide +kernel
theorem dL_acts_1285 : decode cL_acts 1285 = .ok (.ifCond .le 20, 3) := by decide +kernel
theorem dL_acts_1288 : decode cL_acts 1288 = .ok (.aload_n 0, 1) := by decide +kernel
theorem dL_acts_1289 : decode cL_acts 1289 = .ok (.iload 12, 2) := by decide +kernel
theorem dL_acts_1291 : decode cL_acts 1291 = .ok (.invokestatic 75, 3) := by decide +kernel
theorem dL_acts_1294 : decode cL_acts 1294 = .ok (.ldc 50, 2) := by decide +kernel
theorem dL_acts_1296 : decode cL_acts 1296 = .ok (.if_icmp .ne 7, 3) := by decide +kernel
theorem dL_acts_1299 : decode cL_acts 1299 = .ok (.iconst 1, 1) := by decide +kernel
theorem dL_acts_1300 : decode cL_acts 1300 = .ok (.goto 4, 3) := by decide +kernel
theorem dL_acts_1303 : decode cL_acts 1303 = .ok (.iconst 0, 1) := by decide +kernel
theorem dL_acts_1304 : decode cL_acts 1304 = .ok (.ireturn, 1) := by decide +kernel
theorem dL_acts_1305 : decode cL_acts 1305 = .ok (.aload 4, 2) := by decide +kernel
theorem dL_acts_1307 : decode cL_acts 1307 = .ok (.iload 14, 2) := by decide +kernel
theorem dL_acts_1309 : decode cL_acts 1309 = .ok (.iaload, 1) := by decide +kernel
theorem dL_acts_1310 : decode cL_acts 1310 = .ok (.istore 15, 2) := by decide +kernel
theorem dL_acts_1312 : decode cL_acts 1312 = .ok (.aload 4, 2) := by decide +kernel
theorem dL_acts_1314 : decode cL_acts 1314 = .ok (.iload 14, 2) := by decide +kernel
theorem dL_acts_1316 : decode cL_acts 1316 = .ok (.iconst (-1), 1) := by decide +kernel
theorem dL_acts_1317 : decode cL_acts 1317 = .ok (.iastore, 1) := by decide +kernel
theorem dL_acts_1318 : decode cL_acts 1318 = .ok (.aload 6, 2) := by decide +kernel
theorem dL_acts_1320 : decode cL_acts 1320 = .ok (.iload 13, 2) := by decide +kernel
theorem dL_acts_1322 : decode cL_acts 1322 = .ok (.iconst 5, 1) := by decide +kernel
theorem dL_acts_1323 : decode cL_acts 1323 = .ok (.iadd, 1) := by decide +kernel
theorem dL_acts_1324 : decode cL_acts 1324 = .ok (.iload 15, 2) := by decide +kernel
theorem dL_acts_1326 : decode cL_acts 1326 = .ok (.iastore, 1) := by decide +kernel
theorem dL_acts_1327 : decode cL_acts 1327 = .ok (.aload 5, 2) := by decide +kernel
theorem dL_acts_1329 : decode cL_acts 1329 = .ok (.iconst 3, 1) := by decide +kernel
theorem dL_acts_1330 : decode cL_acts 1330 = .ok (.iload 15, 2) := by decide +kernel
theorem dL_acts_1332 : decode cL_acts 1332 = .ok (.imul, 1) := by decide +kernel
theorem dL_acts_1333 : decode cL_acts 1333 = .ok (.iconst 1, 1) := by decide +kernel
theorem dL_acts_1334 : decode cL_acts 1334 = .ok (.iadd, 1) := by decide +kernel
theorem dL_acts_1335 : decode cL_acts 1335 = .ok (.iconst 1, 1) := by decide +kernel
theorem dL_acts_1336 : decode cL_acts 1336 = .ok (.iastore, 1) := by decide +kernel
theorem dL_acts_1337 : decode cL_acts 1337 = .ok (.aload 5, 2) := by decide +kernel
theorem dL_acts_1339 : decode cL_acts 1339 = .ok (.iconst 3, 1) := by decide +kernel
theorem dL_acts_1340 : decode cL_acts 1340 = .ok (.iload 15, 2) := by decide +kernel
theorem dL_acts_1342 : decode cL_acts 1342 = .ok (.imul, 1) := by decide +kernel
theorem dL_acts_1343 : decode cL_acts 1343 = .ok (.iconst 2, 1) := by decide +kernel
theorem dL_acts_1344 : decode cL_acts 1344 = .ok (.iadd, 1) := by decide +kernel
theorem dL_acts_1345 : decode cL_acts 1345 = .ok (.iload 12, 2) := by decide +kernel
theorem dL_acts_1347 : decode cL_acts 1347 = .ok (.iastore, 1) := by decide +kernel
theorem dL_acts_1348 : decode cL_acts 1348 = .ok (.aload_n 0, 1) := by decide +kernel
theorem dL_acts_1349 : decode cL_acts 1349 = .ok (.iload 12, 2) := by decide +kernel
theorem dL_acts_1351 : decode cL_acts 1351 = .ok (.invokestatic 75, 3) := by decide +kernel
theorem dL_acts_1354 : decode cL_acts 1354 = .ok (.iload 15, 2) := by decide +kernel
theorem dL_acts_1356 : decode cL_acts 1356 = .ok (.if_icmp .ne 7, 3) := by decide +kernel
theorem dL_acts_1359 : decode cL_acts 1359 = .ok (.iconst 1, 1) := by decide +kernel
theorem dL_acts_1360 : decode cL_acts 1360 = .ok (.goto 4, 3) := by decide +kernel
theorem dL_acts_1363 : decode cL_acts 1363 = .ok (.iconst 0, 1) := by decide +kernel
theorem dL_acts_1364 : decode cL_acts 1364 = .ok (.ireturn, 1) := by decide +kernel
theorem dL_acts_1365 : decode cL_acts 1365 = .ok (.iload 11, 2) := by decide +kernel
theorem dL_acts_1367 : decode cL_acts 1367 = .ok (.bipush 21, 2) := by decide +kernel
theorem dL_acts_1369 : decode cL_acts 1369 = .ok (.if_icmp .ge 283, 3) := by decide +kernel
theorem dL_acts_1372 : decode cL_acts 1372 = .ok (.iconst 0, 1) := by decide +kernel
theorem dL_acts_1373 : decode cL_acts 1373 = .ok (.istore 15, 2) := by decide +kernel
theorem dL_acts_1375 : decode cL_acts 1375 = .ok (.iconst 0, 1) := by decide +kernel
theorem dL_acts_1376 : decode cL_acts 1376 = .ok (.istore 16, 2) := by decide +kernel
theorem dL_acts_1378 : decode cL_acts 1378 = .ok (.iconst 0, 1) := by decide +kernel
theorem dL_acts_1379 : decode cL_acts 1379 = .ok (.istore 17, 2) := by decide +kernel
theorem dL_acts_1381 : decode cL_acts 1381 = .ok (.iload 17, 2) := by decide +kernel
theorem dL_acts_1383 : decode cL_acts 1383 = .ok (.aload_n 1, 1) := by decide +kernel
theorem dL_acts_1384 : decode cL_acts 1384 = .ok (.iconst 2, 1) := by decide +kernel
theorem dL_acts_1385 : decode cL_acts 1385 = .ok (.iaload, 1) := by decide +kernel
theorem dL_acts_1386 : decode cL_acts 1386 = .ok (.if_icmp .ge 56, 3) := by decide +kernel
theorem dL_acts_1389 : decode cL_acts 1389 = .ok (.aload_n 1, 1) := by decide +kernel
theorem dL_acts_1390 : decode cL_acts 1390 = .ok (.aload_n 2, 1) := by decide +kernel
theorem dL_acts_1391 : decode cL_acts 1391 = .ok (.aload_n 3, 1) := by decide +kernel
theorem dL_acts_1392 : decode cL_acts 1392 = .ok (.aload 4, 2) := by decide +kernel
theorem dL_acts_1394 : decode cL_acts 1394 = .ok (.aload 6, 2) := by decide +kernel
theorem dL_acts_1396 : decode cL_acts 1396 = .ok (.iload 17, 2) := by decide +kernel
theorem dL_acts_1398 : decode cL_acts 1398 = .ok (.invokestatic 78, 3) := by decide +kernel
theorem dL_acts_1401 : decode cL_acts 1401 = .ok (.istore 18, 2) := by decide +kernel
theorem dL_acts_1403 : decode cL_acts 1403 = .ok (.iload 15, 2) := by decide +kernel
theorem dL_acts_1405 : decode cL_acts 1405 = .ok (.iload 18, 2) := by decide +kernel
theorem dL_acts_1407 : decode cL_acts 1407 = .ok (.ifCond .eq 10, 3) := by decide +kernel
theorem dL_acts_1410 : decode cL_acts 1410 = .ok (.iconst 1, 1) := by decide +kernel
theorem dL_acts_1411 : decode cL_acts 1411 = .ok (.iload 17, 2) := by decide +kernel
theorem dL_acts_1413 : decode cL_acts 1413 = .ok (.ishl, 1) := by decide +kernel
theorem dL_acts_1414 : decode cL_acts 1414 = .ok (.goto 4, 3) := by decide +kernel
theorem dL_acts_1417 : decode cL_acts 1417 = .ok (.iconst 0, 1) := by decide +kernel
theorem dL_acts_1418 : decode cL_acts 1418 = .ok (.ior, 1) := by decide +kernel
theorem dL_acts_1419 : decode cL_acts 1419 = .ok (.istore 15, 2) := by decide +kernel
theorem dL_acts_1421 : decode cL_acts 1421 = .ok (.iload 16, 2) := by decide +kernel
theorem dL_acts_1423 : decode cL_acts 1423 = .ok (.iload 18, 2) := by decide +kernel
theorem dL_acts_1425 : decode cL_acts 1425 = .ok (.ifCond .eq 7, 3) := by decide +kernel
theorem dL_acts_1428 : decode cL_acts 1428 = .ok (.iconst 1, 1) := by decide +kernel
theorem dL_acts_1429 : decode cL_acts 1429 = .ok (.goto 4, 3) := by decide +kernel
theorem dL_acts_1432 : decode cL_acts 1432 = .ok (.iconst 0, 1) := by decide +kernel
theorem dL_acts_1433 : decode cL_acts 1433 = .ok (.iadd, 1) := by decide +kernel
theorem dL_acts_1434 : decode cL_acts 1434 = .ok (.istore 16, 2) := by decide +kernel
theorem dL_acts_1436 : decode cL_acts 1436 = .ok (.iinc 17 1, 3) := by decide +kernel
theorem dL_acts_1439 : decode cL_acts 1439 = .ok (.goto (-58), 3) := by decide +kernel
theorem dL_acts_1442 : decode cL_acts 1442 = .ok (.iload 16, 2) := by decide +kernel
theorem dL_acts_1444 : decode cL_acts 1444 = .ok (.iconst 3, 1) := by decide +kernel
theorem dL_acts_1445 : decode cL_acts 1445 = .ok (.if_icmp .ge 20, 3) := by decide +kernel
theorem dL_acts_1448 : decode cL_acts 1448 = .ok (.aload_n 0, 1) := by decide +kernel
theorem dL_acts_1449 : decode cL_acts 1449 = .ok (.iload 15, 2) := by decide +kernel
theorem dL_acts_1451 : decode cL_acts 1451 = .ok (.invokestatic 82, 3) := by decide +kernel
theorem dL_acts_1454 : decode cL_acts 1454 = .ok (.ldc 51, 2) := by decide +kernel
theorem dL_acts_1456 : decode cL_acts 1456 = .ok (.if_icmp .ne 7, 3) := by decide +kernel
theorem dL_acts_1459 : decode cL_acts 1459 = .ok (.iconst 1, 1) := by decide +kernel
theorem dL_acts_1460 : decode cL_acts 1460 = .ok (.goto 4, 3) := by decide +kernel
theorem dL_acts_1463 : decode cL_acts 1463 = .ok (.iconst 0, 1) := by decide +kernel
theorem dL_acts_1464 : decode cL_acts 1464 = .ok (.ireturn, 1) := by decide +kernel
theorem dL_acts_1465 : decode cL_acts 1465 = .ok (.iconst 3, 1) := by decide +kernel
theorem dL_acts_1466 : decode cL_acts 1466 = .ok (.aload_n 3, 1) := by decide +kernel
theorem dL_acts_1467 : decode cL_acts 1467 = .ok (.aload_n 1, 1) := by decide +kernel
theorem dL_acts_1468 : decode cL_acts 1468 = .ok (.iconst 4, 1) := by decide +kernel
theorem dL_acts_1469 : decode cL_acts 1469 = .ok (.iaload, 1) := by decide +kernel
theorem dL_acts_1470 : decode cL_acts 1470 = .ok (.iconst 1, 1) := by decide +kernel
theorem dL_acts_1471 : decode cL_acts 1471 = .ok (.isub, 1) := by decide +kernel
theorem dL_acts_1472 : decode cL_acts 1472 = .ok (.iaload, 1) := by decide +kernel
theorem dL_acts_1473 : decode cL_acts 1473 = .ok (.imul, 1) := by decide +kernel
theorem dL_acts_1474 : decode cL_acts 1474 = .ok (.istore 17, 2) := by decide +kernel
theorem dL_acts_1476 : decode cL_acts 1476 = .ok (.iconst 0, 1) := by decide +kernel
theorem dL_acts_1477 : decode cL_acts 1477 = .ok (.istore 18, 2) := by decide +kernel
theorem dL_acts_1479 : decode cL_acts 1479 = .ok (.iload 18, 2) := by decide +kernel
theorem dL_acts_1481 : decode cL_acts 1481 = .ok (.aload_n 1, 1) := by decide +kernel
theorem dL_acts_1482 : decode cL_acts 1482 = .ok (.iconst 2, 1) := by decide +kernel
theorem dL_acts_1483 : decode cL_acts 1483 = .ok (.iaload, 1) := by decide +kernel
theorem dL_acts_1484 : decode cL_acts 1484 = .ok (.if_icmp .ge 70, 3) := by decide +kernel
theorem dL_acts_1487 : decode cL_acts 1487 = .ok (.iload 15, 2) := by decide +kernel
theorem dL_acts_1489 : decode cL_acts 1489 = .ok (.iload 18, 2) := by decide +kernel
theorem dL_acts_1491 : decode cL_acts 1491 = .ok (.ishr, 1) := by decide +kernel
theorem dL_acts_1492 : decode cL_acts 1492 = .ok (.iconst 1, 1) := by decide +kernel
theorem dL_acts_1493 : decode cL_acts 1493 = .ok (.iand, 1) := by decide +kernel
theorem dL_acts_1494 : decode cL_acts 1494 = .ok (.iconst 1, 1) := by decide +kernel
theorem dL_acts_1495 : decode cL_acts 1495 = .ok (.if_icmp .ne 53, 3) := by decide +kernel
theorem dL_acts_1498 : decode cL_acts 1498 = .ok (.aload 6, 2) := by decide +kernel
theorem dL_acts_1500 : decode cL_acts 1500 = .ok (.bipush 9, 2) := by decide +kernel
theorem dL_acts_1502 : decode cL_acts 1502 = .ok (.iload 18, 2) := by decide +kernel
theorem dL_acts_1504 : decode cL_acts 1504 = .ok (.imul, 1) := by decide +kernel
theorem dL_acts_1505 : decode cL_acts 1505 = .ok (.iconst 2, 1) := by decide +kernel
theorem dL_acts_1506 : decode cL_acts 1506 = .ok (.iadd, 1) := by decide +kernel
theorem dL_acts_1507 : decode cL_acts 1507 = .ok (.iconst 1, 1) := by decide +kernel
theorem dL_acts_1508 : decode cL_acts 1508 = .ok (.iastore, 1) := by decide +kernel
theorem dL_acts_1509 : decode cL_acts 1509 = .ok (.aload 6, 2) := by decide +kernel
theorem dL_acts_1511 : decode cL_acts 1511 = .ok (.bipush 9, 2) := by decide +kernel
theorem dL_acts_1513 : decode cL_acts 1513 = .ok (.iload 18, 2) := by decide +kernel
theorem dL_acts_1515 : decode cL_acts 1515 = .ok (.imul, 1) := by decide +kernel
theorem dL_acts_1516 : decode cL_acts 1516 = .ok (.iconst 3, 1) := by decide +kernel
theorem dL_acts_1517 : decode cL_acts 1517 = .ok (.iadd, 1) := by decide +kernel
theorem dL_acts_1518 : decode cL_acts 1518 = .ok (.aload_n 1, 1) := by decide +kernel
theorem dL_acts_1519 : decode cL_acts 1519 = .ok (.iconst 4, 1) := by decide +kernel
theorem dL_acts_1520 : decode cL_acts 1520 = .ok (.iaload, 1) := by decide +kernel
theorem dL_acts_1521 : decode cL_acts 1521 = .ok (.iconst 1, 1) := by decide +kernel
theorem dL_acts_1522 : decode cL_acts 1522 = .ok (.isub, 1) := by decide +kernel
theorem dL_acts_1523 : decode cL_acts 1523 = .ok (.iastore, 1) := by decide +kernel
theorem dL_acts_1524 : decode cL_acts 1524 = .ok (.aload 6, 2) := by decide +kernel
theorem dL_acts_1526 : decode cL_acts 1526 = .ok (.bipush 9, 2) := by decide +kernel
theorem dL_acts_1528 : decode cL_acts 1528 = .ok (.iload 18, 2) := by decide +kernel
theorem dL_acts_1530 : decode cL_acts 1530 = .ok (.imul, 1) := by decide +kernel
theorem dL_acts_1531 : decode cL_acts 1531 = .ok (.iconst 4, 1) := by decide +kernel
theorem dL_acts_1532 : decode cL_acts 1532 = .ok (.iadd, 1) := by decide +kernel
theorem dL_acts_1533 : decode cL_acts 1533 = .ok (.iload 17, 2) := by decide +kernel
theorem dL_acts_1535 : decode cL_acts 1535 = .ok (.iastore, 1) := by decide +kernel
theorem dL_acts_1536 : decode cL_acts 1536 = .ok (.aload 6, 2) := by decide +kernel
theorem dL_acts_1538 : decode cL_acts 1538 = .ok (.bipush 9, 2) := by decide +kernel
theorem dL_acts_1540 : decode cL_acts 1540 = .ok (.iload 18, 2) := by decide +kernel
theorem dL_acts_1542 : decode cL_acts 1542 = .ok (.imul, 1) := by decide +kernel
theorem dL_acts_1543 : decode cL_acts 1543 = .ok (.bipush 8, 2) := by decide +kernel
theorem dL_acts_1545 : decode cL_acts 1545 = .ok (.iadd, 1) := by decide +kernel
theorem dL_acts_1546 : decode cL_acts 1546 = .ok (.iconst 1, 1) := by decide +kernel
theorem dL_acts_1547 : decode cL_acts 1547 = .ok (.iastore, 1) := by decide +kernel
theorem dL_acts_1548 : decode cL_acts 1548 = .ok (.iinc 18 1, 3) := by decide +kernel
theorem dL_acts_1551 : decode cL_acts 1551 = .ok (.goto (-72), 3) := by decide +kernel
theorem dL_acts_1554 : decode cL_acts 1554 = .ok (.bipush 35, 2) := by decide +kernel
theorem dL_acts_1556 : decode cL_acts 1556 = .ok (.istore 18, 2) := by decide +kernel
theorem dL_acts_1558 : decode cL_acts 1558 = .ok (.iload 18, 2) := by decide +kernel
theorem dL_acts_1560 : decode cL_acts 1560 = .ok (.iconst 2, 1) := by decide +kernel
theorem dL_acts_1561 : decode cL_acts 1561 = .ok (.if_icmp .le 21, 3) := by decide +kernel
theorem dL_acts_1564 : decode cL_acts 1564 = .ok (.aload 8, 2) := by decide +kernel
theorem dL_acts_1566 : decode cL_acts 1566 = .ok (.iload 18, 2) := by decide +kernel
theorem dL_acts_1568 : decode cL_acts 1568 = .ok (.aload 8, 2) := by decide +kernel
theorem dL_acts_1570 : decode cL_acts 1570 = .ok (.iload 18, 2) := by decide +kernel
theorem dL_acts_1572 : decode cL_acts 1572 = .ok (.iconst 3, 1) := by decide +kernel
theorem dL_acts_1573 : decode cL_acts 1573 = .ok (.isub, 1) := by decide +kernel
theorem dL_acts_1574 : decode cL_acts 1574 = .ok (.iaload, 1) := by decide +kernel
theorem dL_acts_1575 : decode cL_acts 1575 = .ok (.iastore, 1) := by decide +kernel
theorem dL_acts_1576 : decode cL_acts 1576 = .ok (.iinc 18 (-1), 3) := by decide +kernel
theorem dL_acts_1579 : decode cL_acts 1579 = .ok (.goto (-21), 3) := by decide +kernel
theorem dL_acts_1582 : decode cL_acts 1582 = .ok (.aload 8, 2) := by decide +kernel
theorem dL_acts_1584 : decode cL_acts 1584 = .ok (.iconst 0, 1) := by decide +kernel
theorem dL_acts_1585 : decode cL_acts 1585 = .ok (.aload_n 1, 1) := by decide +kernel
theorem dL_acts_1586 : decode cL_acts 1586 = .ok (.iconst 3, 1) := by decide +kernel
theorem dL_acts_1587 : decode cL_acts 1587 = .ok (.iaload, 1) := by decide +kernel
theorem dL_acts_1588 : decode cL_acts 1588 = .ok (.iastore, 1) := by decide +kernel
theorem dL_acts_1589 : decode cL_acts 1589 = .ok (.aload 8, 2) := by decide +kernel
theorem dL_acts_1591 : decode cL_acts 1591 = .ok (.iconst 1, 1) := by decide +kernel
theorem dL_acts_1592 : decode cL_acts 1592 = .ok (.aload_n 1, 1) := by decide +kernel
theorem dL_acts_1593 : decode cL_acts 1593 = .ok (.iconst 4, 1) := by decide +kernel
theorem dL_acts_1594 : decode cL_acts 1594 = .ok (.iaload, 1) := by decide +kernel
theorem dL_acts_1595 : decode cL_acts 1595 = .ok (.iastore, 1) := by decide +kernel
theorem dL_acts_1596 : decode cL_acts 1596 = .ok (.aload 8, 2) := by decide +kernel
theorem dL_acts_1598 : decode cL_acts 1598 = .ok (.iconst 2, 1) := by decide +kernel
theorem dL_acts_1599 : decode cL_acts 1599 = .ok (.iload 15, 2) := by decide +kernel
theorem dL_acts_1601 : decode cL_acts 1601 = .ok (.iastore, 1) := by decide +kernel
theorem dL_acts_1602 : decode cL_acts 1602 = .ok (.aload_n 1, 1) := by decide +kernel
theorem dL_acts_1603 : decode cL_acts 1603 = .ok (.bipush 12, 2) := by decide +kernel
theorem dL_acts_1605 : decode cL_acts 1605 = .ok (.dup2, 1) := by decide +kernel
theorem dL_acts_1606 : decode cL_acts 1606 = .ok (.iaload, 1) := by decide +kernel
theorem dL_acts_1607 : decode cL_acts 1607 = .ok (.aload_n 1, 1) := by decide +kernel
theorem dL_acts_1608 : decode cL_acts 1608 = .ok (.bipush 12, 2) := by decide +kernel
theorem dL_acts_1610 : decode cL_acts 1610 = .ok (.iaload, 1) := by decide +kernel
theorem dL_acts_1611 : decode cL_acts 1611 = .ok (.bipush 12, 2) := by decide +kernel
theorem dL_acts_1613 : decode cL_acts 1613 = .ok (.if_icmp .ge 7, 3) := by decide +kernel
theorem dL_acts_1616 : decode cL_acts 1616 = .ok (.iconst 1, 1) := by decide +kernel
theorem dL_acts_1617 : decode cL_acts 1617 = .ok (.goto 4, 3) := by decide +kernel
theorem dL_acts_1620 : decode cL_acts 1620 = .ok (.iconst 0, 1) := by decide +kernel
theorem dL_acts_1621 : decode cL_acts 1621 = .ok (.iadd, 1) := by decide +kernel
theorem dL_acts_1622 : decode cL_acts 1622 = .ok (.iastore, 1) := by decide +kernel
theorem dL_acts_1623 : decode cL_acts 1623 = .ok (.aload_n 1, 1) := by decide +kernel
theorem dL_acts_1624 : decode cL_acts 1624 = .ok (.bipush 8, 2) := by decide +kernel
theorem dL_acts_1626 : decode cL_acts 1626 = .ok (.dup2, 1) := by decide +kernel
theorem dL_acts_1627 : decode cL_acts 1627 = .ok (.iaload, 1) := by decide +kernel
theorem dL_acts_1628 : decode cL_acts 1628 = .ok (.iconst 1, 1) := by decide +kernel
theorem dL_acts_1629 : decode cL_acts 1629 = .ok (.iadd, 1) := by decide +kernel
theorem dL_acts_1630 : decode cL_acts 1630 = .ok (.iastore, 1) := by decide +kernel
theorem dL_acts_1631 : decode cL_acts 1631 = .ok (.aload_n 1, 1) := by decide +kernel
theorem dL_acts_1632 : decode cL_acts 1632 = .ok (.iconst 5, 1) := by decide +kernel
theorem dL_acts_1633 : decode cL_acts 1633 = .ok (.iconst 1, 1) := by decide +kernel
theorem dL_acts_1634 : decode cL_acts 1634 = .ok (.iastore, 1) := by decide +kernel
theorem dL_acts_1635 : decode cL_acts 1635 = .ok (.aload_n 0, 1) := by decide +kernel
theorem dL_acts_1636 : decode cL_acts 1636 = .ok (.iload 15, 2) := by decide +kernel
theorem dL_acts_1638 : decode cL_acts 1638 = .ok (.invokestatic 82, 3) := by decide +kernel
theorem dL_acts_1641 : decode cL_acts 1641 = .ok (.iload 17, 2) := by decide +kernel
theorem dL_acts_1643 : decode cL_acts 1643 = .ok (.if_icmp .ne 7, 3) := by decide +kernel
theorem dL_acts_1646 : decode cL_acts 1646 = .ok (.iconst 1, 1) := by decide +kernel
theorem dL_acts_1647 : decode cL_acts 1647 = .ok (.goto 4, 3) := by decide +kernel
theorem dL_acts_1650 : decode cL_acts 1650 = .ok (.iconst 0, 1) := by decide +kernel
theorem dL_acts_1651 : decode cL_acts 1651 = .ok (.ireturn, 1) := by decide +kernel
theorem dL_acts_1652 : decode cL_acts 1652 = .ok (.iload 11, 2) := by decide +kernel
theorem dL_acts_1654 : decode cL_acts 1654 = .ok (.bipush 21, 2) := by decide +kernel
theorem dL_acts_1656 : decode cL_acts 1656 = .ok (.if_icmp .ne 125, 3) := by decide +kernel
theorem dL_acts_1659 : decode cL_acts 1659 = .ok (.aload 6, 2) := by decide +kernel
theorem dL_acts_1661 : decode cL_acts 1661 = .ok (.iload 13, 2) := by decide +kernel
theorem dL_acts_1663 : decode cL_acts 1663 = .ok (.iconst 2, 1) := by decide +kernel
theorem dL_acts_1664 : decode cL_acts 1664 = .ok (.iadd, 1) := by decide +kernel
theorem dL_acts_1665 : decode cL_acts 1665 = .ok (.iaload, 1) := by decide +kernel
theorem dL_acts_1666 : decode cL_acts 1666 = .ok (.ifCond .gt 17, 3) := by decide +kernel
theorem dL_acts_1669 : decode cL_acts 1669 = .ok (.iload 14, 2) := by decide +kernel
theorem dL_acts_1671 : decode cL_acts 1671 = .ok (.ifCond .le 29, 3) := by decide +kernel
theorem dL_acts_1674 : decode cL_acts 1674 = .ok (.aload_n 1, 1) := by decide +kernel
theorem dL_acts_1675 : decode cL_acts 1675 = .ok (.bipush 6, 2) := by decide +kernel
theorem dL_acts_1677 : decode cL_acts 1677 = .ok (.iaload, 1) := by decide +kernel
theorem dL_acts_1678 : decode cL_acts 1678 = .ok (.bipush 10, 2) := by decide +kernel
theorem dL_acts_1680 : decode cL_acts 1680 = .ok (.if_icmp .ne 20, 3) := by decide +kernel
theorem dL_acts_1683 : decode cL_acts 1683 = .ok (.aload_n 0, 1) := by decide +kernel
theorem dL_acts_1684 : decode cL_acts 1684 = .ok (.iload 12, 2) := by decide +kernel
theorem dL_acts_1686 : decode cL_acts 1686 = .ok (.invokestatic 85, 3) := by decide +kernel
theorem dL_acts_1689 : decode cL_acts 1689 = .ok (.ldc 50, 2) := by decide +kernel
theorem dL_acts_1691 : decode cL_acts 1691 = .ok (.if_icmp .ne 7, 3) := by decide +kernel
theorem dL_acts_1694 : decode cL_acts 1694 = .ok (.iconst 1, 1) := by decide +kernel
theorem dL_acts_1695 : decode cL_acts 1695 = .ok (.goto 4, 3) := by decide +kernel
theorem dL_acts_1698 : decode cL_acts 1698 = .ok (.iconst 0, 1) := by decide +kernel
theorem dL_acts_1699 : decode cL_acts 1699 = .ok (.ireturn, 1) := by decide +kernel
theorem dL_acts_1700 : decode cL_acts 1700 = .ok (.iload 14, 2) := by decide +kernel
theorem dL_acts_1702 : decode cL_acts 1702 = .ok (.ifCond .ne 14, 3) := by decide +kernel
theorem dL_acts_1705 : decode cL_acts 1705 = .ok (.aload_n 1, 1) := by decide +kernel
theorem dL_acts_1706 : decode cL_acts 1706 = .ok (.bipush 7, 2) := by decide +kernel
theorem dL_acts_1708 : decode cL_acts 1708 = .ok (.dup2, 1) := by decide +kernel
theorem dL_acts_1709 : decode cL_acts 1709 = .ok (.iaload, 1) := by decide +kernel
theorem dL_acts_1710 : decode cL_acts 1710 = .ok (.iconst 1, 1) := by decide +kernel
theorem dL_acts_1711 : decode cL_acts 1711 = .ok (.iadd, 1) := by decide +kernel
theorem dL_acts_1712 : decode cL_acts 1712 = .ok (.iastore, 1) := by decide +kernel
theorem dL_acts_1713 : decode cL_acts 1713 = .ok (.goto 49, 3) := by decide +kernel
theorem dL_acts_1716 : decode cL_acts 1716 = .ok (.aload 7, 2) := by decide +kernel
theorem dL_acts_1718 : decode cL_acts 1718 = .ok (.iconst 3, 1) := by decide +kernel
theorem dL_acts_1719 : decode cL_acts 1719 = .ok (.aload_n 1, 1) := by decide +kernel
theorem dL_acts_1720 : decode cL_acts 1720 = .ok (.bipush 6, 2) := by decide +kernel
theorem dL_acts_1722 : decode cL_acts 1722 = .ok (.iaload, 1) := by decide +kernel
theorem dL_acts_1723 : decode cL_acts 1723 = .ok (.imul, 1) := by decide +kernel
theorem dL_acts_1724 : decode cL_acts 1724 = .ok (.iload 12, 2) := by decide +kernel
theorem dL_acts_1726 : decode cL_acts 1726 = .ok (.iastore, 1) := by decide +kernel
theorem dL_acts_1727 : decode cL_acts 1727 = .ok (.aload 7, 2) := by decide +kernel
theorem dL_acts_1729 : decode cL_acts 1729 = .ok (.iconst 3, 1) := by decide +kernel
theorem dL_acts_1730 : decode cL_acts 1730 = .ok (.aload_n 1, 1) := by decide +kernel
theorem dL_acts_1731 : decode cL_acts 1731 = .ok (.bipush 6, 2) := by decide +kernel
theorem dL_acts_1733 : decode cL_acts 1733 = .ok (.iaload, 1) := by decide +kernel
theorem dL_acts_1734 : decode cL_acts 1734 = .ok (.imul, 1) := by decide +kernel
theorem dL_acts_1735 : decode cL_acts 1735 = .ok (.iconst 1, 1) := by decide +kernel
theorem dL_acts_1736 : decode cL_acts 1736 = .ok (.iadd, 1) := by decide +kernel
theorem dL_acts_1737 : decode cL_acts 1737 = .ok (.aload_n 1, 1) := by decide +kernel
theorem dL_acts_1738 : decode cL_acts 1738 = .ok (.iconst 3, 1) := by decide +kernel
theorem dL_acts_1739 : decode cL_acts 1739 = .ok (.iaload, 1) := by decide +kernel
theorem dL_acts_1740 : decode cL_acts 1740 = .ok (.iastore, 1) := by decide +kernel
theorem dL_acts_1741 : decode cL_acts 1741 = .ok (.aload 7, 2) := by decide +kernel
theorem dL_acts_1743 : decode cL_acts 1743 = .ok (.iconst 3, 1) := by decide +kernel
theorem dL_acts_1744 : decode cL_acts 1744 = .ok (.aload_n 1, 1) := by decide +kernel
theorem dL_acts_1745 : decode cL_acts 1745 = .ok (.bipush 6, 2) := by decide +kernel
theorem dL_acts_1747 : decode cL_acts 1747 = .ok (.iaload, 1) := by decide +kernel
theorem dL_acts_1748 : decode cL_acts 1748 = .ok (.imul, 1) := by decide +kernel
theorem dL_acts_1749 : decode cL_acts 1749 = .ok (.iconst 2, 1) := by decide +kernel
theorem dL_acts_1750 : decode cL_acts 1750 = .ok (.iadd, 1) := by decide +kernel
theorem dL_acts_1751 : decode cL_acts 1751 = .ok (.iload 14, 2) := by decide +kernel
theorem dL_acts_1753 : decode cL_acts 1753 = .ok (.iastore, 1) := by decide +kernel
theorem dL_acts_1754 : decode cL_acts 1754 = .ok (.aload_n 1, 1) := by decide +kernel
theorem dL_acts_1755 : decode cL_acts 1755 = .ok (.bipush 6, 2) := by decide +kernel
theorem dL_acts_1757 : decode cL_acts 1757 = .ok (.dup2, 1) := by decide +kernel
theorem dL_acts_1758 : decode cL_acts 1758 = .ok (.iaload, 1) := by decide +kernel
theorem dL_acts_1759 : decode cL_acts 1759 = .ok (.iconst 1, 1) := by decide +kernel
theorem dL_acts_1760 : decode cL_acts 1760 = .ok (.iadd, 1) := by decide +kernel
theorem dL_acts_1761 : decode cL_acts 1761 = .ok (.iastore, 1) := by decide +kernel
theorem dL_acts_1762 : decode cL_acts 1762 = .ok (.aload_n 0, 1) := by decide +kernel
theorem dL_acts_1763 : decode cL_acts 1763 = .ok (.iload 12, 2) := by decide +kernel
theorem dL_acts_1765 : decode cL_acts 1765 = .ok (.invokestatic 85, 3) := by decide +kernel
theorem dL_acts_1768 : decode cL_acts 1768 = .ok (.aload_n 1, 1) := by decide +kernel
theorem dL_acts_1769 : decode cL_acts 1769 = .ok (.bipush 6, 2) := by decide +kernel
theorem dL_acts_1771 : decode cL_acts 1771 = .ok (.iaload, 1) := by decide +kernel
theorem dL_acts_1772 : decode cL_acts 1772 = .ok (.if_icmp .ne 7, 3) := by decide +kernel
theorem dL_acts_1775 : decode cL_acts 1775 = .ok (.iconst 1, 1) := by decide +kernel
theorem dL_acts_1776 : decode cL_acts 1776 = .ok (.goto 4, 3) := by decide +kernel
theorem dL_acts_1779 : decode cL_acts 1779 = .ok (.iconst 0, 1) := by decide +kernel
theorem dL_acts_1780 : decode cL_acts 1780 = .ok (.ireturn, 1) := by decide +kernel
theorem dL_acts_1781 : decode cL_acts 1781 = .ok (.iconst 1, 1) := by decide +kernel
theorem dL_acts_1782 : decode cL_acts 1782 = .ok (.iload 10, 2) := by decide +kernel
theorem dL_acts_1784 : decode cL_acts 1784 = .ok (.iload 10, 2) := by decide +kernel
theorem dL_acts_1786 : decode cL_acts 1786 = .ok (.bipush 6, 2) := by decide +kernel
theorem dL_acts_1788 : decode cL_acts 1788 = .ok (.irem, 1) := by decide +kernel
theorem dL_acts_1789 : decode cL_acts 1789 = .ok (.ifCond .ne 8, 3) := by decide +kernel
theorem dL_acts_1792 : decode cL_acts 1792 = .ok (.bipush 40, 2) := by decide +kernel
theorem dL_acts_1794 : decode cL_acts 1794 = .ok (.goto 5, 3) := by decide +kernel
theorem dL_acts_1797 : decode cL_acts 1797 = .ok (.bipush 9, 2) := by decide +kernel
theorem dL_acts_1799 : decode cL_acts 1799 = .ok (.irem, 1) := by decide +kernel
theorem dL_acts_1800 : decode cL_acts 1800 = .ok (.iadd, 1) := by decide +kernel
theorem dL_acts_1801 : decode cL_acts 1801 = .ok (.istore 15, 2) := by decide +kernel
theorem dL_acts_1803 : decode cL_acts 1803 = .ok (.iconst 0, 1) := by decide +kernel
theorem dL_acts_1804 : decode cL_acts 1804 = .ok (.istore 16, 2) := by decide +kernel
theorem dL_acts_1806 : decode cL_acts 1806 = .ok (.iconst 0, 1) := by decide +kernel
theorem dL_acts_1807 : decode cL_acts 1807 = .ok (.istore 17, 2) := by decide +kernel
theorem dL_acts_1809 : decode cL_acts 1809 = .ok (.iload 17, 2) := by decide +kernel
theorem dL_acts_1811 : decode cL_acts 1811 = .ok (.iload 15, 2) := by decide +kernel
theorem dL_acts_1813 : decode cL_acts 1813 = .ok (.if_icmp .ge 28, 3) := by decide +kernel
theorem dL_acts_1816 : decode cL_acts 1816 = .ok (.iload 16, 2) := by decide +kernel
theorem dL_acts_1818 : decode cL_acts 1818 = .ok (.aload_n 1, 1) := by decide +kernel
theorem dL_acts_1819 : decode cL_acts 1819 = .ok (.aload_n 2, 1) := by decide +kernel
theorem dL_acts_1820 : decode cL_acts 1820 = .ok (.aload_n 3, 1) := by decide +kernel
theorem dL_acts_1821 : decode cL_acts 1821 = .ok (.aload 4, 2) := by decide +kernel
theorem dL_acts_1823 : decode cL_acts 1823 = .ok (.aload 5, 2) := by decide +kernel
theorem dL_acts_1825 : decode cL_acts 1825 = .ok (.aload 6, 2) := by decide +kernel
theorem dL_acts_1827 : decode cL_acts 1827 = .ok (.aload 7, 2) := by decide +kernel
theorem dL_acts_1829 : decode cL_acts 1829 = .ok (.invokestatic 88, 3) := by decide +kernel
theorem dL_acts_1832 : decode cL_acts 1832 = .ok (.iadd, 1) := by decide +kernel
theorem dL_acts_1833 : decode cL_acts 1833 = .ok (.istore 16, 2) := by decide +kernel
theorem dL_acts_1835 : decode cL_acts 1835 = .ok (.iinc 17 1, 3) := by decide +kernel
theorem dL_acts_1838 : decode cL_acts 1838 = .ok (.goto (-29), 3) := by decide +kernel
theorem dL_acts_1841 : decode cL_acts 1841 = .ok (.aload_n 0, 1) := by decide +kernel
theorem dL_acts_1842 : decode cL_acts 1842 = .ok (.iload 15, 2) := by decide +kernel
theorem dL_acts_1844 : decode cL_acts 1844 = .ok (.invokestatic 92, 3) := by decide +kernel
theorem dL_acts_1847 : decode cL_acts 1847 = .ok (.iload 16, 2) := by decide +kernel
theorem dL_acts_1849 : decode cL_acts 1849 = .ok (.if_icmp .ne 7, 3) := by decide +kernel
theorem dL_acts_1852 : decode cL_acts 1852 = .ok (.iconst 1, 1) := by decide +kernel
theorem dL_acts_1853 : decode cL_acts 1853 = .ok (.goto 4, 3) := by decide +kernel
theorem dL_acts_1856 : decode cL_acts 1856 = .ok (.iconst 0, 1) := by decide +kernel
theorem dL_acts_1857 : decode cL_acts 1857 = .ok (.ireturn, 1) := by decide +kernel
theorem dL_begins_0 : decode cL_begins 0 = .ok (.aload_n 0, 1) := by decide +kernel
theorem dL_begins_1 : decode cL_begins 1 = .ok (.iload_n 1, 1) := by decide +kernel
theorem dL_begins_2 : decode cL_begins 2 = .ok (.invokevirtual 95, 3) := by decide +kernel
theorem dL_begins_5 : decode cL_begins 5 = .ok (.ireturn, 1) := by decide +kernel
theorem dL_begins_6 : decode cL_begins 6 = .ok (.astore_n 2, 1) := by decide +kernel
theorem dL_begins_7 : decode cL_begins 7 = .ok (.ldc 51, 2) := by decide +kernel
theorem dL_begins_9 : decode cL_begins 9 = .ok (.ireturn, 1) := by decide +kernel
theorem dL_passages_0 : decode cL_passages 0 = .ok (.aload_n 0, 1) := by decide +kernel
theorem dL_passages_1 : decode cL_passages 1 = .ok (.iload_n 1, 1) := by decide +kernel
theorem dL_passages_2 : decode cL_passages 2 = .ok (.iload_n 2, 1) := by decide +kernel
theorem dL_passages_3 : decode cL_passages 3 = .ok (.iload_n 3, 1) := by decide +kernel
theorem dL_passages_4 : decode cL_passages 4 = .ok (.invokevirtual 103, 3) := by decide +kernel
theorem dL_passages_7 : decode cL_passages 7 = .ok (.ireturn, 1) := by decide +kernel
theorem dL_passages_8 : decode cL_passages 8 = .ok (.astore 4, 2) := by decide +kernel
theorem dL_passages_10 : decode cL_passages 10 = .ok (.ldc 68, 2) := by decide +kernel
theorem dL_passages_12 : decode cL_passages 12 = .ok (.ireturn, 1) := by decide +kernel
theorem dL_passages_13 : decode cL_passages 13 = .ok (.astore 4, 2) := by decide +kernel
theorem dL_passages_15 : decode cL_passages 15 = .ok (.ldc 51, 2) := by decide +kernel
theorem dL_passages_17 : decode cL_passages 17 = .ok (.ireturn, 1) := by decide +kernel
theorem dL_passages_18 : decode cL_passages 18 = .ok (.astore 4, 2) := by decide +kernel
theorem dL_passages_20 : decode cL_passages 20 = .ok (.ldc 50, 2) := by decide +kernel
theorem dL_passages_22 : decode cL_passages 22 = .ok (.ireturn, 1) := by decide +kernel
theorem dL_ropes_0 : decode cL_ropes 0 = .ok (.aload_n 0, 1) := by decide +kernel
theorem dL_ropes_1 : decode cL_ropes 1 = .ok (.iload_n 1, 1) := by decide +kernel
theorem dL_ropes_2 : decode cL_ropes 2 = .ok (.invokevirtual 111, 3) := by decide +kernel
theorem dL_ropes_5 : decode cL_ropes 5 = .ok (.ireturn, 1) := by decide +kernel
theorem dL_ropes_6 : decode cL_ropes 6 = .ok (.astore_n 2, 1) := by decide +kernel
theorem dL_ropes_7 : decode cL_ropes 7 = .ok (.ldc 51, 2) := by decide +kernel
theorem dL_ropes_9 : decode cL_ropes 9 = .ok (.ireturn, 1) := by decide +kernel
theorem dL_ropes_10 : decode cL_ropes 10 = .ok (.astore_n 2, 1) := by decide +kernel
theorem dL_ropes_11 : decode cL_ropes 11 = .ok (.ldc 50, 2) := by decide +kernel
theorem dL_ropes_13 : decode cL_ropes 13 = .ok (.ireturn, 1) := by decide +kernel
theorem dL_helpers_0 : decode cL_helpers 0 = .ok (.aload_n 0, 1) := by decide +kernel
theorem dL_helpers_1 : decode cL_helpers 1 = .ok (.iload_n 1, 1) := by decide +kernel
theorem dL_helpers_2 : decode cL_helpers 2 = .ok (.invokevirtual 114, 3) := by decide +kernel
theorem dL_helpers_5 : decode cL_helpers 5 = .ok (.ireturn, 1) := by decide +kernel
theorem dL_helpers_6 : decode cL_helpers 6 = .ok (.astore_n 2, 1) := by decide +kernel
theorem dL_helpers_7 : decode cL_helpers 7 = .ok (.ldc 51, 2) := by decide +kernel
theorem dL_helpers_9 : decode cL_helpers 9 = .ok (.ireturn, 1) := by decide +kernel
theorem dL_helpers_10 : decode cL_helpers 10 = .ok (.astore_n 2, 1) := by decide +kernel
theorem dL_helpers_11 : decode cL_helpers 11 = .ok (.ldc 50, 2) := by decide +kernel
theorem dL_helpers_13 : decode cL_helpers 13 = .ok (.ireturn, 1) := by decide +kernel
theorem dL_silences_0 : decode cL_silences 0 = .ok (.aload_n 0, 1) := by decide +kernel
theorem dL_silences_1 : decode cL_silences 1 = .ok (.iload_n 1, 1) := by decide +kernel
theorem dL_silences_2 : decode cL_silences 2 = .ok (.iload_n 2, 1) := by decide +kernel
theorem dL_silences_3 : decode cL_silences 3 = .ok (.invokevirtual 117, 3) := by decide +kernel
theorem dL_silences_6 : decode cL_silences 6 = .ok (.ireturn, 1) := by decide +kernel
theorem dL_silences_7 : decode cL_silences 7 = .ok (.astore_n 3, 1) := by decide +kernel
theorem dL_silences_8 : decode cL_silences 8 = .ok (.ldc 51, 2) := by decide +kernel
theorem dL_silences_10 : decode cL_silences 10 = .ok (.ireturn, 1) := by decide +kernel
theorem dL_goes_0 : decode cL_goes 0 = .ok (.aload_n 0, 1) := by decide +kernel
theorem dL_goes_1 : decode cL_goes 1 = .ok (.iload_n 1, 1) := by decide +kernel
theorem dL_goes_2 : decode cL_goes 2 = .ok (.iload_n 2, 1) := by decide +kernel
theorem dL_goes_3 : decode cL_goes 3 = .ok (.invokevirtual 120, 3) := by decide +kernel
theorem dL_goes_6 : decode cL_goes 6 = .ok (.ireturn, 1) := by decide +kernel
theorem dL_goes_7 : decode cL_goes 7 = .ok (.astore_n 3, 1) := by decide +kernel
theorem dL_goes_8 : decode cL_goes 8 = .ok (.ldc 68, 2) := by decide +kernel
theorem dL_goes_10 : decode cL_goes 10 = .ok (.ireturn, 1) := by decide +kernel
theorem dL_goes_11 : decode cL_goes 11 = .ok (.astore_n 3, 1) := by decide +kernel
theorem dL_goes_12 : decode cL_goes 12 = .ok (.ldc 50, 2) := by decide +kernel
theorem dL_goes_14 : decode cL_goes 14 = .ok (.ireturn, 1) := by decide +kernel
theorem dL_takes_0 : decode cL_takes 0 = .ok (.aload_n 0, 1) := by decide +kernel
theorem dL_takes_1 : decode cL_takes 1 = .ok (.iload_n 1, 1) := by decide +kernel
theorem dL_takes_2 : decode cL_takes 2 = .ok (.iload_n 2, 1) := by decide +kernel
theorem dL_takes_3 : decode cL_takes 3 = .ok (.invokevirtual 123, 3) := by decide +kernel
theorem dL_takes_6 : decode cL_takes 6 = .ok (.ireturn, 1) := by decide +kernel
theorem dL_takes_7 : decode cL_takes 7 = .ok (.astore_n 3, 1) := by decide +kernel
theorem dL_takes_8 : decode cL_takes 8 = .ok (.ldc 68, 2) := by decide +kernel
theorem dL_takes_10 : decode cL_takes 10 = .ok (.ireturn, 1) := by decide +kernel
theorem dL_takes_11 : decode cL_takes 11 = .ok (.astore_n 3, 1) := by decide +kernel
theorem dL_takes_12 : decode cL_takes 12 = .ok (.ldc 50, 2) := by decide +kernel
theorem dL_takes_14 : decode cL_takes 14 = .ok (.ireturn, 1) := by decide +kernel
theorem dL_lays_0 : decode cL_lays 0 = .ok (.aload_n 0, 1) := by decide +kernel
theorem dL_lays_1 : decode cL_lays 1 = .ok (.iload_n 1, 1) := by decide +kernel
theorem dL_lays_2 : decode cL_lays 2 = .ok (.invokevirtual 126, 3) := by decide +kernel
theorem dL_lays_5 : decode cL_lays 5 = .ok (.ireturn, 1) := by decide +kernel
theorem dL_lays_6 : decode cL_lays 6 = .ok (.astore_n 2, 1) := by decide +kernel
theorem dL_lays_7 : decode cL_lays 7 = .ok (.ldc 68, 2) := by decide +kernel
theorem dL_lays_9 : decode cL_lays 9 = .ok (.ireturn, 1) := by decide +kernel
theorem dL_lays_10 : decode cL_lays 10 = .ok (.astore_n 2, 1) := by decide +kernel
theorem dL_lays_11 : decode cL_lays 11 = .ok (.ldc 50, 2) := by decide +kernel
theorem dL_lays_13 : decode cL_lays 13 = .ok (.ireturn, 1) := by decide +kernel
theorem dL_rigs_0 : decode cL_rigs 0 = .ok (.aload_n 0, 1) := by decide +kernel
theorem dL_rigs_1 : decode cL_rigs 1 = .ok (.iload_n 1, 1) := by decide +kernel
theorem dL_rigs_2 : decode cL_rigs 2 = .ok (.invokevirtual 129, 3) := by decide +kernel
theorem dL_rigs_5 : decode cL_rigs 5 = .ok (.ireturn, 1) := by decide +kernel
theorem dL_rigs_6 : decode cL_rigs 6 = .ok (.astore_n 2, 1) := by decide +kernel
theorem dL_rigs_7 : decode cL_rigs 7 = .ok (.ldc 68, 2) := by decide +kernel
theorem dL_rigs_9 : decode cL_rigs 9 = .ok (.ireturn, 1) := by decide +kernel
theorem dL_rigs_10 : decode cL_rigs 10 = .ok (.astore_n 2, 1) := by decide +kernel
theorem dL_rigs_11 : decode cL_rigs 11 = .ok (.ldc 50, 2) := by decide +kernel
theorem dL_rigs_13 : decode cL_rigs 13 = .ok (.ireturn, 1) := by decide +kernel
theorem dL_offs_0 : decode cL_offs 0 = .ok (.aload_n 0, 1) := by decide +kernel
theorem dL_offs_1 : decode cL_offs 1 = .ok (.iload_n 1, 1) := by decide +kernel
theorem dL_offs_2 : decode cL_offs 2 = .ok (.invokevirtual 132, 3) := by decide +kernel
theorem dL_offs_5 : decode cL_offs 5 = .ok (.ireturn, 1) := by decide +kernel
theorem dL_offs_6 : decode cL_offs 6 = .ok (.astore_n 2, 1) := by decide +kernel
theorem dL_offs_7 : decode cL_offs 7 = .ok (.ldc 68, 2) := by decide +kernel
theorem dL_offs_9 : decode cL_offs 9 = .ok (.ireturn, 1) := by decide +kernel
theorem dL_offs_10 : decode cL_offs 10 = .ok (.astore_n 2, 1) := by decide +kernel
theorem dL_offs_11 : decode cL_offs 11 = .ok (.ldc 50, 2) := by decide +kernel
theorem dL_offs_13 : decode cL_offs 13 = .ok (.ireturn, 1) := by decide +kernel
theorem dL_carries_0 : decode cL_carries 0 = .ok (.aload_n 0, 1) := by decide +kernel
theorem dL_carries_1 : decode cL_carries 1 = .ok (.iload_n 1, 1) := by decide +kernel
theorem dL_carries_2 : decode cL_carries 2 = .ok (.invokevirtual 135, 3) := by decide +kernel
theorem dL_carries_5 : decode cL_carries 5 = .ok (.ireturn, 1) := by decide +kernel
theorem dL_carries_6 : decode cL_carries 6 = .ok (.astore_n 2, 1) := by decide +kernel
theorem dL_carries_7 : decode cL_carries 7 = .ok (.ldc 51, 2) := by decide +kernel
theorem dL_carries_9 : decode cL_carries 9 = .ok (.ireturn, 1) := by decide +kernel
theorem dL_carries_10 : decode cL_carries 10 = .ok (.astore_n 2, 1) := by decide +kernel
theorem dL_carries_11 : decode cL_carries 11 = .ok (.ldc 50, 2) := by decide +kernel
theorem dL_carries_13 : decode cL_carries 13 = .ok (.ireturn, 1) := by decide +kernel
theorem dL_sends_0 : decode cL_sends 0 = .ok (.aload_n 0, 1) := by decide +kernel
theorem dL_sends_1 : decode cL_sends 1 = .ok (.iload_n 1, 1) := by decide +kernel
theorem dL_sends_2 : decode cL_sends 2 = .ok (.invokevirtual 138, 3) := by decide +kernel
theorem dL_sends_5 : decode cL_sends 5 = .ok (.ireturn, 1) := by decide +kernel
theorem dL_sends_6 : decode cL_sends 6 = .ok (.astore_n 2, 1) := by decide +kernel
theorem dL_sends_7 : decode cL_sends 7 = .ok (.ldc 68, 2) := by decide +kernel
theorem dL_sends_9 : decode cL_sends 9 = .ok (.ireturn, 1) := by decide +kernel
theorem dL_sends_10 : decode cL_sends 10 = .ok (.astore_n 2, 1) := by decide +kernel
theorem dL_sends_11 : decode cL_sends 11 = .ok (.ldc 50, 2) := by decide +kernel
theorem dL_sends_13 : decode cL_sends 13 = .ok (.ireturn, 1) := by decide +kernel
theorem dL_passes_0 : decode cL_passes 0 = .ok (.aload_n 0, 1) := by decide +kernel
theorem dL_passes_1 : decode cL_passes 1 = .ok (.iload_n 1, 1) := by decide +kernel
theorem dL_passes_2 : decode cL_passes 2 = .ok (.invokevirtual 141, 3) := by decide +kernel
theorem dL_passes_5 : decode cL_passes 5 = .ok (.ireturn, 1) := by decide +kernel
theorem dL_passes_6 : decode cL_passes 6 = .ok (.astore_n 2, 1) := by decide +kernel
theorem dL_passes_7 : decode cL_passes 7 = .ok (.ldc 51, 2) := by decide +kernel
theorem dL_passes_9 : decode cL_passes 9 = .ok (.ireturn, 1) := by decide +kernel
theorem dL_passes_10 : decode cL_passes 10 = .ok (.astore_n 2, 1) := by decide +kernel
theorem dL_passes_11 : decode cL_passes 11 = .ok (.ldc 50, 2) := by decide +kernel
theorem dL_passes_13 : decode cL_passes 13 = .ok (.ireturn, 1) := by decide +kernel
theorem dL_passageOf_0 : decode cL_passageOf 0 = .ok (.aload_n 0, 1) := by decide +kernel
theorem dL_passageOf_1 : decode cL_passageOf 1 = .ok (.iload_n 1, 1) := by decide +kernel
theorem dL_passageOf_2 : decode cL_passageOf 2 = .ok (.iload_n 2, 1) := by decide +kernel
theorem dL_passageOf_3 : decode cL_passageOf 3 = .ok (.invokevirtual 144, 3) := by decide +kernel
theorem dL_passageOf_6 : decode cL_passageOf 6 = .ok (.ireturn, 1) := by decide +kernel
theorem dL_passageOf_7 : decode cL_passageOf 7 = .ok (.astore_n 3, 1) := by decide +kernel
theorem dL_passageOf_8 : decode cL_passageOf 8 = .ok (.ldc 68, 2) := by decide +kernel
theorem dL_passageOf_10 : decode cL_passageOf 10 = .ok (.ireturn, 1) := by decide +kernel
theorem dL_passageOf_11 : decode cL_passageOf 11 = .ok (.astore_n 3, 1) := by decide +kernel
theorem dL_passageOf_12 : decode cL_passageOf 12 = .ok (.ldc 51, 2) := by decide +kernel
theorem dL_passageOf_14 : decode cL_passageOf 14 = .ok (.ireturn, 1) := by decide +kernel
theorem dL_ropeOf_0 : decode cL_ropeOf 0 = .ok (.aload_n 0, 1) := by decide +kernel
theorem dL_ropeOf_1 : decode cL_ropeOf 1 = .ok (.iload_n 1, 1) := by decide +kernel
theorem dL_ropeOf_2 : decode cL_ropeOf 2 = .ok (.iload_n 2, 1) := by decide +kernel
theorem dL_ropeOf_3 : decode cL_ropeOf 3 = .ok (.invokevirtual 147, 3) := by decide +kernel
theorem dL_ropeOf_6 : decode cL_ropeOf 6 = .ok (.ireturn, 1) := by decide +kernel
theorem dL_ropeOf_7 : decode cL_ropeOf 7 = .ok (.astore_n 3, 1) := by decide +kernel
theorem dL_ropeOf_8 : decode cL_ropeOf 8 = .ok (.ldc 68, 2) := by decide +kernel
theorem dL_ropeOf_10 : decode cL_ropeOf 10 = .ok (.ireturn, 1) := by decide +kernel
theorem dL_ropeOf_11 : decode cL_ropeOf 11 = .ok (.astore_n 3, 1) := by decide +kernel
theorem dL_ropeOf_12 : decode cL_ropeOf 12 = .ok (.ldc 51, 2) := by decide +kernel
theorem dL_ropeOf_14 : decode cL_ropeOf 14 = .ok (.ireturn, 1) := by decide +kernel
theorem dL_helperOf_0 : decode cL_helperOf 0 = .ok (.aload_n 0, 1) := by decide +kernel
theorem dL_helperOf_1 : decode cL_helperOf 1 = .ok (.iload_n 1, 1) := by decide +kernel
theorem dL_helperOf_2 : decode cL_helperOf 2 = .ok (.iload_n 2, 1) := by decide +kernel
theorem dL_helperOf_3 : decode cL_helperOf 3 = .ok (.invokevirtual 150, 3) := by decide +kernel
theorem dL_helperOf_6 : decode cL_helperOf 6 = .ok (.ireturn, 1) := by decide +kernel
theorem dL_helperOf_7 : decode cL_helperOf 7 = .ok (.astore_n 3, 1) := by decide +kernel
theorem dL_helperOf_8 : decode cL_helperOf 8 = .ok (.ldc 68, 2) := by decide +kernel
theorem dL_helperOf_10 : decode cL_helperOf 10 = .ok (.ireturn, 1) := by decide +kernel
theorem dL_helperOf_11 : decode cL_helperOf 11 = .ok (.astore_n 3, 1) := by decide +kernel
theorem dL_helperOf_12 : decode cL_helperOf 12 = .ok (.ldc 51, 2) := by decide +kernel
theorem dL_helperOf_14 : decode cL_helperOf 14 = .ok (.ireturn, 1) := by decide +kernel
theorem dL_valueOf_0 : decode cL_valueOf 0 = .ok (.aload_n 0, 1) := by decide +kernel
theorem dL_valueOf_1 : decode cL_valueOf 1 = .ok (.iload_n 1, 1) := by decide +kernel
theorem dL_valueOf_2 : decode cL_valueOf 2 = .ok (.invokevirtual 153, 3) := by decide +kernel
theorem dL_valueOf_5 : decode cL_valueOf 5 = .ok (.ireturn, 1) := by decide +kernel
theorem dL_valueOf_6 : decode cL_valueOf 6 = .ok (.astore_n 2, 1) := by decide +kernel
theorem dL_valueOf_7 : decode cL_valueOf 7 = .ok (.ldc 51, 2) := by decide +kernel
theorem dL_valueOf_9 : decode cL_valueOf 9 = .ok (.ireturn, 1) := by decide +kernel
theorem dL_messageOf_0 : decode cL_messageOf 0 = .ok (.aload_n 0, 1) := by decide +kernel
theorem dL_messageOf_1 : decode cL_messageOf 1 = .ok (.iload_n 1, 1) := by decide +kernel
theorem dL_messageOf_2 : decode cL_messageOf 2 = .ok (.iload_n 2, 1) := by decide +kernel
theorem dL_messageOf_3 : decode cL_messageOf 3 = .ok (.invokevirtual 156, 3) := by decide +kernel
theorem dL_messageOf_6 : decode cL_messageOf 6 = .ok (.ireturn, 1) := by decide +kernel
theorem dL_messageOf_7 : decode cL_messageOf 7 = .ok (.astore_n 3, 1) := by decide +kernel
theorem dL_messageOf_8 : decode cL_messageOf 8 = .ok (.ldc 68, 2) := by decide +kernel
theorem dL_messageOf_10 : decode cL_messageOf 10 = .ok (.ireturn, 1) := by decide +kernel
theorem dL_messageOf_11 : decode cL_messageOf 11 = .ok (.astore_n 3, 1) := by decide +kernel
theorem dL_messageOf_12 : decode cL_messageOf 12 = .ok (.ldc 51, 2) := by decide +kernel
theorem dL_messageOf_14 : decode cL_messageOf 14 = .ok (.ireturn, 1) := by decide +kernel
theorem dL_carriedOf_0 : decode cL_carriedOf 0 = .ok (.aload_n 0, 1) := by decide +kernel
theorem dL_carriedOf_1 : decode cL_carriedOf 1 = .ok (.iload_n 1, 1) := by decide +kernel
theorem dL_carriedOf_2 : decode cL_carriedOf 2 = .ok (.iload_n 2, 1) := by decide +kernel
theorem dL_carriedOf_3 : decode cL_carriedOf 3 = .ok (.invokevirtual 159, 3) := by decide +kernel
theorem dL_carriedOf_6 : decode cL_carriedOf 6 = .ok (.ireturn, 1) := by decide +kernel
theorem dL_carriedOf_7 : decode cL_carriedOf 7 = .ok (.astore_n 3, 1) := by decide +kernel
theorem dL_carriedOf_8 : decode cL_carriedOf 8 = .ok (.ldc 68, 2) := by decide +kernel
theorem dL_carriedOf_10 : decode cL_carriedOf 10 = .ok (.ireturn, 1) := by decide +kernel
theorem dL_carriedOf_11 : decode cL_carriedOf 11 = .ok (.astore_n 3, 1) := by decide +kernel
theorem dL_carriedOf_12 : decode cL_carriedOf 12 = .ok (.ldc 51, 2) := by decide +kernel
theorem dL_carriedOf_14 : decode cL_carriedOf 14 = .ok (.ireturn, 1) := by decide +kernel
theorem dL_isSo_0 : decode cL_isSo 0 = .ok (.iconst 0, 1) := by decide +kernel
theorem dL_isSo_1 : decode cL_isSo 1 = .ok (.istore 9, 2) := by decide +kernel
theorem dL_isSo_3 : decode cL_isSo 3 = .ok (.iconst 0, 1) := by decide +kernel
theorem dL_isSo_4 : decode cL_isSo 4 = .ok (.istore 10, 2) := by decide +kernel
theorem dL_isSo_6 : decode cL_isSo 6 = .ok (.iconst 1, 1) := by decide +kernel
theorem dL_isSo_7 : decode cL_isSo 7 = .ok (.istore 11, 2) := by decide +kernel
theorem dL_isSo_9 : decode cL_isSo 9 = .ok (.iconst 0, 1) := by decide +kernel
theorem dL_isSo_10 : decode cL_isSo 10 = .ok (.istore 12, 2) := by decide +kernel
theorem dL_isSo_12 : decode cL_isSo 12 = .ok (.iload 12, 2) := by decide +kernel
theorem dL_isSo_14 : decode cL_isSo 14 = .ok (.bipush 14, 2) := by decide +kernel
theorem dL_isSo_16 : decode cL_isSo 16 = .ok (.if_icmp .ge 76, 3) := by decide +kernel
theorem dL_isSo_19 : decode cL_isSo 19 = .ok (.iload 11, 2) := by decide +kernel
theorem dL_isSo_21 : decode cL_isSo 21 = .ok (.ifCond .eq 62, 3) := by decide +kernel
theorem dL_isSo_24 : decode cL_isSo 24 = .ok (.iload 12, 2) := by decide +kernel
theorem dL_isSo_26 : decode cL_isSo 26 = .ok (.bipush 6, 2) := by decide +kernel
theorem dL_isSo_28 : decode cL_isSo 28 = .ok (.if_icmp .eq 51, 3) := by decide +kernel
theorem dL_isSo_31 : decode cL_isSo 31 = .ok (.iload 12, 2) := by decide +kernel
theorem dL_isSo_33 : decode cL_isSo 33 = .ok (.bipush 10, 2) := by decide +kernel
theorem dL_isSo_35 : decode cL_isSo 35 = .ok (.if_icmp .eq 44, 3) := by decide +kernel
theorem dL_isSo_38 : decode cL_isSo 38 = .ok (.aload_n 0, 1) := by decide +kernel
theorem dL_isSo_39 : decode cL_isSo 39 = .ok (.iload 12, 2) := by decide +kernel
theorem dL_isSo_41 : decode cL_isSo 41 = .ok (.invokestatic 162, 3) := by decide +kernel
theorem dL_isSo_44 : decode cL_isSo 44 = .ok (.aload_n 1, 1) := by decide +kernel
theorem dL_isSo_45 : decode cL_isSo 45 = .ok (.iload 12, 2) := by decide +kernel
theorem dL_isSo_47 : decode cL_isSo 47 = .ok (.bipush 6, 2) := by decide +kernel
theorem dL_isSo_49 : decode cL_isSo 49 = .ok (.if_icmp .ge 8, 3) := by decide +kernel
theorem dL_isSo_52 : decode cL_isSo 52 = .ok (.iload 12, 2) := by decide +kernel
theorem dL_isSo_54 : decode cL_isSo 54 = .ok (.goto 21, 3) := by decide +kernel
theorem dL_isSo_57 : decode cL_isSo 57 = .ok (.iload 12, 2) := by decide +kernel
theorem dL_isSo_59 : decode cL_isSo 59 = .ok (.bipush 10, 2) := by decide +kernel
theorem dL_isSo_61 : decode cL_isSo 61 = .ok (.if_icmp .ge 10, 3) := by decide +kernel
theorem dL_isSo_64 : decode cL_isSo 64 = .ok (.iload 12, 2) := by decide +kernel
theorem dL_isSo_66 : decode cL_isSo 66 = .ok (.iconst 1, 1) := by decide +kernel
theorem dL_isSo_67 : decode cL_isSo 67 = .ok (.isub, 1) := by decide +kernel
theorem dL_isSo_68 : decode cL_isSo 68 = .ok (.goto 7, 3) := by decide +kernel
theorem dL_isSo_71 : decode cL_isSo 71 = .ok (.iload 12, 2) := by decide +kernel
theorem dL_isSo_73 : decode cL_isSo 73 = .ok (.iconst 2, 1) := by decide +kernel
theorem dL_isSo_74 : decode cL_isSo 74 = .ok (.isub, 1) := by decide +kernel
theorem dL_isSo_75 : decode cL_isSo 75 = .ok (.iaload, 1) := by decide +kernel
theorem dL_isSo_76 : decode cL_isSo 76 = .ok (.if_icmp .ne 7, 3) := by decide +kernel
theorem dL_isSo_79 : decode cL_isSo 79 = .ok (.iconst 1, 1) := by decide +kernel
theorem dL_isSo_80 : decode cL_isSo 80 = .ok (.goto 4, 3) := by decide +kernel
theorem dL_isSo_83 : decode cL_isSo 83 = .ok (.iconst 0, 1) := by decide +kernel
theorem dL_isSo_84 : decode cL_isSo 84 = .ok (.istore 11, 2) := by decide +kernel
theorem dL_isSo_86 : decode cL_isSo 86 = .ok (.iinc 12 1, 3) := by decide +kernel
theorem dL_isSo_89 : decode cL_isSo 89 = .ok (.goto (-77), 3) := by decide +kernel
theorem dL_isSo_92 : decode cL_isSo 92 = .ok (.iconst 0, 1) := by decide +kernel
theorem dL_isSo_93 : decode cL_isSo 93 = .ok (.istore 12, 2) := by decide +kernel
theorem dL_isSo_95 : decode cL_isSo 95 = .ok (.iload 12, 2) := by decide +kernel
theorem dL_isSo_97 : decode cL_isSo 97 = .ok (.aload_n 1, 1) := by decide +kernel
theorem dL_isSo_98 : decode cL_isSo 98 = .ok (.iconst 0, 1) := by decide +kernel
theorem dL_isSo_99 : decode cL_isSo 99 = .ok (.iaload, 1) := by decide +kernel
theorem dL_isSo_100 : decode cL_isSo 100 = .ok (.if_icmp .ge 125, 3) := by decide +kernel
theorem dL_isSo_103 : decode cL_isSo 103 = .ok (.iload 11, 2) := by decide +kernel
theorem dL_isSo_105 : decode cL_isSo 105 = .ok (.ifCond .eq 120, 3) := by decide +kernel
theorem dL_isSo_108 : decode cL_isSo 108 = .ok (.iload 10, 2) := by decide +kernel
theorem dL_isSo_110 : decode cL_isSo 110 = .ok (.aload_n 2, 1) := by decide +kernel
theorem dL_isSo_111 : decode cL_isSo 111 = .ok (.iload 12, 2) := by decide +kernel
theorem dL_isSo_113 : decode cL_isSo 113 = .ok (.iaload, 1) := by decide +kernel
theorem dL_isSo_114 : decode cL_isSo 114 = .ok (.ifCond .le 15, 3) := by decide +kernel
theorem dL_isSo_117 : decode cL_isSo 117 = .ok (.aload 4, 2) := by decide +kernel
theorem dL_isSo_119 : decode cL_isSo 119 = .ok (.iload 12, 2) := by decide +kernel
theorem dL_isSo_121 : decode cL_isSo 121 = .ok (.iaload, 1) := by decide +kernel
theorem dL_isSo_122 : decode cL_isSo 122 = .ok (.ifCond .ge 7, 3) := by decide +kernel
theorem dL_isSo_125 : decode cL_isSo 125 = .ok (.iconst 1, 1) := by decide +kernel
theorem dL_isSo_126 : decode cL_isSo 126 = .ok (.goto 4, 3) := by decide +kernel
theorem dL_isSo_129 : decode cL_isSo 129 = .ok (.iconst 0, 1) := by decide +kernel
theorem dL_isSo_130 : decode cL_isSo 130 = .ok (.iadd, 1) := by decide +kernel
theorem dL_isSo_131 : decode cL_isSo 131 = .ok (.istore 10, 2) := by decide +kernel
theorem dL_isSo_133 : decode cL_isSo 133 = .ok (.aload_n 0, 1) := by decide +kernel
theorem dL_isSo_134 : decode cL_isSo 134 = .ok (.iload 12, 2) := by decide +kernel
theorem dL_isSo_136 : decode cL_isSo 136 = .ok (.iconst 0, 1) := by decide +kernel
theorem dL_isSo_137 : decode cL_isSo 137 = .ok (.invokestatic 165, 3) := by decide +kernel
theorem dL_isSo_140 : decode cL_isSo 140 = .ok (.aload_n 2, 1) := by decide +kernel
theorem dL_isSo_141 : decode cL_isSo 141 = .ok (.iload 12, 2) := by decide +kernel
theorem dL_isSo_143 : decode cL_isSo 143 = .ok (.iaload, 1) := by decide +kernel
theorem dL_isSo_144 : decode cL_isSo 144 = .ok (.if_icmp .ne 72, 3) := by decide +kernel
theorem dL_isSo_147 : decode cL_isSo 147 = .ok (.aload_n 0, 1) := by decide +kernel
theorem dL_isSo_148 : decode cL_isSo 148 = .ok (.iload 12, 2) := by decide +kernel
theorem dL_isSo_150 : decode cL_isSo 150 = .ok (.iconst 1, 1) := by decide +kernel
theorem dL_isSo_151 : decode cL_isSo 151 = .ok (.invokestatic 165, 3) := by decide +kernel
theorem dL_isSo_154 : decode cL_isSo 154 = .ok (.aload_n 3, 1) := by decide +kernel
theorem dL_isSo_155 : decode cL_isSo 155 = .ok (.iload 12, 2) := by decide +kernel
theorem dL_isSo_157 : decode cL_isSo 157 = .ok (.iaload, 1) := by decide +kernel
theorem dL_isSo_158 : decode cL_isSo 158 = .ok (.if_icmp .ne 58, 3) := by decide +kernel
theorem dL_isSo_161 : decode cL_isSo 161 = .ok (.aload_n 0, 1) := by decide +kernel
theorem dL_isSo_162 : decode cL_isSo 162 = .ok (.iload 12, 2) := by decide +kernel
theorem dL_isSo_164 : decode cL_isSo 164 = .ok (.iconst 2, 1) := by decide +kernel
theorem dL_isSo_165 : decode cL_isSo 165 = .ok (.invokestatic 165, 3) := by decide +kernel
theorem dL_isSo_168 : decode cL_isSo 168 = .ok (.aload 4, 2) := by decide +kernel
theorem dL_isSo_170 : decode cL_isSo 170 = .ok (.iload 12, 2) := by decide +kernel
theorem dL_isSo_172 : decode cL_isSo 172 = .ok (.iaload, 1) := by decide +kernel
theorem dL_isSo_173 : decode cL_isSo 173 = .ok (.if_icmp .ne 43, 3) := by decide +kernel
theorem dL_isSo_176 : decode cL_isSo 176 = .ok (.aload_n 0, 1) := by decide +kernel
theorem dL_isSo_177 : decode cL_isSo 177 = .ok (.iload 12, 2) := by decide +kernel
theorem dL_isSo_179 : decode cL_isSo 179 = .ok (.iconst 3, 1) := by decide +kernel
theorem dL_isSo_180 : decode cL_isSo 180 = .ok (.invokestatic 165, 3) := by decide +kernel
theorem dL_isSo_183 : decode cL_isSo 183 = .ok (.aload_n 1, 1) := by decide +kernel
theorem dL_isSo_184 : decode cL_isSo 184 = .ok (.aload 6, 2) := by decide +kernel
theorem dL_isSo_186 : decode cL_isSo 186 = .ok (.iload 12, 2) := by decide +kernel
theorem dL_isSo_188 : decode cL_isSo 188 = .ok (.invokestatic 43, 3) := by decide +kernel
theorem dL_isSo_191 : decode cL_isSo 191 = .ok (.if_icmp .ne 25, 3) := by decide +kernel
theorem dL_isSo_194 : decode cL_isSo 194 = .ok (.aload_n 0, 1) := by decide +kernel
theorem dL_isSo_195 : decode cL_isSo 195 = .ok (.iload 12, 2) := by decide +kernel
theorem dL_isSo_197 : decode cL_isSo 197 = .ok (.iconst 4, 1) := by decide +kernel
theorem dL_isSo_198 : decode cL_isSo 198 = .ok (.invokestatic 165, 3) := by decide +kernel
theorem dL_isSo_201 : decode cL_isSo 201 = .ok (.aload_n 1, 1) := by decide +kernel
theorem dL_isSo_202 : decode cL_isSo 202 = .ok (.aload 6, 2) := by decide +kernel
theorem dL_isSo_204 : decode cL_isSo 204 = .ok (.iload 12, 2) := by decide +kernel
theorem dL_isSo_206 : decode cL_isSo 206 = .ok (.invokestatic 39, 3) := by decide +kernel
theorem dL_isSo_209 : decode cL_isSo 209 = .ok (.if_icmp .ne 7, 3) := by decide +kernel
theorem dL_isSo_212 : decode cL_isSo 212 = .ok (.iconst 1, 1) := by decide +kernel
theorem dL_isSo_213 : decode cL_isSo 213 = .ok (.goto 4, 3) := by decide +kernel
theorem dL_isSo_216 : decode cL_isSo 216 = .ok (.iconst 0, 1) := by decide +kernel
theorem dL_isSo_217 : decode cL_isSo 217 = .ok (.istore 11, 2) := by decide +kernel
theorem dL_isSo_219 : decode cL_isSo 219 = .ok (.iinc 12 1, 3) := by decide +kernel
theorem dL_isSo_222 : decode cL_isSo 222 = .ok (.goto (-127), 3) := by decide +kernel
theorem dL_isSo_225 : decode cL_isSo 225 = .ok (.iconst 0, 1) := by decide +kernel
theorem dL_isSo_226 : decode cL_isSo 226 = .ok (.istore 12, 2) := by decide +kernel
theorem dL_isSo_228 : decode cL_isSo 228 = .ok (.iload 12, 2) := by decide +kernel
theorem dL_isSo_230 : decode cL_isSo 230 = .ok (.iconst 3, 1) := by decide +kernel
theorem dL_isSo_231 : decode cL_isSo 231 = .ok (.aload_n 1, 1) := by decide +kernel
theorem dL_isSo_232 : decode cL_isSo 232 = .ok (.iconst 1, 1) := by decide +kernel
theorem dL_isSo_233 : decode cL_isSo 233 = .ok (.iaload, 1) := by decide +kernel
theorem dL_isSo_234 : decode cL_isSo 234 = .ok (.imul, 1) := by decide +kernel
theorem dL_isSo_235 : decode cL_isSo 235 = .ok (.if_icmp .ge 41, 3) := by decide +kernel
theorem dL_isSo_238 : decode cL_isSo 238 = .ok (.iload 11, 2) := by decide +kernel
theorem dL_isSo_240 : decode cL_isSo 240 = .ok (.ifCond .eq 36, 3) := by decide +kernel
theorem dL_isSo_243 : decode cL_isSo 243 = .ok (.aload_n 0, 1) := by decide +kernel
theorem dL_isSo_244 : decode cL_isSo 244 = .ok (.iload 12, 2) := by decide +kernel
theorem dL_isSo_246 : decode cL_isSo 246 = .ok (.iconst 3, 1) := by decide +kernel
theorem dL_isSo_247 : decode cL_isSo 247 = .ok (.idiv, 1) := by decide +kernel
theorem dL_isSo_248 : decode cL_isSo 248 = .ok (.iload 12, 2) := by decide +kernel
theorem dL_isSo_250 : decode cL_isSo 250 = .ok (.iconst 3, 1) := by decide +kernel
theorem dL_isSo_251 : decode cL_isSo 251 = .ok (.irem, 1) := by decide +kernel
theorem dL_isSo_252 : decode cL_isSo 252 = .ok (.invokestatic 168, 3) := by decide +kernel
theorem dL_isSo_255 : decode cL_isSo 255 = .ok (.aload 5, 2) := by decide +kernel
theorem dL_isSo_257 : decode cL_isSo 257 = .ok (.iload 12, 2) := by decide +kernel
theorem dL_isSo_259 : decode cL_isSo 259 = .ok (.iaload, 1) := by decide +kernel
theorem dL_isSo_260 : decode cL_isSo 260 = .ok (.if_icmp .ne 7, 3) := by decide +kernel
theorem dL_isSo_263 : decode cL_isSo 263 = .ok (.iconst 1, 1) := by decide +kernel
theorem dL_isSo_264 : decode cL_isSo 264 = .ok (.goto 4, 3) := by decide +kernel
theorem dL_isSo_267 : decode cL_isSo 267 = .ok (.iconst 0, 1) := by decide +kernel
theorem dL_isSo_268 : decode cL_isSo 268 = .ok (.istore 11, 2) := by decide +kernel
theorem dL_isSo_270 : decode cL_isSo 270 = .ok (.iinc 12 1, 3) := by decide +kernel
theorem dL_isSo_273 : decode cL_isSo 273 = .ok (.goto (-45), 3) := by decide +kernel
theorem dL_isSo_276 : decode cL_isSo 276 = .ok (.iconst 0, 1) := by decide +kernel
theorem dL_isSo_277 : decode cL_isSo 277 = .ok (.istore 12, 2) := by decide +kernel
theorem dL_isSo_279 : decode cL_isSo 279 = .ok (.iload 12, 2) := by decide +kernel
theorem dL_isSo_281 : decode cL_isSo 281 = .ok (.bipush 9, 2) := by decide +kernel
theorem dL_isSo_283 : decode cL_isSo 283 = .ok (.aload_n 1, 1) := by decide +kernel
theorem dL_isSo_284 : decode cL_isSo 284 = .ok (.iconst 2, 1) := by decide +kernel
theorem dL_isSo_285 : decode cL_isSo 285 = .ok (.iaload, 1) := by decide +kernel
theorem dL_isSo_286 : decode cL_isSo 286 = .ok (.imul, 1) := by decide +kernel
theorem dL_isSo_287 : decode cL_isSo 287 = .ok (.if_icmp .ge 43, 3) := by decide +kernel
theorem dL_isSo_290 : decode cL_isSo 290 = .ok (.iload 11, 2) := by decide +kernel
theorem dL_isSo_292 : decode cL_isSo 292 = .ok (.ifCond .eq 38, 3) := by decide +kernel
theorem dL_isSo_295 : decode cL_isSo 295 = .ok (.aload_n 0, 1) := by decide +kernel
theorem dL_isSo_296 : decode cL_isSo 296 = .ok (.iload 12, 2) := by decide +kernel
theorem dL_isSo_298 : decode cL_isSo 298 = .ok (.bipush 9, 2) := by decide +kernel
theorem dL_isSo_300 : decode cL_isSo 300 = .ok (.idiv, 1) := by decide +kernel
theorem dL_isSo_301 : decode cL_isSo 301 = .ok (.iload 12, 2) := by decide +kernel
theorem dL_isSo_303 : decode cL_isSo 303 = .ok (.bipush 9, 2) := by decide +kernel
theorem dL_isSo_305 : decode cL_isSo 305 = .ok (.irem, 1) := by decide +kernel
theorem dL_isSo_306 : decode cL_isSo 306 = .ok (.invokestatic 171, 3) := by decide +kernel
theorem dL_isSo_309 : decode cL_isSo 309 = .ok (.aload 6, 2) := by decide +kernel
theorem dL_isSo_311 : decode cL_isSo 311 = .ok (.iload 12, 2) := by decide +kernel
theorem dL_isSo_313 : decode cL_isSo 313 = .ok (.iaload, 1) := by decide +kernel
theorem dL_isSo_314 : decode cL_isSo 314 = .ok (.if_icmp .ne 7, 3) := by decide +kernel
theorem dL_isSo_317 : decode cL_isSo 317 = .ok (.iconst 1, 1) := by decide +kernel
theorem dL_isSo_318 : decode cL_isSo 318 = .ok (.goto 4, 3) := by decide +kernel
theorem dL_isSo_321 : decode cL_isSo 321 = .ok (.iconst 0, 1) := by decide +kernel
theorem dL_isSo_322 : decode cL_isSo 322 = .ok (.istore 11, 2) := by decide +kernel
theorem dL_isSo_324 : decode cL_isSo 324 = .ok (.iinc 12 1, 3) := by decide +kernel
theorem dL_isSo_327 : decode cL_isSo 327 = .ok (.goto (-48), 3) := by decide +kernel
theorem dL_isSo_330 : decode cL_isSo 330 = .ok (.iconst 0, 1) := by decide +kernel
theorem dL_isSo_331 : decode cL_isSo 331 = .ok (.istore 12, 2) := by decide +kernel
theorem dL_isSo_333 : decode cL_isSo 333 = .ok (.iload 12, 2) := by decide +kernel
theorem dL_isSo_335 : decode cL_isSo 335 = .ok (.aload_n 1, 1) := by decide +kernel
theorem dL_isSo_336 : decode cL_isSo 336 = .ok (.iconst 2, 1) := by decide +kernel
theorem dL_isSo_337 : decode cL_isSo 337 = .ok (.iaload, 1) := by decide +kernel
theorem dL_isSo_338 : decode cL_isSo 338 = .ok (.if_icmp .ge 46, 3) := by decide +kernel
theorem dL_isSo_341 : decode cL_isSo 341 = .ok (.iload 9, 2) := by decide +kernel
theorem dL_isSo_343 : decode cL_isSo 343 = .ok (.aload 6, 2) := by decide +kernel
theorem dL_isSo_345 : decode cL_isSo 345 = .ok (.bipush 9, 2) := by decide +kernel
theorem dL_isSo_347 : decode cL_isSo 347 = .ok (.iload 12, 2) := by decide +kernel
theorem dL_isSo_349 : decode cL_isSo 349 = .ok (.imul, 1) := by decide +kernel
theorem dL_isSo_350 : decode cL_isSo 350 = .ok (.iconst 1, 1) := by decide +kernel
theorem dL_isSo_351 : decode cL_isSo 351 = .ok (.iadd, 1) := by decide +kernel
theorem dL_isSo_352 : decode cL_isSo 352 = .ok (.iaload, 1) := by decide +kernel
theorem dL_isSo_353 : decode cL_isSo 353 = .ok (.ifCond .gt 17, 3) := by decide +kernel
theorem dL_isSo_356 : decode cL_isSo 356 = .ok (.aload 6, 2) := by decide +kernel
theorem dL_isSo_358 : decode cL_isSo 358 = .ok (.bipush 9, 2) := by decide +kernel
theorem dL_isSo_360 : decode cL_isSo 360 = .ok (.iload 12, 2) := by decide +kernel
theorem dL_isSo_362 : decode cL_isSo 362 = .ok (.imul, 1) := by decide +kernel
theorem dL_isSo_363 : decode cL_isSo 363 = .ok (.iconst 2, 1) := by decide +kernel
theorem dL_isSo_364 : decode cL_isSo 364 = .ok (.iadd, 1) := by decide +kernel
theorem dL_isSo_365 : decode cL_isSo 365 = .ok (.iaload, 1) := by decide +kernel
theorem dL_isSo_366 : decode cL_isSo 366 = .ok (.iconst 1, 1) := by decide +kernel
theorem dL_isSo_367 : decode cL_isSo 367 = .ok (.if_icmp .ne 7, 3) := by decide +kernel
theorem dL_isSo_370 : decode cL_isSo 370 = .ok (.iconst 1, 1) := by decide +kernel
theorem dL_isSo_371 : decode cL_isSo 371 = .ok (.goto 4, 3) := by decide +kernel
theorem dL_isSo_374 : decode cL_isSo 374 = .ok (.iconst 0, 1) := by decide +kernel
theorem dL_isSo_375 : decode cL_isSo 375 = .ok (.iadd, 1) := by decide +kernel
theorem dL_isSo_376 : decode cL_isSo 376 = .ok (.istore 9, 2) := by decide +kernel
theorem dL_isSo_378 : decode cL_isSo 378 = .ok (.iinc 12 1, 3) := by decide +kernel
theorem dL_isSo_381 : decode cL_isSo 381 = .ok (.goto (-48), 3) := by decide +kernel
theorem dL_isSo_384 : decode cL_isSo 384 = .ok (.iconst 0, 1) := by decide +kernel
theorem dL_isSo_385 : decode cL_isSo 385 = .ok (.istore 12, 2) := by decide +kernel
theorem dL_isSo_387 : decode cL_isSo 387 = .ok (.iload 12, 2) := by decide +kernel
theorem dL_isSo_389 : decode cL_isSo 389 = .ok (.iconst 3, 1) := by decide +kernel
theorem dL_isSo_390 : decode cL_isSo 390 = .ok (.aload_n 1, 1) := by decide +kernel
theorem dL_isSo_391 : decode cL_isSo 391 = .ok (.bipush 6, 2) := by decide +kernel
theorem dL_isSo_393 : decode cL_isSo 393 = .ok (.iaload, 1) := by decide +kernel
theorem dL_isSo_394 : decode cL_isSo 394 = .ok (.imul, 1) := by decide +kernel
theorem dL_isSo_395 : decode cL_isSo 395 = .ok (.if_icmp .ge 41, 3) := by decide +kernel
theorem dL_isSo_398 : decode cL_isSo 398 = .ok (.iload 11, 2) := by decide +kernel
theorem dL_isSo_400 : decode cL_isSo 400 = .ok (.ifCond .eq 36, 3) := by decide +kernel
theorem dL_isSo_403 : decode cL_isSo 403 = .ok (.aload_n 0, 1) := by decide +kernel
theorem dL_isSo_404 : decode cL_isSo 404 = .ok (.iload 12, 2) := by decide +kernel
theorem dL_isSo_406 : decode cL_isSo 406 = .ok (.iconst 3, 1) := by decide +kernel
theorem dL_isSo_407 : decode cL_isSo 407 = .ok (.idiv, 1) := by decide +kernel
theorem dL_isSo_408 : decode cL_isSo 408 = .ok (.iload 12, 2) := by decide +kernel
theorem dL_isSo_410 : decode cL_isSo 410 = .ok (.iconst 3, 1) := by decide +kernel
theorem dL_isSo_411 : decode cL_isSo 411 = .ok (.irem, 1) := by decide +kernel
theorem dL_isSo_412 : decode cL_isSo 412 = .ok (.invokestatic 174, 3) := by decide +kernel
theorem dL_isSo_415 : decode cL_isSo 415 = .ok (.aload 7, 2) := by decide +kernel
theorem dL_isSo_417 : decode cL_isSo 417 = .ok (.iload 12, 2) := by decide +kernel
theorem dL_isSo_419 : decode cL_isSo 419 = .ok (.iaload, 1) := by decide +kernel
theorem dL_isSo_420 : decode cL_isSo 420 = .ok (.if_icmp .ne 7, 3) := by decide +kernel
theorem dL_isSo_423 : decode cL_isSo 423 = .ok (.iconst 1, 1) := by decide +kernel
theorem dL_isSo_424 : decode cL_isSo 424 = .ok (.goto 4, 3) := by decide +kernel
theorem dL_isSo_427 : decode cL_isSo 427 = .ok (.iconst 0, 1) := by decide +kernel
theorem dL_isSo_428 : decode cL_isSo 428 = .ok (.istore 11, 2) := by decide +kernel
theorem dL_isSo_430 : decode cL_isSo 430 = .ok (.iinc 12 1, 3) := by decide +kernel
theorem dL_isSo_433 : decode cL_isSo 433 = .ok (.goto (-46), 3) := by decide +kernel
theorem dL_isSo_436 : decode cL_isSo 436 = .ok (.iconst 0, 1) := by decide +kernel
theorem dL_isSo_437 : decode cL_isSo 437 = .ok (.istore 12, 2) := by decide +kernel
theorem dL_isSo_439 : decode cL_isSo 439 = .ok (.iload 12, 2) := by decide +kernel
theorem dL_isSo_441 : decode cL_isSo 441 = .ok (.iconst 3, 1) := by decide +kernel
theorem dL_isSo_442 : decode cL_isSo 442 = .ok (.aload_n 1, 1) := by decide +kernel
theorem dL_isSo_443 : decode cL_isSo 443 = .ok (.bipush 12, 2) := by decide +kernel
theorem dL_isSo_445 : decode cL_isSo 445 = .ok (.iaload, 1) := by decide +kernel
theorem dL_isSo_446 : decode cL_isSo 446 = .ok (.imul, 1) := by decide +kernel
theorem dL_isSo_447 : decode cL_isSo 447 = .ok (.if_icmp .ge 41, 3) := by decide +kernel
theorem dL_isSo_450 : decode cL_isSo 450 = .ok (.iload 11, 2) := by decide +kernel
theorem dL_isSo_452 : decode cL_isSo 452 = .ok (.ifCond .eq 36, 3) := by decide +kernel
theorem dL_isSo_455 : decode cL_isSo 455 = .ok (.aload_n 0, 1) := by decide +kernel
theorem dL_isSo_456 : decode cL_isSo 456 = .ok (.iload 12, 2) := by decide +kernel
theorem dL_isSo_458 : decode cL_isSo 458 = .ok (.iconst 3, 1) := by decide +kernel
theorem dL_isSo_459 : decode cL_isSo 459 = .ok (.idiv, 1) := by decide +kernel
theorem dL_isSo_460 : decode cL_isSo 460 = .ok (.iload 12, 2) := by decide +kernel
theorem dL_isSo_462 : decode cL_isSo 462 = .ok (.iconst 3, 1) := by decide +kernel
theorem dL_isSo_463 : decode cL_isSo 463 = .ok (.irem, 1) := by decide +kernel
theorem dL_isSo_464 : decode cL_isSo 464 = .ok (.invokestatic 177, 3) := by decide +kernel
theorem dL_isSo_467 : decode cL_isSo 467 = .ok (.aload 8, 2) := by decide +kernel
theorem dL_isSo_469 : decode cL_isSo 469 = .ok (.iload 12, 2) := by decide +kernel
theorem dL_isSo_471 : decode cL_isSo 471 = .ok (.iaload, 1) := by decide +kernel
theorem dL_isSo_472 : decode cL_isSo 472 = .ok (.if_icmp .ne 7, 3) := by decide +kernel
theorem dL_isSo_475 : decode cL_isSo 475 = .ok (.iconst 1, 1) := by decide +kernel
theorem dL_isSo_476 : decode cL_isSo 476 = .ok (.goto 4, 3) := by decide +kernel
theorem dL_isSo_479 : decode cL_isSo 479 = .ok (.iconst 0, 1) := by decide +kernel
theorem dL_isSo_480 : decode cL_isSo 480 = .ok (.istore 11, 2) := by decide +kernel
theorem dL_isSo_482 : decode cL_isSo 482 = .ok (.iinc 12 1, 3) := by decide +kernel
theorem dL_isSo_485 : decode cL_isSo 485 = .ok (.goto (-46), 3) := by decide +kernel
theorem dL_isSo_488 : decode cL_isSo 488 = .ok (.iload 11, 2) := by decide +kernel
theorem dL_isSo_490 : decode cL_isSo 490 = .ok (.ifCond .eq 96, 3) := by decide +kernel
theorem dL_isSo_493 : decode cL_isSo 493 = .ok (.aload_n 0, 1) := by decide +kernel
theorem dL_isSo_494 : decode cL_isSo 494 = .ok (.bipush 6, 2) := by decide +kernel
theorem dL_isSo_496 : decode cL_isSo 496 = .ok (.invokestatic 162, 3) := by decide +kernel
theorem dL_isSo_499 : decode cL_isSo 499 = .ok (.iload 9, 2) := by decide +kernel
theorem dL_isSo_501 : decode cL_isSo 501 = .ok (.if_icmp .ne 85, 3) := by decide +kernel
theorem dL_isSo_504 : decode cL_isSo 504 = .ok (.aload_n 0, 1) := by decide +kernel
theorem dL_isSo_505 : decode cL_isSo 505 = .ok (.bipush 10, 2) := by decide +kernel
theorem dL_isSo_507 : decode cL_isSo 507 = .ok (.invokestatic 162, 3) := by decide +kernel
theorem dL_isSo_510 : decode cL_isSo 510 = .ok (.iload 10, 2) := by decide +kernel
theorem dL_isSo_512 : decode cL_isSo 512 = .ok (.if_icmp .ne 74, 3) := by decide +kernel
theorem dL_isSo_515 : decode cL_isSo 515 = .ok (.aload_n 0, 1) := by decide +kernel
theorem dL_isSo_516 : decode cL_isSo 516 = .ok (.aload_n 1, 1) := by decide +kernel
theorem dL_isSo_517 : decode cL_isSo 517 = .ok (.bipush 6, 2) := by decide +kernel
theorem dL_isSo_519 : decode cL_isSo 519 = .ok (.iaload, 1) := by decide +kernel
theorem dL_isSo_520 : decode cL_isSo 520 = .ok (.iconst 0, 1) := by decide +kernel
theorem dL_isSo_521 : decode cL_isSo 521 = .ok (.invokestatic 174, 3) := by decide +kernel
theorem dL_isSo_524 : decode cL_isSo 524 = .ok (.ldc 68, 2) := by decide +kernel
theorem dL_isSo_526 : decode cL_isSo 526 = .ok (.if_icmp .ne 60, 3) := by decide +kernel
theorem dL_isSo_529 : decode cL_isSo 529 = .ok (.aload_n 0, 1) := by decide +kernel
theorem dL_isSo_530 : decode cL_isSo 530 = .ok (.aload_n 1, 1) := by decide +kernel
theorem dL_isSo_531 : decode cL_isSo 531 = .ok (.bipush 12, 2) := by decide +kernel
theorem dL_isSo_533 : decode cL_isSo 533 = .ok (.iaload, 1) := by decide +kernel
theorem dL_isSo_534 : decode cL_isSo 534 = .ok (.iconst 0, 1) := by decide +kernel
theorem dL_isSo_535 : decode cL_isSo 535 = .ok (.invokestatic 177, 3) := by decide +kernel
theorem dL_isSo_538 : decode cL_isSo 538 = .ok (.ldc 68, 2) := by decide +kernel
theorem dL_isSo_540 : decode cL_isSo 540 = .ok (.if_icmp .ne 46, 3) := by decide +kernel
theorem dL_isSo_543 : decode cL_isSo 543 = .ok (.aload_n 0, 1) := by decide +kernel
theorem dL_isSo_544 : decode cL_isSo 544 = .ok (.aload_n 1, 1) := by decide +kernel
theorem dL_isSo_545 : decode cL_isSo 545 = .ok (.iconst 2, 1) := by decide +kernel
theorem dL_isSo_546 : decode cL_isSo 546 = .ok (.iaload, 1) := by decide +kernel
theorem dL_isSo_547 : decode cL_isSo 547 = .ok (.iconst 0, 1) := by decide +kernel
theorem dL_isSo_548 : decode cL_isSo 548 = .ok (.invokestatic 171, 3) := by decide +kernel
theorem dL_isSo_551 : decode cL_isSo 551 = .ok (.ldc 68, 2) := by decide +kernel
theorem dL_isSo_553 : decode cL_isSo 553 = .ok (.if_icmp .ne 33, 3) := by decide +kernel
theorem dL_isSo_556 : decode cL_isSo 556 = .ok (.aload_n 0, 1) := by decide +kernel
theorem dL_isSo_557 : decode cL_isSo 557 = .ok (.aload_n 1, 1) := by decide +kernel
theorem dL_isSo_558 : decode cL_isSo 558 = .ok (.iconst 1, 1) := by decide +kernel
theorem dL_isSo_559 : decode cL_isSo 559 = .ok (.iaload, 1) := by decide +kernel
theorem dL_isSo_560 : decode cL_isSo 560 = .ok (.iconst 0, 1) := by decide +kernel
theorem dL_isSo_561 : decode cL_isSo 561 = .ok (.invokestatic 168, 3) := by decide +kernel
theorem dL_isSo_564 : decode cL_isSo 564 = .ok (.ldc 68, 2) := by decide +kernel
theorem dL_isSo_566 : decode cL_isSo 566 = .ok (.if_icmp .ne 20, 3) := by decide +kernel
theorem dL_isSo_569 : decode cL_isSo 569 = .ok (.aload_n 0, 1) := by decide +kernel
theorem dL_isSo_570 : decode cL_isSo 570 = .ok (.aload_n 1, 1) := by decide +kernel
theorem dL_isSo_571 : decode cL_isSo 571 = .ok (.iconst 0, 1) := by decide +kernel
theorem dL_isSo_572 : decode cL_isSo 572 = .ok (.iaload, 1) := by decide +kernel
theorem dL_isSo_573 : decode cL_isSo 573 = .ok (.iconst 0, 1) := by decide +kernel
theorem dL_isSo_574 : decode cL_isSo 574 = .ok (.invokestatic 165, 3) := by decide +kernel
theorem dL_isSo_577 : decode cL_isSo 577 = .ok (.ldc 68, 2) := by decide +kernel
theorem dL_isSo_579 : decode cL_isSo 579 = .ok (.if_icmp .ne 7, 3) := by decide +kernel
theorem dL_isSo_582 : decode cL_isSo 582 = .ok (.iconst 1, 1) := by decide +kernel
theorem dL_isSo_583 : decode cL_isSo 583 = .ok (.goto 4, 3) := by decide +kernel
theorem dL_isSo_586 : decode cL_isSo 586 = .ok (.iconst 0, 1) := by decide +kernel
theorem dL_isSo_587 : decode cL_isSo 587 = .ok (.ireturn, 1) := by decide +kernel
theorem dL_law_0 : decode cL_law 0 = .ok (.new 96, 3) := by decide +kernel
theorem dL_law_3 : decode cL_law 3 = .ok (.dup, 1) := by decide +kernel
theorem dL_law_4 : decode cL_law 4 = .ok (.invokespecial 180, 3) := by decide +kernel
theorem dL_law_7 : decode cL_law 7 = .ok (.astore_n 1, 1) := by decide +kernel
theorem dL_law_8 : decode cL_law 8 = .ok (.bipush 13, 2) := by decide +kernel
theorem dL_law_10 : decode cL_law 10 = .ok (.newarray .int, 2) := by decide +kernel
theorem dL_law_12 : decode cL_law 12 = .ok (.astore_n 2, 1) := by decide +kernel
theorem dL_law_13 : decode cL_law 13 = .ok (.bipush 7, 2) := by decide +kernel
theorem dL_law_15 : decode cL_law 15 = .ok (.newarray .int, 2) := by decide +kernel
theorem dL_law_17 : decode cL_law 17 = .ok (.astore_n 3, 1) := by decide +kernel
theorem dL_law_18 : decode cL_law 18 = .ok (.bipush 7, 2) := by decide +kernel
theorem dL_law_20 : decode cL_law 20 = .ok (.newarray .int, 2) := by decide +kernel
theorem dL_law_22 : decode cL_law 22 = .ok (.astore 4, 2) := by decide +kernel
theorem dL_law_24 : decode cL_law 24 = .ok (.bipush 7, 2) := by decide +kernel
theorem dL_law_26 : decode cL_law 26 = .ok (.newarray .int, 2) := by decide +kernel
theorem dL_law_28 : decode cL_law 28 = .ok (.astore 5, 2) := by decide +kernel
theorem dL_law_30 : decode cL_law 30 = .ok (.bipush 24, 2) := by decide +kernel
theorem dL_law_32 : decode cL_law 32 = .ok (.newarray .int, 2) := by decide +kernel
theorem dL_law_34 : decode cL_law 34 = .ok (.astore 6, 2) := by decide +kernel
theorem dL_law_36 : decode cL_law 36 = .ok (.bipush 54, 2) := by decide +kernel
theorem dL_law_38 : decode cL_law 38 = .ok (.newarray .int, 2) := by decide +kernel
theorem dL_law_40 : decode cL_law 40 = .ok (.astore 7, 2) := by decide +kernel
theorem dL_law_42 : decode cL_law 42 = .ok (.bipush 33, 2) := by decide +kernel
theorem dL_law_44 : decode cL_law 44 = .ok (.newarray .int, 2) := by decide +kernel
theorem dL_law_46 : decode cL_law 46 = .ok (.astore 8, 2) := by decide +kernel
theorem dL_law_48 : decode cL_law 48 = .ok (.bipush 36, 2) := by decide +kernel
theorem dL_law_50 : decode cL_law 50 = .ok (.newarray .int, 2) := by decide +kernel
theorem dL_law_52 : decode cL_law 52 = .ok (.astore 9, 2) := by decide +kernel
theorem dL_law_54 : decode cL_law 54 = .ok (.aload_n 2, 1) := by decide +kernel
theorem dL_law_55 : decode cL_law 55 = .ok (.iconst 0, 1) := by decide +kernel
theorem dL_law_56 : decode cL_law 56 = .ok (.iconst 4, 1) := by decide +kernel
theorem dL_law_57 : decode cL_law 57 = .ok (.iastore, 1) := by decide +kernel
theorem dL_law_58 : decode cL_law 58 = .ok (.aload_n 2, 1) := by decide +kernel
theorem dL_law_59 : decode cL_law 59 = .ok (.iconst 4, 1) := by decide +kernel
theorem dL_law_60 : decode cL_law 60 = .ok (.iconst 4, 1) := by decide +kernel
theorem dL_law_61 : decode cL_law 61 = .ok (.iastore, 1) := by decide +kernel
theorem dL_law_62 : decode cL_law 62 = .ok (.iconst 0, 1) := by decide +kernel
theorem dL_law_63 : decode cL_law 63 = .ok (.istore 10, 2) := by decide +kernel
theorem dL_law_65 : decode cL_law 65 = .ok (.iload 10, 2) := by decide +kernel
theorem dL_law_67 : decode cL_law 67 = .ok (.bipush 7, 2) := by decide +kernel
theorem dL_law_69 : decode cL_law 69 = .ok (.if_icmp .ge 81, 3) := by decide +kernel
theorem dL_law_72 : decode cL_law 72 = .ok (.aload_n 3, 1) := by decide +kernel
theorem dL_law_73 : decode cL_law 73 = .ok (.iload 10, 2) := by decide +kernel
theorem dL_law_75 : decode cL_law 75 = .ok (.iload 10, 2) := by decide +kernel
theorem dL_law_77 : decode cL_law 77 = .ok (.iconst 1, 1) := by decide +kernel
theorem dL_law_78 : decode cL_law 78 = .ok (.if_icmp .ne 8, 3) := by decide +kernel
theorem dL_law_81 : decode cL_law 81 = .ok (.bipush 20, 2) := by decide +kernel
theorem dL_law_83 : decode cL_law 83 = .ok (.goto 15, 3) := by decide +kernel
theorem dL_law_86 : decode cL_law 86 = .ok (.iload 10, 2) := by decide +kernel
theorem dL_law_88 : decode cL_law 88 = .ok (.iconst 3, 1) := by decide +kernel
theorem dL_law_89 : decode cL_law 89 = .ok (.if_icmp .ne 8, 3) := by decide +kernel
theorem dL_law_92 : decode cL_law 92 = .ok (.bipush 35, 2) := by decide +kernel
theorem dL_law_94 : decode cL_law 94 = .ok (.goto 4, 3) := by decide +kernel
theorem dL_law_97 : decode cL_law 97 = .ok (.iconst 0, 1) := by decide +kernel
theorem dL_law_98 : decode cL_law 98 = .ok (.iastore, 1) := by decide +kernel
theorem dL_law_99 : decode cL_law 99 = .ok (.aload 4, 2) := by decide +kernel
theorem dL_law_101 : decode cL_law 101 = .ok (.iload 10, 2) := by decide +kernel
theorem dL_law_103 : decode cL_law 103 = .ok (.iload 10, 2) := by decide +kernel
theorem dL_law_105 : decode cL_law 105 = .ok (.iconst 1, 1) := by decide +kernel
theorem dL_law_106 : decode cL_law 106 = .ok (.if_icmp .ne 8, 3) := by decide +kernel
theorem dL_law_109 : decode cL_law 109 = .ok (.bipush 8, 2) := by decide +kernel
theorem dL_law_111 : decode cL_law 111 = .ok (.goto 26, 3) := by decide +kernel
theorem dL_law_114 : decode cL_law 114 = .ok (.iload 10, 2) := by decide +kernel
theorem dL_law_116 : decode cL_law 116 = .ok (.iconst 2, 1) := by decide +kernel
theorem dL_law_117 : decode cL_law 117 = .ok (.if_icmp .ne 8, 3) := by decide +kernel
theorem dL_law_120 : decode cL_law 120 = .ok (.bipush 6, 2) := by decide +kernel
theorem dL_law_122 : decode cL_law 122 = .ok (.goto 15, 3) := by decide +kernel
theorem dL_law_125 : decode cL_law 125 = .ok (.iload 10, 2) := by decide +kernel
theorem dL_law_127 : decode cL_law 127 = .ok (.iconst 3, 1) := by decide +kernel
theorem dL_law_128 : decode cL_law 128 = .ok (.if_icmp .ne 8, 3) := by decide +kernel
theorem dL_law_131 : decode cL_law 131 = .ok (.bipush 10, 2) := by decide +kernel
theorem dL_law_133 : decode cL_law 133 = .ok (.goto 4, 3) := by decide +kernel
theorem dL_law_136 : decode cL_law 136 = .ok (.iconst 5, 1) := by decide +kernel
theorem dL_law_137 : decode cL_law 137 = .ok (.iastore, 1) := by decide +kernel
theorem dL_law_138 : decode cL_law 138 = .ok (.aload 5, 2) := by decide +kernel
theorem dL_law_140 : decode cL_law 140 = .ok (.iload 10, 2) := by decide +kernel
theorem dL_law_142 : decode cL_law 142 = .ok (.iconst (-1), 1) := by decide +kernel
theorem dL_law_143 : decode cL_law 143 = .ok (.iastore, 1) := by decide +kernel
theorem dL_law_144 : decode cL_law 144 = .ok (.iinc 10 1, 3) := by decide +kernel
theorem dL_law_147 : decode cL_law 147 = .ok (.goto (-82), 3) := by decide +kernel
theorem dL_law_150 : decode cL_law 150 = .ok (.aload_n 1, 1) := by decide +kernel
theorem dL_law_151 : decode cL_law 151 = .ok (.aload_n 2, 1) := by decide +kernel
theorem dL_law_152 : decode cL_law 152 = .ok (.aload_n 3, 1) := by decide +kernel
theorem dL_law_153 : decode cL_law 153 = .ok (.aload 4, 2) := by decide +kernel
theorem dL_law_155 : decode cL_law 155 = .ok (.aload 5, 2) := by decide +kernel
theorem dL_law_157 : decode cL_law 157 = .ok (.aload 6, 2) := by decide +kernel
theorem dL_law_159 : decode cL_law 159 = .ok (.aload 7, 2) := by decide +kernel
theorem dL_law_161 : decode cL_law 161 = .ok (.aload 8, 2) := by decide +kernel
theorem dL_law_163 : decode cL_law 163 = .ok (.aload 9, 2) := by decide +kernel
theorem dL_law_165 : decode cL_law 165 = .ok (.invokestatic 181, 3) := by decide +kernel
theorem dL_law_168 : decode cL_law 168 = .ok (.istore 10, 2) := by decide +kernel
theorem dL_law_170 : decode cL_law 170 = .ok (.iconst 0, 1) := by decide +kernel
theorem dL_law_171 : decode cL_law 171 = .ok (.istore 11, 2) := by decide +kernel
theorem dL_law_173 : decode cL_law 173 = .ok (.iload 11, 2) := by decide +kernel
theorem dL_law_175 : decode cL_law 175 = .ok (.bipush 12, 2) := by decide +kernel
theorem dL_law_177 : decode cL_law 177 = .ok (.if_icmp .ge 100, 3) := by decide +kernel
theorem dL_law_180 : decode cL_law 180 = .ok (.iload 10, 2) := by decide +kernel
theorem dL_law_182 : decode cL_law 182 = .ok (.ifCond .eq 95, 3) := by decide +kernel
theorem dL_law_185 : decode cL_law 185 = .ok (.aload_n 1, 1) := by decide +kernel
theorem dL_law_186 : decode cL_law 186 = .ok (.aload_n 2, 1) := by decide +kernel
theorem dL_law_187 : decode cL_law 187 = .ok (.aload_n 3, 1) := by decide +kernel
theorem dL_law_188 : decode cL_law 188 = .ok (.aload 4, 2) := by decide +kernel
theorem dL_law_190 : decode cL_law 190 = .ok (.aload 5, 2) := by decide +kernel
theorem dL_law_192 : decode cL_law 192 = .ok (.aload 6, 2) := by decide +kernel
theorem dL_law_194 : decode cL_law 194 = .ok (.aload 7, 2) := by decide +kernel
theorem dL_law_196 : decode cL_law 196 = .ok (.aload 8, 2) := by decide +kernel
theorem dL_law_198 : decode cL_law 198 = .ok (.aload 9, 2) := by decide +kernel
theorem dL_law_200 : decode cL_law 200 = .ok (.aload_n 0, 1) := by decide +kernel
theorem dL_law_201 : decode cL_law 201 = .ok (.iconst 1, 1) := by decide +kernel
theorem dL_law_202 : decode cL_law 202 = .ok (.iload 11, 2) := by decide +kernel
theorem dL_law_204 : decode cL_law 204 = .ok (.iadd, 1) := by decide +kernel
theorem dL_law_205 : decode cL_law 205 = .ok (.invokestatic 185, 3) := by decide +kernel
theorem dL_law_208 : decode cL_law 208 = .ok (.ldc 8, 2) := by decide +kernel
theorem dL_law_210 : decode cL_law 210 = .ok (.iand, 1) := by decide +kernel
theorem dL_law_211 : decode cL_law 211 = .ok (.sipush 960, 3) := by decide +kernel
theorem dL_law_214 : decode cL_law 214 = .ok (.idiv, 1) := by decide +kernel
theorem dL_law_215 : decode cL_law 215 = .ok (.sipush 960, 3) := by decide +kernel
theorem dL_law_218 : decode cL_law 218 = .ok (.imul, 1) := by decide +kernel
theorem dL_law_219 : decode cL_law 219 = .ok (.iload 11, 2) := by decide +kernel
theorem dL_law_221 : decode cL_law 221 = .ok (.iconst 2, 1) := by decide +kernel
theorem dL_law_222 : decode cL_law 222 = .ok (.if_icmp .ge 7, 3) := by decide +kernel
theorem dL_law_225 : decode cL_law 225 = .ok (.iconst 3, 1) := by decide +kernel
theorem dL_law_226 : decode cL_law 226 = .ok (.goto 39, 3) := by decide +kernel
theorem dL_law_229 : decode cL_law 229 = .ok (.iload 11, 2) := by decide +kernel
theorem dL_law_231 : decode cL_law 231 = .ok (.bipush 6, 2) := by decide +kernel
theorem dL_law_233 : decode cL_law 233 = .ok (.if_icmp .ge 7, 3) := by decide +kernel
theorem dL_law_236 : decode cL_law 236 = .ok (.iconst 4, 1) := by decide +kernel
theorem dL_law_237 : decode cL_law 237 = .ok (.goto 28, 3) := by decide +kernel
theorem dL_law_240 : decode cL_law 240 = .ok (.iload 11, 2) := by decide +kernel
theorem dL_law_242 : decode cL_law 242 = .ok (.bipush 8, 2) := by decide +kernel
theorem dL_law_244 : decode cL_law 244 = .ok (.if_icmp .ge 7, 3) := by decide +kernel
theorem dL_law_247 : decode cL_law 247 = .ok (.iconst 1, 1) := by decide +kernel
theorem dL_law_248 : decode cL_law 248 = .ok (.goto 17, 3) := by decide +kernel
theorem dL_law_251 : decode cL_law 251 = .ok (.iload 11, 2) := by decide +kernel
theorem dL_law_253 : decode cL_law 253 = .ok (.bipush 10, 2) := by decide +kernel
theorem dL_law_255 : decode cL_law 255 = .ok (.if_icmp .ge 8, 3) := by decide +kernel
theorem dL_law_258 : decode cL_law 258 = .ok (.bipush 6, 2) := by decide +kernel
theorem dL_law_260 : decode cL_law 260 = .ok (.goto 5, 3) := by decide +kernel
theorem dL_law_263 : decode cL_law 263 = .ok (.bipush 13, 2) := by decide +kernel
theorem dL_law_265 : decode cL_law 265 = .ok (.iadd, 1) := by decide +kernel
theorem dL_law_266 : decode cL_law 266 = .ok (.invokestatic 188, 3) := by decide +kernel
theorem dL_law_269 : decode cL_law 269 = .ok (.istore 10, 2) := by decide +kernel
theorem dL_law_271 : decode cL_law 271 = .ok (.iinc 11 1, 3) := by decide +kernel
theorem dL_law_274 : decode cL_law 274 = .ok (.goto (-101), 3) := by decide +kernel
theorem dL_law_277 : decode cL_law 277 = .ok (.bipush 10, 2) := by decide +kernel
theorem dL_law_279 : decode cL_law 279 = .ok (.aload_n 0, 1) := by decide +kernel
theorem dL_law_280 : decode cL_law 280 = .ok (.iconst 0, 1) := by decide +kernel
theorem dL_law_281 : decode cL_law 281 = .ok (.invokestatic 185, 3) := by decide +kernel
theorem dL_law_284 : decode cL_law 284 = .ok (.bipush 50, 2) := by decide +kernel
theorem dL_law_286 : decode cL_law 286 = .ok (.invokestatic 31, 3) := by decide +kernel
theorem dL_law_289 : decode cL_law 289 = .ok (.iadd, 1) := by decide +kernel
theorem dL_law_290 : decode cL_law 290 = .ok (.istore 11, 2) := by decide +kernel
theorem dL_law_292 : decode cL_law 292 = .ok (.iconst 0, 1) := by decide +kernel
theorem dL_law_293 : decode cL_law 293 = .ok (.istore 12, 2) := by decide +kernel
theorem dL_law_295 : decode cL_law 295 = .ok (.iload 12, 2) := by decide +kernel
theorem dL_law_297 : decode cL_law 297 = .ok (.iload 11, 2) := by decide +kernel
theorem dL_law_299 : decode cL_law 299 = .ok (.if_icmp .ge 79, 3) := by decide +kernel
theorem dL_law_302 : decode cL_law 302 = .ok (.iload 10, 2) := by decide +kernel
theorem dL_law_304 : decode cL_law 304 = .ok (.ifCond .eq 74, 3) := by decide +kernel
theorem dL_law_307 : decode cL_law 307 = .ok (.aload_n 1, 1) := by decide +kernel
theorem dL_law_308 : decode cL_law 308 = .ok (.aload_n 2, 1) := by decide +kernel
theorem dL_law_309 : decode cL_law 309 = .ok (.aload_n 3, 1) := by decide +kernel
theorem dL_law_310 : decode cL_law 310 = .ok (.aload 4, 2) := by decide +kernel
theorem dL_law_312 : decode cL_law 312 = .ok (.aload 5, 2) := by decide +kernel
theorem dL_law_314 : decode cL_law 314 = .ok (.aload 6, 2) := by decide +kernel
theorem dL_law_316 : decode cL_law 316 = .ok (.aload 7, 2) := by decide +kernel
theorem dL_law_318 : decode cL_law 318 = .ok (.aload 8, 2) := by decide +kernel
theorem dL_law_320 : decode cL_law 320 = .ok (.aload 9, 2) := by decide +kernel
theorem dL_law_322 : decode cL_law 322 = .ok (.aload_n 0, 1) := by decide +kernel
theorem dL_law_323 : decode cL_law 323 = .ok (.bipush 13, 2) := by decide +kernel
theorem dL_law_325 : decode cL_law 325 = .ok (.iload 12, 2) := by decide +kernel
theorem dL_law_327 : decode cL_law 327 = .ok (.iadd, 1) := by decide +kernel
theorem dL_law_328 : decode cL_law 328 = .ok (.invokestatic 185, 3) := by decide +kernel
theorem dL_law_331 : decode cL_law 331 = .ok (.sipush 7919, 3) := by decide +kernel
theorem dL_law_334 : decode cL_law 334 = .ok (.iload 12, 2) := by decide +kernel
theorem dL_law_336 : decode cL_law 336 = .ok (.imul, 1) := by decide +kernel
theorem dL_law_337 : decode cL_law 337 = .ok (.ixor, 1) := by decide +kernel
theorem dL_law_338 : decode cL_law 338 = .ok (.invokestatic 188, 3) := by decide +kernel
theorem dL_law_341 : decode cL_law 341 = .ok (.ifCond .eq 28, 3) := by decide +kernel
theorem dL_law_344 : decode cL_law 344 = .ok (.aload_n 1, 1) := by decide +kernel
theorem dL_law_345 : decode cL_law 345 = .ok (.aload_n 2, 1) := by decide +kernel
theorem dL_law_346 : decode cL_law 346 = .ok (.aload_n 3, 1) := by decide +kernel
theorem dL_law_347 : decode cL_law 347 = .ok (.aload 4, 2) := by decide +kernel
theorem dL_law_349 : decode cL_law 349 = .ok (.aload 5, 2) := by decide +kernel
theorem dL_law_351 : decode cL_law 351 = .ok (.aload 6, 2) := by decide +kernel
theorem dL_law_353 : decode cL_law 353 = .ok (.aload 7, 2) := by decide +kernel
theorem dL_law_355 : decode cL_law 355 = .ok (.aload 8, 2) := by decide +kernel
theorem dL_law_357 : decode cL_law 357 = .ok (.aload 9, 2) := by decide +kernel
theorem dL_law_359 : decode cL_law 359 = .ok (.invokestatic 181, 3) := by decide +kernel
theorem dL_law_362 : decode cL_law 362 = .ok (.ifCond .eq 7, 3) := by decide +kernel
theorem dL_law_365 : decode cL_law 365 = .ok (.iconst 1, 1) := by decide +kernel
theorem dL_law_366 : decode cL_law 366 = .ok (.goto 4, 3) := by decide +kernel
theorem dL_law_369 : decode cL_law 369 = .ok (.iconst 0, 1) := by decide +kernel
theorem dL_law_370 : decode cL_law 370 = .ok (.istore 10, 2) := by decide +kernel
theorem dL_law_372 : decode cL_law 372 = .ok (.iinc 12 1, 3) := by decide +kernel
theorem dL_law_375 : decode cL_law 375 = .ok (.goto (-80), 3) := by decide +kernel
theorem dL_law_378 : decode cL_law 378 = .ok (.iload 10, 2) := by decide +kernel
theorem dL_law_380 : decode cL_law 380 = .ok (.ifCond .eq 18, 3) := by decide +kernel
theorem dL_law_383 : decode cL_law 383 = .ok (.aload_n 1, 1) := by decide +kernel
theorem dL_law_384 : decode cL_law 384 = .ok (.bipush 14, 2) := by decide +kernel
theorem dL_law_386 : decode cL_law 386 = .ok (.invokestatic 162, 3) := by decide +kernel
theorem dL_law_389 : decode cL_law 389 = .ok (.ldc 51, 2) := by decide +kernel
theorem dL_law_391 : decode cL_law 391 = .ok (.if_icmp .ne 7, 3) := by decide +kernel
theorem dL_law_394 : decode cL_law 394 = .ok (.iconst 1, 1) := by decide +kernel
theorem dL_law_395 : decode cL_law 395 = .ok (.goto 4, 3) := by decide +kernel
theorem dL_law_398 : decode cL_law 398 = .ok (.iconst 0, 1) := by decide +kernel
theorem dL_law_399 : decode cL_law 399 = .ok (.ireturn, 1) := by decide +kernel
