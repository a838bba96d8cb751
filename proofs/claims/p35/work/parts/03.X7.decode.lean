theorem dX7_init_0 : decode cX7_init 0 = .ok (.aload_n 0, 1) := by decide +kernel
theorem dX7_init_1 : decode cX7_init 1 = .ok (.invokespecial 1, 3) := by decide +kernel
theorem dX7_init_4 : decode cX7_init 4 = .ok (.aload_n 0, 1) := by decide +kernel
theorem dX7_init_5 : decode cX7_init 5 = .ok (.new 7, 3) := by decide +kernel
theorem dX7_init_8 : decode cX7_init 8 = .ok (.dup, 1) := by decide +kernel
theorem dX7_init_9 : decode cX7_init 9 = .ok (.invokespecial 9, 3) := by decide +kernel
theorem dX7_init_12 : decode cX7_init 12 = .ok (.putfield 10, 3) := by decide +kernel
theorem dX7_init_15 : decode cX7_init 15 = .ok (.aload_n 0, 1) := by decide +kernel
theorem dX7_init_16 : decode cX7_init 16 = .ok (.iconst 4, 1) := by decide +kernel
theorem dX7_init_17 : decode cX7_init 17 = .ok (.anewarray 7, 3) := by decide +kernel
theorem dX7_init_20 : decode cX7_init 20 = .ok (.putfield 16, 3) := by decide +kernel
theorem dX7_init_23 : decode cX7_init 23 = .ok (.aload_n 0, 1) := by decide +kernel
theorem dX7_init_24 : decode cX7_init 24 = .ok (.iconst 0, 1) := by decide +kernel
theorem dX7_init_25 : decode cX7_init 25 = .ok (.putfield 20, 3) := by decide +kernel
theorem dX7_init_28 : decode cX7_init 28 = .ok (.aload_n 0, 1) := by decide +kernel
theorem dX7_init_29 : decode cX7_init 29 = .ok (.new 24, 3) := by decide +kernel
theorem dX7_init_32 : decode cX7_init 32 = .ok (.dup, 1) := by decide +kernel
theorem dX7_init_33 : decode cX7_init 33 = .ok (.invokespecial 26, 3) := by decide +kernel
theorem dX7_init_36 : decode cX7_init 36 = .ok (.putfield 27, 3) := by decide +kernel
theorem dX7_init_39 : decode cX7_init 39 = .ok (.iconst 0, 1) := by decide +kernel
theorem dX7_init_40 : decode cX7_init 40 = .ok (.istore_n 1, 1) := by decide +kernel
theorem dX7_init_41 : decode cX7_init 41 = .ok (.iload_n 1, 1) := by decide +kernel
theorem dX7_init_42 : decode cX7_init 42 = .ok (.iconst 4, 1) := by decide +kernel
theorem dX7_init_43 : decode cX7_init 43 = .ok (.if_icmp .ge 22, 3) := by decide +kernel
theorem dX7_init_46 : decode cX7_init 46 = .ok (.aload_n 0, 1) := by decide +kernel
theorem dX7_init_47 : decode cX7_init 47 = .ok (.getfield 16, 3) := by decide +kernel
theorem dX7_init_50 : decode cX7_init 50 = .ok (.iload_n 1, 1) := by decide +kernel
theorem dX7_init_51 : decode cX7_init 51 = .ok (.new 7, 3) := by decide +kernel
theorem dX7_init_54 : decode cX7_init 54 = .ok (.dup, 1) := by decide +kernel
theorem dX7_init_55 : decode cX7_init 55 = .ok (.invokespecial 9, 3) := by decide +kernel
theorem dX7_init_58 : decode cX7_init 58 = .ok (.aastore, 1) := by decide +kernel
theorem dX7_init_59 : decode cX7_init 59 = .ok (.iinc 1 1, 3) := by decide +kernel
theorem dX7_init_62 : decode cX7_init 62 = .ok (.goto (-21), 3) := by decide +kernel
theorem dX7_init_65 : decode cX7_init 65 = .ok (.return_, 1) := by decide +kernel
theorem dX7_begin_0 : decode cX7_begin 0 = .ok (.iload_n 1, 1) := by decide +kernel
theorem dX7_begin_1 : decode cX7_begin 1 = .ok (.iconst 1, 1) := by decide +kernel
theorem dX7_begin_2 : decode cX7_begin 2 = .ok (.bipush 7, 2) := by decide +kernel
theorem dX7_begin_4 : decode cX7_begin 4 = .ok (.invokestatic 31, 3) := by decide +kernel
theorem dX7_begin_7 : decode cX7_begin 7 = .ok (.aload_n 0, 1) := by decide +kernel
theorem dX7_begin_8 : decode cX7_begin 8 = .ok (.getfield 10, 3) := by decide +kernel
theorem dX7_begin_11 : decode cX7_begin 11 = .ok (.getfield 35, 3) := by decide +kernel
theorem dX7_begin_14 : decode cX7_begin 14 = .ok (.istore_n 2, 1) := by decide +kernel
theorem dX7_begin_15 : decode cX7_begin 15 = .ok (.aload_n 0, 1) := by decide +kernel
theorem dX7_begin_16 : decode cX7_begin 16 = .ok (.invokevirtual 38, 3) := by decide +kernel
theorem dX7_begin_19 : decode cX7_begin 19 = .ok (.aload_n 0, 1) := by decide +kernel
theorem dX7_begin_20 : decode cX7_begin 20 = .ok (.getfield 10, 3) := by decide +kernel
theorem dX7_begin_23 : decode cX7_begin 23 = .ok (.iload_n 1, 1) := by decide +kernel
theorem dX7_begin_24 : decode cX7_begin 24 = .ok (.invokevirtual 41, 3) := by decide +kernel
theorem dX7_begin_27 : decode cX7_begin 27 = .ok (.iload_n 2, 1) := by decide +kernel
theorem dX7_begin_28 : decode cX7_begin 28 = .ok (.ireturn, 1) := by decide +kernel
theorem dX7_setPassage_0 : decode cX7_setPassage 0 = .ok (.iload_n 1, 1) := by decide +kernel
theorem dX7_setPassage_1 : decode cX7_setPassage 1 = .ok (.aload_n 0, 1) := by decide +kernel
theorem dX7_setPassage_2 : decode cX7_setPassage 2 = .ok (.getfield 10, 3) := by decide +kernel
theorem dX7_setPassage_5 : decode cX7_setPassage 5 = .ok (.getfield 45, 3) := by decide +kernel
theorem dX7_setPassage_8 : decode cX7_setPassage 8 = .ok (.getfield 49, 3) := by decide +kernel
theorem dX7_setPassage_11 : decode cX7_setPassage 11 = .ok (.invokestatic 54, 3) := by decide +kernel
theorem dX7_setPassage_14 : decode cX7_setPassage 14 = .ok (.iload_n 2, 1) := by decide +kernel
theorem dX7_setPassage_15 : decode cX7_setPassage 15 = .ok (.iconst 0, 1) := by decide +kernel
theorem dX7_setPassage_16 : decode cX7_setPassage 16 = .ok (.bipush 60, 2) := by decide +kernel
theorem dX7_setPassage_18 : decode cX7_setPassage 18 = .ok (.invokestatic 31, 3) := by decide +kernel
theorem dX7_setPassage_21 : decode cX7_setPassage 21 = .ok (.iload_n 3, 1) := by decide +kernel
theorem dX7_setPassage_22 : decode cX7_setPassage 22 = .ok (.iconst 1, 1) := by decide +kernel
theorem dX7_setPassage_23 : decode cX7_setPassage 23 = .ok (.bipush 30, 2) := by decide +kernel
theorem dX7_setPassage_25 : decode cX7_setPassage 25 = .ok (.invokestatic 31, 3) := by decide +kernel
theorem dX7_setPassage_28 : decode cX7_setPassage 28 = .ok (.aload_n 0, 1) := by decide +kernel
theorem dX7_setPassage_29 : decode cX7_setPassage 29 = .ok (.getfield 10, 3) := by decide +kernel
theorem dX7_setPassage_32 : decode cX7_setPassage 32 = .ok (.iload_n 1, 1) := by decide +kernel
theorem dX7_setPassage_33 : decode cX7_setPassage 33 = .ok (.invokevirtual 58, 3) := by decide +kernel
theorem dX7_setPassage_36 : decode cX7_setPassage 36 = .ok (.ifCond .ne 7, 3) := by decide +kernel
theorem dX7_setPassage_39 : decode cX7_setPassage 39 = .ok (.iconst 1, 1) := by decide +kernel
theorem dX7_setPassage_40 : decode cX7_setPassage 40 = .ok (.goto 4, 3) := by decide +kernel
theorem dX7_setPassage_43 : decode cX7_setPassage 43 = .ok (.iconst 0, 1) := by decide +kernel
theorem dX7_setPassage_44 : decode cX7_setPassage 44 = .ok (.invokestatic 62, 3) := by decide +kernel
theorem dX7_setPassage_47 : decode cX7_setPassage 47 = .ok (.aload_n 0, 1) := by decide +kernel
theorem dX7_setPassage_48 : decode cX7_setPassage 48 = .ok (.getfield 10, 3) := by decide +kernel
theorem dX7_setPassage_51 : decode cX7_setPassage 51 = .ok (.getfield 45, 3) := by decide +kernel
theorem dX7_setPassage_54 : decode cX7_setPassage 54 = .ok (.iload_n 1, 1) := by decide +kernel
theorem dX7_setPassage_55 : decode cX7_setPassage 55 = .ok (.invokevirtual 66, 3) := by decide +kernel
theorem dX7_setPassage_58 : decode cX7_setPassage 58 = .ok (.istore 4, 2) := by decide +kernel
theorem dX7_setPassage_60 : decode cX7_setPassage 60 = .ok (.aload_n 0, 1) := by decide +kernel
theorem dX7_setPassage_61 : decode cX7_setPassage 61 = .ok (.invokevirtual 38, 3) := by decide +kernel
theorem dX7_setPassage_64 : decode cX7_setPassage 64 = .ok (.aload_n 0, 1) := by decide +kernel
theorem dX7_setPassage_65 : decode cX7_setPassage 65 = .ok (.getfield 10, 3) := by decide +kernel
theorem dX7_setPassage_68 : decode cX7_setPassage 68 = .ok (.getfield 45, 3) := by decide +kernel
theorem dX7_setPassage_71 : decode cX7_setPassage 71 = .ok (.iload_n 1, 1) := by decide +kernel
theorem dX7_setPassage_72 : decode cX7_setPassage 72 = .ok (.iload_n 2, 1) := by decide +kernel
theorem dX7_setPassage_73 : decode cX7_setPassage 73 = .ok (.iload_n 3, 1) := by decide +kernel
theorem dX7_setPassage_74 : decode cX7_setPassage 74 = .ok (.invokevirtual 70, 3) := by decide +kernel
theorem dX7_setPassage_77 : decode cX7_setPassage 77 = .ok (.iload 4, 2) := by decide +kernel
theorem dX7_setPassage_79 : decode cX7_setPassage 79 = .ok (.ireturn, 1) := by decide +kernel
theorem dX7_addRope_0 : decode cX7_addRope 0 = .ok (.iload_n 1, 1) := by decide +kernel
theorem dX7_addRope_1 : decode cX7_addRope 1 = .ok (.bipush 10, 2) := by decide +kernel
theorem dX7_addRope_3 : decode cX7_addRope 3 = .ok (.bipush 80, 2) := by decide +kernel
theorem dX7_addRope_5 : decode cX7_addRope 5 = .ok (.invokestatic 31, 3) := by decide +kernel
theorem dX7_addRope_8 : decode cX7_addRope 8 = .ok (.aload_n 0, 1) := by decide +kernel
theorem dX7_addRope_9 : decode cX7_addRope 9 = .ok (.getfield 10, 3) := by decide +kernel
theorem dX7_addRope_12 : decode cX7_addRope 12 = .ok (.getfield 73, 3) := by decide +kernel
theorem dX7_addRope_15 : decode cX7_addRope 15 = .ok (.getfield 77, 3) := by decide +kernel
theorem dX7_addRope_18 : decode cX7_addRope 18 = .ok (.bipush 8, 2) := by decide +kernel
theorem dX7_addRope_20 : decode cX7_addRope 20 = .ok (.if_icmp .ge 7, 3) := by decide +kernel
theorem dX7_addRope_23 : decode cX7_addRope 23 = .ok (.iconst 1, 1) := by decide +kernel
theorem dX7_addRope_24 : decode cX7_addRope 24 = .ok (.goto 4, 3) := by decide +kernel
theorem dX7_addRope_27 : decode cX7_addRope 27 = .ok (.iconst 0, 1) := by decide +kernel
theorem dX7_addRope_28 : decode cX7_addRope 28 = .ok (.invokestatic 62, 3) := by decide +kernel
theorem dX7_addRope_31 : decode cX7_addRope 31 = .ok (.aload_n 0, 1) := by decide +kernel
theorem dX7_addRope_32 : decode cX7_addRope 32 = .ok (.invokevirtual 38, 3) := by decide +kernel
theorem dX7_addRope_35 : decode cX7_addRope 35 = .ok (.aload_n 0, 1) := by decide +kernel
theorem dX7_addRope_36 : decode cX7_addRope 36 = .ok (.getfield 10, 3) := by decide +kernel
theorem dX7_addRope_39 : decode cX7_addRope 39 = .ok (.getfield 73, 3) := by decide +kernel
theorem dX7_addRope_42 : decode cX7_addRope 42 = .ok (.iload_n 1, 1) := by decide +kernel
theorem dX7_addRope_43 : decode cX7_addRope 43 = .ok (.invokevirtual 80, 3) := by decide +kernel
theorem dX7_addRope_46 : decode cX7_addRope 46 = .ok (.ireturn, 1) := by decide +kernel
theorem dX7_addHelper_0 : decode cX7_addHelper 0 = .ok (.iload_n 1, 1) := by decide +kernel
theorem dX7_addHelper_1 : decode cX7_addHelper 1 = .ok (.bipush 30, 2) := by decide +kernel
theorem dX7_addHelper_3 : decode cX7_addHelper 3 = .ok (.sipush 600, 3) := by decide +kernel
theorem dX7_addHelper_6 : decode cX7_addHelper 6 = .ok (.invokestatic 31, 3) := by decide +kernel
theorem dX7_addHelper_9 : decode cX7_addHelper 9 = .ok (.aload_n 0, 1) := by decide +kernel
theorem dX7_addHelper_10 : decode cX7_addHelper 10 = .ok (.getfield 10, 3) := by decide +kernel
theorem dX7_addHelper_13 : decode cX7_addHelper 13 = .ok (.getfield 83, 3) := by decide +kernel
theorem dX7_addHelper_16 : decode cX7_addHelper 16 = .ok (.bipush 6, 2) := by decide +kernel
theorem dX7_addHelper_18 : decode cX7_addHelper 18 = .ok (.if_icmp .ge 7, 3) := by decide +kernel
theorem dX7_addHelper_21 : decode cX7_addHelper 21 = .ok (.iconst 1, 1) := by decide +kernel
theorem dX7_addHelper_22 : decode cX7_addHelper 22 = .ok (.goto 4, 3) := by decide +kernel
theorem dX7_addHelper_25 : decode cX7_addHelper 25 = .ok (.iconst 0, 1) := by decide +kernel
theorem dX7_addHelper_26 : decode cX7_addHelper 26 = .ok (.invokestatic 62, 3) := by decide +kernel
theorem dX7_addHelper_29 : decode cX7_addHelper 29 = .ok (.aload_n 0, 1) := by decide +kernel
theorem dX7_addHelper_30 : decode cX7_addHelper 30 = .ok (.invokevirtual 38, 3) := by decide +kernel
theorem dX7_addHelper_33 : decode cX7_addHelper 33 = .ok (.aload_n 0, 1) := by decide +kernel
theorem dX7_addHelper_34 : decode cX7_addHelper 34 = .ok (.getfield 10, 3) := by decide +kernel
theorem dX7_addHelper_37 : decode cX7_addHelper 37 = .ok (.iload_n 1, 1) := by decide +kernel
theorem dX7_addHelper_38 : decode cX7_addHelper 38 = .ok (.invokevirtual 86, 3) := by decide +kernel
theorem dX7_addHelper_41 : decode cX7_addHelper 41 = .ok (.ireturn, 1) := by decide +kernel
theorem dX7_setSilence_0 : decode cX7_setSilence 0 = .ok (.iload_n 1, 1) := by decide +kernel
theorem dX7_setSilence_1 : decode cX7_setSilence 1 = .ok (.iconst 0, 1) := by decide +kernel
theorem dX7_setSilence_2 : decode cX7_setSilence 2 = .ok (.ldc 87, 2) := by decide +kernel
theorem dX7_setSilence_4 : decode cX7_setSilence 4 = .ok (.invokestatic 31, 3) := by decide +kernel
theorem dX7_setSilence_7 : decode cX7_setSilence 7 = .ok (.iload_n 2, 1) := by decide +kernel
theorem dX7_setSilence_8 : decode cX7_setSilence 8 = .ok (.iload_n 1, 1) := by decide +kernel
theorem dX7_setSilence_9 : decode cX7_setSilence 9 = .ok (.ldc 87, 2) := by decide +kernel
theorem dX7_setSilence_11 : decode cX7_setSilence 11 = .ok (.invokestatic 31, 3) := by decide +kernel
theorem dX7_setSilence_14 : decode cX7_setSilence 14 = .ok (.aload_n 0, 1) := by decide +kernel
theorem dX7_setSilence_15 : decode cX7_setSilence 15 = .ok (.getfield 10, 3) := by decide +kernel
theorem dX7_setSilence_18 : decode cX7_setSilence 18 = .ok (.getfield 88, 3) := by decide +kernel
theorem dX7_setSilence_21 : decode cX7_setSilence 21 = .ok (.istore_n 3, 1) := by decide +kernel
theorem dX7_setSilence_22 : decode cX7_setSilence 22 = .ok (.aload_n 0, 1) := by decide +kernel
theorem dX7_setSilence_23 : decode cX7_setSilence 23 = .ok (.invokevirtual 38, 3) := by decide +kernel
theorem dX7_setSilence_26 : decode cX7_setSilence 26 = .ok (.aload_n 0, 1) := by decide +kernel
theorem dX7_setSilence_27 : decode cX7_setSilence 27 = .ok (.getfield 10, 3) := by decide +kernel
theorem dX7_setSilence_30 : decode cX7_setSilence 30 = .ok (.iload_n 1, 1) := by decide +kernel
theorem dX7_setSilence_31 : decode cX7_setSilence 31 = .ok (.putfield 91, 3) := by decide +kernel
theorem dX7_setSilence_34 : decode cX7_setSilence 34 = .ok (.aload_n 0, 1) := by decide +kernel
theorem dX7_setSilence_35 : decode cX7_setSilence 35 = .ok (.getfield 10, 3) := by decide +kernel
theorem dX7_setSilence_38 : decode cX7_setSilence 38 = .ok (.iload_n 2, 1) := by decide +kernel
theorem dX7_setSilence_39 : decode cX7_setSilence 39 = .ok (.putfield 88, 3) := by decide +kernel
theorem dX7_setSilence_42 : decode cX7_setSilence 42 = .ok (.iload_n 3, 1) := by decide +kernel
theorem dX7_setSilence_43 : decode cX7_setSilence 43 = .ok (.ireturn, 1) := by decide +kernel
theorem dX7_go_0 : decode cX7_go 0 = .ok (.iload_n 1, 1) := by decide +kernel
theorem dX7_go_1 : decode cX7_go 1 = .ok (.aload_n 0, 1) := by decide +kernel
theorem dX7_go_2 : decode cX7_go 2 = .ok (.getfield 10, 3) := by decide +kernel
theorem dX7_go_5 : decode cX7_go 5 = .ok (.getfield 83, 3) := by decide +kernel
theorem dX7_go_8 : decode cX7_go 8 = .ok (.invokestatic 54, 3) := by decide +kernel
theorem dX7_go_11 : decode cX7_go 11 = .ok (.aload_n 0, 1) := by decide +kernel
theorem dX7_go_12 : decode cX7_go 12 = .ok (.getfield 10, 3) := by decide +kernel
theorem dX7_go_15 : decode cX7_go 15 = .ok (.iload_n 1, 1) := by decide +kernel
theorem dX7_go_16 : decode cX7_go 16 = .ok (.iload_n 2, 1) := by decide +kernel
theorem dX7_go_17 : decode cX7_go 17 = .ok (.invokevirtual 94, 3) := by decide +kernel
theorem dX7_go_20 : decode cX7_go 20 = .ok (.invokestatic 62, 3) := by decide +kernel
theorem dX7_go_23 : decode cX7_go 23 = .ok (.aload_n 0, 1) := by decide +kernel
theorem dX7_go_24 : decode cX7_go 24 = .ok (.invokevirtual 38, 3) := by decide +kernel
theorem dX7_go_27 : decode cX7_go 27 = .ok (.aload_n 0, 1) := by decide +kernel
theorem dX7_go_28 : decode cX7_go 28 = .ok (.getfield 10, 3) := by decide +kernel
theorem dX7_go_31 : decode cX7_go 31 = .ok (.iload_n 1, 1) := by decide +kernel
theorem dX7_go_32 : decode cX7_go 32 = .ok (.iload_n 2, 1) := by decide +kernel
theorem dX7_go_33 : decode cX7_go 33 = .ok (.invokevirtual 98, 3) := by decide +kernel
theorem dX7_go_36 : decode cX7_go 36 = .ok (.ireturn, 1) := by decide +kernel
theorem dX7_take_0 : decode cX7_take 0 = .ok (.iload_n 1, 1) := by decide +kernel
theorem dX7_take_1 : decode cX7_take 1 = .ok (.aload_n 0, 1) := by decide +kernel
theorem dX7_take_2 : decode cX7_take 2 = .ok (.getfield 10, 3) := by decide +kernel
theorem dX7_take_5 : decode cX7_take 5 = .ok (.getfield 83, 3) := by decide +kernel
theorem dX7_take_8 : decode cX7_take 8 = .ok (.invokestatic 54, 3) := by decide +kernel
theorem dX7_take_11 : decode cX7_take 11 = .ok (.iload_n 2, 1) := by decide +kernel
theorem dX7_take_12 : decode cX7_take 12 = .ok (.aload_n 0, 1) := by decide +kernel
theorem dX7_take_13 : decode cX7_take 13 = .ok (.getfield 10, 3) := by decide +kernel
theorem dX7_take_16 : decode cX7_take 16 = .ok (.getfield 73, 3) := by decide +kernel
theorem dX7_take_19 : decode cX7_take 19 = .ok (.getfield 77, 3) := by decide +kernel
theorem dX7_take_22 : decode cX7_take 22 = .ok (.invokestatic 54, 3) := by decide +kernel
theorem dX7_take_25 : decode cX7_take 25 = .ok (.aload_n 0, 1) := by decide +kernel
theorem dX7_take_26 : decode cX7_take 26 = .ok (.getfield 10, 3) := by decide +kernel
theorem dX7_take_29 : decode cX7_take 29 = .ok (.iload_n 1, 1) := by decide +kernel
theorem dX7_take_30 : decode cX7_take 30 = .ok (.iload_n 2, 1) := by decide +kernel
theorem dX7_take_31 : decode cX7_take 31 = .ok (.invokevirtual 102, 3) := by decide +kernel
theorem dX7_take_34 : decode cX7_take 34 = .ok (.invokestatic 62, 3) := by decide +kernel
theorem dX7_take_37 : decode cX7_take 37 = .ok (.aload_n 0, 1) := by decide +kernel
theorem dX7_take_38 : decode cX7_take 38 = .ok (.invokevirtual 38, 3) := by decide +kernel
theorem dX7_take_41 : decode cX7_take 41 = .ok (.aload_n 0, 1) := by decide +kernel
theorem dX7_take_42 : decode cX7_take 42 = .ok (.getfield 10, 3) := by decide +kernel
theorem dX7_take_45 : decode cX7_take 45 = .ok (.iload_n 1, 1) := by decide +kernel
theorem dX7_take_46 : decode cX7_take 46 = .ok (.iload_n 2, 1) := by decide +kernel
theorem dX7_take_47 : decode cX7_take 47 = .ok (.invokevirtual 105, 3) := by decide +kernel
theorem dX7_take_50 : decode cX7_take 50 = .ok (.aload_n 0, 1) := by decide +kernel
theorem dX7_take_51 : decode cX7_take 51 = .ok (.getfield 10, 3) := by decide +kernel
theorem dX7_take_54 : decode cX7_take 54 = .ok (.getfield 73, 3) := by decide +kernel
theorem dX7_take_57 : decode cX7_take 57 = .ok (.iload_n 2, 1) := by decide +kernel
theorem dX7_take_58 : decode cX7_take 58 = .ok (.invokevirtual 108, 3) := by decide +kernel
theorem dX7_take_61 : decode cX7_take 61 = .ok (.ireturn, 1) := by decide +kernel
theorem dX7_lay_0 : decode cX7_lay 0 = .ok (.iload_n 1, 1) := by decide +kernel
theorem dX7_lay_1 : decode cX7_lay 1 = .ok (.aload_n 0, 1) := by decide +kernel
theorem dX7_lay_2 : decode cX7_lay 2 = .ok (.getfield 10, 3) := by decide +kernel
theorem dX7_lay_5 : decode cX7_lay 5 = .ok (.getfield 83, 3) := by decide +kernel
theorem dX7_lay_8 : decode cX7_lay 8 = .ok (.invokestatic 54, 3) := by decide +kernel
theorem dX7_lay_11 : decode cX7_lay 11 = .ok (.aload_n 0, 1) := by decide +kernel
theorem dX7_lay_12 : decode cX7_lay 12 = .ok (.getfield 10, 3) := by decide +kernel
theorem dX7_lay_15 : decode cX7_lay 15 = .ok (.iload_n 1, 1) := by decide +kernel
theorem dX7_lay_16 : decode cX7_lay 16 = .ok (.invokevirtual 111, 3) := by decide +kernel
theorem dX7_lay_19 : decode cX7_lay 19 = .ok (.invokestatic 62, 3) := by decide +kernel
theorem dX7_lay_22 : decode cX7_lay 22 = .ok (.aload_n 0, 1) := by decide +kernel
theorem dX7_lay_23 : decode cX7_lay 23 = .ok (.invokevirtual 38, 3) := by decide +kernel
theorem dX7_lay_26 : decode cX7_lay 26 = .ok (.aload_n 0, 1) := by decide +kernel
theorem dX7_lay_27 : decode cX7_lay 27 = .ok (.getfield 10, 3) := by decide +kernel
theorem dX7_lay_30 : decode cX7_lay 30 = .ok (.iload_n 1, 1) := by decide +kernel
theorem dX7_lay_31 : decode cX7_lay 31 = .ok (.invokevirtual 114, 3) := by decide +kernel
theorem dX7_lay_34 : decode cX7_lay 34 = .ok (.ireturn, 1) := by decide +kernel
theorem dX7_rig_0 : decode cX7_rig 0 = .ok (.iload_n 1, 1) := by decide +kernel
theorem dX7_rig_1 : decode cX7_rig 1 = .ok (.aload_n 0, 1) := by decide +kernel
theorem dX7_rig_2 : decode cX7_rig 2 = .ok (.getfield 10, 3) := by decide +kernel
theorem dX7_rig_5 : decode cX7_rig 5 = .ok (.getfield 83, 3) := by decide +kernel
theorem dX7_rig_8 : decode cX7_rig 8 = .ok (.invokestatic 54, 3) := by decide +kernel
theorem dX7_rig_11 : decode cX7_rig 11 = .ok (.aload_n 0, 1) := by decide +kernel
theorem dX7_rig_12 : decode cX7_rig 12 = .ok (.getfield 10, 3) := by decide +kernel
theorem dX7_rig_15 : decode cX7_rig 15 = .ok (.iload_n 1, 1) := by decide +kernel
theorem dX7_rig_16 : decode cX7_rig 16 = .ok (.invokevirtual 117, 3) := by decide +kernel
theorem dX7_rig_19 : decode cX7_rig 19 = .ok (.invokestatic 62, 3) := by decide +kernel
theorem dX7_rig_22 : decode cX7_rig 22 = .ok (.aload_n 0, 1) := by decide +kernel
theorem dX7_rig_23 : decode cX7_rig 23 = .ok (.invokevirtual 38, 3) := by decide +kernel
theorem dX7_rig_26 : decode cX7_rig 26 = .ok (.aload_n 0, 1) := by decide +kernel
theorem dX7_rig_27 : decode cX7_rig 27 = .ok (.getfield 10, 3) := by decide +kernel
theorem dX7_rig_30 : decode cX7_rig 30 = .ok (.iload_n 1, 1) := by decide +kernel
theorem dX7_rig_31 : decode cX7_rig 31 = .ok (.invokevirtual 120, 3) := by decide +kernel
theorem dX7_rig_34 : decode cX7_rig 34 = .ok (.ireturn, 1) := by decide +kernel
theorem dX7_takeOff_0 : decode cX7_takeOff 0 = .ok (.iload_n 1, 1) := by decide +kernel
theorem dX7_takeOff_1 : decode cX7_takeOff 1 = .ok (.aload_n 0, 1) := by decide +kernel
theorem dX7_takeOff_2 : decode cX7_takeOff 2 = .ok (.getfield 10, 3) := by decide +kernel
theorem dX7_takeOff_5 : decode cX7_takeOff 5 = .ok (.getfield 83, 3) := by decide +kernel
theorem dX7_takeOff_8 : decode cX7_takeOff 8 = .ok (.invokestatic 54, 3) := by decide +kernel
theorem dX7_takeOff_11 : decode cX7_takeOff 11 = .ok (.aload_n 0, 1) := by decide +kernel
theorem dX7_takeOff_12 : decode cX7_takeOff 12 = .ok (.getfield 10, 3) := by decide +kernel
theorem dX7_takeOff_15 : decode cX7_takeOff 15 = .ok (.iload_n 1, 1) := by decide +kernel
theorem dX7_takeOff_16 : decode cX7_takeOff 16 = .ok (.invokevirtual 123, 3) := by decide +kernel
theorem dX7_takeOff_19 : decode cX7_takeOff 19 = .ok (.invokestatic 62, 3) := by decide +kernel
theorem dX7_takeOff_22 : decode cX7_takeOff 22 = .ok (.aload_n 0, 1) := by decide +kernel
theorem dX7_takeOff_23 : decode cX7_takeOff 23 = .ok (.invokevirtual 38, 3) := by decide +kernel
theorem dX7_takeOff_26 : decode cX7_takeOff 26 = .ok (.aload_n 0, 1) := by decide +kernel
theorem dX7_takeOff_27 : decode cX7_takeOff 27 = .ok (.getfield 10, 3) := by decide +kernel
theorem dX7_takeOff_30 : decode cX7_takeOff 30 = .ok (.iload_n 1, 1) := by decide +kernel
theorem dX7_takeOff_31 : decode cX7_takeOff 31 = .ok (.invokevirtual 126, 3) := by decide +kernel
theorem dX7_takeOff_34 : decode cX7_takeOff 34 = .ok (.ireturn, 1) := by decide +kernel
theorem dX7_carry_0 : decode cX7_carry 0 = .ok (.aload_n 0, 1) := by decide +kernel
theorem dX7_carry_1 : decode cX7_carry 1 = .ok (.getfield 10, 3) := by decide +kernel
theorem dX7_carry_4 : decode cX7_carry 4 = .ok (.iload_n 1, 1) := by decide +kernel
theorem dX7_carry_5 : decode cX7_carry 5 = .ok (.invokevirtual 129, 3) := by decide +kernel
theorem dX7_carry_8 : decode cX7_carry 8 = .ok (.invokestatic 132, 3) := by decide +kernel
theorem dX7_carry_11 : decode cX7_carry 11 = .ok (.aload_n 0, 1) := by decide +kernel
theorem dX7_carry_12 : decode cX7_carry 12 = .ok (.getfield 10, 3) := by decide +kernel
theorem dX7_carry_15 : decode cX7_carry 15 = .ok (.iload_n 1, 1) := by decide +kernel
theorem dX7_carry_16 : decode cX7_carry 16 = .ok (.invokevirtual 135, 3) := by decide +kernel
theorem dX7_carry_19 : decode cX7_carry 19 = .ok (.invokestatic 62, 3) := by decide +kernel
theorem dX7_carry_22 : decode cX7_carry 22 = .ok (.aload_n 0, 1) := by decide +kernel
theorem dX7_carry_23 : decode cX7_carry 23 = .ok (.invokevirtual 38, 3) := by decide +kernel
theorem dX7_carry_26 : decode cX7_carry 26 = .ok (.aload_n 0, 1) := by decide +kernel
theorem dX7_carry_27 : decode cX7_carry 27 = .ok (.getfield 10, 3) := by decide +kernel
theorem dX7_carry_30 : decode cX7_carry 30 = .ok (.iload_n 1, 1) := by decide +kernel
theorem dX7_carry_31 : decode cX7_carry 31 = .ok (.invokevirtual 138, 3) := by decide +kernel
theorem dX7_carry_34 : decode cX7_carry 34 = .ok (.ireturn, 1) := by decide +kernel
theorem dX7_send_0 : decode cX7_send 0 = .ok (.iload_n 1, 1) := by decide +kernel
theorem dX7_send_1 : decode cX7_send 1 = .ok (.aload_n 0, 1) := by decide +kernel
theorem dX7_send_2 : decode cX7_send 2 = .ok (.getfield 10, 3) := by decide +kernel
theorem dX7_send_5 : decode cX7_send 5 = .ok (.getfield 83, 3) := by decide +kernel
theorem dX7_send_8 : decode cX7_send 8 = .ok (.invokestatic 54, 3) := by decide +kernel
theorem dX7_send_11 : decode cX7_send 11 = .ok (.aload_n 0, 1) := by decide +kernel
theorem dX7_send_12 : decode cX7_send 12 = .ok (.getfield 10, 3) := by decide +kernel
theorem dX7_send_15 : decode cX7_send 15 = .ok (.iload_n 1, 1) := by decide +kernel
theorem dX7_send_16 : decode cX7_send 16 = .ok (.invokevirtual 141, 3) := by decide +kernel
theorem dX7_send_19 : decode cX7_send 19 = .ok (.invokestatic 62, 3) := by decide +kernel
theorem dX7_send_22 : decode cX7_send 22 = .ok (.aload_n 0, 1) := by decide +kernel
theorem dX7_send_23 : decode cX7_send 23 = .ok (.invokevirtual 38, 3) := by decide +kernel
theorem dX7_send_26 : decode cX7_send 26 = .ok (.aload_n 0, 1) := by decide +kernel
theorem dX7_send_27 : decode cX7_send 27 = .ok (.getfield 10, 3) := by decide +kernel
theorem dX7_send_30 : decode cX7_send 30 = .ok (.iload_n 1, 1) := by decide +kernel
theorem dX7_send_31 : decode cX7_send 31 = .ok (.invokevirtual 144, 3) := by decide +kernel
theorem dX7_send_34 : decode cX7_send 34 = .ok (.aload_n 0, 1) := by decide +kernel
theorem dX7_send_35 : decode cX7_send 35 = .ok (.getfield 10, 3) := by decide +kernel
theorem dX7_send_38 : decode cX7_send 38 = .ok (.getfield 147, 3) := by decide +kernel
theorem dX7_send_41 : decode cX7_send 41 = .ok (.getfield 151, 3) := by decide +kernel
theorem dX7_send_44 : decode cX7_send 44 = .ok (.ireturn, 1) := by decide +kernel
theorem dX7_pass_0 : decode cX7_pass 0 = .ok (.iload_n 1, 1) := by decide +kernel
theorem dX7_pass_1 : decode cX7_pass 1 = .ok (.iconst 1, 1) := by decide +kernel
theorem dX7_pass_2 : decode cX7_pass 2 = .ok (.sipush 600, 3) := by decide +kernel
theorem dX7_pass_5 : decode cX7_pass 5 = .ok (.invokestatic 31, 3) := by decide +kernel
theorem dX7_pass_8 : decode cX7_pass 8 = .ok (.aload_n 0, 1) := by decide +kernel
theorem dX7_pass_9 : decode cX7_pass 9 = .ok (.getfield 10, 3) := by decide +kernel
theorem dX7_pass_12 : decode cX7_pass 12 = .ok (.iload_n 1, 1) := by decide +kernel
theorem dX7_pass_13 : decode cX7_pass 13 = .ok (.invokevirtual 154, 3) := by decide +kernel
theorem dX7_pass_16 : decode cX7_pass 16 = .ok (.invokestatic 62, 3) := by decide +kernel
theorem dX7_pass_19 : decode cX7_pass 19 = .ok (.aload_n 0, 1) := by decide +kernel
theorem dX7_pass_20 : decode cX7_pass 20 = .ok (.invokevirtual 38, 3) := by decide +kernel
theorem dX7_pass_23 : decode cX7_pass 23 = .ok (.aload_n 0, 1) := by decide +kernel
theorem dX7_pass_24 : decode cX7_pass 24 = .ok (.getfield 10, 3) := by decide +kernel
theorem dX7_pass_27 : decode cX7_pass 27 = .ok (.iload_n 1, 1) := by decide +kernel
theorem dX7_pass_28 : decode cX7_pass 28 = .ok (.invokevirtual 157, 3) := by decide +kernel
theorem dX7_pass_31 : decode cX7_pass 31 = .ok (.ireturn, 1) := by decide +kernel
theorem dX7_passage_0 : decode cX7_passage 0 = .ok (.iload_n 1, 1) := by decide +kernel
theorem dX7_passage_1 : decode cX7_passage 1 = .ok (.aload_n 0, 1) := by decide +kernel
theorem dX7_passage_2 : decode cX7_passage 2 = .ok (.getfield 10, 3) := by decide +kernel
theorem dX7_passage_5 : decode cX7_passage 5 = .ok (.getfield 45, 3) := by decide +kernel
theorem dX7_passage_8 : decode cX7_passage 8 = .ok (.getfield 49, 3) := by decide +kernel
theorem dX7_passage_11 : decode cX7_passage 11 = .ok (.invokestatic 54, 3) := by decide +kernel
theorem dX7_passage_14 : decode cX7_passage 14 = .ok (.iload_n 2, 1) := by decide +kernel
theorem dX7_passage_15 : decode cX7_passage 15 = .ok (.iconst 0, 1) := by decide +kernel
theorem dX7_passage_16 : decode cX7_passage 16 = .ok (.iconst 4, 1) := by decide +kernel
theorem dX7_passage_17 : decode cX7_passage 17 = .ok (.invokestatic 31, 3) := by decide +kernel
theorem dX7_passage_20 : decode cX7_passage 20 = .ok (.aload_n 0, 1) := by decide +kernel
theorem dX7_passage_21 : decode cX7_passage 21 = .ok (.getfield 10, 3) := by decide +kernel
theorem dX7_passage_24 : decode cX7_passage 24 = .ok (.iload_n 1, 1) := by decide +kernel
theorem dX7_passage_25 : decode cX7_passage 25 = .ok (.iload_n 2, 1) := by decide +kernel
theorem dX7_passage_26 : decode cX7_passage 26 = .ok (.invokevirtual 160, 3) := by decide +kernel
theorem dX7_passage_29 : decode cX7_passage 29 = .ok (.ireturn, 1) := by decide +kernel
theorem dX7_rope_0 : decode cX7_rope 0 = .ok (.iload_n 1, 1) := by decide +kernel
theorem dX7_rope_1 : decode cX7_rope 1 = .ok (.aload_n 0, 1) := by decide +kernel
theorem dX7_rope_2 : decode cX7_rope 2 = .ok (.getfield 10, 3) := by decide +kernel
theorem dX7_rope_5 : decode cX7_rope 5 = .ok (.getfield 73, 3) := by decide +kernel
theorem dX7_rope_8 : decode cX7_rope 8 = .ok (.getfield 77, 3) := by decide +kernel
theorem dX7_rope_11 : decode cX7_rope 11 = .ok (.invokestatic 54, 3) := by decide +kernel
theorem dX7_rope_14 : decode cX7_rope 14 = .ok (.iload_n 2, 1) := by decide +kernel
theorem dX7_rope_15 : decode cX7_rope 15 = .ok (.iconst 0, 1) := by decide +kernel
theorem dX7_rope_16 : decode cX7_rope 16 = .ok (.iconst 2, 1) := by decide +kernel
theorem dX7_rope_17 : decode cX7_rope 17 = .ok (.invokestatic 31, 3) := by decide +kernel
theorem dX7_rope_20 : decode cX7_rope 20 = .ok (.aload_n 0, 1) := by decide +kernel
theorem dX7_rope_21 : decode cX7_rope 21 = .ok (.getfield 10, 3) := by decide +kernel
theorem dX7_rope_24 : decode cX7_rope 24 = .ok (.getfield 73, 3) := by decide +kernel
theorem dX7_rope_27 : decode cX7_rope 27 = .ok (.iload_n 1, 1) := by decide +kernel
theorem dX7_rope_28 : decode cX7_rope 28 = .ok (.iload_n 2, 1) := by decide +kernel
theorem dX7_rope_29 : decode cX7_rope 29 = .ok (.invokevirtual 163, 3) := by decide +kernel
theorem dX7_rope_32 : decode cX7_rope 32 = .ok (.ireturn, 1) := by decide +kernel
theorem dX7_helper_0 : decode cX7_helper 0 = .ok (.iload_n 1, 1) := by decide +kernel
theorem dX7_helper_1 : decode cX7_helper 1 = .ok (.aload_n 0, 1) := by decide +kernel
theorem dX7_helper_2 : decode cX7_helper 2 = .ok (.getfield 10, 3) := by decide +kernel
theorem dX7_helper_5 : decode cX7_helper 5 = .ok (.getfield 83, 3) := by decide +kernel
theorem dX7_helper_8 : decode cX7_helper 8 = .ok (.invokestatic 54, 3) := by decide +kernel
theorem dX7_helper_11 : decode cX7_helper 11 = .ok (.iload_n 2, 1) := by decide +kernel
theorem dX7_helper_12 : decode cX7_helper 12 = .ok (.iconst 0, 1) := by decide +kernel
theorem dX7_helper_13 : decode cX7_helper 13 = .ok (.bipush 8, 2) := by decide +kernel
theorem dX7_helper_15 : decode cX7_helper 15 = .ok (.invokestatic 31, 3) := by decide +kernel
theorem dX7_helper_18 : decode cX7_helper 18 = .ok (.aload_n 0, 1) := by decide +kernel
theorem dX7_helper_19 : decode cX7_helper 19 = .ok (.getfield 10, 3) := by decide +kernel
theorem dX7_helper_22 : decode cX7_helper 22 = .ok (.getfield 166, 3) := by decide +kernel
theorem dX7_helper_25 : decode cX7_helper 25 = .ok (.iload_n 1, 1) := by decide +kernel
theorem dX7_helper_26 : decode cX7_helper 26 = .ok (.aaload, 1) := by decide +kernel
theorem dX7_helper_27 : decode cX7_helper 27 = .ok (.iload_n 2, 1) := by decide +kernel
theorem dX7_helper_28 : decode cX7_helper 28 = .ok (.invokevirtual 170, 3) := by decide +kernel
theorem dX7_helper_31 : decode cX7_helper 31 = .ok (.ireturn, 1) := by decide +kernel
theorem dX7_value_0 : decode cX7_value 0 = .ok (.iload_n 1, 1) := by decide +kernel
theorem dX7_value_1 : decode cX7_value 1 = .ok (.iconst 0, 1) := by decide +kernel
theorem dX7_value_2 : decode cX7_value 2 = .ok (.bipush 13, 2) := by decide +kernel
theorem dX7_value_4 : decode cX7_value 4 = .ok (.invokestatic 31, 3) := by decide +kernel
theorem dX7_value_7 : decode cX7_value 7 = .ok (.aload_n 0, 1) := by decide +kernel
theorem dX7_value_8 : decode cX7_value 8 = .ok (.getfield 10, 3) := by decide +kernel
theorem dX7_value_11 : decode cX7_value 11 = .ok (.iload_n 1, 1) := by decide +kernel
theorem dX7_value_12 : decode cX7_value 12 = .ok (.invokevirtual 174, 3) := by decide +kernel
theorem dX7_value_15 : decode cX7_value 15 = .ok (.ireturn, 1) := by decide +kernel
theorem dX7_message_0 : decode cX7_message 0 = .ok (.iload_n 1, 1) := by decide +kernel
theorem dX7_message_1 : decode cX7_message 1 = .ok (.aload_n 0, 1) := by decide +kernel
theorem dX7_message_2 : decode cX7_message 2 = .ok (.getfield 10, 3) := by decide +kernel
theorem dX7_message_5 : decode cX7_message 5 = .ok (.getfield 147, 3) := by decide +kernel
theorem dX7_message_8 : decode cX7_message 8 = .ok (.getfield 151, 3) := by decide +kernel
theorem dX7_message_11 : decode cX7_message 11 = .ok (.invokestatic 54, 3) := by decide +kernel
theorem dX7_message_14 : decode cX7_message 14 = .ok (.iload_n 2, 1) := by decide +kernel
theorem dX7_message_15 : decode cX7_message 15 = .ok (.iconst 0, 1) := by decide +kernel
theorem dX7_message_16 : decode cX7_message 16 = .ok (.iconst 2, 1) := by decide +kernel
theorem dX7_message_17 : decode cX7_message 17 = .ok (.invokestatic 31, 3) := by decide +kernel
theorem dX7_message_20 : decode cX7_message 20 = .ok (.aload_n 0, 1) := by decide +kernel
theorem dX7_message_21 : decode cX7_message 21 = .ok (.getfield 10, 3) := by decide +kernel
theorem dX7_message_24 : decode cX7_message 24 = .ok (.getfield 147, 3) := by decide +kernel
theorem dX7_message_27 : decode cX7_message 27 = .ok (.iload_n 1, 1) := by decide +kernel
theorem dX7_message_28 : decode cX7_message 28 = .ok (.iload_n 2, 1) := by decide +kernel
theorem dX7_message_29 : decode cX7_message 29 = .ok (.invokevirtual 175, 3) := by decide +kernel
theorem dX7_message_32 : decode cX7_message 32 = .ok (.ireturn, 1) := by decide +kernel
theorem dX7_carried_0 : decode cX7_carried 0 = .ok (.iload_n 1, 1) := by decide +kernel
theorem dX7_carried_1 : decode cX7_carried 1 = .ok (.aload_n 0, 1) := by decide +kernel
theorem dX7_carried_2 : decode cX7_carried 2 = .ok (.getfield 10, 3) := by decide +kernel
theorem dX7_carried_5 : decode cX7_carried 5 = .ok (.getfield 176, 3) := by decide +kernel
theorem dX7_carried_8 : decode cX7_carried 8 = .ok (.getfield 180, 3) := by decide +kernel
theorem dX7_carried_11 : decode cX7_carried 11 = .ok (.invokestatic 54, 3) := by decide +kernel
theorem dX7_carried_14 : decode cX7_carried 14 = .ok (.iload_n 2, 1) := by decide +kernel
theorem dX7_carried_15 : decode cX7_carried 15 = .ok (.iconst 0, 1) := by decide +kernel
theorem dX7_carried_16 : decode cX7_carried 16 = .ok (.iconst 2, 1) := by decide +kernel
theorem dX7_carried_17 : decode cX7_carried 17 = .ok (.invokestatic 31, 3) := by decide +kernel
theorem dX7_carried_20 : decode cX7_carried 20 = .ok (.aload_n 0, 1) := by decide +kernel
theorem dX7_carried_21 : decode cX7_carried 21 = .ok (.getfield 10, 3) := by decide +kernel
theorem dX7_carried_24 : decode cX7_carried 24 = .ok (.getfield 176, 3) := by decide +kernel
theorem dX7_carried_27 : decode cX7_carried 27 = .ok (.iload_n 1, 1) := by decide +kernel
theorem dX7_carried_28 : decode cX7_carried 28 = .ok (.iload_n 2, 1) := by decide +kernel
theorem dX7_carried_29 : decode cX7_carried 29 = .ok (.invokevirtual 185, 3) := by decide +kernel
theorem dX7_carried_32 : decode cX7_carried 32 = .ok (.ireturn, 1) := by decide +kernel
theorem dX7_requireIndex_0 : decode cX7_requireIndex 0 = .ok (.iload_n 0, 1) := by decide +kernel
theorem dX7_requireIndex_1 : decode cX7_requireIndex 1 = .ok (.ifCond .lt 8, 3) := by decide +kernel
theorem dX7_requireIndex_4 : decode cX7_requireIndex 4 = .ok (.iload_n 0, 1) := by decide +kernel
theorem dX7_requireIndex_5 : decode cX7_requireIndex 5 = .ok (.iload_n 1, 1) := by decide +kernel
theorem dX7_requireIndex_6 : decode cX7_requireIndex 6 = .ok (.if_icmp .lt 14, 3) := by decide +kernel
theorem dX7_requireIndex_9 : decode cX7_requireIndex 9 = .ok (.new 256, 3) := by decide +kernel
theorem dX7_requireIndex_12 : decode cX7_requireIndex 12 = .ok (.dup, 1) := by decide +kernel
theorem dX7_requireIndex_13 : decode cX7_requireIndex 13 = .ok (.ldc_w 258, 3) := by decide +kernel
theorem dX7_requireIndex_16 : decode cX7_requireIndex 16 = .ok (.invokespecial 260, 3) := by decide +kernel
theorem dX7_requireIndex_19 : decode cX7_requireIndex 19 = .ok (.athrow, 1) := by decide +kernel
theorem dX7_requireIndex_20 : decode cX7_requireIndex 20 = .ok (.return_, 1) := by decide +kernel
theorem dX7_requireRange_0 : decode cX7_requireRange 0 = .ok (.iload_n 0, 1) := by decide +kernel
theorem dX7_requireRange_1 : decode cX7_requireRange 1 = .ok (.iload_n 1, 1) := by decide +kernel
theorem dX7_requireRange_2 : decode cX7_requireRange 2 = .ok (.if_icmp .lt 12, 3) := by decide +kernel
theorem dX7_requireRange_5 : decode cX7_requireRange 5 = .ok (.iload_n 0, 1) := by decide +kernel
theorem dX7_requireRange_6 : decode cX7_requireRange 6 = .ok (.iload_n 2, 1) := by decide +kernel
theorem dX7_requireRange_7 : decode cX7_requireRange 7 = .ok (.if_icmp .gt 7, 3) := by decide +kernel
theorem dX7_requireRange_10 : decode cX7_requireRange 10 = .ok (.iconst 1, 1) := by decide +kernel
theorem dX7_requireRange_11 : decode cX7_requireRange 11 = .ok (.goto 4, 3) := by decide +kernel
theorem dX7_requireRange_14 : decode cX7_requireRange 14 = .ok (.iconst 0, 1) := by decide +kernel
theorem dX7_requireRange_15 : decode cX7_requireRange 15 = .ok (.invokestatic 132, 3) := by decide +kernel
theorem dX7_requireRange_18 : decode cX7_requireRange 18 = .ok (.return_, 1) := by decide +kernel
theorem dX7_requireArgument_0 : decode cX7_requireArgument 0 = .ok (.iload_n 0, 1) := by decide +kernel
theorem dX7_requireArgument_1 : decode cX7_requireArgument 1 = .ok (.ifCond .ne 14, 3) := by decide +kernel
theorem dX7_requireArgument_4 : decode cX7_requireArgument 4 = .ok (.new 263, 3) := by decide +kernel
theorem dX7_requireArgument_7 : decode cX7_requireArgument 7 = .ok (.dup, 1) := by decide +kernel
theorem dX7_requireArgument_8 : decode cX7_requireArgument 8 = .ok (.ldc_w 265, 3) := by decide +kernel
theorem dX7_requireArgument_11 : decode cX7_requireArgument 11 = .ok (.invokespecial 267, 3) := by decide +kernel
theorem dX7_requireArgument_14 : decode cX7_requireArgument 14 = .ok (.athrow, 1) := by decide +kernel
theorem dX7_requireArgument_15 : decode cX7_requireArgument 15 = .ok (.return_, 1) := by decide +kernel
theorem dX7_requirePossible_0 : decode cX7_requirePossible 0 = .ok (.iload_n 0, 1) := by decide +kernel
theorem dX7_requirePossible_1 : decode cX7_requirePossible 1 = .ok (.ifCond .ne 14, 3) := by decide +kernel
theorem dX7_requirePossible_4 : decode cX7_requirePossible 4 = .ok (.new 268, 3) := by decide +kernel
theorem dX7_requirePossible_7 : decode cX7_requirePossible 7 = .ok (.dup, 1) := by decide +kernel
theorem dX7_requirePossible_8 : decode cX7_requirePossible 8 = .ok (.ldc_w 270, 3) := by decide +kernel
theorem dX7_requirePossible_11 : decode cX7_requirePossible 11 = .ok (.invokespecial 272, 3) := by decide +kernel
theorem dX7_requirePossible_14 : decode cX7_requirePossible 14 = .ok (.athrow, 1) := by decide +kernel
theorem dX7_requirePossible_15 : decode cX7_requirePossible 15 = .ok (.return_, 1) := by decide +kernel
theorem dX7_save_0 : decode cX7_save 0 = .ok (.aload_n 0, 1) := by decide +kernel
theorem dX7_save_1 : decode cX7_save 1 = .ok (.getfield 20, 3) := by decide +kernel
theorem dX7_save_4 : decode cX7_save 4 = .ok (.iconst 4, 1) := by decide +kernel
theorem dX7_save_5 : decode cX7_save 5 = .ok (.if_icmp .lt 7, 3) := by decide +kernel
theorem dX7_save_8 : decode cX7_save 8 = .ok (.aload_n 0, 1) := by decide +kernel
theorem dX7_save_9 : decode cX7_save 9 = .ok (.invokevirtual 273, 3) := by decide +kernel
theorem dX7_save_12 : decode cX7_save 12 = .ok (.aload_n 0, 1) := by decide +kernel
theorem dX7_save_13 : decode cX7_save 13 = .ok (.getfield 16, 3) := by decide +kernel
theorem dX7_save_16 : decode cX7_save 16 = .ok (.aload_n 0, 1) := by decide +kernel
theorem dX7_save_17 : decode cX7_save 17 = .ok (.getfield 20, 3) := by decide +kernel
theorem dX7_save_20 : decode cX7_save 20 = .ok (.aaload, 1) := by decide +kernel
theorem dX7_save_21 : decode cX7_save 21 = .ok (.aload_n 0, 1) := by decide +kernel
theorem dX7_save_22 : decode cX7_save 22 = .ok (.getfield 10, 3) := by decide +kernel
theorem dX7_save_25 : decode cX7_save 25 = .ok (.invokevirtual 244, 3) := by decide +kernel
theorem dX7_save_28 : decode cX7_save 28 = .ok (.aload_n 0, 1) := by decide +kernel
theorem dX7_save_29 : decode cX7_save 29 = .ok (.dup, 1) := by decide +kernel
theorem dX7_save_30 : decode cX7_save 30 = .ok (.getfield 20, 3) := by decide +kernel
theorem dX7_save_33 : decode cX7_save 33 = .ok (.iconst 1, 1) := by decide +kernel
theorem dX7_save_34 : decode cX7_save 34 = .ok (.iadd, 1) := by decide +kernel
theorem dX7_save_35 : decode cX7_save 35 = .ok (.putfield 20, 3) := by decide +kernel
theorem dX7_save_38 : decode cX7_save 38 = .ok (.return_, 1) := by decide +kernel
theorem dX7_dropOldest_0 : decode cX7_dropOldest 0 = .ok (.aload_n 0, 1) := by decide +kernel
theorem dX7_dropOldest_1 : decode cX7_dropOldest 1 = .ok (.getfield 16, 3) := by decide +kernel
theorem dX7_dropOldest_4 : decode cX7_dropOldest 4 = .ok (.iconst 0, 1) := by decide +kernel
theorem dX7_dropOldest_5 : decode cX7_dropOldest 5 = .ok (.aaload, 1) := by decide +kernel
theorem dX7_dropOldest_6 : decode cX7_dropOldest 6 = .ok (.astore_n 1, 1) := by decide +kernel
theorem dX7_dropOldest_7 : decode cX7_dropOldest 7 = .ok (.iconst 1, 1) := by decide +kernel
theorem dX7_dropOldest_8 : decode cX7_dropOldest 8 = .ok (.istore_n 2, 1) := by decide +kernel
theorem dX7_dropOldest_9 : decode cX7_dropOldest 9 = .ok (.iload_n 2, 1) := by decide +kernel
theorem dX7_dropOldest_10 : decode cX7_dropOldest 10 = .ok (.iconst 4, 1) := by decide +kernel
theorem dX7_dropOldest_11 : decode cX7_dropOldest 11 = .ok (.if_icmp .ge 23, 3) := by decide +kernel
theorem dX7_dropOldest_14 : decode cX7_dropOldest 14 = .ok (.aload_n 0, 1) := by decide +kernel
theorem dX7_dropOldest_15 : decode cX7_dropOldest 15 = .ok (.getfield 16, 3) := by decide +kernel
theorem dX7_dropOldest_18 : decode cX7_dropOldest 18 = .ok (.iload_n 2, 1) := by decide +kernel
theorem dX7_dropOldest_19 : decode cX7_dropOldest 19 = .ok (.iconst 1, 1) := by decide +kernel
theorem dX7_dropOldest_20 : decode cX7_dropOldest 20 = .ok (.isub, 1) := by decide +kernel
theorem dX7_dropOldest_21 : decode cX7_dropOldest 21 = .ok (.aload_n 0, 1) := by decide +kernel
theorem dX7_dropOldest_22 : decode cX7_dropOldest 22 = .ok (.getfield 16, 3) := by decide +kernel
theorem dX7_dropOldest_25 : decode cX7_dropOldest 25 = .ok (.iload_n 2, 1) := by decide +kernel
theorem dX7_dropOldest_26 : decode cX7_dropOldest 26 = .ok (.aaload, 1) := by decide +kernel
theorem dX7_dropOldest_27 : decode cX7_dropOldest 27 = .ok (.aastore, 1) := by decide +kernel
theorem dX7_dropOldest_28 : decode cX7_dropOldest 28 = .ok (.iinc 2 1, 3) := by decide +kernel
theorem dX7_dropOldest_31 : decode cX7_dropOldest 31 = .ok (.goto (-22), 3) := by decide +kernel
theorem dX7_dropOldest_34 : decode cX7_dropOldest 34 = .ok (.aload_n 0, 1) := by decide +kernel
theorem dX7_dropOldest_35 : decode cX7_dropOldest 35 = .ok (.getfield 16, 3) := by decide +kernel
theorem dX7_dropOldest_38 : decode cX7_dropOldest 38 = .ok (.iconst 3, 1) := by decide +kernel
theorem dX7_dropOldest_39 : decode cX7_dropOldest 39 = .ok (.aload_n 1, 1) := by decide +kernel
theorem dX7_dropOldest_40 : decode cX7_dropOldest 40 = .ok (.aastore, 1) := by decide +kernel
theorem dX7_dropOldest_41 : decode cX7_dropOldest 41 = .ok (.aload_n 0, 1) := by decide +kernel
theorem dX7_dropOldest_42 : decode cX7_dropOldest 42 = .ok (.iconst 3, 1) := by decide +kernel
theorem dX7_dropOldest_43 : decode cX7_dropOldest 43 = .ok (.putfield 20, 3) := by decide +kernel
theorem dX7_dropOldest_46 : decode cX7_dropOldest 46 = .ok (.return_, 1) := by decide +kernel
