theorem dX9_init_0 : decode cX9_init 0 = .ok (.aload_n 0, 1) := by decide +kernel
theorem dX9_init_1 : decode cX9_init 1 = .ok (.invokespecial 3, 3) := by decide +kernel
theorem dX9_init_4 : decode cX9_init 4 = .ok (.aload_n 0, 1) := by decide +kernel
theorem dX9_init_5 : decode cX9_init 5 = .ok (.bipush 12, 2) := by decide +kernel
theorem dX9_init_7 : decode cX9_init 7 = .ok (.newarray .boolean, 2) := by decide +kernel
theorem dX9_init_9 : decode cX9_init 9 = .ok (.putfield 9, 3) := by decide +kernel
theorem dX9_init_12 : decode cX9_init 12 = .ok (.aload_n 0, 1) := by decide +kernel
theorem dX9_init_13 : decode cX9_init 13 = .ok (.bipush 12, 2) := by decide +kernel
theorem dX9_init_15 : decode cX9_init 15 = .ok (.newarray .int, 2) := by decide +kernel
theorem dX9_init_17 : decode cX9_init 17 = .ok (.putfield 15, 3) := by decide +kernel
theorem dX9_init_20 : decode cX9_init 20 = .ok (.aload_n 0, 1) := by decide +kernel
theorem dX9_init_21 : decode cX9_init 21 = .ok (.bipush 12, 2) := by decide +kernel
theorem dX9_init_23 : decode cX9_init 23 = .ok (.newarray .int, 2) := by decide +kernel
theorem dX9_init_25 : decode cX9_init 25 = .ok (.putfield 19, 3) := by decide +kernel
theorem dX9_init_28 : decode cX9_init 28 = .ok (.return_, 1) := by decide +kernel
theorem dX9_hasCall_0 : decode cX9_hasCall 0 = .ok (.iload_n 1, 1) := by decide +kernel
theorem dX9_hasCall_1 : decode cX9_hasCall 1 = .ok (.invokestatic 22, 3) := by decide +kernel
theorem dX9_hasCall_4 : decode cX9_hasCall 4 = .ok (.ifCond .eq 16, 3) := by decide +kernel
theorem dX9_hasCall_7 : decode cX9_hasCall 7 = .ok (.aload_n 0, 1) := by decide +kernel
theorem dX9_hasCall_8 : decode cX9_hasCall 8 = .ok (.getfield 9, 3) := by decide +kernel
theorem dX9_hasCall_11 : decode cX9_hasCall 11 = .ok (.iload_n 1, 1) := by decide +kernel
theorem dX9_hasCall_12 : decode cX9_hasCall 12 = .ok (.baload, 1) := by decide +kernel
theorem dX9_hasCall_13 : decode cX9_hasCall 13 = .ok (.ifCond .eq 7, 3) := by decide +kernel
theorem dX9_hasCall_16 : decode cX9_hasCall 16 = .ok (.iconst 1, 1) := by decide +kernel
theorem dX9_hasCall_17 : decode cX9_hasCall 17 = .ok (.goto 4, 3) := by decide +kernel
theorem dX9_hasCall_20 : decode cX9_hasCall 20 = .ok (.iconst 0, 1) := by decide +kernel
theorem dX9_hasCall_21 : decode cX9_hasCall 21 = .ok (.ireturn, 1) := by decide +kernel
theorem dX9_setCall_0 : decode cX9_setCall 0 = .ok (.iload_n 1, 1) := by decide +kernel
theorem dX9_setCall_1 : decode cX9_setCall 1 = .ok (.invokestatic 22, 3) := by decide +kernel
theorem dX9_setCall_4 : decode cX9_setCall 4 = .ok (.ifCond .eq 10, 3) := by decide +kernel
theorem dX9_setCall_7 : decode cX9_setCall 7 = .ok (.aload_n 0, 1) := by decide +kernel
theorem dX9_setCall_8 : decode cX9_setCall 8 = .ok (.getfield 9, 3) := by decide +kernel
theorem dX9_setCall_11 : decode cX9_setCall 11 = .ok (.iload_n 1, 1) := by decide +kernel
theorem dX9_setCall_12 : decode cX9_setCall 12 = .ok (.iload_n 2, 1) := by decide +kernel
theorem dX9_setCall_13 : decode cX9_setCall 13 = .ok (.bastore, 1) := by decide +kernel
theorem dX9_setCall_14 : decode cX9_setCall 14 = .ok (.return_, 1) := by decide +kernel
theorem dX9_takeTurn_0 : decode cX9_takeTurn 0 = .ok (.iload_n 2, 1) := by decide +kernel
theorem dX9_takeTurn_1 : decode cX9_takeTurn 1 = .ok (.invokestatic 22, 3) := by decide +kernel
theorem dX9_takeTurn_4 : decode cX9_takeTurn 4 = .ok (.ifCond .eq 16, 3) := by decide +kernel
theorem dX9_takeTurn_7 : decode cX9_takeTurn 7 = .ok (.aload_n 1, 1) := by decide +kernel
theorem dX9_takeTurn_8 : decode cX9_takeTurn 8 = .ok (.getfield 26, 3) := by decide +kernel
theorem dX9_takeTurn_11 : decode cX9_takeTurn 11 = .ok (.iload_n 2, 1) := by decide +kernel
theorem dX9_takeTurn_12 : decode cX9_takeTurn 12 = .ok (.aaload, 1) := by decide +kernel
theorem dX9_takeTurn_13 : decode cX9_takeTurn 13 = .ok (.iconst 0, 1) := by decide +kernel
theorem dX9_takeTurn_14 : decode cX9_takeTurn 14 = .ok (.invokevirtual 32, 3) := by decide +kernel
theorem dX9_takeTurn_17 : decode cX9_takeTurn 17 = .ok (.goto 4, 3) := by decide +kernel
theorem dX9_takeTurn_20 : decode cX9_takeTurn 20 = .ok (.aconst_null, 1) := by decide +kernel
theorem dX9_takeTurn_21 : decode cX9_takeTurn 21 = .ok (.astore_n 3, 1) := by decide +kernel
theorem dX9_takeTurn_22 : decode cX9_takeTurn 22 = .ok (.aload_n 3, 1) := by decide +kernel
theorem dX9_takeTurn_23 : decode cX9_takeTurn 23 = .ok (.ifnull 39, 3) := by decide +kernel
theorem dX9_takeTurn_26 : decode cX9_takeTurn 26 = .ok (.aload_n 3, 1) := by decide +kernel
theorem dX9_takeTurn_27 : decode cX9_takeTurn 27 = .ok (.getfield 38, 3) := by decide +kernel
theorem dX9_takeTurn_30 : decode cX9_takeTurn 30 = .ok (.bipush 50, 2) := by decide +kernel
theorem dX9_takeTurn_32 : decode cX9_takeTurn 32 = .ok (.if_icmp .ne 30, 3) := by decide +kernel
theorem dX9_takeTurn_35 : decode cX9_takeTurn 35 = .ok (.aload_n 0, 1) := by decide +kernel
theorem dX9_takeTurn_36 : decode cX9_takeTurn 36 = .ok (.getfield 15, 3) := by decide +kernel
theorem dX9_takeTurn_39 : decode cX9_takeTurn 39 = .ok (.iload_n 2, 1) := by decide +kernel
theorem dX9_takeTurn_40 : decode cX9_takeTurn 40 = .ok (.aload_n 3, 1) := by decide +kernel
theorem dX9_takeTurn_41 : decode cX9_takeTurn 41 = .ok (.getfield 44, 3) := by decide +kernel
theorem dX9_takeTurn_44 : decode cX9_takeTurn 44 = .ok (.iastore, 1) := by decide +kernel
theorem dX9_takeTurn_45 : decode cX9_takeTurn 45 = .ok (.aload_n 0, 1) := by decide +kernel
theorem dX9_takeTurn_46 : decode cX9_takeTurn 46 = .ok (.getfield 19, 3) := by decide +kernel
theorem dX9_takeTurn_49 : decode cX9_takeTurn 49 = .ok (.iload_n 2, 1) := by decide +kernel
theorem dX9_takeTurn_50 : decode cX9_takeTurn 50 = .ok (.dup2, 1) := by decide +kernel
theorem dX9_takeTurn_51 : decode cX9_takeTurn 51 = .ok (.iaload, 1) := by decide +kernel
theorem dX9_takeTurn_52 : decode cX9_takeTurn 52 = .ok (.iconst 1, 1) := by decide +kernel
theorem dX9_takeTurn_53 : decode cX9_takeTurn 53 = .ok (.iadd, 1) := by decide +kernel
theorem dX9_takeTurn_54 : decode cX9_takeTurn 54 = .ok (.iastore, 1) := by decide +kernel
theorem dX9_takeTurn_55 : decode cX9_takeTurn 55 = .ok (.aload_n 0, 1) := by decide +kernel
theorem dX9_takeTurn_56 : decode cX9_takeTurn 56 = .ok (.getfield 9, 3) := by decide +kernel
theorem dX9_takeTurn_59 : decode cX9_takeTurn 59 = .ok (.iload_n 2, 1) := by decide +kernel
theorem dX9_takeTurn_60 : decode cX9_takeTurn 60 = .ok (.iconst 0, 1) := by decide +kernel
theorem dX9_takeTurn_61 : decode cX9_takeTurn 61 = .ok (.bastore, 1) := by decide +kernel
theorem dX9_takeTurn_62 : decode cX9_takeTurn 62 = .ok (.return_, 1) := by decide +kernel
