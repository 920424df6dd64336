theorem dX5_init_0 : decode cX5_init 0 = .ok (.aload_n 0, 1) := by decide +kernel
theorem dX5_init_1 : decode cX5_init 1 = .ok (.invokespecial 3, 3) := by decide +kernel
theorem dX5_init_4 : decode cX5_init 4 = .ok (.return_, 1) := by decide +kernel
theorem dX5_takeTurn_0 : decode cX5_takeTurn 0 = .ok (.aload_n 1, 1) := by decide +kernel
theorem dX5_takeTurn_1 : decode cX5_takeTurn 1 = .ok (.getfield 9, 3) := by decide +kernel
theorem dX5_takeTurn_4 : decode cX5_takeTurn 4 = .ok (.iconst 1, 1) := by decide +kernel
theorem dX5_takeTurn_5 : decode cX5_takeTurn 5 = .ok (.baload, 1) := by decide +kernel
theorem dX5_takeTurn_6 : decode cX5_takeTurn 6 = .ok (.ifCond .ne 10, 3) := by decide +kernel
theorem dX5_takeTurn_9 : decode cX5_takeTurn 9 = .ok (.aload_n 0, 1) := by decide +kernel
theorem dX5_takeTurn_10 : decode cX5_takeTurn 10 = .ok (.aload_n 1, 1) := by decide +kernel
theorem dX5_takeTurn_11 : decode cX5_takeTurn 11 = .ok (.invokevirtual 15, 3) := by decide +kernel
theorem dX5_takeTurn_14 : decode cX5_takeTurn 14 = .ok (.iconst 0, 1) := by decide +kernel
theorem dX5_takeTurn_15 : decode cX5_takeTurn 15 = .ok (.ireturn, 1) := by decide +kernel
theorem dX5_takeTurn_16 : decode cX5_takeTurn 16 = .ok (.aload_n 1, 1) := by decide +kernel
theorem dX5_takeTurn_17 : decode cX5_takeTurn 17 = .ok (.getfield 21, 3) := by decide +kernel
theorem dX5_takeTurn_20 : decode cX5_takeTurn 20 = .ok (.iconst 0, 1) := by decide +kernel
theorem dX5_takeTurn_21 : decode cX5_takeTurn 21 = .ok (.aaload, 1) := by decide +kernel
theorem dX5_takeTurn_22 : decode cX5_takeTurn 22 = .ok (.iconst 0, 1) := by decide +kernel
theorem dX5_takeTurn_23 : decode cX5_takeTurn 23 = .ok (.invokevirtual 25, 3) := by decide +kernel
theorem dX5_takeTurn_26 : decode cX5_takeTurn 26 = .ok (.astore_n 2, 1) := by decide +kernel
theorem dX5_takeTurn_27 : decode cX5_takeTurn 27 = .ok (.aload_n 2, 1) := by decide +kernel
theorem dX5_takeTurn_28 : decode cX5_takeTurn 28 = .ok (.ifnull 12, 3) := by decide +kernel
theorem dX5_takeTurn_31 : decode cX5_takeTurn 31 = .ok (.aload_n 2, 1) := by decide +kernel
theorem dX5_takeTurn_32 : decode cX5_takeTurn 32 = .ok (.getfield 31, 3) := by decide +kernel
theorem dX5_takeTurn_35 : decode cX5_takeTurn 35 = .ok (.ifCond .ne 5, 3) := by decide +kernel
theorem dX5_takeTurn_38 : decode cX5_takeTurn 38 = .ok (.iconst 0, 1) := by decide +kernel
theorem dX5_takeTurn_39 : decode cX5_takeTurn 39 = .ok (.ireturn, 1) := by decide +kernel
theorem dX5_takeTurn_40 : decode cX5_takeTurn 40 = .ok (.aload_n 2, 1) := by decide +kernel
theorem dX5_takeTurn_41 : decode cX5_takeTurn 41 = .ok (.ifnull 17, 3) := by decide +kernel
theorem dX5_takeTurn_44 : decode cX5_takeTurn 44 = .ok (.aload_n 2, 1) := by decide +kernel
theorem dX5_takeTurn_45 : decode cX5_takeTurn 45 = .ok (.getfield 31, 3) := by decide +kernel
theorem dX5_takeTurn_48 : decode cX5_takeTurn 48 = .ok (.bipush 41, 2) := by decide +kernel
theorem dX5_takeTurn_50 : decode cX5_takeTurn 50 = .ok (.if_icmp .ne 8, 3) := by decide +kernel
theorem dX5_takeTurn_53 : decode cX5_takeTurn 53 = .ok (.aload_n 0, 1) := by decide +kernel
theorem dX5_takeTurn_54 : decode cX5_takeTurn 54 = .ok (.iconst 0, 1) := by decide +kernel
theorem dX5_takeTurn_55 : decode cX5_takeTurn 55 = .ok (.putfield 37, 3) := by decide +kernel
theorem dX5_takeTurn_58 : decode cX5_takeTurn 58 = .ok (.aload_n 0, 1) := by decide +kernel
theorem dX5_takeTurn_59 : decode cX5_takeTurn 59 = .ok (.getfield 41, 3) := by decide +kernel
theorem dX5_takeTurn_62 : decode cX5_takeTurn 62 = .ok (.bipush 10, 2) := by decide +kernel
theorem dX5_takeTurn_64 : decode cX5_takeTurn 64 = .ok (.irem, 1) := by decide +kernel
theorem dX5_takeTurn_65 : decode cX5_takeTurn 65 = .ok (.ifCond .ne 15, 3) := by decide +kernel
theorem dX5_takeTurn_68 : decode cX5_takeTurn 68 = .ok (.aload_n 0, 1) := by decide +kernel
theorem dX5_takeTurn_69 : decode cX5_takeTurn 69 = .ok (.aload_n 1, 1) := by decide +kernel
theorem dX5_takeTurn_70 : decode cX5_takeTurn 70 = .ok (.invokevirtual 44, 3) := by decide +kernel
theorem dX5_takeTurn_73 : decode cX5_takeTurn 73 = .ok (.ifCond .eq 7, 3) := by decide +kernel
theorem dX5_takeTurn_76 : decode cX5_takeTurn 76 = .ok (.iconst 1, 1) := by decide +kernel
theorem dX5_takeTurn_77 : decode cX5_takeTurn 77 = .ok (.goto 4, 3) := by decide +kernel
theorem dX5_takeTurn_80 : decode cX5_takeTurn 80 = .ok (.iconst 0, 1) := by decide +kernel
theorem dX5_takeTurn_81 : decode cX5_takeTurn 81 = .ok (.ireturn, 1) := by decide +kernel
theorem dX5_check_0 : decode cX5_check 0 = .ok (.aload_n 0, 1) := by decide +kernel
theorem dX5_check_1 : decode cX5_check 1 = .ok (.getfield 37, 3) := by decide +kernel
theorem dX5_check_4 : decode cX5_check 4 = .ok (.ifCond .eq 5, 3) := by decide +kernel
theorem dX5_check_7 : decode cX5_check 7 = .ok (.iconst 1, 1) := by decide +kernel
theorem dX5_check_8 : decode cX5_check 8 = .ok (.ireturn, 1) := by decide +kernel
theorem dX5_check_9 : decode cX5_check 9 = .ok (.aload_n 0, 1) := by decide +kernel
theorem dX5_check_10 : decode cX5_check 10 = .ok (.iconst 1, 1) := by decide +kernel
theorem dX5_check_11 : decode cX5_check 11 = .ok (.putfield 37, 3) := by decide +kernel
theorem dX5_check_14 : decode cX5_check 14 = .ok (.aload_n 1, 1) := by decide +kernel
theorem dX5_check_15 : decode cX5_check 15 = .ok (.iconst 0, 1) := by decide +kernel
theorem dX5_check_16 : decode cX5_check 16 = .ok (.iconst 1, 1) := by decide +kernel
theorem dX5_check_17 : decode cX5_check 17 = .ok (.bipush 40, 2) := by decide +kernel
theorem dX5_check_19 : decode cX5_check 19 = .ok (.iconst 0, 1) := by decide +kernel
theorem dX5_check_20 : decode cX5_check 20 = .ok (.iconst 0, 1) := by decide +kernel
theorem dX5_check_21 : decode cX5_check 21 = .ok (.invokevirtual 48, 3) := by decide +kernel
theorem dX5_check_24 : decode cX5_check 24 = .ok (.iconst 0, 1) := by decide +kernel
theorem dX5_check_25 : decode cX5_check 25 = .ok (.ireturn, 1) := by decide +kernel
theorem dX5_watchDead_0 : decode cX5_watchDead 0 = .ok (.aload_n 0, 1) := by decide +kernel
theorem dX5_watchDead_1 : decode cX5_watchDead 1 = .ok (.dup, 1) := by decide +kernel
theorem dX5_watchDead_2 : decode cX5_watchDead 2 = .ok (.getfield 52, 3) := by decide +kernel
theorem dX5_watchDead_5 : decode cX5_watchDead 5 = .ok (.iconst 1, 1) := by decide +kernel
theorem dX5_watchDead_6 : decode cX5_watchDead 6 = .ok (.iadd, 1) := by decide +kernel
theorem dX5_watchDead_7 : decode cX5_watchDead 7 = .ok (.putfield 52, 3) := by decide +kernel
theorem dX5_watchDead_10 : decode cX5_watchDead 10 = .ok (.aload_n 0, 1) := by decide +kernel
theorem dX5_watchDead_11 : decode cX5_watchDead 11 = .ok (.getfield 52, 3) := by decide +kernel
theorem dX5_watchDead_14 : decode cX5_watchDead 14 = .ok (.iconst 3, 1) := by decide +kernel
theorem dX5_watchDead_15 : decode cX5_watchDead 15 = .ok (.if_icmp .lt 25, 3) := by decide +kernel
theorem dX5_watchDead_18 : decode cX5_watchDead 18 = .ok (.aload_n 0, 1) := by decide +kernel
theorem dX5_watchDead_19 : decode cX5_watchDead 19 = .ok (.iconst 0, 1) := by decide +kernel
theorem dX5_watchDead_20 : decode cX5_watchDead 20 = .ok (.putfield 37, 3) := by decide +kernel
theorem dX5_watchDead_23 : decode cX5_watchDead 23 = .ok (.aload_n 1, 1) := by decide +kernel
theorem dX5_watchDead_24 : decode cX5_watchDead 24 = .ok (.invokevirtual 55, 3) := by decide +kernel
theorem dX5_watchDead_27 : decode cX5_watchDead 27 = .ok (.aload_n 1, 1) := by decide +kernel
theorem dX5_watchDead_28 : decode cX5_watchDead 28 = .ok (.iconst 0, 1) := by decide +kernel
theorem dX5_watchDead_29 : decode cX5_watchDead 29 = .ok (.iconst 2, 1) := by decide +kernel
theorem dX5_watchDead_30 : decode cX5_watchDead 30 = .ok (.bipush 42, 2) := by decide +kernel
theorem dX5_watchDead_32 : decode cX5_watchDead 32 = .ok (.aload_n 1, 1) := by decide +kernel
theorem dX5_watchDead_33 : decode cX5_watchDead 33 = .ok (.getfield 58, 3) := by decide +kernel
theorem dX5_watchDead_36 : decode cX5_watchDead 36 = .ok (.iconst 0, 1) := by decide +kernel
theorem dX5_watchDead_37 : decode cX5_watchDead 37 = .ok (.invokevirtual 48, 3) := by decide +kernel
theorem dX5_watchDead_40 : decode cX5_watchDead 40 = .ok (.return_, 1) := by decide +kernel
