theorem dX2_init_0 : decode cX2_init 0 = .ok (.aload_n 0, 1) := by decide +kernel
theorem dX2_init_1 : decode cX2_init 1 = .ok (.invokespecial 3, 3) := by decide +kernel
theorem dX2_init_4 : decode cX2_init 4 = .ok (.aload_n 0, 1) := by decide +kernel
theorem dX2_init_5 : decode cX2_init 5 = .ok (.sipush 192, 3) := by decide +kernel
theorem dX2_init_8 : decode cX2_init 8 = .ok (.newarray .int, 2) := by decide +kernel
theorem dX2_init_10 : decode cX2_init 10 = .ok (.putfield 9, 3) := by decide +kernel
theorem dX2_init_13 : decode cX2_init 13 = .ok (.aload_n 0, 1) := by decide +kernel
theorem dX2_init_14 : decode cX2_init 14 = .ok (.bipush 8, 2) := by decide +kernel
theorem dX2_init_16 : decode cX2_init 16 = .ok (.newarray .int, 2) := by decide +kernel
theorem dX2_init_18 : decode cX2_init 18 = .ok (.putfield 15, 3) := by decide +kernel
theorem dX2_init_21 : decode cX2_init 21 = .ok (.aload_n 0, 1) := by decide +kernel
theorem dX2_init_22 : decode cX2_init 22 = .ok (.iconst (-1), 1) := by decide +kernel
theorem dX2_init_23 : decode cX2_init 23 = .ok (.putfield 18, 3) := by decide +kernel
theorem dX2_init_26 : decode cX2_init 26 = .ok (.return_, 1) := by decide +kernel
theorem dX2_takeTurn_0 : decode cX2_takeTurn 0 = .ok (.aload_n 1, 1) := by decide +kernel
theorem dX2_takeTurn_1 : decode cX2_takeTurn 1 = .ok (.getfield 22, 3) := by decide +kernel
theorem dX2_takeTurn_4 : decode cX2_takeTurn 4 = .ok (.iconst 1, 1) := by decide +kernel
theorem dX2_takeTurn_5 : decode cX2_takeTurn 5 = .ok (.aaload, 1) := by decide +kernel
theorem dX2_takeTurn_6 : decode cX2_takeTurn 6 = .ok (.astore_n 2, 1) := by decide +kernel
theorem dX2_takeTurn_7 : decode cX2_takeTurn 7 = .ok (.aload_n 2, 1) := by decide +kernel
theorem dX2_takeTurn_8 : decode cX2_takeTurn 8 = .ok (.aload_n 2, 1) := by decide +kernel
theorem dX2_takeTurn_9 : decode cX2_takeTurn 9 = .ok (.bipush 40, 2) := by decide +kernel
theorem dX2_takeTurn_11 : decode cX2_takeTurn 11 = .ok (.invokevirtual 28, 3) := by decide +kernel
theorem dX2_takeTurn_14 : decode cX2_takeTurn 14 = .ok (.invokevirtual 34, 3) := by decide +kernel
theorem dX2_takeTurn_17 : decode cX2_takeTurn 17 = .ok (.ifnull 16, 3) := by decide +kernel
theorem dX2_takeTurn_20 : decode cX2_takeTurn 20 = .ok (.aload_n 1, 1) := by decide +kernel
theorem dX2_takeTurn_21 : decode cX2_takeTurn 21 = .ok (.iconst 1, 1) := by decide +kernel
theorem dX2_takeTurn_22 : decode cX2_takeTurn 22 = .ok (.iconst 0, 1) := by decide +kernel
theorem dX2_takeTurn_23 : decode cX2_takeTurn 23 = .ok (.bipush 41, 2) := by decide +kernel
theorem dX2_takeTurn_25 : decode cX2_takeTurn 25 = .ok (.iconst 0, 1) := by decide +kernel
theorem dX2_takeTurn_26 : decode cX2_takeTurn 26 = .ok (.iconst 0, 1) := by decide +kernel
theorem dX2_takeTurn_27 : decode cX2_takeTurn 27 = .ok (.invokevirtual 38, 3) := by decide +kernel
theorem dX2_takeTurn_30 : decode cX2_takeTurn 30 = .ok (.goto 28, 3) := by decide +kernel
theorem dX2_takeTurn_33 : decode cX2_takeTurn 33 = .ok (.aload_n 0, 1) := by decide +kernel
theorem dX2_takeTurn_34 : decode cX2_takeTurn 34 = .ok (.getfield 18, 3) := by decide +kernel
theorem dX2_takeTurn_37 : decode cX2_takeTurn 37 = .ok (.iconst (-1), 1) := by decide +kernel
theorem dX2_takeTurn_38 : decode cX2_takeTurn 38 = .ok (.if_icmp .eq 11, 3) := by decide +kernel
theorem dX2_takeTurn_41 : decode cX2_takeTurn 41 = .ok (.aload_n 0, 1) := by decide +kernel
theorem dX2_takeTurn_42 : decode cX2_takeTurn 42 = .ok (.aload_n 1, 1) := by decide +kernel
theorem dX2_takeTurn_43 : decode cX2_takeTurn 43 = .ok (.invokevirtual 42, 3) := by decide +kernel
theorem dX2_takeTurn_46 : decode cX2_takeTurn 46 = .ok (.goto 12, 3) := by decide +kernel
theorem dX2_takeTurn_49 : decode cX2_takeTurn 49 = .ok (.aload_n 0, 1) := by decide +kernel
theorem dX2_takeTurn_50 : decode cX2_takeTurn 50 = .ok (.aload_n 2, 1) := by decide +kernel
theorem dX2_takeTurn_51 : decode cX2_takeTurn 51 = .ok (.iconst 0, 1) := by decide +kernel
theorem dX2_takeTurn_52 : decode cX2_takeTurn 52 = .ok (.invokevirtual 34, 3) := by decide +kernel
theorem dX2_takeTurn_55 : decode cX2_takeTurn 55 = .ok (.invokevirtual 46, 3) := by decide +kernel
theorem dX2_takeTurn_58 : decode cX2_takeTurn 58 = .ok (.return_, 1) := by decide +kernel
theorem dX2_begin_0 : decode cX2_begin 0 = .ok (.aload_n 1, 1) := by decide +kernel
theorem dX2_begin_1 : decode cX2_begin 1 = .ok (.ifnull 37, 3) := by decide +kernel
theorem dX2_begin_4 : decode cX2_begin 4 = .ok (.aload_n 1, 1) := by decide +kernel
theorem dX2_begin_5 : decode cX2_begin 5 = .ok (.getfield 50, 3) := by decide +kernel
theorem dX2_begin_8 : decode cX2_begin 8 = .ok (.bipush 20, 2) := by decide +kernel
theorem dX2_begin_10 : decode cX2_begin 10 = .ok (.if_icmp .eq 12, 3) := by decide +kernel
theorem dX2_begin_13 : decode cX2_begin 13 = .ok (.aload_n 1, 1) := by decide +kernel
theorem dX2_begin_14 : decode cX2_begin 14 = .ok (.getfield 50, 3) := by decide +kernel
theorem dX2_begin_17 : decode cX2_begin 17 = .ok (.bipush 21, 2) := by decide +kernel
theorem dX2_begin_19 : decode cX2_begin 19 = .ok (.if_icmp .ne 19, 3) := by decide +kernel
theorem dX2_begin_22 : decode cX2_begin 22 = .ok (.aload_n 1, 1) := by decide +kernel
theorem dX2_begin_23 : decode cX2_begin 23 = .ok (.getfield 55, 3) := by decide +kernel
theorem dX2_begin_26 : decode cX2_begin 26 = .ok (.ifCond .lt 12, 3) := by decide +kernel
theorem dX2_begin_29 : decode cX2_begin 29 = .ok (.aload_n 1, 1) := by decide +kernel
theorem dX2_begin_30 : decode cX2_begin 30 = .ok (.getfield 55, 3) := by decide +kernel
theorem dX2_begin_33 : decode cX2_begin 33 = .ok (.bipush 24, 2) := by decide +kernel
theorem dX2_begin_35 : decode cX2_begin 35 = .ok (.if_icmp .lt 4, 3) := by decide +kernel
theorem dX2_begin_38 : decode cX2_begin 38 = .ok (.return_, 1) := by decide +kernel
theorem dX2_begin_39 : decode cX2_begin 39 = .ok (.aload_n 0, 1) := by decide +kernel
theorem dX2_begin_40 : decode cX2_begin 40 = .ok (.aload_n 1, 1) := by decide +kernel
theorem dX2_begin_41 : decode cX2_begin 41 = .ok (.getfield 50, 3) := by decide +kernel
theorem dX2_begin_44 : decode cX2_begin 44 = .ok (.putfield 18, 3) := by decide +kernel
theorem dX2_begin_47 : decode cX2_begin 47 = .ok (.aload_n 0, 1) := by decide +kernel
theorem dX2_begin_48 : decode cX2_begin 48 = .ok (.aload_n 1, 1) := by decide +kernel
theorem dX2_begin_49 : decode cX2_begin 49 = .ok (.getfield 55, 3) := by decide +kernel
theorem dX2_begin_52 : decode cX2_begin 52 = .ok (.putfield 58, 3) := by decide +kernel
theorem dX2_begin_55 : decode cX2_begin 55 = .ok (.aload_n 0, 1) := by decide +kernel
theorem dX2_begin_56 : decode cX2_begin 56 = .ok (.getfield 18, 3) := by decide +kernel
theorem dX2_begin_59 : decode cX2_begin 59 = .ok (.bipush 21, 2) := by decide +kernel
theorem dX2_begin_61 : decode cX2_begin 61 = .ok (.if_icmp .ne 29, 3) := by decide +kernel
theorem dX2_begin_64 : decode cX2_begin 64 = .ok (.iconst 0, 1) := by decide +kernel
theorem dX2_begin_65 : decode cX2_begin 65 = .ok (.istore_n 2, 1) := by decide +kernel
theorem dX2_begin_66 : decode cX2_begin 66 = .ok (.iload_n 2, 1) := by decide +kernel
theorem dX2_begin_67 : decode cX2_begin 67 = .ok (.bipush 8, 2) := by decide +kernel
theorem dX2_begin_69 : decode cX2_begin 69 = .ok (.if_icmp .ge 21, 3) := by decide +kernel
theorem dX2_begin_72 : decode cX2_begin 72 = .ok (.aload_n 0, 1) := by decide +kernel
theorem dX2_begin_73 : decode cX2_begin 73 = .ok (.getfield 15, 3) := by decide +kernel
theorem dX2_begin_76 : decode cX2_begin 76 = .ok (.iload_n 2, 1) := by decide +kernel
theorem dX2_begin_77 : decode cX2_begin 77 = .ok (.aload_n 1, 1) := by decide +kernel
theorem dX2_begin_78 : decode cX2_begin 78 = .ok (.getfield 61, 3) := by decide +kernel
theorem dX2_begin_81 : decode cX2_begin 81 = .ok (.iload_n 2, 1) := by decide +kernel
theorem dX2_begin_82 : decode cX2_begin 82 = .ok (.iaload, 1) := by decide +kernel
theorem dX2_begin_83 : decode cX2_begin 83 = .ok (.iastore, 1) := by decide +kernel
theorem dX2_begin_84 : decode cX2_begin 84 = .ok (.iinc 2 1, 3) := by decide +kernel
theorem dX2_begin_87 : decode cX2_begin 87 = .ok (.goto (-21), 3) := by decide +kernel
theorem dX2_begin_90 : decode cX2_begin 90 = .ok (.return_, 1) := by decide +kernel
theorem dX2_work_0 : decode cX2_work 0 = .ok (.aload_n 0, 1) := by decide +kernel
theorem dX2_work_1 : decode cX2_work 1 = .ok (.getfield 62, 3) := by decide +kernel
theorem dX2_work_4 : decode cX2_work 4 = .ok (.aload_n 0, 1) := by decide +kernel
theorem dX2_work_5 : decode cX2_work 5 = .ok (.getfield 58, 3) := by decide +kernel
theorem dX2_work_8 : decode cX2_work 8 = .ok (.if_icmp .eq 29, 3) := by decide +kernel
theorem dX2_work_11 : decode cX2_work 11 = .ok (.aload_n 0, 1) := by decide +kernel
theorem dX2_work_12 : decode cX2_work 12 = .ok (.dup, 1) := by decide +kernel
theorem dX2_work_13 : decode cX2_work 13 = .ok (.getfield 62, 3) := by decide +kernel
theorem dX2_work_16 : decode cX2_work 16 = .ok (.aload_n 0, 1) := by decide +kernel
theorem dX2_work_17 : decode cX2_work 17 = .ok (.getfield 62, 3) := by decide +kernel
theorem dX2_work_20 : decode cX2_work 20 = .ok (.aload_n 0, 1) := by decide +kernel
theorem dX2_work_21 : decode cX2_work 21 = .ok (.getfield 58, 3) := by decide +kernel
theorem dX2_work_24 : decode cX2_work 24 = .ok (.if_icmp .ge 7, 3) := by decide +kernel
theorem dX2_work_27 : decode cX2_work 27 = .ok (.iconst 1, 1) := by decide +kernel
theorem dX2_work_28 : decode cX2_work 28 = .ok (.goto 4, 3) := by decide +kernel
theorem dX2_work_31 : decode cX2_work 31 = .ok (.iconst (-1), 1) := by decide +kernel
theorem dX2_work_32 : decode cX2_work 32 = .ok (.iadd, 1) := by decide +kernel
theorem dX2_work_33 : decode cX2_work 33 = .ok (.putfield 62, 3) := by decide +kernel
theorem dX2_work_36 : decode cX2_work 36 = .ok (.return_, 1) := by decide +kernel
theorem dX2_work_37 : decode cX2_work 37 = .ok (.aload_n 0, 1) := by decide +kernel
theorem dX2_work_38 : decode cX2_work 38 = .ok (.getfield 58, 3) := by decide +kernel
theorem dX2_work_41 : decode cX2_work 41 = .ok (.bipush 8, 2) := by decide +kernel
theorem dX2_work_43 : decode cX2_work 43 = .ok (.imul, 1) := by decide +kernel
theorem dX2_work_44 : decode cX2_work 44 = .ok (.istore_n 2, 1) := by decide +kernel
theorem dX2_work_45 : decode cX2_work 45 = .ok (.aload_n 0, 1) := by decide +kernel
theorem dX2_work_46 : decode cX2_work 46 = .ok (.getfield 18, 3) := by decide +kernel
theorem dX2_work_49 : decode cX2_work 49 = .ok (.bipush 21, 2) := by decide +kernel
theorem dX2_work_51 : decode cX2_work 51 = .ok (.if_icmp .ne 31, 3) := by decide +kernel
theorem dX2_work_54 : decode cX2_work 54 = .ok (.iconst 0, 1) := by decide +kernel
theorem dX2_work_55 : decode cX2_work 55 = .ok (.istore_n 3, 1) := by decide +kernel
theorem dX2_work_56 : decode cX2_work 56 = .ok (.iload_n 3, 1) := by decide +kernel
theorem dX2_work_57 : decode cX2_work 57 = .ok (.bipush 8, 2) := by decide +kernel
theorem dX2_work_59 : decode cX2_work 59 = .ok (.if_icmp .ge 23, 3) := by decide +kernel
theorem dX2_work_62 : decode cX2_work 62 = .ok (.aload_n 0, 1) := by decide +kernel
theorem dX2_work_63 : decode cX2_work 63 = .ok (.getfield 9, 3) := by decide +kernel
theorem dX2_work_66 : decode cX2_work 66 = .ok (.iload_n 2, 1) := by decide +kernel
theorem dX2_work_67 : decode cX2_work 67 = .ok (.iload_n 3, 1) := by decide +kernel
theorem dX2_work_68 : decode cX2_work 68 = .ok (.iadd, 1) := by decide +kernel
theorem dX2_work_69 : decode cX2_work 69 = .ok (.aload_n 0, 1) := by decide +kernel
theorem dX2_work_70 : decode cX2_work 70 = .ok (.getfield 15, 3) := by decide +kernel
theorem dX2_work_73 : decode cX2_work 73 = .ok (.iload_n 3, 1) := by decide +kernel
theorem dX2_work_74 : decode cX2_work 74 = .ok (.iaload, 1) := by decide +kernel
theorem dX2_work_75 : decode cX2_work 75 = .ok (.iastore, 1) := by decide +kernel
theorem dX2_work_76 : decode cX2_work 76 = .ok (.iinc 3 1, 3) := by decide +kernel
theorem dX2_work_79 : decode cX2_work 79 = .ok (.goto (-23), 3) := by decide +kernel
theorem dX2_work_82 : decode cX2_work 82 = .ok (.aload_n 0, 1) := by decide +kernel
theorem dX2_work_83 : decode cX2_work 83 = .ok (.iconst (-1), 1) := by decide +kernel
theorem dX2_work_84 : decode cX2_work 84 = .ok (.putfield 18, 3) := by decide +kernel
theorem dX2_work_87 : decode cX2_work 87 = .ok (.aload_n 1, 1) := by decide +kernel
theorem dX2_work_88 : decode cX2_work 88 = .ok (.iconst 1, 1) := by decide +kernel
theorem dX2_work_89 : decode cX2_work 89 = .ok (.bipush 22, 2) := by decide +kernel
theorem dX2_work_91 : decode cX2_work 91 = .ok (.iconst 0, 1) := by decide +kernel
theorem dX2_work_92 : decode cX2_work 92 = .ok (.iconst 0, 1) := by decide +kernel
theorem dX2_work_93 : decode cX2_work 93 = .ok (.invokevirtual 65, 3) := by decide +kernel
theorem dX2_work_96 : decode cX2_work 96 = .ok (.astore_n 3, 1) := by decide +kernel
theorem dX2_work_97 : decode cX2_work 97 = .ok (.aload_n 3, 1) := by decide +kernel
theorem dX2_work_98 : decode cX2_work 98 = .ok (.ifnull 19, 3) := by decide +kernel
theorem dX2_work_101 : decode cX2_work 101 = .ok (.aload_n 3, 1) := by decide +kernel
theorem dX2_work_102 : decode cX2_work 102 = .ok (.aload_n 0, 1) := by decide +kernel
theorem dX2_work_103 : decode cX2_work 103 = .ok (.getfield 9, 3) := by decide +kernel
theorem dX2_work_106 : decode cX2_work 106 = .ok (.iload_n 2, 1) := by decide +kernel
theorem dX2_work_107 : decode cX2_work 107 = .ok (.invokevirtual 69, 3) := by decide +kernel
theorem dX2_work_110 : decode cX2_work 110 = .ok (.aload_n 1, 1) := by decide +kernel
theorem dX2_work_111 : decode cX2_work 111 = .ok (.aload_n 3, 1) := by decide +kernel
theorem dX2_work_112 : decode cX2_work 112 = .ok (.iconst 2, 1) := by decide +kernel
theorem dX2_work_113 : decode cX2_work 113 = .ok (.invokevirtual 73, 3) := by decide +kernel
theorem dX2_work_116 : decode cX2_work 116 = .ok (.pop, 1) := by decide +kernel
theorem dX2_work_117 : decode cX2_work 117 = .ok (.return_, 1) := by decide +kernel
theorem dX2_loseAll_0 : decode cX2_loseAll 0 = .ok (.aload_n 0, 1) := by decide +kernel
theorem dX2_loseAll_1 : decode cX2_loseAll 1 = .ok (.iconst 0, 1) := by decide +kernel
theorem dX2_loseAll_2 : decode cX2_loseAll 2 = .ok (.putfield 77, 3) := by decide +kernel
theorem dX2_loseAll_5 : decode cX2_loseAll 5 = .ok (.aload_n 0, 1) := by decide +kernel
theorem dX2_loseAll_6 : decode cX2_loseAll 6 = .ok (.iconst 0, 1) := by decide +kernel
theorem dX2_loseAll_7 : decode cX2_loseAll 7 = .ok (.putfield 62, 3) := by decide +kernel
theorem dX2_loseAll_10 : decode cX2_loseAll 10 = .ok (.aload_n 0, 1) := by decide +kernel
theorem dX2_loseAll_11 : decode cX2_loseAll 11 = .ok (.iconst (-1), 1) := by decide +kernel
theorem dX2_loseAll_12 : decode cX2_loseAll 12 = .ok (.putfield 18, 3) := by decide +kernel
theorem dX2_loseAll_15 : decode cX2_loseAll 15 = .ok (.return_, 1) := by decide +kernel
