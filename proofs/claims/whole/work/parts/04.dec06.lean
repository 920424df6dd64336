theorem dX6_init_0 : decode cX6_init 0 = .ok (.aload_n 0, 1) := by decide +kernel
theorem dX6_init_1 : decode cX6_init 1 = .ok (.invokespecial 3, 3) := by decide +kernel
theorem dX6_init_4 : decode cX6_init 4 = .ok (.aload_n 0, 1) := by decide +kernel
theorem dX6_init_5 : decode cX6_init 5 = .ok (.bipush 8, 2) := by decide +kernel
theorem dX6_init_7 : decode cX6_init 7 = .ok (.newarray .int, 2) := by decide +kernel
theorem dX6_init_9 : decode cX6_init 9 = .ok (.putfield 9, 3) := by decide +kernel
theorem dX6_init_12 : decode cX6_init 12 = .ok (.aload_n 0, 1) := by decide +kernel
theorem dX6_init_13 : decode cX6_init 13 = .ok (.iconst 0, 1) := by decide +kernel
theorem dX6_init_14 : decode cX6_init 14 = .ok (.putfield 15, 3) := by decide +kernel
theorem dX6_init_17 : decode cX6_init 17 = .ok (.aload_n 0, 1) := by decide +kernel
theorem dX6_init_18 : decode cX6_init 18 = .ok (.iconst (-1), 1) := by decide +kernel
theorem dX6_init_19 : decode cX6_init 19 = .ok (.putfield 19, 3) := by decide +kernel
theorem dX6_init_22 : decode cX6_init 22 = .ok (.return_, 1) := by decide +kernel
theorem dX6_write_0 : decode cX6_write 0 = .ok (.aload_n 0, 1) := by decide +kernel
theorem dX6_write_1 : decode cX6_write 1 = .ok (.iload_n 1, 1) := by decide +kernel
theorem dX6_write_2 : decode cX6_write 2 = .ok (.putfield 22, 3) := by decide +kernel
theorem dX6_write_5 : decode cX6_write 5 = .ok (.aload_n 0, 1) := by decide +kernel
theorem dX6_write_6 : decode cX6_write 6 = .ok (.iload_n 2, 1) := by decide +kernel
theorem dX6_write_7 : decode cX6_write 7 = .ok (.putfield 25, 3) := by decide +kernel
theorem dX6_write_10 : decode cX6_write 10 = .ok (.aload_n 0, 1) := by decide +kernel
theorem dX6_write_11 : decode cX6_write 11 = .ok (.iload_n 3, 1) := by decide +kernel
theorem dX6_write_12 : decode cX6_write 12 = .ok (.putfield 28, 3) := by decide +kernel
theorem dX6_write_15 : decode cX6_write 15 = .ok (.aload_n 0, 1) := by decide +kernel
theorem dX6_write_16 : decode cX6_write 16 = .ok (.iload 4, 2) := by decide +kernel
theorem dX6_write_18 : decode cX6_write 18 = .ok (.putfield 31, 3) := by decide +kernel
theorem dX6_write_21 : decode cX6_write 21 = .ok (.aload_n 0, 1) := by decide +kernel
theorem dX6_write_22 : decode cX6_write 22 = .ok (.iconst 0, 1) := by decide +kernel
theorem dX6_write_23 : decode cX6_write 23 = .ok (.putfield 34, 3) := by decide +kernel
theorem dX6_write_26 : decode cX6_write 26 = .ok (.aload_n 0, 1) := by decide +kernel
theorem dX6_write_27 : decode cX6_write 27 = .ok (.iconst 0, 1) := by decide +kernel
theorem dX6_write_28 : decode cX6_write 28 = .ok (.putfield 15, 3) := by decide +kernel
theorem dX6_write_31 : decode cX6_write 31 = .ok (.aload_n 0, 1) := by decide +kernel
theorem dX6_write_32 : decode cX6_write 32 = .ok (.iconst (-1), 1) := by decide +kernel
theorem dX6_write_33 : decode cX6_write 33 = .ok (.putfield 19, 3) := by decide +kernel
theorem dX6_write_36 : decode cX6_write 36 = .ok (.return_, 1) := by decide +kernel
theorem dX6_setNumbers_0 : decode cX6_setNumbers 0 = .ok (.iconst 0, 1) := by decide +kernel
theorem dX6_setNumbers_1 : decode cX6_setNumbers 1 = .ok (.istore_n 3, 1) := by decide +kernel
theorem dX6_setNumbers_2 : decode cX6_setNumbers 2 = .ok (.iload_n 3, 1) := by decide +kernel
theorem dX6_setNumbers_3 : decode cX6_setNumbers 3 = .ok (.bipush 8, 2) := by decide +kernel
theorem dX6_setNumbers_5 : decode cX6_setNumbers 5 = .ok (.if_icmp .ge 40, 3) := by decide +kernel
theorem dX6_setNumbers_8 : decode cX6_setNumbers 8 = .ok (.iload_n 2, 1) := by decide +kernel
theorem dX6_setNumbers_9 : decode cX6_setNumbers 9 = .ok (.iload_n 3, 1) := by decide +kernel
theorem dX6_setNumbers_10 : decode cX6_setNumbers 10 = .ok (.iadd, 1) := by decide +kernel
theorem dX6_setNumbers_11 : decode cX6_setNumbers 11 = .ok (.istore 4, 2) := by decide +kernel
theorem dX6_setNumbers_13 : decode cX6_setNumbers 13 = .ok (.aload_n 0, 1) := by decide +kernel
theorem dX6_setNumbers_14 : decode cX6_setNumbers 14 = .ok (.getfield 9, 3) := by decide +kernel
theorem dX6_setNumbers_17 : decode cX6_setNumbers 17 = .ok (.iload_n 3, 1) := by decide +kernel
theorem dX6_setNumbers_18 : decode cX6_setNumbers 18 = .ok (.iload 4, 2) := by decide +kernel
theorem dX6_setNumbers_20 : decode cX6_setNumbers 20 = .ok (.ifCond .lt 17, 3) := by decide +kernel
theorem dX6_setNumbers_23 : decode cX6_setNumbers 23 = .ok (.iload 4, 2) := by decide +kernel
theorem dX6_setNumbers_25 : decode cX6_setNumbers 25 = .ok (.aload_n 1, 1) := by decide +kernel
theorem dX6_setNumbers_26 : decode cX6_setNumbers 26 = .ok (.arraylength, 1) := by decide +kernel
theorem dX6_setNumbers_27 : decode cX6_setNumbers 27 = .ok (.if_icmp .ge 10, 3) := by decide +kernel
theorem dX6_setNumbers_30 : decode cX6_setNumbers 30 = .ok (.aload_n 1, 1) := by decide +kernel
theorem dX6_setNumbers_31 : decode cX6_setNumbers 31 = .ok (.iload 4, 2) := by decide +kernel
theorem dX6_setNumbers_33 : decode cX6_setNumbers 33 = .ok (.iaload, 1) := by decide +kernel
theorem dX6_setNumbers_34 : decode cX6_setNumbers 34 = .ok (.goto 4, 3) := by decide +kernel
theorem dX6_setNumbers_37 : decode cX6_setNumbers 37 = .ok (.iconst 0, 1) := by decide +kernel
theorem dX6_setNumbers_38 : decode cX6_setNumbers 38 = .ok (.iastore, 1) := by decide +kernel
theorem dX6_setNumbers_39 : decode cX6_setNumbers 39 = .ok (.iinc 3 1, 3) := by decide +kernel
theorem dX6_setNumbers_42 : decode cX6_setNumbers 42 = .ok (.goto (-40), 3) := by decide +kernel
theorem dX6_setNumbers_45 : decode cX6_setNumbers 45 = .ok (.return_, 1) := by decide +kernel
theorem dX6_copy_0 : decode cX6_copy 0 = .ok (.aload_n 0, 1) := by decide +kernel
theorem dX6_copy_1 : decode cX6_copy 1 = .ok (.aload_n 1, 1) := by decide +kernel
theorem dX6_copy_2 : decode cX6_copy 2 = .ok (.getfield 22, 3) := by decide +kernel
theorem dX6_copy_5 : decode cX6_copy 5 = .ok (.putfield 22, 3) := by decide +kernel
theorem dX6_copy_8 : decode cX6_copy 8 = .ok (.aload_n 0, 1) := by decide +kernel
theorem dX6_copy_9 : decode cX6_copy 9 = .ok (.aload_n 1, 1) := by decide +kernel
theorem dX6_copy_10 : decode cX6_copy 10 = .ok (.getfield 25, 3) := by decide +kernel
theorem dX6_copy_13 : decode cX6_copy 13 = .ok (.putfield 25, 3) := by decide +kernel
theorem dX6_copy_16 : decode cX6_copy 16 = .ok (.aload_n 0, 1) := by decide +kernel
theorem dX6_copy_17 : decode cX6_copy 17 = .ok (.aload_n 1, 1) := by decide +kernel
theorem dX6_copy_18 : decode cX6_copy 18 = .ok (.getfield 28, 3) := by decide +kernel
theorem dX6_copy_21 : decode cX6_copy 21 = .ok (.putfield 28, 3) := by decide +kernel
theorem dX6_copy_24 : decode cX6_copy 24 = .ok (.aload_n 0, 1) := by decide +kernel
theorem dX6_copy_25 : decode cX6_copy 25 = .ok (.aload_n 1, 1) := by decide +kernel
theorem dX6_copy_26 : decode cX6_copy 26 = .ok (.getfield 31, 3) := by decide +kernel
theorem dX6_copy_29 : decode cX6_copy 29 = .ok (.putfield 31, 3) := by decide +kernel
theorem dX6_copy_32 : decode cX6_copy 32 = .ok (.aload_n 0, 1) := by decide +kernel
theorem dX6_copy_33 : decode cX6_copy 33 = .ok (.aload_n 1, 1) := by decide +kernel
theorem dX6_copy_34 : decode cX6_copy 34 = .ok (.getfield 34, 3) := by decide +kernel
theorem dX6_copy_37 : decode cX6_copy 37 = .ok (.putfield 34, 3) := by decide +kernel
theorem dX6_copy_40 : decode cX6_copy 40 = .ok (.aload_n 0, 1) := by decide +kernel
theorem dX6_copy_41 : decode cX6_copy 41 = .ok (.getfield 25, 3) := by decide +kernel
theorem dX6_copy_44 : decode cX6_copy 44 = .ok (.bipush 21, 2) := by decide +kernel
theorem dX6_copy_46 : decode cX6_copy 46 = .ok (.if_icmp .eq 12, 3) := by decide +kernel
theorem dX6_copy_49 : decode cX6_copy 49 = .ok (.aload_n 0, 1) := by decide +kernel
theorem dX6_copy_50 : decode cX6_copy 50 = .ok (.getfield 25, 3) := by decide +kernel
theorem dX6_copy_53 : decode cX6_copy 53 = .ok (.bipush 22, 2) := by decide +kernel
theorem dX6_copy_55 : decode cX6_copy 55 = .ok (.if_icmp .ne 29, 3) := by decide +kernel
theorem dX6_copy_58 : decode cX6_copy 58 = .ok (.iconst 0, 1) := by decide +kernel
theorem dX6_copy_59 : decode cX6_copy 59 = .ok (.istore_n 2, 1) := by decide +kernel
theorem dX6_copy_60 : decode cX6_copy 60 = .ok (.iload_n 2, 1) := by decide +kernel
theorem dX6_copy_61 : decode cX6_copy 61 = .ok (.bipush 8, 2) := by decide +kernel
theorem dX6_copy_63 : decode cX6_copy 63 = .ok (.if_icmp .ge 21, 3) := by decide +kernel
theorem dX6_copy_66 : decode cX6_copy 66 = .ok (.aload_n 0, 1) := by decide +kernel
theorem dX6_copy_67 : decode cX6_copy 67 = .ok (.getfield 9, 3) := by decide +kernel
theorem dX6_copy_70 : decode cX6_copy 70 = .ok (.iload_n 2, 1) := by decide +kernel
theorem dX6_copy_71 : decode cX6_copy 71 = .ok (.aload_n 1, 1) := by decide +kernel
theorem dX6_copy_72 : decode cX6_copy 72 = .ok (.getfield 9, 3) := by decide +kernel
theorem dX6_copy_75 : decode cX6_copy 75 = .ok (.iload_n 2, 1) := by decide +kernel
theorem dX6_copy_76 : decode cX6_copy 76 = .ok (.iaload, 1) := by decide +kernel
theorem dX6_copy_77 : decode cX6_copy 77 = .ok (.iastore, 1) := by decide +kernel
theorem dX6_copy_78 : decode cX6_copy 78 = .ok (.iinc 2 1, 3) := by decide +kernel
theorem dX6_copy_81 : decode cX6_copy 81 = .ok (.goto (-21), 3) := by decide +kernel
theorem dX6_copy_84 : decode cX6_copy 84 = .ok (.return_, 1) := by decide +kernel
