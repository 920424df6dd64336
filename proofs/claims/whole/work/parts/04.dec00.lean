theorem dX0_init_0 : decode cX0_init 0 = .ok (.aload_n 0, 1) := by decide +kernel
theorem dX0_init_1 : decode cX0_init 1 = .ok (.invokespecial 3, 3) := by decide +kernel
theorem dX0_init_4 : decode cX0_init 4 = .ok (.aload_n 0, 1) := by decide +kernel
theorem dX0_init_5 : decode cX0_init 5 = .ok (.bipush 12, 2) := by decide +kernel
theorem dX0_init_7 : decode cX0_init 7 = .ok (.anewarray 9, 3) := by decide +kernel
theorem dX0_init_10 : decode cX0_init 10 = .ok (.putfield 11, 3) := by decide +kernel
theorem dX0_init_13 : decode cX0_init 13 = .ok (.iconst 0, 1) := by decide +kernel
theorem dX0_init_14 : decode cX0_init 14 = .ok (.istore_n 1, 1) := by decide +kernel
theorem dX0_init_15 : decode cX0_init 15 = .ok (.iload_n 1, 1) := by decide +kernel
theorem dX0_init_16 : decode cX0_init 16 = .ok (.bipush 12, 2) := by decide +kernel
theorem dX0_init_18 : decode cX0_init 18 = .ok (.if_icmp .ge 22, 3) := by decide +kernel
theorem dX0_init_21 : decode cX0_init 21 = .ok (.aload_n 0, 1) := by decide +kernel
theorem dX0_init_22 : decode cX0_init 22 = .ok (.getfield 11, 3) := by decide +kernel
theorem dX0_init_25 : decode cX0_init 25 = .ok (.iload_n 1, 1) := by decide +kernel
theorem dX0_init_26 : decode cX0_init 26 = .ok (.new 9, 3) := by decide +kernel
theorem dX0_init_29 : decode cX0_init 29 = .ok (.dup, 1) := by decide +kernel
theorem dX0_init_30 : decode cX0_init 30 = .ok (.invokespecial 17, 3) := by decide +kernel
theorem dX0_init_33 : decode cX0_init 33 = .ok (.aastore, 1) := by decide +kernel
theorem dX0_init_34 : decode cX0_init 34 = .ok (.iinc 1 1, 3) := by decide +kernel
theorem dX0_init_37 : decode cX0_init 37 = .ok (.goto (-22), 3) := by decide +kernel
theorem dX0_init_40 : decode cX0_init 40 = .ok (.aload_n 0, 1) := by decide +kernel
theorem dX0_init_41 : decode cX0_init 41 = .ok (.iconst 0, 1) := by decide +kernel
theorem dX0_init_42 : decode cX0_init 42 = .ok (.putfield 18, 3) := by decide +kernel
theorem dX0_init_45 : decode cX0_init 45 = .ok (.return_, 1) := by decide +kernel
theorem dX0_look_0 : decode cX0_look 0 = .ok (.iload_n 1, 1) := by decide +kernel
theorem dX0_look_1 : decode cX0_look 1 = .ok (.ifCond .lt 20, 3) := by decide +kernel
theorem dX0_look_4 : decode cX0_look 4 = .ok (.iload_n 1, 1) := by decide +kernel
theorem dX0_look_5 : decode cX0_look 5 = .ok (.aload_n 0, 1) := by decide +kernel
theorem dX0_look_6 : decode cX0_look 6 = .ok (.getfield 18, 3) := by decide +kernel
theorem dX0_look_9 : decode cX0_look 9 = .ok (.if_icmp .ge 12, 3) := by decide +kernel
theorem dX0_look_12 : decode cX0_look 12 = .ok (.aload_n 0, 1) := by decide +kernel
theorem dX0_look_13 : decode cX0_look 13 = .ok (.getfield 11, 3) := by decide +kernel
theorem dX0_look_16 : decode cX0_look 16 = .ok (.iload_n 1, 1) := by decide +kernel
theorem dX0_look_17 : decode cX0_look 17 = .ok (.aaload, 1) := by decide +kernel
theorem dX0_look_18 : decode cX0_look 18 = .ok (.goto 4, 3) := by decide +kernel
theorem dX0_look_21 : decode cX0_look 21 = .ok (.aconst_null, 1) := by decide +kernel
theorem dX0_look_22 : decode cX0_look 22 = .ok (.areturn, 1) := by decide +kernel
theorem dX0_grow_0 : decode cX0_grow 0 = .ok (.aload_n 0, 1) := by decide +kernel
theorem dX0_grow_1 : decode cX0_grow 1 = .ok (.getfield 18, 3) := by decide +kernel
theorem dX0_grow_4 : decode cX0_grow 4 = .ok (.bipush 12, 2) := by decide +kernel
theorem dX0_grow_6 : decode cX0_grow 6 = .ok (.if_icmp .lt 5, 3) := by decide +kernel
theorem dX0_grow_9 : decode cX0_grow 9 = .ok (.aconst_null, 1) := by decide +kernel
theorem dX0_grow_10 : decode cX0_grow 10 = .ok (.areturn, 1) := by decide +kernel
theorem dX0_grow_11 : decode cX0_grow 11 = .ok (.aload_n 0, 1) := by decide +kernel
theorem dX0_grow_12 : decode cX0_grow 12 = .ok (.dup, 1) := by decide +kernel
theorem dX0_grow_13 : decode cX0_grow 13 = .ok (.getfield 18, 3) := by decide +kernel
theorem dX0_grow_16 : decode cX0_grow 16 = .ok (.iconst 1, 1) := by decide +kernel
theorem dX0_grow_17 : decode cX0_grow 17 = .ok (.iadd, 1) := by decide +kernel
theorem dX0_grow_18 : decode cX0_grow 18 = .ok (.putfield 18, 3) := by decide +kernel
theorem dX0_grow_21 : decode cX0_grow 21 = .ok (.aload_n 0, 1) := by decide +kernel
theorem dX0_grow_22 : decode cX0_grow 22 = .ok (.getfield 11, 3) := by decide +kernel
theorem dX0_grow_25 : decode cX0_grow 25 = .ok (.aload_n 0, 1) := by decide +kernel
theorem dX0_grow_26 : decode cX0_grow 26 = .ok (.getfield 18, 3) := by decide +kernel
theorem dX0_grow_29 : decode cX0_grow 29 = .ok (.iconst 1, 1) := by decide +kernel
theorem dX0_grow_30 : decode cX0_grow 30 = .ok (.isub, 1) := by decide +kernel
theorem dX0_grow_31 : decode cX0_grow 31 = .ok (.aaload, 1) := by decide +kernel
theorem dX0_grow_32 : decode cX0_grow 32 = .ok (.areturn, 1) := by decide +kernel
theorem dX0_take_0 : decode cX0_take 0 = .ok (.iload_n 1, 1) := by decide +kernel
theorem dX0_take_1 : decode cX0_take 1 = .ok (.ifCond .lt 11, 3) := by decide +kernel
theorem dX0_take_4 : decode cX0_take 4 = .ok (.iload_n 1, 1) := by decide +kernel
theorem dX0_take_5 : decode cX0_take 5 = .ok (.aload_n 0, 1) := by decide +kernel
theorem dX0_take_6 : decode cX0_take 6 = .ok (.getfield 18, 3) := by decide +kernel
theorem dX0_take_9 : decode cX0_take 9 = .ok (.if_icmp .lt 5, 3) := by decide +kernel
theorem dX0_take_12 : decode cX0_take 12 = .ok (.aconst_null, 1) := by decide +kernel
theorem dX0_take_13 : decode cX0_take 13 = .ok (.areturn, 1) := by decide +kernel
theorem dX0_take_14 : decode cX0_take 14 = .ok (.aload_n 0, 1) := by decide +kernel
theorem dX0_take_15 : decode cX0_take 15 = .ok (.getfield 11, 3) := by decide +kernel
theorem dX0_take_18 : decode cX0_take 18 = .ok (.iload_n 1, 1) := by decide +kernel
theorem dX0_take_19 : decode cX0_take 19 = .ok (.aaload, 1) := by decide +kernel
theorem dX0_take_20 : decode cX0_take 20 = .ok (.astore_n 2, 1) := by decide +kernel
theorem dX0_take_21 : decode cX0_take 21 = .ok (.aload_n 0, 1) := by decide +kernel
theorem dX0_take_22 : decode cX0_take 22 = .ok (.dup, 1) := by decide +kernel
theorem dX0_take_23 : decode cX0_take 23 = .ok (.getfield 18, 3) := by decide +kernel
theorem dX0_take_26 : decode cX0_take 26 = .ok (.iconst 1, 1) := by decide +kernel
theorem dX0_take_27 : decode cX0_take 27 = .ok (.isub, 1) := by decide +kernel
theorem dX0_take_28 : decode cX0_take 28 = .ok (.putfield 18, 3) := by decide +kernel
theorem dX0_take_31 : decode cX0_take 31 = .ok (.iload_n 1, 1) := by decide +kernel
theorem dX0_take_32 : decode cX0_take 32 = .ok (.istore_n 3, 1) := by decide +kernel
theorem dX0_take_33 : decode cX0_take 33 = .ok (.iload_n 3, 1) := by decide +kernel
theorem dX0_take_34 : decode cX0_take 34 = .ok (.aload_n 0, 1) := by decide +kernel
theorem dX0_take_35 : decode cX0_take 35 = .ok (.getfield 18, 3) := by decide +kernel
theorem dX0_take_38 : decode cX0_take 38 = .ok (.if_icmp .ge 23, 3) := by decide +kernel
theorem dX0_take_41 : decode cX0_take 41 = .ok (.aload_n 0, 1) := by decide +kernel
theorem dX0_take_42 : decode cX0_take 42 = .ok (.getfield 11, 3) := by decide +kernel
theorem dX0_take_45 : decode cX0_take 45 = .ok (.iload_n 3, 1) := by decide +kernel
theorem dX0_take_46 : decode cX0_take 46 = .ok (.aload_n 0, 1) := by decide +kernel
theorem dX0_take_47 : decode cX0_take 47 = .ok (.getfield 11, 3) := by decide +kernel
theorem dX0_take_50 : decode cX0_take 50 = .ok (.iload_n 3, 1) := by decide +kernel
theorem dX0_take_51 : decode cX0_take 51 = .ok (.iconst 1, 1) := by decide +kernel
theorem dX0_take_52 : decode cX0_take 52 = .ok (.iadd, 1) := by decide +kernel
theorem dX0_take_53 : decode cX0_take 53 = .ok (.aaload, 1) := by decide +kernel
theorem dX0_take_54 : decode cX0_take 54 = .ok (.aastore, 1) := by decide +kernel
theorem dX0_take_55 : decode cX0_take 55 = .ok (.iinc 3 1, 3) := by decide +kernel
theorem dX0_take_58 : decode cX0_take 58 = .ok (.goto (-25), 3) := by decide +kernel
theorem dX0_take_61 : decode cX0_take 61 = .ok (.aload_n 0, 1) := by decide +kernel
theorem dX0_take_62 : decode cX0_take 62 = .ok (.getfield 11, 3) := by decide +kernel
theorem dX0_take_65 : decode cX0_take 65 = .ok (.aload_n 0, 1) := by decide +kernel
theorem dX0_take_66 : decode cX0_take 66 = .ok (.getfield 18, 3) := by decide +kernel
theorem dX0_take_69 : decode cX0_take 69 = .ok (.aload_n 2, 1) := by decide +kernel
theorem dX0_take_70 : decode cX0_take 70 = .ok (.aastore, 1) := by decide +kernel
theorem dX0_take_71 : decode cX0_take 71 = .ok (.aload_n 2, 1) := by decide +kernel
theorem dX0_take_72 : decode cX0_take 72 = .ok (.areturn, 1) := by decide +kernel
theorem dX0_firstFor_0 : decode cX0_firstFor 0 = .ok (.iconst 0, 1) := by decide +kernel
theorem dX0_firstFor_1 : decode cX0_firstFor 1 = .ok (.istore_n 2, 1) := by decide +kernel
theorem dX0_firstFor_2 : decode cX0_firstFor 2 = .ok (.iload_n 2, 1) := by decide +kernel
theorem dX0_firstFor_3 : decode cX0_firstFor 3 = .ok (.aload_n 0, 1) := by decide +kernel
theorem dX0_firstFor_4 : decode cX0_firstFor 4 = .ok (.getfield 18, 3) := by decide +kernel
theorem dX0_firstFor_7 : decode cX0_firstFor 7 = .ok (.if_icmp .ge 40, 3) := by decide +kernel
theorem dX0_firstFor_10 : decode cX0_firstFor 10 = .ok (.aload_n 0, 1) := by decide +kernel
theorem dX0_firstFor_11 : decode cX0_firstFor 11 = .ok (.getfield 11, 3) := by decide +kernel
theorem dX0_firstFor_14 : decode cX0_firstFor 14 = .ok (.iload_n 2, 1) := by decide +kernel
theorem dX0_firstFor_15 : decode cX0_firstFor 15 = .ok (.aaload, 1) := by decide +kernel
theorem dX0_firstFor_16 : decode cX0_firstFor 16 = .ok (.getfield 22, 3) := by decide +kernel
theorem dX0_firstFor_19 : decode cX0_firstFor 19 = .ok (.ifCond .eq 20, 3) := by decide +kernel
theorem dX0_firstFor_22 : decode cX0_firstFor 22 = .ok (.iload_n 1, 1) := by decide +kernel
theorem dX0_firstFor_23 : decode cX0_firstFor 23 = .ok (.aload_n 0, 1) := by decide +kernel
theorem dX0_firstFor_24 : decode cX0_firstFor 24 = .ok (.getfield 11, 3) := by decide +kernel
theorem dX0_firstFor_27 : decode cX0_firstFor 27 = .ok (.iload_n 2, 1) := by decide +kernel
theorem dX0_firstFor_28 : decode cX0_firstFor 28 = .ok (.aaload, 1) := by decide +kernel
theorem dX0_firstFor_29 : decode cX0_firstFor 29 = .ok (.getfield 25, 3) := by decide +kernel
theorem dX0_firstFor_32 : decode cX0_firstFor 32 = .ok (.ishr, 1) := by decide +kernel
theorem dX0_firstFor_33 : decode cX0_firstFor 33 = .ok (.iconst 1, 1) := by decide +kernel
theorem dX0_firstFor_34 : decode cX0_firstFor 34 = .ok (.iand, 1) := by decide +kernel
theorem dX0_firstFor_35 : decode cX0_firstFor 35 = .ok (.iconst 1, 1) := by decide +kernel
theorem dX0_firstFor_36 : decode cX0_firstFor 36 = .ok (.if_icmp .ne 5, 3) := by decide +kernel
theorem dX0_firstFor_39 : decode cX0_firstFor 39 = .ok (.iload_n 2, 1) := by decide +kernel
theorem dX0_firstFor_40 : decode cX0_firstFor 40 = .ok (.ireturn, 1) := by decide +kernel
theorem dX0_firstFor_41 : decode cX0_firstFor 41 = .ok (.iinc 2 1, 3) := by decide +kernel
theorem dX0_firstFor_44 : decode cX0_firstFor 44 = .ok (.goto (-42), 3) := by decide +kernel
theorem dX0_firstFor_47 : decode cX0_firstFor 47 = .ok (.iconst (-1), 1) := by decide +kernel
theorem dX0_firstFor_48 : decode cX0_firstFor 48 = .ok (.ireturn, 1) := by decide +kernel
theorem dX0_firstOf_0 : decode cX0_firstOf 0 = .ok (.iconst 0, 1) := by decide +kernel
theorem dX0_firstOf_1 : decode cX0_firstOf 1 = .ok (.istore_n 2, 1) := by decide +kernel
theorem dX0_firstOf_2 : decode cX0_firstOf 2 = .ok (.iload_n 2, 1) := by decide +kernel
theorem dX0_firstOf_3 : decode cX0_firstOf 3 = .ok (.aload_n 0, 1) := by decide +kernel
theorem dX0_firstOf_4 : decode cX0_firstOf 4 = .ok (.getfield 18, 3) := by decide +kernel
theorem dX0_firstOf_7 : decode cX0_firstOf 7 = .ok (.if_icmp .ge 24, 3) := by decide +kernel
theorem dX0_firstOf_10 : decode cX0_firstOf 10 = .ok (.aload_n 0, 1) := by decide +kernel
theorem dX0_firstOf_11 : decode cX0_firstOf 11 = .ok (.getfield 11, 3) := by decide +kernel
theorem dX0_firstOf_14 : decode cX0_firstOf 14 = .ok (.iload_n 2, 1) := by decide +kernel
theorem dX0_firstOf_15 : decode cX0_firstOf 15 = .ok (.aaload, 1) := by decide +kernel
theorem dX0_firstOf_16 : decode cX0_firstOf 16 = .ok (.getfield 22, 3) := by decide +kernel
theorem dX0_firstOf_19 : decode cX0_firstOf 19 = .ok (.iload_n 1, 1) := by decide +kernel
theorem dX0_firstOf_20 : decode cX0_firstOf 20 = .ok (.if_icmp .ne 5, 3) := by decide +kernel
theorem dX0_firstOf_23 : decode cX0_firstOf 23 = .ok (.iload_n 2, 1) := by decide +kernel
theorem dX0_firstOf_24 : decode cX0_firstOf 24 = .ok (.ireturn, 1) := by decide +kernel
theorem dX0_firstOf_25 : decode cX0_firstOf 25 = .ok (.iinc 2 1, 3) := by decide +kernel
theorem dX0_firstOf_28 : decode cX0_firstOf 28 = .ok (.goto (-26), 3) := by decide +kernel
theorem dX0_firstOf_31 : decode cX0_firstOf 31 = .ok (.iconst (-1), 1) := by decide +kernel
theorem dX0_firstOf_32 : decode cX0_firstOf 32 = .ok (.ireturn, 1) := by decide +kernel
theorem dX0_dropFrom_0 : decode cX0_dropFrom 0 = .ok (.aload_n 0, 1) := by decide +kernel
theorem dX0_dropFrom_1 : decode cX0_dropFrom 1 = .ok (.getfield 18, 3) := by decide +kernel
theorem dX0_dropFrom_4 : decode cX0_dropFrom 4 = .ok (.iconst 1, 1) := by decide +kernel
theorem dX0_dropFrom_5 : decode cX0_dropFrom 5 = .ok (.isub, 1) := by decide +kernel
theorem dX0_dropFrom_6 : decode cX0_dropFrom 6 = .ok (.istore_n 2, 1) := by decide +kernel
theorem dX0_dropFrom_7 : decode cX0_dropFrom 7 = .ok (.iload_n 2, 1) := by decide +kernel
theorem dX0_dropFrom_8 : decode cX0_dropFrom 8 = .ok (.ifCond .lt 28, 3) := by decide +kernel
theorem dX0_dropFrom_11 : decode cX0_dropFrom 11 = .ok (.aload_n 0, 1) := by decide +kernel
theorem dX0_dropFrom_12 : decode cX0_dropFrom 12 = .ok (.getfield 11, 3) := by decide +kernel
theorem dX0_dropFrom_15 : decode cX0_dropFrom 15 = .ok (.iload_n 2, 1) := by decide +kernel
theorem dX0_dropFrom_16 : decode cX0_dropFrom 16 = .ok (.aaload, 1) := by decide +kernel
theorem dX0_dropFrom_17 : decode cX0_dropFrom 17 = .ok (.getfield 25, 3) := by decide +kernel
theorem dX0_dropFrom_20 : decode cX0_dropFrom 20 = .ok (.iload_n 1, 1) := by decide +kernel
theorem dX0_dropFrom_21 : decode cX0_dropFrom 21 = .ok (.if_icmp .ne 9, 3) := by decide +kernel
theorem dX0_dropFrom_24 : decode cX0_dropFrom 24 = .ok (.aload_n 0, 1) := by decide +kernel
theorem dX0_dropFrom_25 : decode cX0_dropFrom 25 = .ok (.iload_n 2, 1) := by decide +kernel
theorem dX0_dropFrom_26 : decode cX0_dropFrom 26 = .ok (.invokevirtual 28, 3) := by decide +kernel
theorem dX0_dropFrom_29 : decode cX0_dropFrom 29 = .ok (.pop, 1) := by decide +kernel
theorem dX0_dropFrom_30 : decode cX0_dropFrom 30 = .ok (.iinc 2 (-1), 3) := by decide +kernel
theorem dX0_dropFrom_33 : decode cX0_dropFrom 33 = .ok (.goto (-26), 3) := by decide +kernel
theorem dX0_dropFrom_36 : decode cX0_dropFrom 36 = .ok (.return_, 1) := by decide +kernel
