theorem dX4_init_0 : decode cX4_init 0 = .ok (.aload_n 0, 1) := by decide +kernel
theorem dX4_init_1 : decode cX4_init 1 = .ok (.invokespecial 3, 3) := by decide +kernel
theorem dX4_init_4 : decode cX4_init 4 = .ok (.aload_n 0, 1) := by decide +kernel
theorem dX4_init_5 : decode cX4_init 5 = .ok (.bipush 16, 2) := by decide +kernel
theorem dX4_init_7 : decode cX4_init 7 = .ok (.newarray .boolean, 2) := by decide +kernel
theorem dX4_init_9 : decode cX4_init 9 = .ok (.putfield 9, 3) := by decide +kernel
theorem dX4_init_12 : decode cX4_init 12 = .ok (.aload_n 0, 1) := by decide +kernel
theorem dX4_init_13 : decode cX4_init 13 = .ok (.bipush 16, 2) := by decide +kernel
theorem dX4_init_15 : decode cX4_init 15 = .ok (.newarray .int, 2) := by decide +kernel
theorem dX4_init_17 : decode cX4_init 17 = .ok (.putfield 15, 3) := by decide +kernel
theorem dX4_init_20 : decode cX4_init 20 = .ok (.aload_n 0, 1) := by decide +kernel
theorem dX4_init_21 : decode cX4_init 21 = .ok (.bipush 64, 2) := by decide +kernel
theorem dX4_init_23 : decode cX4_init 23 = .ok (.newarray .int, 2) := by decide +kernel
theorem dX4_init_25 : decode cX4_init 25 = .ok (.putfield 19, 3) := by decide +kernel
theorem dX4_init_28 : decode cX4_init 28 = .ok (.aload_n 0, 1) := by decide +kernel
theorem dX4_init_29 : decode cX4_init 29 = .ok (.bipush 24, 2) := by decide +kernel
theorem dX4_init_31 : decode cX4_init 31 = .ok (.newarray .boolean, 2) := by decide +kernel
theorem dX4_init_33 : decode cX4_init 33 = .ok (.putfield 22, 3) := by decide +kernel
theorem dX4_init_36 : decode cX4_init 36 = .ok (.aload_n 0, 1) := by decide +kernel
theorem dX4_init_37 : decode cX4_init 37 = .ok (.bipush 24, 2) := by decide +kernel
theorem dX4_init_39 : decode cX4_init 39 = .ok (.putfield 25, 3) := by decide +kernel
theorem dX4_init_42 : decode cX4_init 42 = .ok (.return_, 1) := by decide +kernel
theorem dX4_has_0 : decode cX4_has 0 = .ok (.iload_n 1, 1) := by decide +kernel
theorem dX4_has_1 : decode cX4_has 1 = .ok (.ifCond .lt 22, 3) := by decide +kernel
theorem dX4_has_4 : decode cX4_has 4 = .ok (.iload_n 1, 1) := by decide +kernel
theorem dX4_has_5 : decode cX4_has 5 = .ok (.bipush 16, 2) := by decide +kernel
theorem dX4_has_7 : decode cX4_has 7 = .ok (.if_icmp .ge 16, 3) := by decide +kernel
theorem dX4_has_10 : decode cX4_has 10 = .ok (.aload_n 0, 1) := by decide +kernel
theorem dX4_has_11 : decode cX4_has 11 = .ok (.getfield 9, 3) := by decide +kernel
theorem dX4_has_14 : decode cX4_has 14 = .ok (.iload_n 1, 1) := by decide +kernel
theorem dX4_has_15 : decode cX4_has 15 = .ok (.baload, 1) := by decide +kernel
theorem dX4_has_16 : decode cX4_has 16 = .ok (.ifCond .eq 7, 3) := by decide +kernel
theorem dX4_has_19 : decode cX4_has 19 = .ok (.iconst 1, 1) := by decide +kernel
theorem dX4_has_20 : decode cX4_has 20 = .ok (.goto 4, 3) := by decide +kernel
theorem dX4_has_23 : decode cX4_has 23 = .ok (.iconst 0, 1) := by decide +kernel
theorem dX4_has_24 : decode cX4_has 24 = .ok (.ireturn, 1) := by decide +kernel
theorem dX4_sizeOf_0 : decode cX4_sizeOf 0 = .ok (.aload_n 0, 1) := by decide +kernel
theorem dX4_sizeOf_1 : decode cX4_sizeOf 1 = .ok (.iload_n 1, 1) := by decide +kernel
theorem dX4_sizeOf_2 : decode cX4_sizeOf 2 = .ok (.invokevirtual 29, 3) := by decide +kernel
theorem dX4_sizeOf_5 : decode cX4_sizeOf 5 = .ok (.ifCond .eq 12, 3) := by decide +kernel
theorem dX4_sizeOf_8 : decode cX4_sizeOf 8 = .ok (.aload_n 0, 1) := by decide +kernel
theorem dX4_sizeOf_9 : decode cX4_sizeOf 9 = .ok (.getfield 15, 3) := by decide +kernel
theorem dX4_sizeOf_12 : decode cX4_sizeOf 12 = .ok (.iload_n 1, 1) := by decide +kernel
theorem dX4_sizeOf_13 : decode cX4_sizeOf 13 = .ok (.iaload, 1) := by decide +kernel
theorem dX4_sizeOf_14 : decode cX4_sizeOf 14 = .ok (.goto 4, 3) := by decide +kernel
theorem dX4_sizeOf_17 : decode cX4_sizeOf 17 = .ok (.iconst (-1), 1) := by decide +kernel
theorem dX4_sizeOf_18 : decode cX4_sizeOf 18 = .ok (.ireturn, 1) := by decide +kernel
theorem dX4_blockOf_0 : decode cX4_blockOf 0 = .ok (.aload_n 0, 1) := by decide +kernel
theorem dX4_blockOf_1 : decode cX4_blockOf 1 = .ok (.iload_n 1, 1) := by decide +kernel
theorem dX4_blockOf_2 : decode cX4_blockOf 2 = .ok (.invokevirtual 29, 3) := by decide +kernel
theorem dX4_blockOf_5 : decode cX4_blockOf 5 = .ok (.ifCond .eq 33, 3) := by decide +kernel
theorem dX4_blockOf_8 : decode cX4_blockOf 8 = .ok (.lload_n 2, 1) := by decide +kernel
theorem dX4_blockOf_9 : decode cX4_blockOf 9 = .ok (.lconst 0, 1) := by decide +kernel
theorem dX4_blockOf_10 : decode cX4_blockOf 10 = .ok (.lcmp, 1) := by decide +kernel
theorem dX4_blockOf_11 : decode cX4_blockOf 11 = .ok (.ifCond .lt 27, 3) := by decide +kernel
theorem dX4_blockOf_14 : decode cX4_blockOf 14 = .ok (.lload_n 2, 1) := by decide +kernel
theorem dX4_blockOf_15 : decode cX4_blockOf 15 = .ok (.ldc2_w 33, 3) := by decide +kernel
theorem dX4_blockOf_18 : decode cX4_blockOf 18 = .ok (.lcmp, 1) := by decide +kernel
theorem dX4_blockOf_19 : decode cX4_blockOf 19 = .ok (.ifCond .ge 19, 3) := by decide +kernel
theorem dX4_blockOf_22 : decode cX4_blockOf 22 = .ok (.lload_n 2, 1) := by decide +kernel
theorem dX4_blockOf_23 : decode cX4_blockOf 23 = .ok (.ldc2_w 35, 3) := by decide +kernel
theorem dX4_blockOf_26 : decode cX4_blockOf 26 = .ok (.lmul, 1) := by decide +kernel
theorem dX4_blockOf_27 : decode cX4_blockOf 27 = .ok (.aload_n 0, 1) := by decide +kernel
theorem dX4_blockOf_28 : decode cX4_blockOf 28 = .ok (.getfield 15, 3) := by decide +kernel
theorem dX4_blockOf_31 : decode cX4_blockOf 31 = .ok (.iload_n 1, 1) := by decide +kernel
theorem dX4_blockOf_32 : decode cX4_blockOf 32 = .ok (.iaload, 1) := by decide +kernel
theorem dX4_blockOf_33 : decode cX4_blockOf 33 = .ok (.i2l, 1) := by decide +kernel
theorem dX4_blockOf_34 : decode cX4_blockOf 34 = .ok (.lcmp, 1) := by decide +kernel
theorem dX4_blockOf_35 : decode cX4_blockOf 35 = .ok (.ifCond .lt 5, 3) := by decide +kernel
theorem dX4_blockOf_38 : decode cX4_blockOf 38 = .ok (.iconst (-1), 1) := by decide +kernel
theorem dX4_blockOf_39 : decode cX4_blockOf 39 = .ok (.ireturn, 1) := by decide +kernel
theorem dX4_blockOf_40 : decode cX4_blockOf 40 = .ok (.aload_n 0, 1) := by decide +kernel
theorem dX4_blockOf_41 : decode cX4_blockOf 41 = .ok (.getfield 19, 3) := by decide +kernel
theorem dX4_blockOf_44 : decode cX4_blockOf 44 = .ok (.iload_n 1, 1) := by decide +kernel
theorem dX4_blockOf_45 : decode cX4_blockOf 45 = .ok (.iconst 4, 1) := by decide +kernel
theorem dX4_blockOf_46 : decode cX4_blockOf 46 = .ok (.imul, 1) := by decide +kernel
theorem dX4_blockOf_47 : decode cX4_blockOf 47 = .ok (.lload_n 2, 1) := by decide +kernel
theorem dX4_blockOf_48 : decode cX4_blockOf 48 = .ok (.l2i, 1) := by decide +kernel
theorem dX4_blockOf_49 : decode cX4_blockOf 49 = .ok (.iadd, 1) := by decide +kernel
theorem dX4_blockOf_50 : decode cX4_blockOf 50 = .ok (.iaload, 1) := by decide +kernel
theorem dX4_blockOf_51 : decode cX4_blockOf 51 = .ok (.ireturn, 1) := by decide +kernel
theorem dX4_make_0 : decode cX4_make 0 = .ok (.iload_n 1, 1) := by decide +kernel
theorem dX4_make_1 : decode cX4_make 1 = .ok (.ifCond .lt 42, 3) := by decide +kernel
theorem dX4_make_4 : decode cX4_make 4 = .ok (.iload_n 1, 1) := by decide +kernel
theorem dX4_make_5 : decode cX4_make 5 = .ok (.bipush 16, 2) := by decide +kernel
theorem dX4_make_7 : decode cX4_make 7 = .ok (.if_icmp .ge 36, 3) := by decide +kernel
theorem dX4_make_10 : decode cX4_make 10 = .ok (.aload_n 0, 1) := by decide +kernel
theorem dX4_make_11 : decode cX4_make 11 = .ok (.getfield 9, 3) := by decide +kernel
theorem dX4_make_14 : decode cX4_make 14 = .ok (.iload_n 1, 1) := by decide +kernel
theorem dX4_make_15 : decode cX4_make 15 = .ok (.baload, 1) := by decide +kernel
theorem dX4_make_16 : decode cX4_make 16 = .ok (.ifCond .ne 27, 3) := by decide +kernel
theorem dX4_make_19 : decode cX4_make 19 = .ok (.aload_n 0, 1) := by decide +kernel
theorem dX4_make_20 : decode cX4_make 20 = .ok (.getfield 9, 3) := by decide +kernel
theorem dX4_make_23 : decode cX4_make 23 = .ok (.iload_n 1, 1) := by decide +kernel
theorem dX4_make_24 : decode cX4_make 24 = .ok (.iconst 1, 1) := by decide +kernel
theorem dX4_make_25 : decode cX4_make 25 = .ok (.bastore, 1) := by decide +kernel
theorem dX4_make_26 : decode cX4_make 26 = .ok (.aload_n 0, 1) := by decide +kernel
theorem dX4_make_27 : decode cX4_make 27 = .ok (.getfield 15, 3) := by decide +kernel
theorem dX4_make_30 : decode cX4_make 30 = .ok (.iload_n 1, 1) := by decide +kernel
theorem dX4_make_31 : decode cX4_make 31 = .ok (.iconst 0, 1) := by decide +kernel
theorem dX4_make_32 : decode cX4_make 32 = .ok (.iastore, 1) := by decide +kernel
theorem dX4_make_33 : decode cX4_make 33 = .ok (.aload_n 0, 1) := by decide +kernel
theorem dX4_make_34 : decode cX4_make 34 = .ok (.dup, 1) := by decide +kernel
theorem dX4_make_35 : decode cX4_make 35 = .ok (.getfield 37, 3) := by decide +kernel
theorem dX4_make_38 : decode cX4_make 38 = .ok (.iconst 1, 1) := by decide +kernel
theorem dX4_make_39 : decode cX4_make 39 = .ok (.iadd, 1) := by decide +kernel
theorem dX4_make_40 : decode cX4_make 40 = .ok (.putfield 37, 3) := by decide +kernel
theorem dX4_make_43 : decode cX4_make 43 = .ok (.return_, 1) := by decide +kernel
theorem dX4_discard_0 : decode cX4_discard 0 = .ok (.aload_n 0, 1) := by decide +kernel
theorem dX4_discard_1 : decode cX4_discard 1 = .ok (.iload_n 1, 1) := by decide +kernel
theorem dX4_discard_2 : decode cX4_discard 2 = .ok (.invokevirtual 29, 3) := by decide +kernel
theorem dX4_discard_5 : decode cX4_discard 5 = .ok (.ifCond .ne 4, 3) := by decide +kernel
theorem dX4_discard_8 : decode cX4_discard 8 = .ok (.return_, 1) := by decide +kernel
theorem dX4_discard_9 : decode cX4_discard 9 = .ok (.iconst 0, 1) := by decide +kernel
theorem dX4_discard_10 : decode cX4_discard 10 = .ok (.istore_n 2, 1) := by decide +kernel
theorem dX4_discard_11 : decode cX4_discard 11 = .ok (.iload_n 2, 1) := by decide +kernel
theorem dX4_discard_12 : decode cX4_discard 12 = .ok (.iconst 4, 1) := by decide +kernel
theorem dX4_discard_13 : decode cX4_discard 13 = .ok (.if_icmp .ge 36, 3) := by decide +kernel
theorem dX4_discard_16 : decode cX4_discard 16 = .ok (.iload_n 2, 1) := by decide +kernel
theorem dX4_discard_17 : decode cX4_discard 17 = .ok (.bipush 8, 2) := by decide +kernel
theorem dX4_discard_19 : decode cX4_discard 19 = .ok (.imul, 1) := by decide +kernel
theorem dX4_discard_20 : decode cX4_discard 20 = .ok (.aload_n 0, 1) := by decide +kernel
theorem dX4_discard_21 : decode cX4_discard 21 = .ok (.getfield 15, 3) := by decide +kernel
theorem dX4_discard_24 : decode cX4_discard 24 = .ok (.iload_n 1, 1) := by decide +kernel
theorem dX4_discard_25 : decode cX4_discard 25 = .ok (.iaload, 1) := by decide +kernel
theorem dX4_discard_26 : decode cX4_discard 26 = .ok (.if_icmp .ge 23, 3) := by decide +kernel
theorem dX4_discard_29 : decode cX4_discard 29 = .ok (.aload_n 0, 1) := by decide +kernel
theorem dX4_discard_30 : decode cX4_discard 30 = .ok (.aload_n 0, 1) := by decide +kernel
theorem dX4_discard_31 : decode cX4_discard 31 = .ok (.getfield 19, 3) := by decide +kernel
theorem dX4_discard_34 : decode cX4_discard 34 = .ok (.iload_n 1, 1) := by decide +kernel
theorem dX4_discard_35 : decode cX4_discard 35 = .ok (.iconst 4, 1) := by decide +kernel
theorem dX4_discard_36 : decode cX4_discard 36 = .ok (.imul, 1) := by decide +kernel
theorem dX4_discard_37 : decode cX4_discard 37 = .ok (.iload_n 2, 1) := by decide +kernel
theorem dX4_discard_38 : decode cX4_discard 38 = .ok (.iadd, 1) := by decide +kernel
theorem dX4_discard_39 : decode cX4_discard 39 = .ok (.iaload, 1) := by decide +kernel
theorem dX4_discard_40 : decode cX4_discard 40 = .ok (.invokevirtual 40, 3) := by decide +kernel
theorem dX4_discard_43 : decode cX4_discard 43 = .ok (.iinc 2 1, 3) := by decide +kernel
theorem dX4_discard_46 : decode cX4_discard 46 = .ok (.goto (-35), 3) := by decide +kernel
theorem dX4_discard_49 : decode cX4_discard 49 = .ok (.aload_n 0, 1) := by decide +kernel
theorem dX4_discard_50 : decode cX4_discard 50 = .ok (.getfield 9, 3) := by decide +kernel
theorem dX4_discard_53 : decode cX4_discard 53 = .ok (.iload_n 1, 1) := by decide +kernel
theorem dX4_discard_54 : decode cX4_discard 54 = .ok (.iconst 0, 1) := by decide +kernel
theorem dX4_discard_55 : decode cX4_discard 55 = .ok (.bastore, 1) := by decide +kernel
theorem dX4_discard_56 : decode cX4_discard 56 = .ok (.aload_n 0, 1) := by decide +kernel
theorem dX4_discard_57 : decode cX4_discard 57 = .ok (.dup, 1) := by decide +kernel
theorem dX4_discard_58 : decode cX4_discard 58 = .ok (.getfield 37, 3) := by decide +kernel
theorem dX4_discard_61 : decode cX4_discard 61 = .ok (.iconst 1, 1) := by decide +kernel
theorem dX4_discard_62 : decode cX4_discard 62 = .ok (.isub, 1) := by decide +kernel
theorem dX4_discard_63 : decode cX4_discard 63 = .ok (.putfield 37, 3) := by decide +kernel
theorem dX4_discard_66 : decode cX4_discard 66 = .ok (.return_, 1) := by decide +kernel
theorem dX4_release_0 : decode cX4_release 0 = .ok (.iload_n 1, 1) := by decide +kernel
theorem dX4_release_1 : decode cX4_release 1 = .ok (.ifCond .lt 35, 3) := by decide +kernel
theorem dX4_release_4 : decode cX4_release 4 = .ok (.iload_n 1, 1) := by decide +kernel
theorem dX4_release_5 : decode cX4_release 5 = .ok (.bipush 24, 2) := by decide +kernel
theorem dX4_release_7 : decode cX4_release 7 = .ok (.if_icmp .ge 29, 3) := by decide +kernel
theorem dX4_release_10 : decode cX4_release 10 = .ok (.aload_n 0, 1) := by decide +kernel
theorem dX4_release_11 : decode cX4_release 11 = .ok (.getfield 22, 3) := by decide +kernel
theorem dX4_release_14 : decode cX4_release 14 = .ok (.iload_n 1, 1) := by decide +kernel
theorem dX4_release_15 : decode cX4_release 15 = .ok (.baload, 1) := by decide +kernel
theorem dX4_release_16 : decode cX4_release 16 = .ok (.ifCond .eq 20, 3) := by decide +kernel
theorem dX4_release_19 : decode cX4_release 19 = .ok (.aload_n 0, 1) := by decide +kernel
theorem dX4_release_20 : decode cX4_release 20 = .ok (.getfield 22, 3) := by decide +kernel
theorem dX4_release_23 : decode cX4_release 23 = .ok (.iload_n 1, 1) := by decide +kernel
theorem dX4_release_24 : decode cX4_release 24 = .ok (.iconst 0, 1) := by decide +kernel
theorem dX4_release_25 : decode cX4_release 25 = .ok (.bastore, 1) := by decide +kernel
theorem dX4_release_26 : decode cX4_release 26 = .ok (.aload_n 0, 1) := by decide +kernel
theorem dX4_release_27 : decode cX4_release 27 = .ok (.dup, 1) := by decide +kernel
theorem dX4_release_28 : decode cX4_release 28 = .ok (.getfield 25, 3) := by decide +kernel
theorem dX4_release_31 : decode cX4_release 31 = .ok (.iconst 1, 1) := by decide +kernel
theorem dX4_release_32 : decode cX4_release 32 = .ok (.iadd, 1) := by decide +kernel
theorem dX4_release_33 : decode cX4_release 33 = .ok (.putfield 25, 3) := by decide +kernel
theorem dX4_release_36 : decode cX4_release 36 = .ok (.return_, 1) := by decide +kernel
theorem dX4_needsBlock_0 : decode cX4_needsBlock 0 = .ok (.aload_n 0, 1) := by decide +kernel
theorem dX4_needsBlock_1 : decode cX4_needsBlock 1 = .ok (.iload_n 1, 1) := by decide +kernel
theorem dX4_needsBlock_2 : decode cX4_needsBlock 2 = .ok (.invokevirtual 29, 3) := by decide +kernel
theorem dX4_needsBlock_5 : decode cX4_needsBlock 5 = .ok (.ifCond .eq 24, 3) := by decide +kernel
theorem dX4_needsBlock_8 : decode cX4_needsBlock 8 = .ok (.iload_n 2, 1) := by decide +kernel
theorem dX4_needsBlock_9 : decode cX4_needsBlock 9 = .ok (.aload_n 0, 1) := by decide +kernel
theorem dX4_needsBlock_10 : decode cX4_needsBlock 10 = .ok (.getfield 15, 3) := by decide +kernel
theorem dX4_needsBlock_13 : decode cX4_needsBlock 13 = .ok (.iload_n 1, 1) := by decide +kernel
theorem dX4_needsBlock_14 : decode cX4_needsBlock 14 = .ok (.iaload, 1) := by decide +kernel
theorem dX4_needsBlock_15 : decode cX4_needsBlock 15 = .ok (.if_icmp .ne 14, 3) := by decide +kernel
theorem dX4_needsBlock_18 : decode cX4_needsBlock 18 = .ok (.iload_n 2, 1) := by decide +kernel
theorem dX4_needsBlock_19 : decode cX4_needsBlock 19 = .ok (.bipush 8, 2) := by decide +kernel
theorem dX4_needsBlock_21 : decode cX4_needsBlock 21 = .ok (.irem, 1) := by decide +kernel
theorem dX4_needsBlock_22 : decode cX4_needsBlock 22 = .ok (.ifCond .ne 7, 3) := by decide +kernel
theorem dX4_needsBlock_25 : decode cX4_needsBlock 25 = .ok (.iconst 1, 1) := by decide +kernel
theorem dX4_needsBlock_26 : decode cX4_needsBlock 26 = .ok (.goto 4, 3) := by decide +kernel
theorem dX4_needsBlock_29 : decode cX4_needsBlock 29 = .ok (.iconst 0, 1) := by decide +kernel
theorem dX4_needsBlock_30 : decode cX4_needsBlock 30 = .ok (.ireturn, 1) := by decide +kernel
theorem dX4_takeBlock_0 : decode cX4_takeBlock 0 = .ok (.aload_n 0, 1) := by decide +kernel
theorem dX4_takeBlock_1 : decode cX4_takeBlock 1 = .ok (.iload_n 1, 1) := by decide +kernel
theorem dX4_takeBlock_2 : decode cX4_takeBlock 2 = .ok (.invokevirtual 29, 3) := by decide +kernel
theorem dX4_takeBlock_5 : decode cX4_takeBlock 5 = .ok (.ifCond .eq 13, 3) := by decide +kernel
theorem dX4_takeBlock_8 : decode cX4_takeBlock 8 = .ok (.iload_n 2, 1) := by decide +kernel
theorem dX4_takeBlock_9 : decode cX4_takeBlock 9 = .ok (.ifCond .lt 9, 3) := by decide +kernel
theorem dX4_takeBlock_12 : decode cX4_takeBlock 12 = .ok (.iload_n 2, 1) := by decide +kernel
theorem dX4_takeBlock_13 : decode cX4_takeBlock 13 = .ok (.bipush 32, 2) := by decide +kernel
theorem dX4_takeBlock_15 : decode cX4_takeBlock 15 = .ok (.if_icmp .lt 5, 3) := by decide +kernel
theorem dX4_takeBlock_18 : decode cX4_takeBlock 18 = .ok (.iconst (-1), 1) := by decide +kernel
theorem dX4_takeBlock_19 : decode cX4_takeBlock 19 = .ok (.ireturn, 1) := by decide +kernel
theorem dX4_takeBlock_20 : decode cX4_takeBlock 20 = .ok (.iconst 0, 1) := by decide +kernel
theorem dX4_takeBlock_21 : decode cX4_takeBlock 21 = .ok (.istore_n 3, 1) := by decide +kernel
theorem dX4_takeBlock_22 : decode cX4_takeBlock 22 = .ok (.iload_n 3, 1) := by decide +kernel
theorem dX4_takeBlock_23 : decode cX4_takeBlock 23 = .ok (.bipush 24, 2) := by decide +kernel
theorem dX4_takeBlock_25 : decode cX4_takeBlock 25 = .ok (.if_icmp .ge 51, 3) := by decide +kernel
theorem dX4_takeBlock_28 : decode cX4_takeBlock 28 = .ok (.aload_n 0, 1) := by decide +kernel
theorem dX4_takeBlock_29 : decode cX4_takeBlock 29 = .ok (.getfield 22, 3) := by decide +kernel
theorem dX4_takeBlock_32 : decode cX4_takeBlock 32 = .ok (.iload_n 3, 1) := by decide +kernel
theorem dX4_takeBlock_33 : decode cX4_takeBlock 33 = .ok (.baload, 1) := by decide +kernel
theorem dX4_takeBlock_34 : decode cX4_takeBlock 34 = .ok (.ifCond .ne 36, 3) := by decide +kernel
theorem dX4_takeBlock_37 : decode cX4_takeBlock 37 = .ok (.aload_n 0, 1) := by decide +kernel
theorem dX4_takeBlock_38 : decode cX4_takeBlock 38 = .ok (.getfield 22, 3) := by decide +kernel
theorem dX4_takeBlock_41 : decode cX4_takeBlock 41 = .ok (.iload_n 3, 1) := by decide +kernel
theorem dX4_takeBlock_42 : decode cX4_takeBlock 42 = .ok (.iconst 1, 1) := by decide +kernel
theorem dX4_takeBlock_43 : decode cX4_takeBlock 43 = .ok (.bastore, 1) := by decide +kernel
theorem dX4_takeBlock_44 : decode cX4_takeBlock 44 = .ok (.aload_n 0, 1) := by decide +kernel
theorem dX4_takeBlock_45 : decode cX4_takeBlock 45 = .ok (.dup, 1) := by decide +kernel
theorem dX4_takeBlock_46 : decode cX4_takeBlock 46 = .ok (.getfield 25, 3) := by decide +kernel
theorem dX4_takeBlock_49 : decode cX4_takeBlock 49 = .ok (.iconst 1, 1) := by decide +kernel
theorem dX4_takeBlock_50 : decode cX4_takeBlock 50 = .ok (.isub, 1) := by decide +kernel
theorem dX4_takeBlock_51 : decode cX4_takeBlock 51 = .ok (.putfield 25, 3) := by decide +kernel
theorem dX4_takeBlock_54 : decode cX4_takeBlock 54 = .ok (.aload_n 0, 1) := by decide +kernel
theorem dX4_takeBlock_55 : decode cX4_takeBlock 55 = .ok (.getfield 19, 3) := by decide +kernel
theorem dX4_takeBlock_58 : decode cX4_takeBlock 58 = .ok (.iload_n 1, 1) := by decide +kernel
theorem dX4_takeBlock_59 : decode cX4_takeBlock 59 = .ok (.iconst 4, 1) := by decide +kernel
theorem dX4_takeBlock_60 : decode cX4_takeBlock 60 = .ok (.imul, 1) := by decide +kernel
theorem dX4_takeBlock_61 : decode cX4_takeBlock 61 = .ok (.iload_n 2, 1) := by decide +kernel
theorem dX4_takeBlock_62 : decode cX4_takeBlock 62 = .ok (.bipush 8, 2) := by decide +kernel
theorem dX4_takeBlock_64 : decode cX4_takeBlock 64 = .ok (.idiv, 1) := by decide +kernel
theorem dX4_takeBlock_65 : decode cX4_takeBlock 65 = .ok (.iadd, 1) := by decide +kernel
theorem dX4_takeBlock_66 : decode cX4_takeBlock 66 = .ok (.iload_n 3, 1) := by decide +kernel
theorem dX4_takeBlock_67 : decode cX4_takeBlock 67 = .ok (.iastore, 1) := by decide +kernel
theorem dX4_takeBlock_68 : decode cX4_takeBlock 68 = .ok (.iload_n 3, 1) := by decide +kernel
theorem dX4_takeBlock_69 : decode cX4_takeBlock 69 = .ok (.ireturn, 1) := by decide +kernel
theorem dX4_takeBlock_70 : decode cX4_takeBlock 70 = .ok (.iinc 3 1, 3) := by decide +kernel
theorem dX4_takeBlock_73 : decode cX4_takeBlock 73 = .ok (.goto (-51), 3) := by decide +kernel
theorem dX4_takeBlock_76 : decode cX4_takeBlock 76 = .ok (.iconst (-1), 1) := by decide +kernel
theorem dX4_takeBlock_77 : decode cX4_takeBlock 77 = .ok (.ireturn, 1) := by decide +kernel
theorem dX4_growOver_0 : decode cX4_growOver 0 = .ok (.aload_n 0, 1) := by decide +kernel
theorem dX4_growOver_1 : decode cX4_growOver 1 = .ok (.iload_n 1, 1) := by decide +kernel
theorem dX4_growOver_2 : decode cX4_growOver 2 = .ok (.invokevirtual 29, 3) := by decide +kernel
theorem dX4_growOver_5 : decode cX4_growOver 5 = .ok (.ifCond .eq 28, 3) := by decide +kernel
theorem dX4_growOver_8 : decode cX4_growOver 8 = .ok (.iload_n 2, 1) := by decide +kernel
theorem dX4_growOver_9 : decode cX4_growOver 9 = .ok (.aload_n 0, 1) := by decide +kernel
theorem dX4_growOver_10 : decode cX4_growOver 10 = .ok (.getfield 15, 3) := by decide +kernel
theorem dX4_growOver_13 : decode cX4_growOver 13 = .ok (.iload_n 1, 1) := by decide +kernel
theorem dX4_growOver_14 : decode cX4_growOver 14 = .ok (.iaload, 1) := by decide +kernel
theorem dX4_growOver_15 : decode cX4_growOver 15 = .ok (.if_icmp .ne 18, 3) := by decide +kernel
theorem dX4_growOver_18 : decode cX4_growOver 18 = .ok (.iload_n 2, 1) := by decide +kernel
theorem dX4_growOver_19 : decode cX4_growOver 19 = .ok (.bipush 32, 2) := by decide +kernel
theorem dX4_growOver_21 : decode cX4_growOver 21 = .ok (.if_icmp .ge 12, 3) := by decide +kernel
theorem dX4_growOver_24 : decode cX4_growOver 24 = .ok (.aload_n 0, 1) := by decide +kernel
theorem dX4_growOver_25 : decode cX4_growOver 25 = .ok (.getfield 15, 3) := by decide +kernel
theorem dX4_growOver_28 : decode cX4_growOver 28 = .ok (.iload_n 1, 1) := by decide +kernel
theorem dX4_growOver_29 : decode cX4_growOver 29 = .ok (.iload_n 2, 1) := by decide +kernel
theorem dX4_growOver_30 : decode cX4_growOver 30 = .ok (.iconst 1, 1) := by decide +kernel
theorem dX4_growOver_31 : decode cX4_growOver 31 = .ok (.iadd, 1) := by decide +kernel
theorem dX4_growOver_32 : decode cX4_growOver 32 = .ok (.iastore, 1) := by decide +kernel
theorem dX4_growOver_33 : decode cX4_growOver 33 = .ok (.return_, 1) := by decide +kernel
