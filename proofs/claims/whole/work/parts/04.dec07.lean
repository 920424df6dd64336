theorem dX7_init_0 : decode cX7_init 0 = .ok (.aload_n 0, 1) := by decide +kernel
theorem dX7_init_1 : decode cX7_init 1 = .ok (.invokespecial 3, 3) := by decide +kernel
theorem dX7_init_4 : decode cX7_init 4 = .ok (.aload_n 0, 1) := by decide +kernel
theorem dX7_init_5 : decode cX7_init 5 = .ok (.bipush 32, 2) := by decide +kernel
theorem dX7_init_7 : decode cX7_init 7 = .ok (.newarray .int, 2) := by decide +kernel
theorem dX7_init_9 : decode cX7_init 9 = .ok (.putfield 9, 3) := by decide +kernel
theorem dX7_init_12 : decode cX7_init 12 = .ok (.aload_n 0, 1) := by decide +kernel
theorem dX7_init_13 : decode cX7_init 13 = .ok (.bipush 32, 2) := by decide +kernel
theorem dX7_init_15 : decode cX7_init 15 = .ok (.newarray .int, 2) := by decide +kernel
theorem dX7_init_17 : decode cX7_init 17 = .ok (.putfield 15, 3) := by decide +kernel
theorem dX7_init_20 : decode cX7_init 20 = .ok (.iconst 0, 1) := by decide +kernel
theorem dX7_init_21 : decode cX7_init 21 = .ok (.istore_n 1, 1) := by decide +kernel
theorem dX7_init_22 : decode cX7_init 22 = .ok (.iload_n 1, 1) := by decide +kernel
theorem dX7_init_23 : decode cX7_init 23 = .ok (.aload_n 0, 1) := by decide +kernel
theorem dX7_init_24 : decode cX7_init 24 = .ok (.getfield 9, 3) := by decide +kernel
theorem dX7_init_27 : decode cX7_init 27 = .ok (.arraylength, 1) := by decide +kernel
theorem dX7_init_28 : decode cX7_init 28 = .ok (.if_icmp .ge 16, 3) := by decide +kernel
theorem dX7_init_31 : decode cX7_init 31 = .ok (.aload_n 0, 1) := by decide +kernel
theorem dX7_init_32 : decode cX7_init 32 = .ok (.getfield 9, 3) := by decide +kernel
theorem dX7_init_35 : decode cX7_init 35 = .ok (.iload_n 1, 1) := by decide +kernel
theorem dX7_init_36 : decode cX7_init 36 = .ok (.iconst (-1), 1) := by decide +kernel
theorem dX7_init_37 : decode cX7_init 37 = .ok (.iastore, 1) := by decide +kernel
theorem dX7_init_38 : decode cX7_init 38 = .ok (.iinc 1 1, 3) := by decide +kernel
theorem dX7_init_41 : decode cX7_init 41 = .ok (.goto (-19), 3) := by decide +kernel
theorem dX7_init_44 : decode cX7_init 44 = .ok (.return_, 1) := by decide +kernel
theorem dX7_slot_0 : decode cX7_slot 0 = .ok (.iload_n 1, 1) := by decide +kernel
theorem dX7_slot_1 : decode cX7_slot 1 = .ok (.invokestatic 18, 3) := by decide +kernel
theorem dX7_slot_4 : decode cX7_slot 4 = .ok (.ifCond .eq 12, 3) := by decide +kernel
theorem dX7_slot_7 : decode cX7_slot 7 = .ok (.iload_n 2, 1) := by decide +kernel
theorem dX7_slot_8 : decode cX7_slot 8 = .ok (.ifCond .lt 8, 3) := by decide +kernel
theorem dX7_slot_11 : decode cX7_slot 11 = .ok (.iload_n 2, 1) := by decide +kernel
theorem dX7_slot_12 : decode cX7_slot 12 = .ok (.iconst 4, 1) := by decide +kernel
theorem dX7_slot_13 : decode cX7_slot 13 = .ok (.if_icmp .lt 5, 3) := by decide +kernel
theorem dX7_slot_16 : decode cX7_slot 16 = .ok (.iconst (-1), 1) := by decide +kernel
theorem dX7_slot_17 : decode cX7_slot 17 = .ok (.ireturn, 1) := by decide +kernel
theorem dX7_slot_18 : decode cX7_slot 18 = .ok (.iload_n 1, 1) := by decide +kernel
theorem dX7_slot_19 : decode cX7_slot 19 = .ok (.iconst 4, 1) := by decide +kernel
theorem dX7_slot_20 : decode cX7_slot 20 = .ok (.isub, 1) := by decide +kernel
theorem dX7_slot_21 : decode cX7_slot 21 = .ok (.iconst 4, 1) := by decide +kernel
theorem dX7_slot_22 : decode cX7_slot 22 = .ok (.imul, 1) := by decide +kernel
theorem dX7_slot_23 : decode cX7_slot 23 = .ok (.iload_n 2, 1) := by decide +kernel
theorem dX7_slot_24 : decode cX7_slot 24 = .ok (.iadd, 1) := by decide +kernel
theorem dX7_slot_25 : decode cX7_slot 25 = .ok (.istore_n 3, 1) := by decide +kernel
theorem dX7_slot_26 : decode cX7_slot 26 = .ok (.aload_n 0, 1) := by decide +kernel
theorem dX7_slot_27 : decode cX7_slot 27 = .ok (.getfield 9, 3) := by decide +kernel
theorem dX7_slot_30 : decode cX7_slot 30 = .ok (.iload_n 3, 1) := by decide +kernel
theorem dX7_slot_31 : decode cX7_slot 31 = .ok (.iaload, 1) := by decide +kernel
theorem dX7_slot_32 : decode cX7_slot 32 = .ok (.iconst (-1), 1) := by decide +kernel
theorem dX7_slot_33 : decode cX7_slot 33 = .ok (.if_icmp .ne 7, 3) := by decide +kernel
theorem dX7_slot_36 : decode cX7_slot 36 = .ok (.iconst (-1), 1) := by decide +kernel
theorem dX7_slot_37 : decode cX7_slot 37 = .ok (.goto 4, 3) := by decide +kernel
theorem dX7_slot_40 : decode cX7_slot 40 = .ok (.iload_n 3, 1) := by decide +kernel
theorem dX7_slot_41 : decode cX7_slot 41 = .ok (.ireturn, 1) := by decide +kernel
theorem dX7_fileAt_0 : decode cX7_fileAt 0 = .ok (.aload_n 0, 1) := by decide +kernel
theorem dX7_fileAt_1 : decode cX7_fileAt 1 = .ok (.iload_n 1, 1) := by decide +kernel
theorem dX7_fileAt_2 : decode cX7_fileAt 2 = .ok (.iload_n 2, 1) := by decide +kernel
theorem dX7_fileAt_3 : decode cX7_fileAt 3 = .ok (.invokevirtual 22, 3) := by decide +kernel
theorem dX7_fileAt_6 : decode cX7_fileAt 6 = .ok (.istore_n 3, 1) := by decide +kernel
theorem dX7_fileAt_7 : decode cX7_fileAt 7 = .ok (.iload_n 3, 1) := by decide +kernel
theorem dX7_fileAt_8 : decode cX7_fileAt 8 = .ok (.iconst (-1), 1) := by decide +kernel
theorem dX7_fileAt_9 : decode cX7_fileAt 9 = .ok (.if_icmp .ne 7, 3) := by decide +kernel
theorem dX7_fileAt_12 : decode cX7_fileAt 12 = .ok (.iconst (-1), 1) := by decide +kernel
theorem dX7_fileAt_13 : decode cX7_fileAt 13 = .ok (.goto 9, 3) := by decide +kernel
theorem dX7_fileAt_16 : decode cX7_fileAt 16 = .ok (.aload_n 0, 1) := by decide +kernel
theorem dX7_fileAt_17 : decode cX7_fileAt 17 = .ok (.getfield 9, 3) := by decide +kernel
theorem dX7_fileAt_20 : decode cX7_fileAt 20 = .ok (.iload_n 3, 1) := by decide +kernel
theorem dX7_fileAt_21 : decode cX7_fileAt 21 = .ok (.iaload, 1) := by decide +kernel
theorem dX7_fileAt_22 : decode cX7_fileAt 22 = .ok (.ireturn, 1) := by decide +kernel
theorem dX7_placeAt_0 : decode cX7_placeAt 0 = .ok (.aload_n 0, 1) := by decide +kernel
theorem dX7_placeAt_1 : decode cX7_placeAt 1 = .ok (.iload_n 1, 1) := by decide +kernel
theorem dX7_placeAt_2 : decode cX7_placeAt 2 = .ok (.iload_n 2, 1) := by decide +kernel
theorem dX7_placeAt_3 : decode cX7_placeAt 3 = .ok (.invokevirtual 22, 3) := by decide +kernel
theorem dX7_placeAt_6 : decode cX7_placeAt 6 = .ok (.istore_n 3, 1) := by decide +kernel
theorem dX7_placeAt_7 : decode cX7_placeAt 7 = .ok (.iload_n 3, 1) := by decide +kernel
theorem dX7_placeAt_8 : decode cX7_placeAt 8 = .ok (.iconst (-1), 1) := by decide +kernel
theorem dX7_placeAt_9 : decode cX7_placeAt 9 = .ok (.if_icmp .ne 7, 3) := by decide +kernel
theorem dX7_placeAt_12 : decode cX7_placeAt 12 = .ok (.iconst (-1), 1) := by decide +kernel
theorem dX7_placeAt_13 : decode cX7_placeAt 13 = .ok (.goto 9, 3) := by decide +kernel
theorem dX7_placeAt_16 : decode cX7_placeAt 16 = .ok (.aload_n 0, 1) := by decide +kernel
theorem dX7_placeAt_17 : decode cX7_placeAt 17 = .ok (.getfield 15, 3) := by decide +kernel
theorem dX7_placeAt_20 : decode cX7_placeAt 20 = .ok (.iload_n 3, 1) := by decide +kernel
theorem dX7_placeAt_21 : decode cX7_placeAt 21 = .ok (.iaload, 1) := by decide +kernel
theorem dX7_placeAt_22 : decode cX7_placeAt 22 = .ok (.ireturn, 1) := by decide +kernel
theorem dX7_setPlace_0 : decode cX7_setPlace 0 = .ok (.aload_n 0, 1) := by decide +kernel
theorem dX7_setPlace_1 : decode cX7_setPlace 1 = .ok (.iload_n 1, 1) := by decide +kernel
theorem dX7_setPlace_2 : decode cX7_setPlace 2 = .ok (.iload_n 2, 1) := by decide +kernel
theorem dX7_setPlace_3 : decode cX7_setPlace 3 = .ok (.invokevirtual 22, 3) := by decide +kernel
theorem dX7_setPlace_6 : decode cX7_setPlace 6 = .ok (.istore 4, 2) := by decide +kernel
theorem dX7_setPlace_8 : decode cX7_setPlace 8 = .ok (.iload 4, 2) := by decide +kernel
theorem dX7_setPlace_10 : decode cX7_setPlace 10 = .ok (.iconst (-1), 1) := by decide +kernel
theorem dX7_setPlace_11 : decode cX7_setPlace 11 = .ok (.if_icmp .eq 11, 3) := by decide +kernel
theorem dX7_setPlace_14 : decode cX7_setPlace 14 = .ok (.aload_n 0, 1) := by decide +kernel
theorem dX7_setPlace_15 : decode cX7_setPlace 15 = .ok (.getfield 15, 3) := by decide +kernel
theorem dX7_setPlace_18 : decode cX7_setPlace 18 = .ok (.iload 4, 2) := by decide +kernel
theorem dX7_setPlace_20 : decode cX7_setPlace 20 = .ok (.iload_n 3, 1) := by decide +kernel
theorem dX7_setPlace_21 : decode cX7_setPlace 21 = .ok (.iastore, 1) := by decide +kernel
theorem dX7_setPlace_22 : decode cX7_setPlace 22 = .ok (.return_, 1) := by decide +kernel
theorem dX7_leastFree_0 : decode cX7_leastFree 0 = .ok (.iconst 0, 1) := by decide +kernel
theorem dX7_leastFree_1 : decode cX7_leastFree 1 = .ok (.istore_n 2, 1) := by decide +kernel
theorem dX7_leastFree_2 : decode cX7_leastFree 2 = .ok (.iload_n 2, 1) := by decide +kernel
theorem dX7_leastFree_3 : decode cX7_leastFree 3 = .ok (.iconst 4, 1) := by decide +kernel
theorem dX7_leastFree_4 : decode cX7_leastFree 4 = .ok (.if_icmp .ge 21, 3) := by decide +kernel
theorem dX7_leastFree_7 : decode cX7_leastFree 7 = .ok (.aload_n 0, 1) := by decide +kernel
theorem dX7_leastFree_8 : decode cX7_leastFree 8 = .ok (.iload_n 1, 1) := by decide +kernel
theorem dX7_leastFree_9 : decode cX7_leastFree 9 = .ok (.iload_n 2, 1) := by decide +kernel
theorem dX7_leastFree_10 : decode cX7_leastFree 10 = .ok (.invokevirtual 22, 3) := by decide +kernel
theorem dX7_leastFree_13 : decode cX7_leastFree 13 = .ok (.iconst (-1), 1) := by decide +kernel
theorem dX7_leastFree_14 : decode cX7_leastFree 14 = .ok (.if_icmp .ne 5, 3) := by decide +kernel
theorem dX7_leastFree_17 : decode cX7_leastFree 17 = .ok (.iload_n 2, 1) := by decide +kernel
theorem dX7_leastFree_18 : decode cX7_leastFree 18 = .ok (.ireturn, 1) := by decide +kernel
theorem dX7_leastFree_19 : decode cX7_leastFree 19 = .ok (.iinc 2 1, 3) := by decide +kernel
theorem dX7_leastFree_22 : decode cX7_leastFree 22 = .ok (.goto (-20), 3) := by decide +kernel
theorem dX7_leastFree_25 : decode cX7_leastFree 25 = .ok (.iconst (-1), 1) := by decide +kernel
theorem dX7_leastFree_26 : decode cX7_leastFree 26 = .ok (.ireturn, 1) := by decide +kernel
theorem dX7_howMany_0 : decode cX7_howMany 0 = .ok (.iconst 0, 1) := by decide +kernel
theorem dX7_howMany_1 : decode cX7_howMany 1 = .ok (.istore_n 2, 1) := by decide +kernel
theorem dX7_howMany_2 : decode cX7_howMany 2 = .ok (.iconst 0, 1) := by decide +kernel
theorem dX7_howMany_3 : decode cX7_howMany 3 = .ok (.istore_n 3, 1) := by decide +kernel
theorem dX7_howMany_4 : decode cX7_howMany 4 = .ok (.iload_n 3, 1) := by decide +kernel
theorem dX7_howMany_5 : decode cX7_howMany 5 = .ok (.iconst 4, 1) := by decide +kernel
theorem dX7_howMany_6 : decode cX7_howMany 6 = .ok (.if_icmp .ge 27, 3) := by decide +kernel
theorem dX7_howMany_9 : decode cX7_howMany 9 = .ok (.iload_n 2, 1) := by decide +kernel
theorem dX7_howMany_10 : decode cX7_howMany 10 = .ok (.aload_n 0, 1) := by decide +kernel
theorem dX7_howMany_11 : decode cX7_howMany 11 = .ok (.iload_n 1, 1) := by decide +kernel
theorem dX7_howMany_12 : decode cX7_howMany 12 = .ok (.iload_n 3, 1) := by decide +kernel
theorem dX7_howMany_13 : decode cX7_howMany 13 = .ok (.invokevirtual 22, 3) := by decide +kernel
theorem dX7_howMany_16 : decode cX7_howMany 16 = .ok (.iconst (-1), 1) := by decide +kernel
theorem dX7_howMany_17 : decode cX7_howMany 17 = .ok (.if_icmp .ne 7, 3) := by decide +kernel
theorem dX7_howMany_20 : decode cX7_howMany 20 = .ok (.iconst 0, 1) := by decide +kernel
theorem dX7_howMany_21 : decode cX7_howMany 21 = .ok (.goto 4, 3) := by decide +kernel
theorem dX7_howMany_24 : decode cX7_howMany 24 = .ok (.iconst 1, 1) := by decide +kernel
theorem dX7_howMany_25 : decode cX7_howMany 25 = .ok (.iadd, 1) := by decide +kernel
theorem dX7_howMany_26 : decode cX7_howMany 26 = .ok (.istore_n 2, 1) := by decide +kernel
theorem dX7_howMany_27 : decode cX7_howMany 27 = .ok (.iinc 3 1, 3) := by decide +kernel
theorem dX7_howMany_30 : decode cX7_howMany 30 = .ok (.goto (-26), 3) := by decide +kernel
theorem dX7_howMany_33 : decode cX7_howMany 33 = .ok (.iload_n 2, 1) := by decide +kernel
theorem dX7_howMany_34 : decode cX7_howMany 34 = .ok (.ireturn, 1) := by decide +kernel
theorem dX7_anybodyHas_0 : decode cX7_anybodyHas 0 = .ok (.iconst 0, 1) := by decide +kernel
theorem dX7_anybodyHas_1 : decode cX7_anybodyHas 1 = .ok (.istore_n 2, 1) := by decide +kernel
theorem dX7_anybodyHas_2 : decode cX7_anybodyHas 2 = .ok (.iload_n 2, 1) := by decide +kernel
theorem dX7_anybodyHas_3 : decode cX7_anybodyHas 3 = .ok (.aload_n 0, 1) := by decide +kernel
theorem dX7_anybodyHas_4 : decode cX7_anybodyHas 4 = .ok (.getfield 9, 3) := by decide +kernel
theorem dX7_anybodyHas_7 : decode cX7_anybodyHas 7 = .ok (.arraylength, 1) := by decide +kernel
theorem dX7_anybodyHas_8 : decode cX7_anybodyHas 8 = .ok (.if_icmp .ge 21, 3) := by decide +kernel
theorem dX7_anybodyHas_11 : decode cX7_anybodyHas 11 = .ok (.aload_n 0, 1) := by decide +kernel
theorem dX7_anybodyHas_12 : decode cX7_anybodyHas 12 = .ok (.getfield 9, 3) := by decide +kernel
theorem dX7_anybodyHas_15 : decode cX7_anybodyHas 15 = .ok (.iload_n 2, 1) := by decide +kernel
theorem dX7_anybodyHas_16 : decode cX7_anybodyHas 16 = .ok (.iaload, 1) := by decide +kernel
theorem dX7_anybodyHas_17 : decode cX7_anybodyHas 17 = .ok (.iload_n 1, 1) := by decide +kernel
theorem dX7_anybodyHas_18 : decode cX7_anybodyHas 18 = .ok (.if_icmp .ne 5, 3) := by decide +kernel
theorem dX7_anybodyHas_21 : decode cX7_anybodyHas 21 = .ok (.iconst 1, 1) := by decide +kernel
theorem dX7_anybodyHas_22 : decode cX7_anybodyHas 22 = .ok (.ireturn, 1) := by decide +kernel
theorem dX7_anybodyHas_23 : decode cX7_anybodyHas 23 = .ok (.iinc 2 1, 3) := by decide +kernel
theorem dX7_anybodyHas_26 : decode cX7_anybodyHas 26 = .ok (.goto (-24), 3) := by decide +kernel
theorem dX7_anybodyHas_29 : decode cX7_anybodyHas 29 = .ok (.iconst 0, 1) := by decide +kernel
theorem dX7_anybodyHas_30 : decode cX7_anybodyHas 30 = .ok (.ireturn, 1) := by decide +kernel
theorem dX7_set_0 : decode cX7_set 0 = .ok (.iload_n 1, 1) := by decide +kernel
theorem dX7_set_1 : decode cX7_set 1 = .ok (.invokestatic 18, 3) := by decide +kernel
theorem dX7_set_4 : decode cX7_set 4 = .ok (.ifCond .eq 38, 3) := by decide +kernel
theorem dX7_set_7 : decode cX7_set 7 = .ok (.iload_n 2, 1) := by decide +kernel
theorem dX7_set_8 : decode cX7_set 8 = .ok (.ifCond .lt 34, 3) := by decide +kernel
theorem dX7_set_11 : decode cX7_set 11 = .ok (.iload_n 2, 1) := by decide +kernel
theorem dX7_set_12 : decode cX7_set 12 = .ok (.iconst 4, 1) := by decide +kernel
theorem dX7_set_13 : decode cX7_set 13 = .ok (.if_icmp .ge 29, 3) := by decide +kernel
theorem dX7_set_16 : decode cX7_set 16 = .ok (.iload_n 1, 1) := by decide +kernel
theorem dX7_set_17 : decode cX7_set 17 = .ok (.iconst 4, 1) := by decide +kernel
theorem dX7_set_18 : decode cX7_set 18 = .ok (.isub, 1) := by decide +kernel
theorem dX7_set_19 : decode cX7_set 19 = .ok (.iconst 4, 1) := by decide +kernel
theorem dX7_set_20 : decode cX7_set 20 = .ok (.imul, 1) := by decide +kernel
theorem dX7_set_21 : decode cX7_set 21 = .ok (.iload_n 2, 1) := by decide +kernel
theorem dX7_set_22 : decode cX7_set 22 = .ok (.iadd, 1) := by decide +kernel
theorem dX7_set_23 : decode cX7_set 23 = .ok (.istore 5, 2) := by decide +kernel
theorem dX7_set_25 : decode cX7_set 25 = .ok (.aload_n 0, 1) := by decide +kernel
theorem dX7_set_26 : decode cX7_set 26 = .ok (.getfield 9, 3) := by decide +kernel
theorem dX7_set_29 : decode cX7_set 29 = .ok (.iload 5, 2) := by decide +kernel
theorem dX7_set_31 : decode cX7_set 31 = .ok (.iload_n 3, 1) := by decide +kernel
theorem dX7_set_32 : decode cX7_set 32 = .ok (.iastore, 1) := by decide +kernel
theorem dX7_set_33 : decode cX7_set 33 = .ok (.aload_n 0, 1) := by decide +kernel
theorem dX7_set_34 : decode cX7_set 34 = .ok (.getfield 15, 3) := by decide +kernel
theorem dX7_set_37 : decode cX7_set 37 = .ok (.iload 5, 2) := by decide +kernel
theorem dX7_set_39 : decode cX7_set 39 = .ok (.iload 4, 2) := by decide +kernel
theorem dX7_set_41 : decode cX7_set 41 = .ok (.iastore, 1) := by decide +kernel
theorem dX7_set_42 : decode cX7_set 42 = .ok (.return_, 1) := by decide +kernel
theorem dX7_closeAll_0 : decode cX7_closeAll 0 = .ok (.iconst 0, 1) := by decide +kernel
theorem dX7_closeAll_1 : decode cX7_closeAll 1 = .ok (.istore_n 2, 1) := by decide +kernel
theorem dX7_closeAll_2 : decode cX7_closeAll 2 = .ok (.iload_n 2, 1) := by decide +kernel
theorem dX7_closeAll_3 : decode cX7_closeAll 3 = .ok (.iconst 4, 1) := by decide +kernel
theorem dX7_closeAll_4 : decode cX7_closeAll 4 = .ok (.if_icmp .ge 17, 3) := by decide +kernel
theorem dX7_closeAll_7 : decode cX7_closeAll 7 = .ok (.aload_n 0, 1) := by decide +kernel
theorem dX7_closeAll_8 : decode cX7_closeAll 8 = .ok (.iload_n 1, 1) := by decide +kernel
theorem dX7_closeAll_9 : decode cX7_closeAll 9 = .ok (.iload_n 2, 1) := by decide +kernel
theorem dX7_closeAll_10 : decode cX7_closeAll 10 = .ok (.iconst (-1), 1) := by decide +kernel
theorem dX7_closeAll_11 : decode cX7_closeAll 11 = .ok (.iconst 0, 1) := by decide +kernel
theorem dX7_closeAll_12 : decode cX7_closeAll 12 = .ok (.invokevirtual 26, 3) := by decide +kernel
theorem dX7_closeAll_15 : decode cX7_closeAll 15 = .ok (.iinc 2 1, 3) := by decide +kernel
theorem dX7_closeAll_18 : decode cX7_closeAll 18 = .ok (.goto (-16), 3) := by decide +kernel
theorem dX7_closeAll_21 : decode cX7_closeAll 21 = .ok (.return_, 1) := by decide +kernel
theorem dX7_copyAll_0 : decode cX7_copyAll 0 = .ok (.iconst 0, 1) := by decide +kernel
theorem dX7_copyAll_1 : decode cX7_copyAll 1 = .ok (.istore_n 3, 1) := by decide +kernel
theorem dX7_copyAll_2 : decode cX7_copyAll 2 = .ok (.iload_n 3, 1) := by decide +kernel
theorem dX7_copyAll_3 : decode cX7_copyAll 3 = .ok (.iconst 4, 1) := by decide +kernel
theorem dX7_copyAll_4 : decode cX7_copyAll 4 = .ok (.if_icmp .ge 27, 3) := by decide +kernel
theorem dX7_copyAll_7 : decode cX7_copyAll 7 = .ok (.aload_n 0, 1) := by decide +kernel
theorem dX7_copyAll_8 : decode cX7_copyAll 8 = .ok (.iload_n 2, 1) := by decide +kernel
theorem dX7_copyAll_9 : decode cX7_copyAll 9 = .ok (.iload_n 3, 1) := by decide +kernel
theorem dX7_copyAll_10 : decode cX7_copyAll 10 = .ok (.aload_n 0, 1) := by decide +kernel
theorem dX7_copyAll_11 : decode cX7_copyAll 11 = .ok (.iload_n 1, 1) := by decide +kernel
theorem dX7_copyAll_12 : decode cX7_copyAll 12 = .ok (.iload_n 3, 1) := by decide +kernel
theorem dX7_copyAll_13 : decode cX7_copyAll 13 = .ok (.invokevirtual 30, 3) := by decide +kernel
theorem dX7_copyAll_16 : decode cX7_copyAll 16 = .ok (.aload_n 0, 1) := by decide +kernel
theorem dX7_copyAll_17 : decode cX7_copyAll 17 = .ok (.iload_n 1, 1) := by decide +kernel
theorem dX7_copyAll_18 : decode cX7_copyAll 18 = .ok (.iload_n 3, 1) := by decide +kernel
theorem dX7_copyAll_19 : decode cX7_copyAll 19 = .ok (.invokevirtual 33, 3) := by decide +kernel
theorem dX7_copyAll_22 : decode cX7_copyAll 22 = .ok (.invokevirtual 26, 3) := by decide +kernel
theorem dX7_copyAll_25 : decode cX7_copyAll 25 = .ok (.iinc 3 1, 3) := by decide +kernel
theorem dX7_copyAll_28 : decode cX7_copyAll 28 = .ok (.goto (-26), 3) := by decide +kernel
theorem dX7_copyAll_31 : decode cX7_copyAll 31 = .ok (.return_, 1) := by decide +kernel
