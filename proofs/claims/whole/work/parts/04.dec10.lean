theorem dX10_init_0 : decode cX10_init 0 = .ok (.aload_n 0, 1) := by decide +kernel
theorem dX10_init_1 : decode cX10_init 1 = .ok (.invokespecial 3, 3) := by decide +kernel
theorem dX10_init_4 : decode cX10_init 4 = .ok (.aload_n 0, 1) := by decide +kernel
theorem dX10_init_5 : decode cX10_init 5 = .ok (.new 9, 3) := by decide +kernel
theorem dX10_init_8 : decode cX10_init 8 = .ok (.dup, 1) := by decide +kernel
theorem dX10_init_9 : decode cX10_init 9 = .ok (.invokespecial 11, 3) := by decide +kernel
theorem dX10_init_12 : decode cX10_init 12 = .ok (.putfield 12, 3) := by decide +kernel
theorem dX10_init_15 : decode cX10_init 15 = .ok (.aload_n 0, 1) := by decide +kernel
theorem dX10_init_16 : decode cX10_init 16 = .ok (.new 16, 3) := by decide +kernel
theorem dX10_init_19 : decode cX10_init 19 = .ok (.dup, 1) := by decide +kernel
theorem dX10_init_20 : decode cX10_init 20 = .ok (.invokespecial 18, 3) := by decide +kernel
theorem dX10_init_23 : decode cX10_init 23 = .ok (.putfield 19, 3) := by decide +kernel
theorem dX10_init_26 : decode cX10_init 26 = .ok (.aload_n 0, 1) := by decide +kernel
theorem dX10_init_27 : decode cX10_init 27 = .ok (.new 23, 3) := by decide +kernel
theorem dX10_init_30 : decode cX10_init 30 = .ok (.dup, 1) := by decide +kernel
theorem dX10_init_31 : decode cX10_init 31 = .ok (.invokespecial 25, 3) := by decide +kernel
theorem dX10_init_34 : decode cX10_init 34 = .ok (.putfield 26, 3) := by decide +kernel
theorem dX10_init_37 : decode cX10_init 37 = .ok (.aload_n 0, 1) := by decide +kernel
theorem dX10_init_38 : decode cX10_init 38 = .ok (.new 30, 3) := by decide +kernel
theorem dX10_init_41 : decode cX10_init 41 = .ok (.dup, 1) := by decide +kernel
theorem dX10_init_42 : decode cX10_init 42 = .ok (.invokespecial 32, 3) := by decide +kernel
theorem dX10_init_45 : decode cX10_init 45 = .ok (.putfield 33, 3) := by decide +kernel
theorem dX10_init_48 : decode cX10_init 48 = .ok (.aload_n 0, 1) := by decide +kernel
theorem dX10_init_49 : decode cX10_init 49 = .ok (.new 37, 3) := by decide +kernel
theorem dX10_init_52 : decode cX10_init 52 = .ok (.dup, 1) := by decide +kernel
theorem dX10_init_53 : decode cX10_init 53 = .ok (.invokespecial 39, 3) := by decide +kernel
theorem dX10_init_56 : decode cX10_init 56 = .ok (.putfield 40, 3) := by decide +kernel
theorem dX10_init_59 : decode cX10_init 59 = .ok (.aload_n 0, 1) := by decide +kernel
theorem dX10_init_60 : decode cX10_init 60 = .ok (.new 44, 3) := by decide +kernel
theorem dX10_init_63 : decode cX10_init 63 = .ok (.dup, 1) := by decide +kernel
theorem dX10_init_64 : decode cX10_init 64 = .ok (.invokespecial 46, 3) := by decide +kernel
theorem dX10_init_67 : decode cX10_init 67 = .ok (.putfield 47, 3) := by decide +kernel
theorem dX10_init_70 : decode cX10_init 70 = .ok (.aload_n 0, 1) := by decide +kernel
theorem dX10_init_71 : decode cX10_init 71 = .ok (.iconst 0, 1) := by decide +kernel
theorem dX10_init_72 : decode cX10_init 72 = .ok (.putfield 51, 3) := by decide +kernel
theorem dX10_init_75 : decode cX10_init 75 = .ok (.aload_n 0, 1) := by decide +kernel
theorem dX10_init_76 : decode cX10_init 76 = .ok (.iconst 0, 1) := by decide +kernel
theorem dX10_init_77 : decode cX10_init 77 = .ok (.putfield 55, 3) := by decide +kernel
theorem dX10_init_80 : decode cX10_init 80 = .ok (.aload_n 0, 1) := by decide +kernel
theorem dX10_init_81 : decode cX10_init 81 = .ok (.iconst 0, 1) := by decide +kernel
theorem dX10_init_82 : decode cX10_init 82 = .ok (.putfield 58, 3) := by decide +kernel
theorem dX10_init_85 : decode cX10_init 85 = .ok (.return_, 1) := by decide +kernel
theorem dX10_call_0 : decode cX10_call 0 = .ok (.iload_n 1, 1) := by decide +kernel
theorem dX10_call_1 : decode cX10_call 1 = .ok (.invokestatic 61, 3) := by decide +kernel
theorem dX10_call_4 : decode cX10_call 4 = .ok (.ifCond .eq 15, 3) := by decide +kernel
theorem dX10_call_7 : decode cX10_call 7 = .ok (.aload_n 0, 1) := by decide +kernel
theorem dX10_call_8 : decode cX10_call 8 = .ok (.getfield 12, 3) := by decide +kernel
theorem dX10_call_11 : decode cX10_call 11 = .ok (.getfield 65, 3) := by decide +kernel
theorem dX10_call_14 : decode cX10_call 14 = .ok (.iload_n 1, 1) := by decide +kernel
theorem dX10_call_15 : decode cX10_call 15 = .ok (.baload, 1) := by decide +kernel
theorem dX10_call_16 : decode cX10_call 16 = .ok (.ifCond .ne 5, 3) := by decide +kernel
theorem dX10_call_19 : decode cX10_call 19 = .ok (.iconst 1, 1) := by decide +kernel
theorem dX10_call_20 : decode cX10_call 20 = .ok (.ireturn, 1) := by decide +kernel
theorem dX10_call_21 : decode cX10_call 21 = .ok (.aload_n 0, 1) := by decide +kernel
theorem dX10_call_22 : decode cX10_call 22 = .ok (.getfield 47, 3) := by decide +kernel
theorem dX10_call_25 : decode cX10_call 25 = .ok (.iload_n 1, 1) := by decide +kernel
theorem dX10_call_26 : decode cX10_call 26 = .ok (.invokevirtual 69, 3) := by decide +kernel
theorem dX10_call_29 : decode cX10_call 29 = .ok (.ifCond .eq 5, 3) := by decide +kernel
theorem dX10_call_32 : decode cX10_call 32 = .ok (.iconst 2, 1) := by decide +kernel
theorem dX10_call_33 : decode cX10_call 33 = .ok (.ireturn, 1) := by decide +kernel
theorem dX10_call_34 : decode cX10_call 34 = .ok (.iload_n 2, 1) := by decide +kernel
theorem dX10_call_35 : decode cX10_call 35 = .ok (.iconst 1, 1) := by decide +kernel
theorem dX10_call_36 : decode cX10_call 36 = .ok (.if_icmp .lt 9, 3) := by decide +kernel
theorem dX10_call_39 : decode cX10_call 39 = .ok (.iload_n 2, 1) := by decide +kernel
theorem dX10_call_40 : decode cX10_call 40 = .ok (.bipush 12, 2) := by decide +kernel
theorem dX10_call_42 : decode cX10_call 42 = .ok (.if_icmp .le 5, 3) := by decide +kernel
theorem dX10_call_45 : decode cX10_call 45 = .ok (.iconst 3, 1) := by decide +kernel
theorem dX10_call_46 : decode cX10_call 46 = .ok (.ireturn, 1) := by decide +kernel
theorem dX10_call_47 : decode cX10_call 47 = .ok (.aload_n 0, 1) := by decide +kernel
theorem dX10_call_48 : decode cX10_call 48 = .ok (.getfield 12, 3) := by decide +kernel
theorem dX10_call_51 : decode cX10_call 51 = .ok (.iload_n 1, 1) := by decide +kernel
theorem dX10_call_52 : decode cX10_call 52 = .ok (.iload_n 2, 1) := by decide +kernel
theorem dX10_call_53 : decode cX10_call 53 = .ok (.bipush 8, 2) := by decide +kernel
theorem dX10_call_55 : decode cX10_call 55 = .ok (.if_icmp .ge 7, 3) := by decide +kernel
theorem dX10_call_58 : decode cX10_call 58 = .ok (.iconst 2, 1) := by decide +kernel
theorem dX10_call_59 : decode cX10_call 59 = .ok (.goto 4, 3) := by decide +kernel
theorem dX10_call_62 : decode cX10_call 62 = .ok (.iconst 3, 1) := by decide +kernel
theorem dX10_call_63 : decode cX10_call 63 = .ok (.iload_n 2, 1) := by decide +kernel
theorem dX10_call_64 : decode cX10_call 64 = .ok (.iload_n 3, 1) := by decide +kernel
theorem dX10_call_65 : decode cX10_call 65 = .ok (.iload 4, 2) := by decide +kernel
theorem dX10_call_67 : decode cX10_call 67 = .ok (.invokevirtual 72, 3) := by decide +kernel
theorem dX10_call_70 : decode cX10_call 70 = .ok (.ifCond .eq 5, 3) := by decide +kernel
theorem dX10_call_73 : decode cX10_call 73 = .ok (.iconst 4, 1) := by decide +kernel
theorem dX10_call_74 : decode cX10_call 74 = .ok (.ireturn, 1) := by decide +kernel
theorem dX10_call_75 : decode cX10_call 75 = .ok (.aload_n 0, 1) := by decide +kernel
theorem dX10_call_76 : decode cX10_call 76 = .ok (.getfield 47, 3) := by decide +kernel
theorem dX10_call_79 : decode cX10_call 79 = .ok (.iload_n 1, 1) := by decide +kernel
theorem dX10_call_80 : decode cX10_call 80 = .ok (.iconst 1, 1) := by decide +kernel
theorem dX10_call_81 : decode cX10_call 81 = .ok (.invokevirtual 76, 3) := by decide +kernel
theorem dX10_call_84 : decode cX10_call 84 = .ok (.iconst 0, 1) := by decide +kernel
theorem dX10_call_85 : decode cX10_call 85 = .ok (.ireturn, 1) := by decide +kernel
theorem dX10_steps_0 : decode cX10_steps 0 = .ok (.iload_n 1, 1) := by decide +kernel
theorem dX10_steps_1 : decode cX10_steps 1 = .ok (.ifCond .lt 10, 3) := by decide +kernel
theorem dX10_steps_4 : decode cX10_steps 4 = .ok (.iload_n 1, 1) := by decide +kernel
theorem dX10_steps_5 : decode cX10_steps 5 = .ok (.sipush 20000, 3) := by decide +kernel
theorem dX10_steps_8 : decode cX10_steps 8 = .ok (.if_icmp .le 5, 3) := by decide +kernel
theorem dX10_steps_11 : decode cX10_steps 11 = .ok (.iconst (-1), 1) := by decide +kernel
theorem dX10_steps_12 : decode cX10_steps 12 = .ok (.ireturn, 1) := by decide +kernel
theorem dX10_steps_13 : decode cX10_steps 13 = .ok (.iconst 0, 1) := by decide +kernel
theorem dX10_steps_14 : decode cX10_steps 14 = .ok (.istore_n 2, 1) := by decide +kernel
theorem dX10_steps_15 : decode cX10_steps 15 = .ok (.iload_n 2, 1) := by decide +kernel
theorem dX10_steps_16 : decode cX10_steps 16 = .ok (.iload_n 1, 1) := by decide +kernel
theorem dX10_steps_17 : decode cX10_steps 17 = .ok (.if_icmp .ge 13, 3) := by decide +kernel
theorem dX10_steps_20 : decode cX10_steps 20 = .ok (.aload_n 0, 1) := by decide +kernel
theorem dX10_steps_21 : decode cX10_steps 21 = .ok (.invokevirtual 80, 3) := by decide +kernel
theorem dX10_steps_24 : decode cX10_steps 24 = .ok (.iinc 2 1, 3) := by decide +kernel
theorem dX10_steps_27 : decode cX10_steps 27 = .ok (.goto (-12), 3) := by decide +kernel
theorem dX10_steps_30 : decode cX10_steps 30 = .ok (.aload_n 0, 1) := by decide +kernel
theorem dX10_steps_31 : decode cX10_steps 31 = .ok (.getfield 51, 3) := by decide +kernel
theorem dX10_steps_34 : decode cX10_steps 34 = .ok (.ireturn, 1) := by decide +kernel
theorem dX10_until_0 : decode cX10_until 0 = .ok (.iload_n 1, 1) := by decide +kernel
theorem dX10_until_1 : decode cX10_until 1 = .ok (.invokestatic 61, 3) := by decide +kernel
theorem dX10_until_4 : decode cX10_until 4 = .ok (.ifCond .eq 14, 3) := by decide +kernel
theorem dX10_until_7 : decode cX10_until 7 = .ok (.iload_n 2, 1) := by decide +kernel
theorem dX10_until_8 : decode cX10_until 8 = .ok (.ifCond .lt 10, 3) := by decide +kernel
theorem dX10_until_11 : decode cX10_until 11 = .ok (.iload_n 2, 1) := by decide +kernel
theorem dX10_until_12 : decode cX10_until 12 = .ok (.sipush 20000, 3) := by decide +kernel
theorem dX10_until_15 : decode cX10_until 15 = .ok (.if_icmp .le 5, 3) := by decide +kernel
theorem dX10_until_18 : decode cX10_until 18 = .ok (.iconst (-1), 1) := by decide +kernel
theorem dX10_until_19 : decode cX10_until 19 = .ok (.ireturn, 1) := by decide +kernel
theorem dX10_until_20 : decode cX10_until 20 = .ok (.iconst 0, 1) := by decide +kernel
theorem dX10_until_21 : decode cX10_until 21 = .ok (.istore_n 3, 1) := by decide +kernel
theorem dX10_until_22 : decode cX10_until 22 = .ok (.iload_n 3, 1) := by decide +kernel
theorem dX10_until_23 : decode cX10_until 23 = .ok (.iload_n 2, 1) := by decide +kernel
theorem dX10_until_24 : decode cX10_until 24 = .ok (.if_icmp .ge 24, 3) := by decide +kernel
theorem dX10_until_27 : decode cX10_until 27 = .ok (.aload_n 0, 1) := by decide +kernel
theorem dX10_until_28 : decode cX10_until 28 = .ok (.getfield 47, 3) := by decide +kernel
theorem dX10_until_31 : decode cX10_until 31 = .ok (.iload_n 1, 1) := by decide +kernel
theorem dX10_until_32 : decode cX10_until 32 = .ok (.invokevirtual 69, 3) := by decide +kernel
theorem dX10_until_35 : decode cX10_until 35 = .ok (.ifCond .eq 13, 3) := by decide +kernel
theorem dX10_until_38 : decode cX10_until 38 = .ok (.aload_n 0, 1) := by decide +kernel
theorem dX10_until_39 : decode cX10_until 39 = .ok (.invokevirtual 80, 3) := by decide +kernel
theorem dX10_until_42 : decode cX10_until 42 = .ok (.iinc 3 1, 3) := by decide +kernel
theorem dX10_until_45 : decode cX10_until 45 = .ok (.goto (-23), 3) := by decide +kernel
theorem dX10_until_48 : decode cX10_until 48 = .ok (.iload_n 3, 1) := by decide +kernel
theorem dX10_until_49 : decode cX10_until 49 = .ok (.ireturn, 1) := by decide +kernel
theorem dX10_crash_0 : decode cX10_crash 0 = .ok (.aload_n 0, 1) := by decide +kernel
theorem dX10_crash_1 : decode cX10_crash 1 = .ok (.getfield 12, 3) := by decide +kernel
theorem dX10_crash_4 : decode cX10_crash 4 = .ok (.getfield 65, 3) := by decide +kernel
theorem dX10_crash_7 : decode cX10_crash 7 = .ok (.iconst 1, 1) := by decide +kernel
theorem dX10_crash_8 : decode cX10_crash 8 = .ok (.baload, 1) := by decide +kernel
theorem dX10_crash_9 : decode cX10_crash 9 = .ok (.ifCond .ne 5, 3) := by decide +kernel
theorem dX10_crash_12 : decode cX10_crash 12 = .ok (.iconst 0, 1) := by decide +kernel
theorem dX10_crash_13 : decode cX10_crash 13 = .ok (.ireturn, 1) := by decide +kernel
theorem dX10_crash_14 : decode cX10_crash 14 = .ok (.aload_n 0, 1) := by decide +kernel
theorem dX10_crash_15 : decode cX10_crash 15 = .ok (.invokevirtual 83, 3) := by decide +kernel
theorem dX10_crash_18 : decode cX10_crash 18 = .ok (.iconst 1, 1) := by decide +kernel
theorem dX10_crash_19 : decode cX10_crash 19 = .ok (.ireturn, 1) := by decide +kernel
theorem dX10_hang_0 : decode cX10_hang 0 = .ok (.aload_n 0, 1) := by decide +kernel
theorem dX10_hang_1 : decode cX10_hang 1 = .ok (.getfield 12, 3) := by decide +kernel
theorem dX10_hang_4 : decode cX10_hang 4 = .ok (.getfield 65, 3) := by decide +kernel
theorem dX10_hang_7 : decode cX10_hang 7 = .ok (.iconst 1, 1) := by decide +kernel
theorem dX10_hang_8 : decode cX10_hang 8 = .ok (.baload, 1) := by decide +kernel
theorem dX10_hang_9 : decode cX10_hang 9 = .ok (.ifCond .eq 13, 3) := by decide +kernel
theorem dX10_hang_12 : decode cX10_hang 12 = .ok (.aload_n 0, 1) := by decide +kernel
theorem dX10_hang_13 : decode cX10_hang 13 = .ok (.getfield 26, 3) := by decide +kernel
theorem dX10_hang_16 : decode cX10_hang 16 = .ok (.getfield 86, 3) := by decide +kernel
theorem dX10_hang_19 : decode cX10_hang 19 = .ok (.ifCond .eq 5, 3) := by decide +kernel
theorem dX10_hang_22 : decode cX10_hang 22 = .ok (.iconst 0, 1) := by decide +kernel
theorem dX10_hang_23 : decode cX10_hang 23 = .ok (.ireturn, 1) := by decide +kernel
theorem dX10_hang_24 : decode cX10_hang 24 = .ok (.aload_n 0, 1) := by decide +kernel
theorem dX10_hang_25 : decode cX10_hang 25 = .ok (.getfield 26, 3) := by decide +kernel
theorem dX10_hang_28 : decode cX10_hang 28 = .ok (.iconst 1, 1) := by decide +kernel
theorem dX10_hang_29 : decode cX10_hang 29 = .ok (.putfield 86, 3) := by decide +kernel
theorem dX10_hang_32 : decode cX10_hang 32 = .ok (.iconst 1, 1) := by decide +kernel
theorem dX10_hang_33 : decode cX10_hang 33 = .ok (.ireturn, 1) := by decide +kernel
theorem dX10_force_0 : decode cX10_force 0 = .ok (.iload_n 1, 1) := by decide +kernel
theorem dX10_force_1 : decode cX10_force 1 = .ok (.invokestatic 90, 3) := by decide +kernel
theorem dX10_force_4 : decode cX10_force 4 = .ok (.ifCond .eq 22, 3) := by decide +kernel
theorem dX10_force_7 : decode cX10_force 7 = .ok (.iload_n 2, 1) := by decide +kernel
theorem dX10_force_8 : decode cX10_force 8 = .ok (.invokestatic 90, 3) := by decide +kernel
theorem dX10_force_11 : decode cX10_force 11 = .ok (.ifCond .eq 15, 3) := by decide +kernel
theorem dX10_force_14 : decode cX10_force 14 = .ok (.aload_n 0, 1) := by decide +kernel
theorem dX10_force_15 : decode cX10_force 15 = .ok (.getfield 12, 3) := by decide +kernel
theorem dX10_force_18 : decode cX10_force 18 = .ok (.getfield 65, 3) := by decide +kernel
theorem dX10_force_21 : decode cX10_force 21 = .ok (.iload_n 1, 1) := by decide +kernel
theorem dX10_force_22 : decode cX10_force 22 = .ok (.baload, 1) := by decide +kernel
theorem dX10_force_23 : decode cX10_force 23 = .ok (.ifCond .ne 5, 3) := by decide +kernel
theorem dX10_force_26 : decode cX10_force 26 = .ok (.iconst (-1), 1) := by decide +kernel
theorem dX10_force_27 : decode cX10_force 27 = .ok (.ireturn, 1) := by decide +kernel
theorem dX10_force_28 : decode cX10_force 28 = .ok (.aload_n 0, 1) := by decide +kernel
theorem dX10_force_29 : decode cX10_force 29 = .ok (.getfield 12, 3) := by decide +kernel
theorem dX10_force_32 : decode cX10_force 32 = .ok (.iload_n 1, 1) := by decide +kernel
theorem dX10_force_33 : decode cX10_force 33 = .ok (.iload_n 2, 1) := by decide +kernel
theorem dX10_force_34 : decode cX10_force 34 = .ok (.iconst 0, 1) := by decide +kernel
theorem dX10_force_35 : decode cX10_force 35 = .ok (.iconst 0, 1) := by decide +kernel
theorem dX10_force_36 : decode cX10_force 36 = .ok (.iconst 0, 1) := by decide +kernel
theorem dX10_force_37 : decode cX10_force 37 = .ok (.invokevirtual 72, 3) := by decide +kernel
theorem dX10_force_40 : decode cX10_force 40 = .ok (.ireturn, 1) := by decide +kernel
theorem dX10_user_0 : decode cX10_user 0 = .ok (.iload_n 1, 1) := by decide +kernel
theorem dX10_user_1 : decode cX10_user 1 = .ok (.invokestatic 61, 3) := by decide +kernel
theorem dX10_user_4 : decode cX10_user 4 = .ok (.ifCond .ne 13, 3) := by decide +kernel
theorem dX10_user_7 : decode cX10_user 7 = .ok (.new 93, 3) := by decide +kernel
theorem dX10_user_10 : decode cX10_user 10 = .ok (.dup, 1) := by decide +kernel
theorem dX10_user_11 : decode cX10_user 11 = .ok (.ldc 95, 2) := by decide +kernel
theorem dX10_user_13 : decode cX10_user 13 = .ok (.invokespecial 97, 3) := by decide +kernel
theorem dX10_user_16 : decode cX10_user 16 = .ok (.athrow, 1) := by decide +kernel
theorem dX10_user_17 : decode cX10_user 17 = .ok (.iload_n 2, 1) := by decide +kernel
theorem dX10_user_18 : decode cX10_user 18 = .ok (.tableswitch 142 0 6 #[42, 75, 92, 102, 112, 121, 130], 42) := by decide +kernel
theorem dX10_user_60 : decode cX10_user 60 = .ok (.aload_n 0, 1) := by decide +kernel
theorem dX10_user_61 : decode cX10_user 61 = .ok (.getfield 12, 3) := by decide +kernel
theorem dX10_user_64 : decode cX10_user 64 = .ok (.getfield 65, 3) := by decide +kernel
theorem dX10_user_67 : decode cX10_user 67 = .ok (.iload_n 1, 1) := by decide +kernel
theorem dX10_user_68 : decode cX10_user 68 = .ok (.baload, 1) := by decide +kernel
theorem dX10_user_69 : decode cX10_user 69 = .ok (.ifCond .eq 7, 3) := by decide +kernel
theorem dX10_user_72 : decode cX10_user 72 = .ok (.iconst 1, 1) := by decide +kernel
theorem dX10_user_73 : decode cX10_user 73 = .ok (.goto 19, 3) := by decide +kernel
theorem dX10_user_76 : decode cX10_user 76 = .ok (.aload_n 0, 1) := by decide +kernel
theorem dX10_user_77 : decode cX10_user 77 = .ok (.getfield 40, 3) := by decide +kernel
theorem dX10_user_80 : decode cX10_user 80 = .ok (.iload_n 1, 1) := by decide +kernel
theorem dX10_user_81 : decode cX10_user 81 = .ok (.invokevirtual 100, 3) := by decide +kernel
theorem dX10_user_84 : decode cX10_user 84 = .ok (.ifCond .eq 7, 3) := by decide +kernel
theorem dX10_user_87 : decode cX10_user 87 = .ok (.iconst 2, 1) := by decide +kernel
theorem dX10_user_88 : decode cX10_user 88 = .ok (.goto 4, 3) := by decide +kernel
theorem dX10_user_91 : decode cX10_user 91 = .ok (.iconst 0, 1) := by decide +kernel
theorem dX10_user_92 : decode cX10_user 92 = .ok (.ireturn, 1) := by decide +kernel
theorem dX10_user_93 : decode cX10_user 93 = .ok (.aload_n 0, 1) := by decide +kernel
theorem dX10_user_94 : decode cX10_user 94 = .ok (.getfield 47, 3) := by decide +kernel
theorem dX10_user_97 : decode cX10_user 97 = .ok (.iload_n 1, 1) := by decide +kernel
theorem dX10_user_98 : decode cX10_user 98 = .ok (.invokevirtual 69, 3) := by decide +kernel
theorem dX10_user_101 : decode cX10_user 101 = .ok (.ifCond .eq 7, 3) := by decide +kernel
theorem dX10_user_104 : decode cX10_user 104 = .ok (.iconst 1, 1) := by decide +kernel
theorem dX10_user_105 : decode cX10_user 105 = .ok (.goto 4, 3) := by decide +kernel
theorem dX10_user_108 : decode cX10_user 108 = .ok (.iconst 0, 1) := by decide +kernel
theorem dX10_user_109 : decode cX10_user 109 = .ok (.ireturn, 1) := by decide +kernel
theorem dX10_user_110 : decode cX10_user 110 = .ok (.aload_n 0, 1) := by decide +kernel
theorem dX10_user_111 : decode cX10_user 111 = .ok (.getfield 47, 3) := by decide +kernel
theorem dX10_user_114 : decode cX10_user 114 = .ok (.getfield 103, 3) := by decide +kernel
theorem dX10_user_117 : decode cX10_user 117 = .ok (.iload_n 1, 1) := by decide +kernel
theorem dX10_user_118 : decode cX10_user 118 = .ok (.iaload, 1) := by decide +kernel
theorem dX10_user_119 : decode cX10_user 119 = .ok (.ireturn, 1) := by decide +kernel
theorem dX10_user_120 : decode cX10_user 120 = .ok (.aload_n 0, 1) := by decide +kernel
theorem dX10_user_121 : decode cX10_user 121 = .ok (.getfield 47, 3) := by decide +kernel
theorem dX10_user_124 : decode cX10_user 124 = .ok (.getfield 107, 3) := by decide +kernel
theorem dX10_user_127 : decode cX10_user 127 = .ok (.iload_n 1, 1) := by decide +kernel
theorem dX10_user_128 : decode cX10_user 128 = .ok (.iaload, 1) := by decide +kernel
theorem dX10_user_129 : decode cX10_user 129 = .ok (.ireturn, 1) := by decide +kernel
theorem dX10_user_130 : decode cX10_user 130 = .ok (.aload_n 0, 1) := by decide +kernel
theorem dX10_user_131 : decode cX10_user 131 = .ok (.getfield 40, 3) := by decide +kernel
theorem dX10_user_134 : decode cX10_user 134 = .ok (.iload_n 1, 1) := by decide +kernel
theorem dX10_user_135 : decode cX10_user 135 = .ok (.invokevirtual 110, 3) := by decide +kernel
theorem dX10_user_138 : decode cX10_user 138 = .ok (.ireturn, 1) := by decide +kernel
theorem dX10_user_139 : decode cX10_user 139 = .ok (.aload_n 0, 1) := by decide +kernel
theorem dX10_user_140 : decode cX10_user 140 = .ok (.getfield 40, 3) := by decide +kernel
theorem dX10_user_143 : decode cX10_user 143 = .ok (.iload_n 1, 1) := by decide +kernel
theorem dX10_user_144 : decode cX10_user 144 = .ok (.invokevirtual 114, 3) := by decide +kernel
theorem dX10_user_147 : decode cX10_user 147 = .ok (.ireturn, 1) := by decide +kernel
theorem dX10_user_148 : decode cX10_user 148 = .ok (.aload_n 0, 1) := by decide +kernel
theorem dX10_user_149 : decode cX10_user 149 = .ok (.getfield 33, 3) := by decide +kernel
theorem dX10_user_152 : decode cX10_user 152 = .ok (.getfield 117, 3) := by decide +kernel
theorem dX10_user_155 : decode cX10_user 155 = .ok (.iload_n 1, 1) := by decide +kernel
theorem dX10_user_156 : decode cX10_user 156 = .ok (.invokevirtual 121, 3) := by decide +kernel
theorem dX10_user_159 : decode cX10_user 159 = .ok (.ireturn, 1) := by decide +kernel
theorem dX10_user_160 : decode cX10_user 160 = .ok (.new 93, 3) := by decide +kernel
theorem dX10_user_163 : decode cX10_user 163 = .ok (.dup, 1) := by decide +kernel
theorem dX10_user_164 : decode cX10_user 164 = .ok (.ldc 126, 2) := by decide +kernel
theorem dX10_user_166 : decode cX10_user 166 = .ok (.invokespecial 97, 3) := by decide +kernel
theorem dX10_user_169 : decode cX10_user 169 = .ok (.athrow, 1) := by decide +kernel
theorem dX10_descriptor_0 : decode cX10_descriptor 0 = .ok (.iload_n 3, 1) := by decide +kernel
theorem dX10_descriptor_1 : decode cX10_descriptor 1 = .ok (.lookupswitch 53 #[(0, 27), (1, 40)], 27) := by decide +kernel
theorem dX10_descriptor_28 : decode cX10_descriptor 28 = .ok (.aload_n 0, 1) := by decide +kernel
theorem dX10_descriptor_29 : decode cX10_descriptor 29 = .ok (.getfield 33, 3) := by decide +kernel
theorem dX10_descriptor_32 : decode cX10_descriptor 32 = .ok (.getfield 117, 3) := by decide +kernel
theorem dX10_descriptor_35 : decode cX10_descriptor 35 = .ok (.iload_n 1, 1) := by decide +kernel
theorem dX10_descriptor_36 : decode cX10_descriptor 36 = .ok (.iload_n 2, 1) := by decide +kernel
theorem dX10_descriptor_37 : decode cX10_descriptor 37 = .ok (.invokevirtual 128, 3) := by decide +kernel
theorem dX10_descriptor_40 : decode cX10_descriptor 40 = .ok (.ireturn, 1) := by decide +kernel
theorem dX10_descriptor_41 : decode cX10_descriptor 41 = .ok (.aload_n 0, 1) := by decide +kernel
theorem dX10_descriptor_42 : decode cX10_descriptor 42 = .ok (.getfield 33, 3) := by decide +kernel
theorem dX10_descriptor_45 : decode cX10_descriptor 45 = .ok (.getfield 117, 3) := by decide +kernel
theorem dX10_descriptor_48 : decode cX10_descriptor 48 = .ok (.iload_n 1, 1) := by decide +kernel
theorem dX10_descriptor_49 : decode cX10_descriptor 49 = .ok (.iload_n 2, 1) := by decide +kernel
theorem dX10_descriptor_50 : decode cX10_descriptor 50 = .ok (.invokevirtual 132, 3) := by decide +kernel
theorem dX10_descriptor_53 : decode cX10_descriptor 53 = .ok (.ireturn, 1) := by decide +kernel
theorem dX10_descriptor_54 : decode cX10_descriptor 54 = .ok (.iconst (-1), 1) := by decide +kernel
theorem dX10_descriptor_55 : decode cX10_descriptor 55 = .ok (.ireturn, 1) := by decide +kernel
theorem dX10_file_0 : decode cX10_file 0 = .ok (.iload_n 2, 1) := by decide +kernel
theorem dX10_file_1 : decode cX10_file 1 = .ok (.ifCond .ne 17, 3) := by decide +kernel
theorem dX10_file_4 : decode cX10_file 4 = .ok (.aload_n 0, 1) := by decide +kernel
theorem dX10_file_5 : decode cX10_file 5 = .ok (.getfield 33, 3) := by decide +kernel
theorem dX10_file_8 : decode cX10_file 8 = .ok (.getfield 135, 3) := by decide +kernel
theorem dX10_file_11 : decode cX10_file 11 = .ok (.iload_n 1, 1) := by decide +kernel
theorem dX10_file_12 : decode cX10_file 12 = .ok (.invokevirtual 139, 3) := by decide +kernel
theorem dX10_file_15 : decode cX10_file 15 = .ok (.goto 18, 3) := by decide +kernel
theorem dX10_file_18 : decode cX10_file 18 = .ok (.aload_n 0, 1) := by decide +kernel
theorem dX10_file_19 : decode cX10_file 19 = .ok (.getfield 33, 3) := by decide +kernel
theorem dX10_file_22 : decode cX10_file 22 = .ok (.getfield 135, 3) := by decide +kernel
theorem dX10_file_25 : decode cX10_file 25 = .ok (.iload_n 1, 1) := by decide +kernel
theorem dX10_file_26 : decode cX10_file 26 = .ok (.iload_n 2, 1) := by decide +kernel
theorem dX10_file_27 : decode cX10_file 27 = .ok (.i2l, 1) := by decide +kernel
theorem dX10_file_28 : decode cX10_file 28 = .ok (.lconst 1, 1) := by decide +kernel
theorem dX10_file_29 : decode cX10_file 29 = .ok (.lsub, 1) := by decide +kernel
theorem dX10_file_30 : decode cX10_file 30 = .ok (.invokevirtual 144, 3) := by decide +kernel
theorem dX10_file_33 : decode cX10_file 33 = .ok (.ireturn, 1) := by decide +kernel
theorem dX10_disk_0 : decode cX10_disk 0 = .ok (.iload_n 1, 1) := by decide +kernel
theorem dX10_disk_1 : decode cX10_disk 1 = .ok (.ifCond .lt 19, 3) := by decide +kernel
theorem dX10_disk_4 : decode cX10_disk 4 = .ok (.iload_n 1, 1) := by decide +kernel
theorem dX10_disk_5 : decode cX10_disk 5 = .ok (.bipush 24, 2) := by decide +kernel
theorem dX10_disk_7 : decode cX10_disk 7 = .ok (.if_icmp .ge 13, 3) := by decide +kernel
theorem dX10_disk_10 : decode cX10_disk 10 = .ok (.iload_n 2, 1) := by decide +kernel
theorem dX10_disk_11 : decode cX10_disk 11 = .ok (.ifCond .lt 9, 3) := by decide +kernel
theorem dX10_disk_14 : decode cX10_disk 14 = .ok (.iload_n 2, 1) := by decide +kernel
theorem dX10_disk_15 : decode cX10_disk 15 = .ok (.bipush 8, 2) := by decide +kernel
theorem dX10_disk_17 : decode cX10_disk 17 = .ok (.if_icmp .lt 13, 3) := by decide +kernel
theorem dX10_disk_20 : decode cX10_disk 20 = .ok (.new 93, 3) := by decide +kernel
theorem dX10_disk_23 : decode cX10_disk 23 = .ok (.dup, 1) := by decide +kernel
theorem dX10_disk_24 : decode cX10_disk 24 = .ok (.ldc 148, 2) := by decide +kernel
theorem dX10_disk_26 : decode cX10_disk 26 = .ok (.invokespecial 97, 3) := by decide +kernel
theorem dX10_disk_29 : decode cX10_disk 29 = .ok (.athrow, 1) := by decide +kernel
theorem dX10_disk_30 : decode cX10_disk 30 = .ok (.aload_n 0, 1) := by decide +kernel
theorem dX10_disk_31 : decode cX10_disk 31 = .ok (.getfield 26, 3) := by decide +kernel
theorem dX10_disk_34 : decode cX10_disk 34 = .ok (.getfield 150, 3) := by decide +kernel
theorem dX10_disk_37 : decode cX10_disk 37 = .ok (.iload_n 1, 1) := by decide +kernel
theorem dX10_disk_38 : decode cX10_disk 38 = .ok (.bipush 8, 2) := by decide +kernel
theorem dX10_disk_40 : decode cX10_disk 40 = .ok (.imul, 1) := by decide +kernel
theorem dX10_disk_41 : decode cX10_disk 41 = .ok (.iload_n 2, 1) := by decide +kernel
theorem dX10_disk_42 : decode cX10_disk 42 = .ok (.iadd, 1) := by decide +kernel
theorem dX10_disk_43 : decode cX10_disk 43 = .ok (.iaload, 1) := by decide +kernel
theorem dX10_disk_44 : decode cX10_disk 44 = .ok (.ireturn, 1) := by decide +kernel
theorem dX10_inbox_0 : decode cX10_inbox 0 = .ok (.iload_n 1, 1) := by decide +kernel
theorem dX10_inbox_1 : decode cX10_inbox 1 = .ok (.invokestatic 90, 3) := by decide +kernel
theorem dX10_inbox_4 : decode cX10_inbox 4 = .ok (.ifCond .eq 18, 3) := by decide +kernel
theorem dX10_inbox_7 : decode cX10_inbox 7 = .ok (.aload_n 0, 1) := by decide +kernel
theorem dX10_inbox_8 : decode cX10_inbox 8 = .ok (.getfield 12, 3) := by decide +kernel
theorem dX10_inbox_11 : decode cX10_inbox 11 = .ok (.getfield 153, 3) := by decide +kernel
theorem dX10_inbox_14 : decode cX10_inbox 14 = .ok (.iload_n 1, 1) := by decide +kernel
theorem dX10_inbox_15 : decode cX10_inbox 15 = .ok (.aaload, 1) := by decide +kernel
theorem dX10_inbox_16 : decode cX10_inbox 16 = .ok (.getfield 157, 3) := by decide +kernel
theorem dX10_inbox_19 : decode cX10_inbox 19 = .ok (.goto 4, 3) := by decide +kernel
theorem dX10_inbox_22 : decode cX10_inbox 22 = .ok (.iconst (-1), 1) := by decide +kernel
theorem dX10_inbox_23 : decode cX10_inbox 23 = .ok (.ireturn, 1) := by decide +kernel
theorem dX10_message_0 : decode cX10_message 0 = .ok (.iload_n 1, 1) := by decide +kernel
theorem dX10_message_1 : decode cX10_message 1 = .ok (.invokestatic 90, 3) := by decide +kernel
theorem dX10_message_4 : decode cX10_message 4 = .ok (.ifCond .eq 19, 3) := by decide +kernel
theorem dX10_message_7 : decode cX10_message 7 = .ok (.aload_n 0, 1) := by decide +kernel
theorem dX10_message_8 : decode cX10_message 8 = .ok (.getfield 12, 3) := by decide +kernel
theorem dX10_message_11 : decode cX10_message 11 = .ok (.getfield 153, 3) := by decide +kernel
theorem dX10_message_14 : decode cX10_message 14 = .ok (.iload_n 1, 1) := by decide +kernel
theorem dX10_message_15 : decode cX10_message 15 = .ok (.aaload, 1) := by decide +kernel
theorem dX10_message_16 : decode cX10_message 16 = .ok (.iload_n 2, 1) := by decide +kernel
theorem dX10_message_17 : decode cX10_message 17 = .ok (.invokevirtual 162, 3) := by decide +kernel
theorem dX10_message_20 : decode cX10_message 20 = .ok (.goto 4, 3) := by decide +kernel
theorem dX10_message_23 : decode cX10_message 23 = .ok (.aconst_null, 1) := by decide +kernel
theorem dX10_message_24 : decode cX10_message 24 = .ok (.astore 4, 2) := by decide +kernel
theorem dX10_message_26 : decode cX10_message 26 = .ok (.aload 4, 2) := by decide +kernel
theorem dX10_message_28 : decode cX10_message 28 = .ok (.ifnonnull 5, 3) := by decide +kernel
theorem dX10_message_31 : decode cX10_message 31 = .ok (.iconst (-1), 1) := by decide +kernel
theorem dX10_message_32 : decode cX10_message 32 = .ok (.ireturn, 1) := by decide +kernel
theorem dX10_message_33 : decode cX10_message 33 = .ok (.iload_n 3, 1) := by decide +kernel
theorem dX10_message_34 : decode cX10_message 34 = .ok (.tableswitch 64 0 4 #[34, 40, 46, 52, 58], 34) := by decide +kernel
theorem dX10_message_68 : decode cX10_message 68 = .ok (.aload 4, 2) := by decide +kernel
theorem dX10_message_70 : decode cX10_message 70 = .ok (.getfield 166, 3) := by decide +kernel
theorem dX10_message_73 : decode cX10_message 73 = .ok (.ireturn, 1) := by decide +kernel
theorem dX10_message_74 : decode cX10_message 74 = .ok (.aload 4, 2) := by decide +kernel
theorem dX10_message_76 : decode cX10_message 76 = .ok (.getfield 171, 3) := by decide +kernel
theorem dX10_message_79 : decode cX10_message 79 = .ok (.ireturn, 1) := by decide +kernel
theorem dX10_message_80 : decode cX10_message 80 = .ok (.aload 4, 2) := by decide +kernel
theorem dX10_message_82 : decode cX10_message 82 = .ok (.getfield 174, 3) := by decide +kernel
theorem dX10_message_85 : decode cX10_message 85 = .ok (.ireturn, 1) := by decide +kernel
theorem dX10_message_86 : decode cX10_message 86 = .ok (.aload 4, 2) := by decide +kernel
theorem dX10_message_88 : decode cX10_message 88 = .ok (.getfield 177, 3) := by decide +kernel
theorem dX10_message_91 : decode cX10_message 91 = .ok (.ireturn, 1) := by decide +kernel
theorem dX10_message_92 : decode cX10_message 92 = .ok (.aload 4, 2) := by decide +kernel
theorem dX10_message_94 : decode cX10_message 94 = .ok (.getfield 180, 3) := by decide +kernel
theorem dX10_message_97 : decode cX10_message 97 = .ok (.ireturn, 1) := by decide +kernel
theorem dX10_message_98 : decode cX10_message 98 = .ok (.iconst (-1), 1) := by decide +kernel
theorem dX10_message_99 : decode cX10_message 99 = .ok (.ireturn, 1) := by decide +kernel
theorem dX10_count_0 : decode cX10_count 0 = .ok (.iload_n 1, 1) := by decide +kernel
theorem dX10_count_1 : decode cX10_count 1 = .ok (.tableswitch 229 0 13 #[71, 76, 81, 89, 121, 129, 146, 162, 178, 183, 191, 202, 213, 221], 71) := by decide +kernel
theorem dX10_count_72 : decode cX10_count 72 = .ok (.aload_n 0, 1) := by decide +kernel
theorem dX10_count_73 : decode cX10_count 73 = .ok (.getfield 51, 3) := by decide +kernel
theorem dX10_count_76 : decode cX10_count 76 = .ok (.ireturn, 1) := by decide +kernel
theorem dX10_count_77 : decode cX10_count 77 = .ok (.aload_n 0, 1) := by decide +kernel
theorem dX10_count_78 : decode cX10_count 78 = .ok (.getfield 55, 3) := by decide +kernel
theorem dX10_count_81 : decode cX10_count 81 = .ok (.ireturn, 1) := by decide +kernel
theorem dX10_count_82 : decode cX10_count 82 = .ok (.aload_n 0, 1) := by decide +kernel
theorem dX10_count_83 : decode cX10_count 83 = .ok (.getfield 12, 3) := by decide +kernel
theorem dX10_count_86 : decode cX10_count 86 = .ok (.getfield 183, 3) := by decide +kernel
theorem dX10_count_89 : decode cX10_count 89 = .ok (.ireturn, 1) := by decide +kernel
theorem dX10_count_90 : decode cX10_count 90 = .ok (.aload_n 0, 1) := by decide +kernel
theorem dX10_count_91 : decode cX10_count 91 = .ok (.getfield 12, 3) := by decide +kernel
theorem dX10_count_94 : decode cX10_count 94 = .ok (.getfield 65, 3) := by decide +kernel
theorem dX10_count_97 : decode cX10_count 97 = .ok (.iconst 1, 1) := by decide +kernel
theorem dX10_count_98 : decode cX10_count 98 = .ok (.baload, 1) := by decide +kernel
theorem dX10_count_99 : decode cX10_count 99 = .ok (.ifCond .ne 7, 3) := by decide +kernel
theorem dX10_count_102 : decode cX10_count 102 = .ok (.iconst 0, 1) := by decide +kernel
theorem dX10_count_103 : decode cX10_count 103 = .ok (.goto 18, 3) := by decide +kernel
theorem dX10_count_106 : decode cX10_count 106 = .ok (.aload_n 0, 1) := by decide +kernel
theorem dX10_count_107 : decode cX10_count 107 = .ok (.getfield 26, 3) := by decide +kernel
theorem dX10_count_110 : decode cX10_count 110 = .ok (.getfield 86, 3) := by decide +kernel
theorem dX10_count_113 : decode cX10_count 113 = .ok (.ifCond .eq 7, 3) := by decide +kernel
theorem dX10_count_116 : decode cX10_count 116 = .ok (.iconst 2, 1) := by decide +kernel
theorem dX10_count_117 : decode cX10_count 117 = .ok (.goto 4, 3) := by decide +kernel
theorem dX10_count_120 : decode cX10_count 120 = .ok (.iconst 1, 1) := by decide +kernel
theorem dX10_count_121 : decode cX10_count 121 = .ok (.ireturn, 1) := by decide +kernel
theorem dX10_count_122 : decode cX10_count 122 = .ok (.aload_n 0, 1) := by decide +kernel
theorem dX10_count_123 : decode cX10_count 123 = .ok (.getfield 26, 3) := by decide +kernel
theorem dX10_count_126 : decode cX10_count 126 = .ok (.getfield 186, 3) := by decide +kernel
theorem dX10_count_129 : decode cX10_count 129 = .ok (.ireturn, 1) := by decide +kernel
theorem dX10_count_130 : decode cX10_count 130 = .ok (.aload_n 0, 1) := by decide +kernel
theorem dX10_count_131 : decode cX10_count 131 = .ok (.getfield 26, 3) := by decide +kernel
theorem dX10_count_134 : decode cX10_count 134 = .ok (.getfield 189, 3) := by decide +kernel
theorem dX10_count_137 : decode cX10_count 137 = .ok (.iconst (-1), 1) := by decide +kernel
theorem dX10_count_138 : decode cX10_count 138 = .ok (.if_icmp .ne 7, 3) := by decide +kernel
theorem dX10_count_141 : decode cX10_count 141 = .ok (.iconst 0, 1) := by decide +kernel
theorem dX10_count_142 : decode cX10_count 142 = .ok (.goto 4, 3) := by decide +kernel
theorem dX10_count_145 : decode cX10_count 145 = .ok (.iconst 1, 1) := by decide +kernel
theorem dX10_count_146 : decode cX10_count 146 = .ok (.ireturn, 1) := by decide +kernel
theorem dX10_count_147 : decode cX10_count 147 = .ok (.aload_n 0, 1) := by decide +kernel
theorem dX10_count_148 : decode cX10_count 148 = .ok (.getfield 33, 3) := by decide +kernel
theorem dX10_count_151 : decode cX10_count 151 = .ok (.getfield 192, 3) := by decide +kernel
theorem dX10_count_154 : decode cX10_count 154 = .ok (.ifCond .eq 7, 3) := by decide +kernel
theorem dX10_count_157 : decode cX10_count 157 = .ok (.iconst 1, 1) := by decide +kernel
theorem dX10_count_158 : decode cX10_count 158 = .ok (.goto 4, 3) := by decide +kernel
theorem dX10_count_161 : decode cX10_count 161 = .ok (.iconst 0, 1) := by decide +kernel
theorem dX10_count_162 : decode cX10_count 162 = .ok (.ireturn, 1) := by decide +kernel
theorem dX10_count_163 : decode cX10_count 163 = .ok (.aload_n 0, 1) := by decide +kernel
theorem dX10_count_164 : decode cX10_count 164 = .ok (.getfield 40, 3) := by decide +kernel
theorem dX10_count_167 : decode cX10_count 167 = .ok (.getfield 195, 3) := by decide +kernel
theorem dX10_count_170 : decode cX10_count 170 = .ok (.ifCond .eq 7, 3) := by decide +kernel
theorem dX10_count_173 : decode cX10_count 173 = .ok (.iconst 1, 1) := by decide +kernel
theorem dX10_count_174 : decode cX10_count 174 = .ok (.goto 4, 3) := by decide +kernel
theorem dX10_count_177 : decode cX10_count 177 = .ok (.iconst 0, 1) := by decide +kernel
theorem dX10_count_178 : decode cX10_count 178 = .ok (.ireturn, 1) := by decide +kernel
theorem dX10_count_179 : decode cX10_count 179 = .ok (.aload_n 0, 1) := by decide +kernel
theorem dX10_count_180 : decode cX10_count 180 = .ok (.getfield 58, 3) := by decide +kernel
theorem dX10_count_183 : decode cX10_count 183 = .ok (.ireturn, 1) := by decide +kernel
theorem dX10_count_184 : decode cX10_count 184 = .ok (.aload_n 0, 1) := by decide +kernel
theorem dX10_count_185 : decode cX10_count 185 = .ok (.getfield 12, 3) := by decide +kernel
theorem dX10_count_188 : decode cX10_count 188 = .ok (.getfield 196, 3) := by decide +kernel
theorem dX10_count_191 : decode cX10_count 191 = .ok (.ireturn, 1) := by decide +kernel
theorem dX10_count_192 : decode cX10_count 192 = .ok (.aload_n 0, 1) := by decide +kernel
theorem dX10_count_193 : decode cX10_count 193 = .ok (.getfield 33, 3) := by decide +kernel
theorem dX10_count_196 : decode cX10_count 196 = .ok (.getfield 135, 3) := by decide +kernel
theorem dX10_count_199 : decode cX10_count 199 = .ok (.getfield 199, 3) := by decide +kernel
theorem dX10_count_202 : decode cX10_count 202 = .ok (.ireturn, 1) := by decide +kernel
theorem dX10_count_203 : decode cX10_count 203 = .ok (.aload_n 0, 1) := by decide +kernel
theorem dX10_count_204 : decode cX10_count 204 = .ok (.getfield 33, 3) := by decide +kernel
theorem dX10_count_207 : decode cX10_count 207 = .ok (.getfield 135, 3) := by decide +kernel
theorem dX10_count_210 : decode cX10_count 210 = .ok (.getfield 201, 3) := by decide +kernel
theorem dX10_count_213 : decode cX10_count 213 = .ok (.ireturn, 1) := by decide +kernel
theorem dX10_count_214 : decode cX10_count 214 = .ok (.aload_n 0, 1) := by decide +kernel
theorem dX10_count_215 : decode cX10_count 215 = .ok (.getfield 12, 3) := by decide +kernel
theorem dX10_count_218 : decode cX10_count 218 = .ok (.invokevirtual 204, 3) := by decide +kernel
theorem dX10_count_221 : decode cX10_count 221 = .ok (.ireturn, 1) := by decide +kernel
theorem dX10_count_222 : decode cX10_count 222 = .ok (.aload_n 0, 1) := by decide +kernel
theorem dX10_count_223 : decode cX10_count 223 = .ok (.getfield 12, 3) := by decide +kernel
theorem dX10_count_226 : decode cX10_count 226 = .ok (.getfield 208, 3) := by decide +kernel
theorem dX10_count_229 : decode cX10_count 229 = .ok (.ireturn, 1) := by decide +kernel
theorem dX10_count_230 : decode cX10_count 230 = .ok (.iconst (-1), 1) := by decide +kernel
theorem dX10_count_231 : decode cX10_count 231 = .ok (.ireturn, 1) := by decide +kernel
theorem dX10_giveTurn_0 : decode cX10_giveTurn 0 = .ok (.aload_n 0, 1) := by decide +kernel
theorem dX10_giveTurn_1 : decode cX10_giveTurn 1 = .ok (.getfield 55, 3) := by decide +kernel
theorem dX10_giveTurn_4 : decode cX10_giveTurn 4 = .ok (.istore_n 1, 1) := by decide +kernel
theorem dX10_giveTurn_5 : decode cX10_giveTurn 5 = .ok (.aload_n 0, 1) := by decide +kernel
theorem dX10_giveTurn_6 : decode cX10_giveTurn 6 = .ok (.iload_n 1, 1) := by decide +kernel
theorem dX10_giveTurn_7 : decode cX10_giveTurn 7 = .ok (.iconst 1, 1) := by decide +kernel
theorem dX10_giveTurn_8 : decode cX10_giveTurn 8 = .ok (.iadd, 1) := by decide +kernel
theorem dX10_giveTurn_9 : decode cX10_giveTurn 9 = .ok (.bipush 12, 2) := by decide +kernel
theorem dX10_giveTurn_11 : decode cX10_giveTurn 11 = .ok (.if_icmp .ge 9, 3) := by decide +kernel
theorem dX10_giveTurn_14 : decode cX10_giveTurn 14 = .ok (.iload_n 1, 1) := by decide +kernel
theorem dX10_giveTurn_15 : decode cX10_giveTurn 15 = .ok (.iconst 1, 1) := by decide +kernel
theorem dX10_giveTurn_16 : decode cX10_giveTurn 16 = .ok (.iadd, 1) := by decide +kernel
theorem dX10_giveTurn_17 : decode cX10_giveTurn 17 = .ok (.goto 4, 3) := by decide +kernel
theorem dX10_giveTurn_20 : decode cX10_giveTurn 20 = .ok (.iconst 0, 1) := by decide +kernel
theorem dX10_giveTurn_21 : decode cX10_giveTurn 21 = .ok (.putfield 55, 3) := by decide +kernel
theorem dX10_giveTurn_24 : decode cX10_giveTurn 24 = .ok (.aload_n 0, 1) := by decide +kernel
theorem dX10_giveTurn_25 : decode cX10_giveTurn 25 = .ok (.dup, 1) := by decide +kernel
theorem dX10_giveTurn_26 : decode cX10_giveTurn 26 = .ok (.getfield 51, 3) := by decide +kernel
theorem dX10_giveTurn_29 : decode cX10_giveTurn 29 = .ok (.iconst 1, 1) := by decide +kernel
theorem dX10_giveTurn_30 : decode cX10_giveTurn 30 = .ok (.iadd, 1) := by decide +kernel
theorem dX10_giveTurn_31 : decode cX10_giveTurn 31 = .ok (.putfield 51, 3) := by decide +kernel
theorem dX10_giveTurn_34 : decode cX10_giveTurn 34 = .ok (.iload_n 1, 1) := by decide +kernel
theorem dX10_giveTurn_35 : decode cX10_giveTurn 35 = .ok (.ifCond .ne 16, 3) := by decide +kernel
theorem dX10_giveTurn_38 : decode cX10_giveTurn 38 = .ok (.aload_n 0, 1) := by decide +kernel
theorem dX10_giveTurn_39 : decode cX10_giveTurn 39 = .ok (.getfield 19, 3) := by decide +kernel
theorem dX10_giveTurn_42 : decode cX10_giveTurn 42 = .ok (.dup, 1) := by decide +kernel
theorem dX10_giveTurn_43 : decode cX10_giveTurn 43 = .ok (.getfield 211, 3) := by decide +kernel
theorem dX10_giveTurn_46 : decode cX10_giveTurn 46 = .ok (.iconst 1, 1) := by decide +kernel
theorem dX10_giveTurn_47 : decode cX10_giveTurn 47 = .ok (.iadd, 1) := by decide +kernel
theorem dX10_giveTurn_48 : decode cX10_giveTurn 48 = .ok (.putfield 211, 3) := by decide +kernel
theorem dX10_giveTurn_51 : decode cX10_giveTurn 51 = .ok (.aload_n 0, 1) := by decide +kernel
theorem dX10_giveTurn_52 : decode cX10_giveTurn 52 = .ok (.getfield 12, 3) := by decide +kernel
theorem dX10_giveTurn_55 : decode cX10_giveTurn 55 = .ok (.getfield 65, 3) := by decide +kernel
theorem dX10_giveTurn_58 : decode cX10_giveTurn 58 = .ok (.iload_n 1, 1) := by decide +kernel
theorem dX10_giveTurn_59 : decode cX10_giveTurn 59 = .ok (.baload, 1) := by decide +kernel
theorem dX10_giveTurn_60 : decode cX10_giveTurn 60 = .ok (.ifCond .eq 29, 3) := by decide +kernel
theorem dX10_giveTurn_63 : decode cX10_giveTurn 63 = .ok (.iload_n 1, 1) := by decide +kernel
theorem dX10_giveTurn_64 : decode cX10_giveTurn 64 = .ok (.iconst 1, 1) := by decide +kernel
theorem dX10_giveTurn_65 : decode cX10_giveTurn 65 = .ok (.if_icmp .ne 13, 3) := by decide +kernel
theorem dX10_giveTurn_68 : decode cX10_giveTurn 68 = .ok (.aload_n 0, 1) := by decide +kernel
theorem dX10_giveTurn_69 : decode cX10_giveTurn 69 = .ok (.getfield 26, 3) := by decide +kernel
theorem dX10_giveTurn_72 : decode cX10_giveTurn 72 = .ok (.getfield 86, 3) := by decide +kernel
theorem dX10_giveTurn_75 : decode cX10_giveTurn 75 = .ok (.ifCond .ne 14, 3) := by decide +kernel
theorem dX10_giveTurn_78 : decode cX10_giveTurn 78 = .ok (.aload_n 0, 1) := by decide +kernel
theorem dX10_giveTurn_79 : decode cX10_giveTurn 79 = .ok (.getfield 12, 3) := by decide +kernel
theorem dX10_giveTurn_82 : decode cX10_giveTurn 82 = .ok (.iload_n 1, 1) := by decide +kernel
theorem dX10_giveTurn_83 : decode cX10_giveTurn 83 = .ok (.invokevirtual 214, 3) := by decide +kernel
theorem dX10_giveTurn_86 : decode cX10_giveTurn 86 = .ok (.ifCond .eq 4, 3) := by decide +kernel
theorem dX10_giveTurn_89 : decode cX10_giveTurn 89 = .ok (.return_, 1) := by decide +kernel
theorem dX10_giveTurn_90 : decode cX10_giveTurn 90 = .ok (.iload_n 1, 1) := by decide +kernel
theorem dX10_giveTurn_91 : decode cX10_giveTurn 91 = .ok (.tableswitch 96 0 3 #[29, 50, 64, 78], 29) := by decide +kernel
theorem dX10_giveTurn_120 : decode cX10_giveTurn 120 = .ok (.aload_n 0, 1) := by decide +kernel
theorem dX10_giveTurn_121 : decode cX10_giveTurn 121 = .ok (.getfield 19, 3) := by decide +kernel
theorem dX10_giveTurn_124 : decode cX10_giveTurn 124 = .ok (.aload_n 0, 1) := by decide +kernel
theorem dX10_giveTurn_125 : decode cX10_giveTurn 125 = .ok (.getfield 12, 3) := by decide +kernel
theorem dX10_giveTurn_128 : decode cX10_giveTurn 128 = .ok (.invokevirtual 217, 3) := by decide +kernel
theorem dX10_giveTurn_131 : decode cX10_giveTurn 131 = .ok (.ifCond .eq 68, 3) := by decide +kernel
theorem dX10_giveTurn_134 : decode cX10_giveTurn 134 = .ok (.aload_n 0, 1) := by decide +kernel
theorem dX10_giveTurn_135 : decode cX10_giveTurn 135 = .ok (.invokevirtual 83, 3) := by decide +kernel
theorem dX10_giveTurn_138 : decode cX10_giveTurn 138 = .ok (.goto 61, 3) := by decide +kernel
theorem dX10_giveTurn_141 : decode cX10_giveTurn 141 = .ok (.aload_n 0, 1) := by decide +kernel
theorem dX10_giveTurn_142 : decode cX10_giveTurn 142 = .ok (.getfield 26, 3) := by decide +kernel
theorem dX10_giveTurn_145 : decode cX10_giveTurn 145 = .ok (.aload_n 0, 1) := by decide +kernel
theorem dX10_giveTurn_146 : decode cX10_giveTurn 146 = .ok (.getfield 12, 3) := by decide +kernel
theorem dX10_giveTurn_149 : decode cX10_giveTurn 149 = .ok (.invokevirtual 221, 3) := by decide +kernel
theorem dX10_giveTurn_152 : decode cX10_giveTurn 152 = .ok (.goto 47, 3) := by decide +kernel
theorem dX10_giveTurn_155 : decode cX10_giveTurn 155 = .ok (.aload_n 0, 1) := by decide +kernel
theorem dX10_giveTurn_156 : decode cX10_giveTurn 156 = .ok (.getfield 33, 3) := by decide +kernel
theorem dX10_giveTurn_159 : decode cX10_giveTurn 159 = .ok (.aload_n 0, 1) := by decide +kernel
theorem dX10_giveTurn_160 : decode cX10_giveTurn 160 = .ok (.getfield 12, 3) := by decide +kernel
theorem dX10_giveTurn_163 : decode cX10_giveTurn 163 = .ok (.invokevirtual 224, 3) := by decide +kernel
theorem dX10_giveTurn_166 : decode cX10_giveTurn 166 = .ok (.goto 33, 3) := by decide +kernel
theorem dX10_giveTurn_169 : decode cX10_giveTurn 169 = .ok (.aload_n 0, 1) := by decide +kernel
theorem dX10_giveTurn_170 : decode cX10_giveTurn 170 = .ok (.getfield 40, 3) := by decide +kernel
theorem dX10_giveTurn_173 : decode cX10_giveTurn 173 = .ok (.aload_n 0, 1) := by decide +kernel
theorem dX10_giveTurn_174 : decode cX10_giveTurn 174 = .ok (.getfield 12, 3) := by decide +kernel
theorem dX10_giveTurn_177 : decode cX10_giveTurn 177 = .ok (.aload_n 0, 1) := by decide +kernel
theorem dX10_giveTurn_178 : decode cX10_giveTurn 178 = .ok (.getfield 47, 3) := by decide +kernel
theorem dX10_giveTurn_181 : decode cX10_giveTurn 181 = .ok (.invokevirtual 225, 3) := by decide +kernel
theorem dX10_giveTurn_184 : decode cX10_giveTurn 184 = .ok (.goto 15, 3) := by decide +kernel
theorem dX10_giveTurn_187 : decode cX10_giveTurn 187 = .ok (.aload_n 0, 1) := by decide +kernel
theorem dX10_giveTurn_188 : decode cX10_giveTurn 188 = .ok (.getfield 47, 3) := by decide +kernel
theorem dX10_giveTurn_191 : decode cX10_giveTurn 191 = .ok (.aload_n 0, 1) := by decide +kernel
theorem dX10_giveTurn_192 : decode cX10_giveTurn 192 = .ok (.getfield 12, 3) := by decide +kernel
theorem dX10_giveTurn_195 : decode cX10_giveTurn 195 = .ok (.iload_n 1, 1) := by decide +kernel
theorem dX10_giveTurn_196 : decode cX10_giveTurn 196 = .ok (.invokevirtual 228, 3) := by decide +kernel
theorem dX10_giveTurn_199 : decode cX10_giveTurn 199 = .ok (.return_, 1) := by decide +kernel
theorem dX10_breakDriver_0 : decode cX10_breakDriver 0 = .ok (.aload_n 0, 1) := by decide +kernel
theorem dX10_breakDriver_1 : decode cX10_breakDriver 1 = .ok (.getfield 12, 3) := by decide +kernel
theorem dX10_breakDriver_4 : decode cX10_breakDriver 4 = .ok (.iconst 1, 1) := by decide +kernel
theorem dX10_breakDriver_5 : decode cX10_breakDriver 5 = .ok (.invokevirtual 231, 3) := by decide +kernel
theorem dX10_breakDriver_8 : decode cX10_breakDriver 8 = .ok (.aload_n 0, 1) := by decide +kernel
theorem dX10_breakDriver_9 : decode cX10_breakDriver 9 = .ok (.getfield 26, 3) := by decide +kernel
theorem dX10_breakDriver_12 : decode cX10_breakDriver 12 = .ok (.invokevirtual 235, 3) := by decide +kernel
theorem dX10_breakDriver_15 : decode cX10_breakDriver 15 = .ok (.aload_n 0, 1) := by decide +kernel
theorem dX10_breakDriver_16 : decode cX10_breakDriver 16 = .ok (.getfield 19, 3) := by decide +kernel
theorem dX10_breakDriver_19 : decode cX10_breakDriver 19 = .ok (.iconst 0, 1) := by decide +kernel
theorem dX10_breakDriver_20 : decode cX10_breakDriver 20 = .ok (.putfield 238, 3) := by decide +kernel
theorem dX10_breakDriver_23 : decode cX10_breakDriver 23 = .ok (.aload_n 0, 1) := by decide +kernel
theorem dX10_breakDriver_24 : decode cX10_breakDriver 24 = .ok (.dup, 1) := by decide +kernel
theorem dX10_breakDriver_25 : decode cX10_breakDriver 25 = .ok (.getfield 58, 3) := by decide +kernel
theorem dX10_breakDriver_28 : decode cX10_breakDriver 28 = .ok (.iconst 1, 1) := by decide +kernel
theorem dX10_breakDriver_29 : decode cX10_breakDriver 29 = .ok (.iadd, 1) := by decide +kernel
theorem dX10_breakDriver_30 : decode cX10_breakDriver 30 = .ok (.putfield 58, 3) := by decide +kernel
theorem dX10_breakDriver_33 : decode cX10_breakDriver 33 = .ok (.return_, 1) := by decide +kernel
theorem dX10_isPart_0 : decode cX10_isPart 0 = .ok (.iload_n 0, 1) := by decide +kernel
theorem dX10_isPart_1 : decode cX10_isPart 1 = .ok (.ifCond .lt 13, 3) := by decide +kernel
theorem dX10_isPart_4 : decode cX10_isPart 4 = .ok (.iload_n 0, 1) := by decide +kernel
theorem dX10_isPart_5 : decode cX10_isPart 5 = .ok (.bipush 12, 2) := by decide +kernel
theorem dX10_isPart_7 : decode cX10_isPart 7 = .ok (.if_icmp .ge 7, 3) := by decide +kernel
theorem dX10_isPart_10 : decode cX10_isPart 10 = .ok (.iconst 1, 1) := by decide +kernel
theorem dX10_isPart_11 : decode cX10_isPart 11 = .ok (.goto 4, 3) := by decide +kernel
theorem dX10_isPart_14 : decode cX10_isPart 14 = .ok (.iconst 0, 1) := by decide +kernel
theorem dX10_isPart_15 : decode cX10_isPart 15 = .ok (.ireturn, 1) := by decide +kernel
theorem dX10_isUser_0 : decode cX10_isUser 0 = .ok (.iload_n 0, 1) := by decide +kernel
theorem dX10_isUser_1 : decode cX10_isUser 1 = .ok (.iconst 4, 1) := by decide +kernel
theorem dX10_isUser_2 : decode cX10_isUser 2 = .ok (.if_icmp .lt 13, 3) := by decide +kernel
theorem dX10_isUser_5 : decode cX10_isUser 5 = .ok (.iload_n 0, 1) := by decide +kernel
theorem dX10_isUser_6 : decode cX10_isUser 6 = .ok (.bipush 12, 2) := by decide +kernel
theorem dX10_isUser_8 : decode cX10_isUser 8 = .ok (.if_icmp .ge 7, 3) := by decide +kernel
theorem dX10_isUser_11 : decode cX10_isUser 11 = .ok (.iconst 1, 1) := by decide +kernel
theorem dX10_isUser_12 : decode cX10_isUser 12 = .ok (.goto 4, 3) := by decide +kernel
theorem dX10_isUser_15 : decode cX10_isUser 15 = .ok (.iconst 0, 1) := by decide +kernel
theorem dX10_isUser_16 : decode cX10_isUser 16 = .ok (.ireturn, 1) := by decide +kernel
