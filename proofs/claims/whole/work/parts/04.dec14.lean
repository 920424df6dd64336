theorem dX11_turn_12 : decode cX11_turn 12 = .ok (.bipush 12, 2) := by decide +kernel
theorem dX11_turn_14 : decode cX11_turn 14 = .ok (.irem, 1) := by decide +kernel
theorem dX11_turn_15 : decode cX11_turn 15 = .ok (.putfield 260, 3) := by decide +kernel
theorem dX11_turn_18 : decode cX11_turn 18 = .ok (.aload_n 0, 1) := by decide +kernel
theorem dX11_turn_19 : decode cX11_turn 19 = .ok (.dup, 1) := by decide +kernel
theorem dX11_turn_20 : decode cX11_turn 20 = .ok (.getfield 263, 3) := by decide +kernel
theorem dX11_turn_23 : decode cX11_turn 23 = .ok (.iconst 1, 1) := by decide +kernel
theorem dX11_turn_24 : decode cX11_turn 24 = .ok (.iadd, 1) := by decide +kernel
theorem dX11_turn_25 : decode cX11_turn 25 = .ok (.putfield 263, 3) := by decide +kernel
theorem dX11_turn_28 : decode cX11_turn 28 = .ok (.aload_n 0, 1) := by decide +kernel
theorem dX11_turn_29 : decode cX11_turn 29 = .ok (.iload_n 1, 1) := by decide +kernel
theorem dX11_turn_30 : decode cX11_turn 30 = .ok (.invokevirtual 29, 3) := by decide +kernel
theorem dX11_turn_33 : decode cX11_turn 33 = .ok (.ifCond .ne 4, 3) := by decide +kernel
theorem dX11_turn_36 : decode cX11_turn 36 = .ok (.return_, 1) := by decide +kernel
theorem dX11_turn_37 : decode cX11_turn 37 = .ok (.iload_n 1, 1) := by decide +kernel
theorem dX11_turn_38 : decode cX11_turn 38 = .ok (.ifCond .ne 10, 3) := by decide +kernel
theorem dX11_turn_41 : decode cX11_turn 41 = .ok (.aload_n 0, 1) := by decide +kernel
theorem dX11_turn_42 : decode cX11_turn 42 = .ok (.invokevirtual 266, 3) := by decide +kernel
theorem dX11_turn_45 : decode cX11_turn 45 = .ok (.goto 44, 3) := by decide +kernel
theorem dX11_turn_48 : decode cX11_turn 48 = .ok (.iload_n 1, 1) := by decide +kernel
theorem dX11_turn_49 : decode cX11_turn 49 = .ok (.iconst 1, 1) := by decide +kernel
theorem dX11_turn_50 : decode cX11_turn 50 = .ok (.if_icmp .ne 10, 3) := by decide +kernel
theorem dX11_turn_53 : decode cX11_turn 53 = .ok (.aload_n 0, 1) := by decide +kernel
theorem dX11_turn_54 : decode cX11_turn 54 = .ok (.invokevirtual 269, 3) := by decide +kernel
theorem dX11_turn_57 : decode cX11_turn 57 = .ok (.goto 32, 3) := by decide +kernel
theorem dX11_turn_60 : decode cX11_turn 60 = .ok (.iload_n 1, 1) := by decide +kernel
theorem dX11_turn_61 : decode cX11_turn 61 = .ok (.iconst 2, 1) := by decide +kernel
theorem dX11_turn_62 : decode cX11_turn 62 = .ok (.if_icmp .ne 10, 3) := by decide +kernel
theorem dX11_turn_65 : decode cX11_turn 65 = .ok (.aload_n 0, 1) := by decide +kernel
theorem dX11_turn_66 : decode cX11_turn 66 = .ok (.invokevirtual 272, 3) := by decide +kernel
theorem dX11_turn_69 : decode cX11_turn 69 = .ok (.goto 20, 3) := by decide +kernel
theorem dX11_turn_72 : decode cX11_turn 72 = .ok (.iload_n 1, 1) := by decide +kernel
theorem dX11_turn_73 : decode cX11_turn 73 = .ok (.iconst 3, 1) := by decide +kernel
theorem dX11_turn_74 : decode cX11_turn 74 = .ok (.if_icmp .ne 10, 3) := by decide +kernel
theorem dX11_turn_77 : decode cX11_turn 77 = .ok (.aload_n 0, 1) := by decide +kernel
theorem dX11_turn_78 : decode cX11_turn 78 = .ok (.invokevirtual 275, 3) := by decide +kernel
theorem dX11_turn_81 : decode cX11_turn 81 = .ok (.goto 8, 3) := by decide +kernel
theorem dX11_turn_84 : decode cX11_turn 84 = .ok (.aload_n 0, 1) := by decide +kernel
theorem dX11_turn_85 : decode cX11_turn 85 = .ok (.iload_n 1, 1) := by decide +kernel
theorem dX11_turn_86 : decode cX11_turn 86 = .ok (.invokevirtual 278, 3) := by decide +kernel
theorem dX11_turn_89 : decode cX11_turn 89 = .ok (.return_, 1) := by decide +kernel
theorem dX11_steps_0 : decode cX11_steps 0 = .ok (.aload_n 0, 1) := by decide +kernel
theorem dX11_steps_1 : decode cX11_steps 1 = .ok (.iconst 0, 1) := by decide +kernel
theorem dX11_steps_2 : decode cX11_steps 2 = .ok (.putfield 1, 3) := by decide +kernel
theorem dX11_steps_5 : decode cX11_steps 5 = .ok (.iload_n 1, 1) := by decide +kernel
theorem dX11_steps_6 : decode cX11_steps 6 = .ok (.ifCond .lt 10, 3) := by decide +kernel
theorem dX11_steps_9 : decode cX11_steps 9 = .ok (.iload_n 1, 1) := by decide +kernel
theorem dX11_steps_10 : decode cX11_steps 10 = .ok (.sipush 20000, 3) := by decide +kernel
theorem dX11_steps_13 : decode cX11_steps 13 = .ok (.if_icmp .le 5, 3) := by decide +kernel
theorem dX11_steps_16 : decode cX11_steps 16 = .ok (.iconst (-1), 1) := by decide +kernel
theorem dX11_steps_17 : decode cX11_steps 17 = .ok (.ireturn, 1) := by decide +kernel
theorem dX11_steps_18 : decode cX11_steps 18 = .ok (.iconst 0, 1) := by decide +kernel
theorem dX11_steps_19 : decode cX11_steps 19 = .ok (.istore_n 2, 1) := by decide +kernel
theorem dX11_steps_20 : decode cX11_steps 20 = .ok (.iload_n 2, 1) := by decide +kernel
theorem dX11_steps_21 : decode cX11_steps 21 = .ok (.iload_n 1, 1) := by decide +kernel
theorem dX11_steps_22 : decode cX11_steps 22 = .ok (.if_icmp .ge 13, 3) := by decide +kernel
theorem dX11_steps_25 : decode cX11_steps 25 = .ok (.aload_n 0, 1) := by decide +kernel
theorem dX11_steps_26 : decode cX11_steps 26 = .ok (.invokevirtual 281, 3) := by decide +kernel
theorem dX11_steps_29 : decode cX11_steps 29 = .ok (.iinc 2 1, 3) := by decide +kernel
theorem dX11_steps_32 : decode cX11_steps 32 = .ok (.goto (-12), 3) := by decide +kernel
theorem dX11_steps_35 : decode cX11_steps 35 = .ok (.aload_n 0, 1) := by decide +kernel
theorem dX11_steps_36 : decode cX11_steps 36 = .ok (.getfield 263, 3) := by decide +kernel
theorem dX11_steps_39 : decode cX11_steps 39 = .ok (.ireturn, 1) := by decide +kernel
theorem dX11_until_0 : decode cX11_until 0 = .ok (.aload_n 0, 1) := by decide +kernel
theorem dX11_until_1 : decode cX11_until 1 = .ok (.iconst 0, 1) := by decide +kernel
theorem dX11_until_2 : decode cX11_until 2 = .ok (.putfield 1, 3) := by decide +kernel
theorem dX11_until_5 : decode cX11_until 5 = .ok (.iload_n 1, 1) := by decide +kernel
theorem dX11_until_6 : decode cX11_until 6 = .ok (.invokestatic 11, 3) := by decide +kernel
theorem dX11_until_9 : decode cX11_until 9 = .ok (.ifCond .eq 14, 3) := by decide +kernel
theorem dX11_until_12 : decode cX11_until 12 = .ok (.iload_n 2, 1) := by decide +kernel
theorem dX11_until_13 : decode cX11_until 13 = .ok (.ifCond .lt 10, 3) := by decide +kernel
theorem dX11_until_16 : decode cX11_until 16 = .ok (.iload_n 2, 1) := by decide +kernel
theorem dX11_until_17 : decode cX11_until 17 = .ok (.sipush 20000, 3) := by decide +kernel
theorem dX11_until_20 : decode cX11_until 20 = .ok (.if_icmp .le 5, 3) := by decide +kernel
theorem dX11_until_23 : decode cX11_until 23 = .ok (.iconst (-1), 1) := by decide +kernel
theorem dX11_until_24 : decode cX11_until 24 = .ok (.ireturn, 1) := by decide +kernel
theorem dX11_until_25 : decode cX11_until 25 = .ok (.iconst 0, 1) := by decide +kernel
theorem dX11_until_26 : decode cX11_until 26 = .ok (.istore_n 3, 1) := by decide +kernel
theorem dX11_until_27 : decode cX11_until 27 = .ok (.iload_n 3, 1) := by decide +kernel
theorem dX11_until_28 : decode cX11_until 28 = .ok (.iload_n 2, 1) := by decide +kernel
theorem dX11_until_29 : decode cX11_until 29 = .ok (.if_icmp .ge 22, 3) := by decide +kernel
theorem dX11_until_32 : decode cX11_until 32 = .ok (.aload_n 0, 1) := by decide +kernel
theorem dX11_until_33 : decode cX11_until 33 = .ok (.getfield 73, 3) := by decide +kernel
theorem dX11_until_36 : decode cX11_until 36 = .ok (.iload_n 1, 1) := by decide +kernel
theorem dX11_until_37 : decode cX11_until 37 = .ok (.baload, 1) := by decide +kernel
theorem dX11_until_38 : decode cX11_until 38 = .ok (.ifCond .eq 13, 3) := by decide +kernel
theorem dX11_until_41 : decode cX11_until 41 = .ok (.aload_n 0, 1) := by decide +kernel
theorem dX11_until_42 : decode cX11_until 42 = .ok (.invokevirtual 281, 3) := by decide +kernel
theorem dX11_until_45 : decode cX11_until 45 = .ok (.iinc 3 1, 3) := by decide +kernel
theorem dX11_until_48 : decode cX11_until 48 = .ok (.goto (-21), 3) := by decide +kernel
theorem dX11_until_51 : decode cX11_until 51 = .ok (.iload_n 3, 1) := by decide +kernel
theorem dX11_until_52 : decode cX11_until 52 = .ok (.ireturn, 1) := by decide +kernel
theorem dX11_call_0 : decode cX11_call 0 = .ok (.aload_n 0, 1) := by decide +kernel
theorem dX11_call_1 : decode cX11_call 1 = .ok (.iconst 0, 1) := by decide +kernel
theorem dX11_call_2 : decode cX11_call 2 = .ok (.putfield 1, 3) := by decide +kernel
theorem dX11_call_5 : decode cX11_call 5 = .ok (.iload_n 1, 1) := by decide +kernel
theorem dX11_call_6 : decode cX11_call 6 = .ok (.invokestatic 11, 3) := by decide +kernel
theorem dX11_call_9 : decode cX11_call 9 = .ok (.ifCond .eq 13, 3) := by decide +kernel
theorem dX11_call_12 : decode cX11_call 12 = .ok (.aload_n 0, 1) := by decide +kernel
theorem dX11_call_13 : decode cX11_call 13 = .ok (.getfield 19, 3) := by decide +kernel
theorem dX11_call_16 : decode cX11_call 16 = .ok (.iload_n 1, 1) := by decide +kernel
theorem dX11_call_17 : decode cX11_call 17 = .ok (.iaload, 1) := by decide +kernel
theorem dX11_call_18 : decode cX11_call 18 = .ok (.iconst 1, 1) := by decide +kernel
theorem dX11_call_19 : decode cX11_call 19 = .ok (.if_icmp .eq 5, 3) := by decide +kernel
theorem dX11_call_22 : decode cX11_call 22 = .ok (.iconst 1, 1) := by decide +kernel
theorem dX11_call_23 : decode cX11_call 23 = .ok (.ireturn, 1) := by decide +kernel
theorem dX11_call_24 : decode cX11_call 24 = .ok (.aload_n 0, 1) := by decide +kernel
theorem dX11_call_25 : decode cX11_call 25 = .ok (.getfield 73, 3) := by decide +kernel
theorem dX11_call_28 : decode cX11_call 28 = .ok (.iload_n 1, 1) := by decide +kernel
theorem dX11_call_29 : decode cX11_call 29 = .ok (.baload, 1) := by decide +kernel
theorem dX11_call_30 : decode cX11_call 30 = .ok (.ifCond .eq 5, 3) := by decide +kernel
theorem dX11_call_33 : decode cX11_call 33 = .ok (.iconst 2, 1) := by decide +kernel
theorem dX11_call_34 : decode cX11_call 34 = .ok (.ireturn, 1) := by decide +kernel
theorem dX11_call_35 : decode cX11_call 35 = .ok (.iload_n 2, 1) := by decide +kernel
theorem dX11_call_36 : decode cX11_call 36 = .ok (.iconst 1, 1) := by decide +kernel
theorem dX11_call_37 : decode cX11_call 37 = .ok (.if_icmp .lt 9, 3) := by decide +kernel
theorem dX11_call_40 : decode cX11_call 40 = .ok (.iload_n 2, 1) := by decide +kernel
theorem dX11_call_41 : decode cX11_call 41 = .ok (.bipush 12, 2) := by decide +kernel
theorem dX11_call_43 : decode cX11_call 43 = .ok (.if_icmp .le 5, 3) := by decide +kernel
theorem dX11_call_46 : decode cX11_call 46 = .ok (.iconst 3, 1) := by decide +kernel
theorem dX11_call_47 : decode cX11_call 47 = .ok (.ireturn, 1) := by decide +kernel
theorem dX11_call_48 : decode cX11_call 48 = .ok (.aload_n 0, 1) := by decide +kernel
theorem dX11_call_49 : decode cX11_call 49 = .ok (.iload_n 2, 1) := by decide +kernel
theorem dX11_call_50 : decode cX11_call 50 = .ok (.iload_n 3, 1) := by decide +kernel
theorem dX11_call_51 : decode cX11_call 51 = .ok (.iload 4, 2) := by decide +kernel
theorem dX11_call_53 : decode cX11_call 53 = .ok (.invokevirtual 152, 3) := by decide +kernel
theorem dX11_call_56 : decode cX11_call 56 = .ok (.aload_n 0, 1) := by decide +kernel
theorem dX11_call_57 : decode cX11_call 57 = .ok (.iload_n 1, 1) := by decide +kernel
theorem dX11_call_58 : decode cX11_call 58 = .ok (.iload_n 2, 1) := by decide +kernel
theorem dX11_call_59 : decode cX11_call 59 = .ok (.bipush 8, 2) := by decide +kernel
theorem dX11_call_61 : decode cX11_call 61 = .ok (.if_icmp .ge 7, 3) := by decide +kernel
theorem dX11_call_64 : decode cX11_call 64 = .ok (.iconst 2, 1) := by decide +kernel
theorem dX11_call_65 : decode cX11_call 65 = .ok (.goto 4, 3) := by decide +kernel
theorem dX11_call_68 : decode cX11_call 68 = .ok (.iconst 3, 1) := by decide +kernel
theorem dX11_call_69 : decode cX11_call 69 = .ok (.iconst 1, 1) := by decide +kernel
theorem dX11_call_70 : decode cX11_call 70 = .ok (.invokevirtual 47, 3) := by decide +kernel
theorem dX11_call_73 : decode cX11_call 73 = .ok (.ifCond .eq 5, 3) := by decide +kernel
theorem dX11_call_76 : decode cX11_call 76 = .ok (.iconst 4, 1) := by decide +kernel
theorem dX11_call_77 : decode cX11_call 77 = .ok (.ireturn, 1) := by decide +kernel
theorem dX11_call_78 : decode cX11_call 78 = .ok (.aload_n 0, 1) := by decide +kernel
theorem dX11_call_79 : decode cX11_call 79 = .ok (.getfield 73, 3) := by decide +kernel
theorem dX11_call_82 : decode cX11_call 82 = .ok (.iload_n 1, 1) := by decide +kernel
theorem dX11_call_83 : decode cX11_call 83 = .ok (.iconst 1, 1) := by decide +kernel
theorem dX11_call_84 : decode cX11_call 84 = .ok (.bastore, 1) := by decide +kernel
theorem dX11_call_85 : decode cX11_call 85 = .ok (.iconst 0, 1) := by decide +kernel
theorem dX11_call_86 : decode cX11_call 86 = .ok (.ireturn, 1) := by decide +kernel
theorem dX11_crash_0 : decode cX11_crash 0 = .ok (.aload_n 0, 1) := by decide +kernel
theorem dX11_crash_1 : decode cX11_crash 1 = .ok (.iconst 0, 1) := by decide +kernel
theorem dX11_crash_2 : decode cX11_crash 2 = .ok (.putfield 1, 3) := by decide +kernel
theorem dX11_crash_5 : decode cX11_crash 5 = .ok (.aload_n 0, 1) := by decide +kernel
theorem dX11_crash_6 : decode cX11_crash 6 = .ok (.getfield 15, 3) := by decide +kernel
theorem dX11_crash_9 : decode cX11_crash 9 = .ok (.ifCond .ne 5, 3) := by decide +kernel
theorem dX11_crash_12 : decode cX11_crash 12 = .ok (.iconst 0, 1) := by decide +kernel
theorem dX11_crash_13 : decode cX11_crash 13 = .ok (.ireturn, 1) := by decide +kernel
theorem dX11_crash_14 : decode cX11_crash 14 = .ok (.aload_n 0, 1) := by decide +kernel
theorem dX11_crash_15 : decode cX11_crash 15 = .ok (.invokevirtual 149, 3) := by decide +kernel
theorem dX11_crash_18 : decode cX11_crash 18 = .ok (.iconst 1, 1) := by decide +kernel
theorem dX11_crash_19 : decode cX11_crash 19 = .ok (.ireturn, 1) := by decide +kernel
theorem dX11_hang_0 : decode cX11_hang 0 = .ok (.aload_n 0, 1) := by decide +kernel
theorem dX11_hang_1 : decode cX11_hang 1 = .ok (.iconst 0, 1) := by decide +kernel
theorem dX11_hang_2 : decode cX11_hang 2 = .ok (.putfield 1, 3) := by decide +kernel
theorem dX11_hang_5 : decode cX11_hang 5 = .ok (.aload_n 0, 1) := by decide +kernel
theorem dX11_hang_6 : decode cX11_hang 6 = .ok (.getfield 15, 3) := by decide +kernel
theorem dX11_hang_9 : decode cX11_hang 9 = .ok (.ifCond .eq 10, 3) := by decide +kernel
theorem dX11_hang_12 : decode cX11_hang 12 = .ok (.aload_n 0, 1) := by decide +kernel
theorem dX11_hang_13 : decode cX11_hang 13 = .ok (.getfield 119, 3) := by decide +kernel
theorem dX11_hang_16 : decode cX11_hang 16 = .ok (.ifCond .eq 5, 3) := by decide +kernel
theorem dX11_hang_19 : decode cX11_hang 19 = .ok (.iconst 0, 1) := by decide +kernel
theorem dX11_hang_20 : decode cX11_hang 20 = .ok (.ireturn, 1) := by decide +kernel
theorem dX11_hang_21 : decode cX11_hang 21 = .ok (.aload_n 0, 1) := by decide +kernel
theorem dX11_hang_22 : decode cX11_hang 22 = .ok (.iconst 1, 1) := by decide +kernel
theorem dX11_hang_23 : decode cX11_hang 23 = .ok (.putfield 119, 3) := by decide +kernel
theorem dX11_hang_26 : decode cX11_hang 26 = .ok (.iconst 1, 1) := by decide +kernel
theorem dX11_hang_27 : decode cX11_hang 27 = .ok (.ireturn, 1) := by decide +kernel
theorem dX11_isPart_0 : decode cX11_isPart 0 = .ok (.iload_n 0, 1) := by decide +kernel
theorem dX11_isPart_1 : decode cX11_isPart 1 = .ok (.ifCond .lt 13, 3) := by decide +kernel
theorem dX11_isPart_4 : decode cX11_isPart 4 = .ok (.iload_n 0, 1) := by decide +kernel
theorem dX11_isPart_5 : decode cX11_isPart 5 = .ok (.bipush 12, 2) := by decide +kernel
theorem dX11_isPart_7 : decode cX11_isPart 7 = .ok (.if_icmp .ge 7, 3) := by decide +kernel
theorem dX11_isPart_10 : decode cX11_isPart 10 = .ok (.iconst 1, 1) := by decide +kernel
theorem dX11_isPart_11 : decode cX11_isPart 11 = .ok (.goto 4, 3) := by decide +kernel
theorem dX11_isPart_14 : decode cX11_isPart 14 = .ok (.iconst 0, 1) := by decide +kernel
theorem dX11_isPart_15 : decode cX11_isPart 15 = .ok (.ireturn, 1) := by decide +kernel
theorem dX11_force_0 : decode cX11_force 0 = .ok (.aload_n 0, 1) := by decide +kernel
theorem dX11_force_1 : decode cX11_force 1 = .ok (.iconst 0, 1) := by decide +kernel
theorem dX11_force_2 : decode cX11_force 2 = .ok (.putfield 1, 3) := by decide +kernel
theorem dX11_force_5 : decode cX11_force 5 = .ok (.iload_n 1, 1) := by decide +kernel
theorem dX11_force_6 : decode cX11_force 6 = .ok (.invokestatic 284, 3) := by decide +kernel
theorem dX11_force_9 : decode cX11_force 9 = .ok (.ifCond .eq 18, 3) := by decide +kernel
theorem dX11_force_12 : decode cX11_force 12 = .ok (.iload_n 2, 1) := by decide +kernel
theorem dX11_force_13 : decode cX11_force 13 = .ok (.invokestatic 284, 3) := by decide +kernel
theorem dX11_force_16 : decode cX11_force 16 = .ok (.ifCond .eq 11, 3) := by decide +kernel
theorem dX11_force_19 : decode cX11_force 19 = .ok (.aload_n 0, 1) := by decide +kernel
theorem dX11_force_20 : decode cX11_force 20 = .ok (.iload_n 1, 1) := by decide +kernel
theorem dX11_force_21 : decode cX11_force 21 = .ok (.invokevirtual 29, 3) := by decide +kernel
theorem dX11_force_24 : decode cX11_force 24 = .ok (.ifCond .ne 5, 3) := by decide +kernel
theorem dX11_force_27 : decode cX11_force 27 = .ok (.iconst (-1), 1) := by decide +kernel
theorem dX11_force_28 : decode cX11_force 28 = .ok (.ireturn, 1) := by decide +kernel
theorem dX11_force_29 : decode cX11_force 29 = .ok (.aload_n 0, 1) := by decide +kernel
theorem dX11_force_30 : decode cX11_force 30 = .ok (.iconst 0, 1) := by decide +kernel
theorem dX11_force_31 : decode cX11_force 31 = .ok (.iconst 0, 1) := by decide +kernel
theorem dX11_force_32 : decode cX11_force 32 = .ok (.iconst 0, 1) := by decide +kernel
theorem dX11_force_33 : decode cX11_force 33 = .ok (.invokevirtual 152, 3) := by decide +kernel
theorem dX11_force_36 : decode cX11_force 36 = .ok (.aload_n 0, 1) := by decide +kernel
theorem dX11_force_37 : decode cX11_force 37 = .ok (.iload_n 1, 1) := by decide +kernel
theorem dX11_force_38 : decode cX11_force 38 = .ok (.iload_n 2, 1) := by decide +kernel
theorem dX11_force_39 : decode cX11_force 39 = .ok (.iconst 0, 1) := by decide +kernel
theorem dX11_force_40 : decode cX11_force 40 = .ok (.invokevirtual 47, 3) := by decide +kernel
theorem dX11_force_43 : decode cX11_force 43 = .ok (.ireturn, 1) := by decide +kernel
theorem dX11_user_0 : decode cX11_user 0 = .ok (.aload_n 0, 1) := by decide +kernel
theorem dX11_user_1 : decode cX11_user 1 = .ok (.iload_n 1, 1) := by decide +kernel
theorem dX11_user_2 : decode cX11_user 2 = .ok (.invokestatic 11, 3) := by decide +kernel
theorem dX11_user_5 : decode cX11_user 5 = .ok (.ifCond .eq 17, 3) := by decide +kernel
theorem dX11_user_8 : decode cX11_user 8 = .ok (.iload_n 2, 1) := by decide +kernel
theorem dX11_user_9 : decode cX11_user 9 = .ok (.ifCond .lt 13, 3) := by decide +kernel
theorem dX11_user_12 : decode cX11_user 12 = .ok (.iload_n 2, 1) := by decide +kernel
theorem dX11_user_13 : decode cX11_user 13 = .ok (.bipush 6, 2) := by decide +kernel
theorem dX11_user_15 : decode cX11_user 15 = .ok (.if_icmp .gt 7, 3) := by decide +kernel
theorem dX11_user_18 : decode cX11_user 18 = .ok (.iconst 0, 1) := by decide +kernel
theorem dX11_user_19 : decode cX11_user 19 = .ok (.goto 4, 3) := by decide +kernel
theorem dX11_user_22 : decode cX11_user 22 = .ok (.iconst 1, 1) := by decide +kernel
theorem dX11_user_23 : decode cX11_user 23 = .ok (.putfield 1, 3) := by decide +kernel
theorem dX11_user_26 : decode cX11_user 26 = .ok (.aload_n 0, 1) := by decide +kernel
theorem dX11_user_27 : decode cX11_user 27 = .ok (.getfield 1, 3) := by decide +kernel
theorem dX11_user_30 : decode cX11_user 30 = .ok (.ifCond .le 5, 3) := by decide +kernel
theorem dX11_user_33 : decode cX11_user 33 = .ok (.iconst 0, 1) := by decide +kernel
theorem dX11_user_34 : decode cX11_user 34 = .ok (.ireturn, 1) := by decide +kernel
theorem dX11_user_35 : decode cX11_user 35 = .ok (.iconst 0, 1) := by decide +kernel
theorem dX11_user_36 : decode cX11_user 36 = .ok (.istore_n 3, 1) := by decide +kernel
theorem dX11_user_37 : decode cX11_user 37 = .ok (.iconst 0, 1) := by decide +kernel
theorem dX11_user_38 : decode cX11_user 38 = .ok (.istore 4, 2) := by decide +kernel
theorem dX11_user_40 : decode cX11_user 40 = .ok (.iload 4, 2) := by decide +kernel
theorem dX11_user_42 : decode cX11_user 42 = .ok (.iconst 4, 1) := by decide +kernel
theorem dX11_user_43 : decode cX11_user 43 = .ok (.if_icmp .ge 31, 3) := by decide +kernel
theorem dX11_user_46 : decode cX11_user 46 = .ok (.iload_n 3, 1) := by decide +kernel
theorem dX11_user_47 : decode cX11_user 47 = .ok (.aload_n 0, 1) := by decide +kernel
theorem dX11_user_48 : decode cX11_user 48 = .ok (.getfield 92, 3) := by decide +kernel
theorem dX11_user_51 : decode cX11_user 51 = .ok (.iconst 4, 1) := by decide +kernel
theorem dX11_user_52 : decode cX11_user 52 = .ok (.iload_n 1, 1) := by decide +kernel
theorem dX11_user_53 : decode cX11_user 53 = .ok (.imul, 1) := by decide +kernel
theorem dX11_user_54 : decode cX11_user 54 = .ok (.iload 4, 2) := by decide +kernel
theorem dX11_user_56 : decode cX11_user 56 = .ok (.iadd, 1) := by decide +kernel
theorem dX11_user_57 : decode cX11_user 57 = .ok (.iaload, 1) := by decide +kernel
theorem dX11_user_58 : decode cX11_user 58 = .ok (.ifCond .lt 7, 3) := by decide +kernel
theorem dX11_user_61 : decode cX11_user 61 = .ok (.iconst 1, 1) := by decide +kernel
theorem dX11_user_62 : decode cX11_user 62 = .ok (.goto 4, 3) := by decide +kernel
theorem dX11_user_65 : decode cX11_user 65 = .ok (.iconst 0, 1) := by decide +kernel
theorem dX11_user_66 : decode cX11_user 66 = .ok (.iadd, 1) := by decide +kernel
theorem dX11_user_67 : decode cX11_user 67 = .ok (.istore_n 3, 1) := by decide +kernel
theorem dX11_user_68 : decode cX11_user 68 = .ok (.iinc 4 1, 3) := by decide +kernel
theorem dX11_user_71 : decode cX11_user 71 = .ok (.goto (-31), 3) := by decide +kernel
theorem dX11_user_74 : decode cX11_user 74 = .ok (.iload_n 2, 1) := by decide +kernel
theorem dX11_user_75 : decode cX11_user 75 = .ok (.tableswitch 87 0 5 #[37, 44, 59, 66, 73, 80], 37) := by decide +kernel
theorem dX11_user_112 : decode cX11_user 112 = .ok (.aload_n 0, 1) := by decide +kernel
theorem dX11_user_113 : decode cX11_user 113 = .ok (.getfield 19, 3) := by decide +kernel
theorem dX11_user_116 : decode cX11_user 116 = .ok (.iload_n 1, 1) := by decide +kernel
theorem dX11_user_117 : decode cX11_user 117 = .ok (.iaload, 1) := by decide +kernel
theorem dX11_user_118 : decode cX11_user 118 = .ok (.ireturn, 1) := by decide +kernel
theorem dX11_user_119 : decode cX11_user 119 = .ok (.aload_n 0, 1) := by decide +kernel
theorem dX11_user_120 : decode cX11_user 120 = .ok (.getfield 73, 3) := by decide +kernel
theorem dX11_user_123 : decode cX11_user 123 = .ok (.iload_n 1, 1) := by decide +kernel
theorem dX11_user_124 : decode cX11_user 124 = .ok (.baload, 1) := by decide +kernel
theorem dX11_user_125 : decode cX11_user 125 = .ok (.ifCond .eq 7, 3) := by decide +kernel
theorem dX11_user_128 : decode cX11_user 128 = .ok (.iconst 1, 1) := by decide +kernel
theorem dX11_user_129 : decode cX11_user 129 = .ok (.goto 4, 3) := by decide +kernel
theorem dX11_user_132 : decode cX11_user 132 = .ok (.iconst 0, 1) := by decide +kernel
theorem dX11_user_133 : decode cX11_user 133 = .ok (.ireturn, 1) := by decide +kernel
theorem dX11_user_134 : decode cX11_user 134 = .ok (.aload_n 0, 1) := by decide +kernel
theorem dX11_user_135 : decode cX11_user 135 = .ok (.getfield 77, 3) := by decide +kernel
theorem dX11_user_138 : decode cX11_user 138 = .ok (.iload_n 1, 1) := by decide +kernel
theorem dX11_user_139 : decode cX11_user 139 = .ok (.iaload, 1) := by decide +kernel
theorem dX11_user_140 : decode cX11_user 140 = .ok (.ireturn, 1) := by decide +kernel
theorem dX11_user_141 : decode cX11_user 141 = .ok (.aload_n 0, 1) := by decide +kernel
theorem dX11_user_142 : decode cX11_user 142 = .ok (.getfield 80, 3) := by decide +kernel
theorem dX11_user_145 : decode cX11_user 145 = .ok (.iload_n 1, 1) := by decide +kernel
theorem dX11_user_146 : decode cX11_user 146 = .ok (.iaload, 1) := by decide +kernel
theorem dX11_user_147 : decode cX11_user 147 = .ok (.ireturn, 1) := by decide +kernel
theorem dX11_user_148 : decode cX11_user 148 = .ok (.aload_n 0, 1) := by decide +kernel
theorem dX11_user_149 : decode cX11_user 149 = .ok (.getfield 83, 3) := by decide +kernel
theorem dX11_user_152 : decode cX11_user 152 = .ok (.iload_n 1, 1) := by decide +kernel
theorem dX11_user_153 : decode cX11_user 153 = .ok (.iaload, 1) := by decide +kernel
theorem dX11_user_154 : decode cX11_user 154 = .ok (.ireturn, 1) := by decide +kernel
theorem dX11_user_155 : decode cX11_user 155 = .ok (.aload_n 0, 1) := by decide +kernel
theorem dX11_user_156 : decode cX11_user 156 = .ok (.getfield 86, 3) := by decide +kernel
theorem dX11_user_159 : decode cX11_user 159 = .ok (.iload_n 1, 1) := by decide +kernel
theorem dX11_user_160 : decode cX11_user 160 = .ok (.iaload, 1) := by decide +kernel
theorem dX11_user_161 : decode cX11_user 161 = .ok (.ireturn, 1) := by decide +kernel
theorem dX11_user_162 : decode cX11_user 162 = .ok (.iload_n 3, 1) := by decide +kernel
theorem dX11_user_163 : decode cX11_user 163 = .ok (.ireturn, 1) := by decide +kernel
theorem dX11_descriptor_0 : decode cX11_descriptor 0 = .ok (.aload_n 0, 1) := by decide +kernel
theorem dX11_descriptor_1 : decode cX11_descriptor 1 = .ok (.iconst 0, 1) := by decide +kernel
theorem dX11_descriptor_2 : decode cX11_descriptor 2 = .ok (.putfield 1, 3) := by decide +kernel
theorem dX11_descriptor_5 : decode cX11_descriptor 5 = .ok (.iload_n 1, 1) := by decide +kernel
theorem dX11_descriptor_6 : decode cX11_descriptor 6 = .ok (.invokestatic 11, 3) := by decide +kernel
theorem dX11_descriptor_9 : decode cX11_descriptor 9 = .ok (.ifCond .eq 25, 3) := by decide +kernel
theorem dX11_descriptor_12 : decode cX11_descriptor 12 = .ok (.iload_n 2, 1) := by decide +kernel
theorem dX11_descriptor_13 : decode cX11_descriptor 13 = .ok (.ifCond .lt 21, 3) := by decide +kernel
theorem dX11_descriptor_16 : decode cX11_descriptor 16 = .ok (.iload_n 2, 1) := by decide +kernel
theorem dX11_descriptor_17 : decode cX11_descriptor 17 = .ok (.iconst 3, 1) := by decide +kernel
theorem dX11_descriptor_18 : decode cX11_descriptor 18 = .ok (.if_icmp .gt 16, 3) := by decide +kernel
theorem dX11_descriptor_21 : decode cX11_descriptor 21 = .ok (.aload_n 0, 1) := by decide +kernel
theorem dX11_descriptor_22 : decode cX11_descriptor 22 = .ok (.getfield 92, 3) := by decide +kernel
theorem dX11_descriptor_25 : decode cX11_descriptor 25 = .ok (.iconst 4, 1) := by decide +kernel
theorem dX11_descriptor_26 : decode cX11_descriptor 26 = .ok (.iload_n 1, 1) := by decide +kernel
theorem dX11_descriptor_27 : decode cX11_descriptor 27 = .ok (.imul, 1) := by decide +kernel
theorem dX11_descriptor_28 : decode cX11_descriptor 28 = .ok (.iload_n 2, 1) := by decide +kernel
theorem dX11_descriptor_29 : decode cX11_descriptor 29 = .ok (.iadd, 1) := by decide +kernel
theorem dX11_descriptor_30 : decode cX11_descriptor 30 = .ok (.iaload, 1) := by decide +kernel
theorem dX11_descriptor_31 : decode cX11_descriptor 31 = .ok (.ifCond .ge 5, 3) := by decide +kernel
theorem dX11_descriptor_34 : decode cX11_descriptor 34 = .ok (.iconst (-1), 1) := by decide +kernel
theorem dX11_descriptor_35 : decode cX11_descriptor 35 = .ok (.ireturn, 1) := by decide +kernel
theorem dX11_descriptor_36 : decode cX11_descriptor 36 = .ok (.iload_n 3, 1) := by decide +kernel
theorem dX11_descriptor_37 : decode cX11_descriptor 37 = .ok (.ifCond .ne 16, 3) := by decide +kernel
theorem dX11_descriptor_40 : decode cX11_descriptor 40 = .ok (.aload_n 0, 1) := by decide +kernel
theorem dX11_descriptor_41 : decode cX11_descriptor 41 = .ok (.getfield 92, 3) := by decide +kernel
theorem dX11_descriptor_44 : decode cX11_descriptor 44 = .ok (.iconst 4, 1) := by decide +kernel
theorem dX11_descriptor_45 : decode cX11_descriptor 45 = .ok (.iload_n 1, 1) := by decide +kernel
theorem dX11_descriptor_46 : decode cX11_descriptor 46 = .ok (.imul, 1) := by decide +kernel
theorem dX11_descriptor_47 : decode cX11_descriptor 47 = .ok (.iload_n 2, 1) := by decide +kernel
theorem dX11_descriptor_48 : decode cX11_descriptor 48 = .ok (.iadd, 1) := by decide +kernel
theorem dX11_descriptor_49 : decode cX11_descriptor 49 = .ok (.iaload, 1) := by decide +kernel
theorem dX11_descriptor_50 : decode cX11_descriptor 50 = .ok (.goto 22, 3) := by decide +kernel
theorem dX11_descriptor_53 : decode cX11_descriptor 53 = .ok (.iload_n 3, 1) := by decide +kernel
theorem dX11_descriptor_54 : decode cX11_descriptor 54 = .ok (.iconst 1, 1) := by decide +kernel
theorem dX11_descriptor_55 : decode cX11_descriptor 55 = .ok (.if_icmp .ne 16, 3) := by decide +kernel
theorem dX11_descriptor_58 : decode cX11_descriptor 58 = .ok (.aload_n 0, 1) := by decide +kernel
theorem dX11_descriptor_59 : decode cX11_descriptor 59 = .ok (.getfield 95, 3) := by decide +kernel
theorem dX11_descriptor_62 : decode cX11_descriptor 62 = .ok (.iconst 4, 1) := by decide +kernel
theorem dX11_descriptor_63 : decode cX11_descriptor 63 = .ok (.iload_n 1, 1) := by decide +kernel
theorem dX11_descriptor_64 : decode cX11_descriptor 64 = .ok (.imul, 1) := by decide +kernel
theorem dX11_descriptor_65 : decode cX11_descriptor 65 = .ok (.iload_n 2, 1) := by decide +kernel
theorem dX11_descriptor_66 : decode cX11_descriptor 66 = .ok (.iadd, 1) := by decide +kernel
theorem dX11_descriptor_67 : decode cX11_descriptor 67 = .ok (.iaload, 1) := by decide +kernel
theorem dX11_descriptor_68 : decode cX11_descriptor 68 = .ok (.goto 4, 3) := by decide +kernel
theorem dX11_descriptor_71 : decode cX11_descriptor 71 = .ok (.iconst (-1), 1) := by decide +kernel
theorem dX11_descriptor_72 : decode cX11_descriptor 72 = .ok (.ireturn, 1) := by decide +kernel
theorem dX11_file_0 : decode cX11_file 0 = .ok (.aload_n 0, 1) := by decide +kernel
theorem dX11_file_1 : decode cX11_file 1 = .ok (.iconst 0, 1) := by decide +kernel
theorem dX11_file_2 : decode cX11_file 2 = .ok (.putfield 1, 3) := by decide +kernel
theorem dX11_file_5 : decode cX11_file 5 = .ok (.iload_n 1, 1) := by decide +kernel
theorem dX11_file_6 : decode cX11_file 6 = .ok (.ifCond .lt 27, 3) := by decide +kernel
theorem dX11_file_9 : decode cX11_file 9 = .ok (.iload_n 1, 1) := by decide +kernel
theorem dX11_file_10 : decode cX11_file 10 = .ok (.bipush 15, 2) := by decide +kernel
theorem dX11_file_12 : decode cX11_file 12 = .ok (.if_icmp .gt 21, 3) := by decide +kernel
theorem dX11_file_15 : decode cX11_file 15 = .ok (.aload_n 0, 1) := by decide +kernel
theorem dX11_file_16 : decode cX11_file 16 = .ok (.getfield 98, 3) := by decide +kernel
theorem dX11_file_19 : decode cX11_file 19 = .ok (.iload_n 1, 1) := by decide +kernel
theorem dX11_file_20 : decode cX11_file 20 = .ok (.baload, 1) := by decide +kernel
theorem dX11_file_21 : decode cX11_file 21 = .ok (.ifCond .eq 12, 3) := by decide +kernel
theorem dX11_file_24 : decode cX11_file 24 = .ok (.iload_n 2, 1) := by decide +kernel
theorem dX11_file_25 : decode cX11_file 25 = .ok (.ifCond .lt 8, 3) := by decide +kernel
theorem dX11_file_28 : decode cX11_file 28 = .ok (.iload_n 2, 1) := by decide +kernel
theorem dX11_file_29 : decode cX11_file 29 = .ok (.iconst 4, 1) := by decide +kernel
theorem dX11_file_30 : decode cX11_file 30 = .ok (.if_icmp .le 5, 3) := by decide +kernel
theorem dX11_file_33 : decode cX11_file 33 = .ok (.iconst (-1), 1) := by decide +kernel
theorem dX11_file_34 : decode cX11_file 34 = .ok (.ireturn, 1) := by decide +kernel
theorem dX11_file_35 : decode cX11_file 35 = .ok (.iload_n 2, 1) := by decide +kernel
theorem dX11_file_36 : decode cX11_file 36 = .ok (.ifCond .ne 12, 3) := by decide +kernel
theorem dX11_file_39 : decode cX11_file 39 = .ok (.aload_n 0, 1) := by decide +kernel
theorem dX11_file_40 : decode cX11_file 40 = .ok (.getfield 101, 3) := by decide +kernel
theorem dX11_file_43 : decode cX11_file 43 = .ok (.iload_n 1, 1) := by decide +kernel
theorem dX11_file_44 : decode cX11_file 44 = .ok (.iaload, 1) := by decide +kernel
theorem dX11_file_45 : decode cX11_file 45 = .ok (.goto 34, 3) := by decide +kernel
theorem dX11_file_48 : decode cX11_file 48 = .ok (.bipush 8, 2) := by decide +kernel
theorem dX11_file_50 : decode cX11_file 50 = .ok (.iload_n 2, 1) := by decide +kernel
theorem dX11_file_51 : decode cX11_file 51 = .ok (.iconst 1, 1) := by decide +kernel
theorem dX11_file_52 : decode cX11_file 52 = .ok (.isub, 1) := by decide +kernel
theorem dX11_file_53 : decode cX11_file 53 = .ok (.imul, 1) := by decide +kernel
theorem dX11_file_54 : decode cX11_file 54 = .ok (.aload_n 0, 1) := by decide +kernel
theorem dX11_file_55 : decode cX11_file 55 = .ok (.getfield 101, 3) := by decide +kernel
theorem dX11_file_58 : decode cX11_file 58 = .ok (.iload_n 1, 1) := by decide +kernel
theorem dX11_file_59 : decode cX11_file 59 = .ok (.iaload, 1) := by decide +kernel
theorem dX11_file_60 : decode cX11_file 60 = .ok (.if_icmp .ge 18, 3) := by decide +kernel
theorem dX11_file_63 : decode cX11_file 63 = .ok (.aload_n 0, 1) := by decide +kernel
theorem dX11_file_64 : decode cX11_file 64 = .ok (.getfield 104, 3) := by decide +kernel
theorem dX11_file_67 : decode cX11_file 67 = .ok (.iconst 4, 1) := by decide +kernel
theorem dX11_file_68 : decode cX11_file 68 = .ok (.iload_n 1, 1) := by decide +kernel
theorem dX11_file_69 : decode cX11_file 69 = .ok (.imul, 1) := by decide +kernel
theorem dX11_file_70 : decode cX11_file 70 = .ok (.iload_n 2, 1) := by decide +kernel
theorem dX11_file_71 : decode cX11_file 71 = .ok (.iadd, 1) := by decide +kernel
theorem dX11_file_72 : decode cX11_file 72 = .ok (.iconst 1, 1) := by decide +kernel
theorem dX11_file_73 : decode cX11_file 73 = .ok (.isub, 1) := by decide +kernel
theorem dX11_file_74 : decode cX11_file 74 = .ok (.iaload, 1) := by decide +kernel
theorem dX11_file_75 : decode cX11_file 75 = .ok (.goto 4, 3) := by decide +kernel
theorem dX11_file_78 : decode cX11_file 78 = .ok (.iconst (-1), 1) := by decide +kernel
theorem dX11_file_79 : decode cX11_file 79 = .ok (.ireturn, 1) := by decide +kernel
theorem dX11_disk_0 : decode cX11_disk 0 = .ok (.aload_n 0, 1) := by decide +kernel
theorem dX11_disk_1 : decode cX11_disk 1 = .ok (.iload_n 1, 1) := by decide +kernel
theorem dX11_disk_2 : decode cX11_disk 2 = .ok (.ifCond .lt 23, 3) := by decide +kernel
theorem dX11_disk_5 : decode cX11_disk 5 = .ok (.iload_n 1, 1) := by decide +kernel
theorem dX11_disk_6 : decode cX11_disk 6 = .ok (.bipush 24, 2) := by decide +kernel
theorem dX11_disk_8 : decode cX11_disk 8 = .ok (.if_icmp .ge 17, 3) := by decide +kernel
theorem dX11_disk_11 : decode cX11_disk 11 = .ok (.iload_n 2, 1) := by decide +kernel
theorem dX11_disk_12 : decode cX11_disk 12 = .ok (.ifCond .lt 13, 3) := by decide +kernel
theorem dX11_disk_15 : decode cX11_disk 15 = .ok (.iload_n 2, 1) := by decide +kernel
theorem dX11_disk_16 : decode cX11_disk 16 = .ok (.bipush 8, 2) := by decide +kernel
theorem dX11_disk_18 : decode cX11_disk 18 = .ok (.if_icmp .ge 7, 3) := by decide +kernel
theorem dX11_disk_21 : decode cX11_disk 21 = .ok (.iconst 0, 1) := by decide +kernel
theorem dX11_disk_22 : decode cX11_disk 22 = .ok (.goto 4, 3) := by decide +kernel
theorem dX11_disk_25 : decode cX11_disk 25 = .ok (.iconst 1, 1) := by decide +kernel
theorem dX11_disk_26 : decode cX11_disk 26 = .ok (.putfield 1, 3) := by decide +kernel
theorem dX11_disk_29 : decode cX11_disk 29 = .ok (.aload_n 0, 1) := by decide +kernel
theorem dX11_disk_30 : decode cX11_disk 30 = .ok (.getfield 1, 3) := by decide +kernel
theorem dX11_disk_33 : decode cX11_disk 33 = .ok (.ifCond .le 7, 3) := by decide +kernel
theorem dX11_disk_36 : decode cX11_disk 36 = .ok (.iconst 0, 1) := by decide +kernel
theorem dX11_disk_37 : decode cX11_disk 37 = .ok (.goto 14, 3) := by decide +kernel
theorem dX11_disk_40 : decode cX11_disk 40 = .ok (.aload_n 0, 1) := by decide +kernel
theorem dX11_disk_41 : decode cX11_disk 41 = .ok (.getfield 110, 3) := by decide +kernel
theorem dX11_disk_44 : decode cX11_disk 44 = .ok (.bipush 8, 2) := by decide +kernel
theorem dX11_disk_46 : decode cX11_disk 46 = .ok (.iload_n 1, 1) := by decide +kernel
theorem dX11_disk_47 : decode cX11_disk 47 = .ok (.imul, 1) := by decide +kernel
theorem dX11_disk_48 : decode cX11_disk 48 = .ok (.iload_n 2, 1) := by decide +kernel
theorem dX11_disk_49 : decode cX11_disk 49 = .ok (.iadd, 1) := by decide +kernel
theorem dX11_disk_50 : decode cX11_disk 50 = .ok (.iaload, 1) := by decide +kernel
theorem dX11_disk_51 : decode cX11_disk 51 = .ok (.ireturn, 1) := by decide +kernel
theorem dX11_inbox_0 : decode cX11_inbox 0 = .ok (.aload_n 0, 1) := by decide +kernel
theorem dX11_inbox_1 : decode cX11_inbox 1 = .ok (.iconst 0, 1) := by decide +kernel
theorem dX11_inbox_2 : decode cX11_inbox 2 = .ok (.putfield 1, 3) := by decide +kernel
theorem dX11_inbox_5 : decode cX11_inbox 5 = .ok (.iload_n 1, 1) := by decide +kernel
theorem dX11_inbox_6 : decode cX11_inbox 6 = .ok (.invokestatic 284, 3) := by decide +kernel
theorem dX11_inbox_9 : decode cX11_inbox 9 = .ok (.ifCond .eq 12, 3) := by decide +kernel
theorem dX11_inbox_12 : decode cX11_inbox 12 = .ok (.aload_n 0, 1) := by decide +kernel
theorem dX11_inbox_13 : decode cX11_inbox 13 = .ok (.getfield 38, 3) := by decide +kernel
theorem dX11_inbox_16 : decode cX11_inbox 16 = .ok (.iload_n 1, 1) := by decide +kernel
theorem dX11_inbox_17 : decode cX11_inbox 17 = .ok (.iaload, 1) := by decide +kernel
theorem dX11_inbox_18 : decode cX11_inbox 18 = .ok (.goto 4, 3) := by decide +kernel
theorem dX11_inbox_21 : decode cX11_inbox 21 = .ok (.iconst (-1), 1) := by decide +kernel
theorem dX11_inbox_22 : decode cX11_inbox 22 = .ok (.ireturn, 1) := by decide +kernel
theorem dX11_message_0 : decode cX11_message 0 = .ok (.aload_n 0, 1) := by decide +kernel
theorem dX11_message_1 : decode cX11_message 1 = .ok (.iconst 0, 1) := by decide +kernel
theorem dX11_message_2 : decode cX11_message 2 = .ok (.putfield 1, 3) := by decide +kernel
theorem dX11_message_5 : decode cX11_message 5 = .ok (.iload_n 1, 1) := by decide +kernel
theorem dX11_message_6 : decode cX11_message 6 = .ok (.invokestatic 284, 3) := by decide +kernel
theorem dX11_message_9 : decode cX11_message 9 = .ok (.ifCond .eq 26, 3) := by decide +kernel
theorem dX11_message_12 : decode cX11_message 12 = .ok (.iload_n 2, 1) := by decide +kernel
theorem dX11_message_13 : decode cX11_message 13 = .ok (.ifCond .lt 22, 3) := by decide +kernel
theorem dX11_message_16 : decode cX11_message 16 = .ok (.iload_n 2, 1) := by decide +kernel
theorem dX11_message_17 : decode cX11_message 17 = .ok (.aload_n 0, 1) := by decide +kernel
theorem dX11_message_18 : decode cX11_message 18 = .ok (.getfield 38, 3) := by decide +kernel
theorem dX11_message_21 : decode cX11_message 21 = .ok (.iload_n 1, 1) := by decide +kernel
theorem dX11_message_22 : decode cX11_message 22 = .ok (.iaload, 1) := by decide +kernel
theorem dX11_message_23 : decode cX11_message 23 = .ok (.if_icmp .ge 12, 3) := by decide +kernel
theorem dX11_message_26 : decode cX11_message 26 = .ok (.iload_n 3, 1) := by decide +kernel
theorem dX11_message_27 : decode cX11_message 27 = .ok (.ifCond .lt 8, 3) := by decide +kernel
theorem dX11_message_30 : decode cX11_message 30 = .ok (.iload_n 3, 1) := by decide +kernel
theorem dX11_message_31 : decode cX11_message 31 = .ok (.iconst 4, 1) := by decide +kernel
theorem dX11_message_32 : decode cX11_message 32 = .ok (.if_icmp .le 5, 3) := by decide +kernel
theorem dX11_message_35 : decode cX11_message 35 = .ok (.iconst (-1), 1) := by decide +kernel
theorem dX11_message_36 : decode cX11_message 36 = .ok (.ireturn, 1) := by decide +kernel
theorem dX11_message_37 : decode cX11_message 37 = .ok (.aload_n 0, 1) := by decide +kernel
theorem dX11_message_38 : decode cX11_message 38 = .ok (.iload_n 1, 1) := by decide +kernel
theorem dX11_message_39 : decode cX11_message 39 = .ok (.iload_n 2, 1) := by decide +kernel
theorem dX11_message_40 : decode cX11_message 40 = .ok (.iload_n 3, 1) := by decide +kernel
theorem dX11_message_41 : decode cX11_message 41 = .ok (.invokevirtual 156, 3) := by decide +kernel
theorem dX11_message_44 : decode cX11_message 44 = .ok (.ireturn, 1) := by decide +kernel
theorem dX11_count_0 : decode cX11_count 0 = .ok (.aload_n 0, 1) := by decide +kernel
theorem dX11_count_1 : decode cX11_count 1 = .ok (.iconst 0, 1) := by decide +kernel
theorem dX11_count_2 : decode cX11_count 2 = .ok (.putfield 1, 3) := by decide +kernel
theorem dX11_count_5 : decode cX11_count 5 = .ok (.iconst 0, 1) := by decide +kernel
theorem dX11_count_6 : decode cX11_count 6 = .ok (.istore_n 2, 1) := by decide +kernel
theorem dX11_count_7 : decode cX11_count 7 = .ok (.iconst 0, 1) := by decide +kernel
theorem dX11_count_8 : decode cX11_count 8 = .ok (.istore_n 3, 1) := by decide +kernel
theorem dX11_count_9 : decode cX11_count 9 = .ok (.iload_n 3, 1) := by decide +kernel
theorem dX11_count_10 : decode cX11_count 10 = .ok (.bipush 24, 2) := by decide +kernel
theorem dX11_count_12 : decode cX11_count 12 = .ok (.if_icmp .ge 26, 3) := by decide +kernel
theorem dX11_count_15 : decode cX11_count 15 = .ok (.iload_n 2, 1) := by decide +kernel
theorem dX11_count_16 : decode cX11_count 16 = .ok (.aload_n 0, 1) := by decide +kernel
theorem dX11_count_17 : decode cX11_count 17 = .ok (.getfield 107, 3) := by decide +kernel
theorem dX11_count_20 : decode cX11_count 20 = .ok (.iload_n 3, 1) := by decide +kernel
theorem dX11_count_21 : decode cX11_count 21 = .ok (.baload, 1) := by decide +kernel
theorem dX11_count_22 : decode cX11_count 22 = .ok (.ifCond .eq 7, 3) := by decide +kernel
theorem dX11_count_25 : decode cX11_count 25 = .ok (.iconst 0, 1) := by decide +kernel
theorem dX11_count_26 : decode cX11_count 26 = .ok (.goto 4, 3) := by decide +kernel
theorem dX11_count_29 : decode cX11_count 29 = .ok (.iconst 1, 1) := by decide +kernel
theorem dX11_count_30 : decode cX11_count 30 = .ok (.iadd, 1) := by decide +kernel
theorem dX11_count_31 : decode cX11_count 31 = .ok (.istore_n 2, 1) := by decide +kernel
theorem dX11_count_32 : decode cX11_count 32 = .ok (.iinc 3 1, 3) := by decide +kernel
theorem dX11_count_35 : decode cX11_count 35 = .ok (.goto (-26), 3) := by decide +kernel
theorem dX11_count_38 : decode cX11_count 38 = .ok (.iconst 0, 1) := by decide +kernel
theorem dX11_count_39 : decode cX11_count 39 = .ok (.istore_n 3, 1) := by decide +kernel
theorem dX11_count_40 : decode cX11_count 40 = .ok (.iconst 4, 1) := by decide +kernel
theorem dX11_count_41 : decode cX11_count 41 = .ok (.istore 4, 2) := by decide +kernel
theorem dX11_count_43 : decode cX11_count 43 = .ok (.iload 4, 2) := by decide +kernel
theorem dX11_count_45 : decode cX11_count 45 = .ok (.bipush 12, 2) := by decide +kernel
theorem dX11_count_47 : decode cX11_count 47 = .ok (.if_icmp .ge 28, 3) := by decide +kernel
theorem dX11_count_50 : decode cX11_count 50 = .ok (.iload_n 3, 1) := by decide +kernel
theorem dX11_count_51 : decode cX11_count 51 = .ok (.aload_n 0, 1) := by decide +kernel
theorem dX11_count_52 : decode cX11_count 52 = .ok (.getfield 19, 3) := by decide +kernel
theorem dX11_count_55 : decode cX11_count 55 = .ok (.iload 4, 2) := by decide +kernel
theorem dX11_count_57 : decode cX11_count 57 = .ok (.iaload, 1) := by decide +kernel
theorem dX11_count_58 : decode cX11_count 58 = .ok (.iconst 1, 1) := by decide +kernel
theorem dX11_count_59 : decode cX11_count 59 = .ok (.if_icmp .ne 7, 3) := by decide +kernel
theorem dX11_count_62 : decode cX11_count 62 = .ok (.iconst 1, 1) := by decide +kernel
theorem dX11_count_63 : decode cX11_count 63 = .ok (.goto 4, 3) := by decide +kernel
theorem dX11_count_66 : decode cX11_count 66 = .ok (.iconst 0, 1) := by decide +kernel
theorem dX11_count_67 : decode cX11_count 67 = .ok (.iadd, 1) := by decide +kernel
theorem dX11_count_68 : decode cX11_count 68 = .ok (.istore_n 3, 1) := by decide +kernel
theorem dX11_count_69 : decode cX11_count 69 = .ok (.iinc 4 1, 3) := by decide +kernel
theorem dX11_count_72 : decode cX11_count 72 = .ok (.goto (-29), 3) := by decide +kernel
theorem dX11_count_75 : decode cX11_count 75 = .ok (.iload_n 1, 1) := by decide +kernel
theorem dX11_count_76 : decode cX11_count 76 = .ok (.tableswitch 179 0 13 #[72, 77, 82, 87, 111, 116, 129, 142, 155, 160, 165, 170, 172, 174], 72) := by decide +kernel
theorem dX11_count_148 : decode cX11_count 148 = .ok (.aload_n 0, 1) := by decide +kernel
theorem dX11_count_149 : decode cX11_count 149 = .ok (.getfield 263, 3) := by decide +kernel
theorem dX11_count_152 : decode cX11_count 152 = .ok (.ireturn, 1) := by decide +kernel
theorem dX11_count_153 : decode cX11_count 153 = .ok (.aload_n 0, 1) := by decide +kernel
theorem dX11_count_154 : decode cX11_count 154 = .ok (.getfield 260, 3) := by decide +kernel
theorem dX11_count_157 : decode cX11_count 157 = .ok (.ireturn, 1) := by decide +kernel
theorem dX11_count_158 : decode cX11_count 158 = .ok (.aload_n 0, 1) := by decide +kernel
theorem dX11_count_159 : decode cX11_count 159 = .ok (.getfield 35, 3) := by decide +kernel
theorem dX11_count_162 : decode cX11_count 162 = .ok (.ireturn, 1) := by decide +kernel
theorem dX11_count_163 : decode cX11_count 163 = .ok (.aload_n 0, 1) := by decide +kernel
theorem dX11_count_164 : decode cX11_count 164 = .ok (.getfield 15, 3) := by decide +kernel
theorem dX11_count_167 : decode cX11_count 167 = .ok (.ifCond .ne 7, 3) := by decide +kernel
theorem dX11_count_170 : decode cX11_count 170 = .ok (.iconst 0, 1) := by decide +kernel
theorem dX11_count_171 : decode cX11_count 171 = .ok (.goto 15, 3) := by decide +kernel
theorem dX11_count_174 : decode cX11_count 174 = .ok (.aload_n 0, 1) := by decide +kernel
theorem dX11_count_175 : decode cX11_count 175 = .ok (.getfield 119, 3) := by decide +kernel
theorem dX11_count_178 : decode cX11_count 178 = .ok (.ifCond .eq 7, 3) := by decide +kernel
theorem dX11_count_181 : decode cX11_count 181 = .ok (.iconst 2, 1) := by decide +kernel
theorem dX11_count_182 : decode cX11_count 182 = .ok (.goto 4, 3) := by decide +kernel
theorem dX11_count_185 : decode cX11_count 185 = .ok (.iconst 1, 1) := by decide +kernel
theorem dX11_count_186 : decode cX11_count 186 = .ok (.ireturn, 1) := by decide +kernel
theorem dX11_count_187 : decode cX11_count 187 = .ok (.aload_n 0, 1) := by decide +kernel
theorem dX11_count_188 : decode cX11_count 188 = .ok (.getfield 125, 3) := by decide +kernel
theorem dX11_count_191 : decode cX11_count 191 = .ok (.ireturn, 1) := by decide +kernel
theorem dX11_count_192 : decode cX11_count 192 = .ok (.aload_n 0, 1) := by decide +kernel
theorem dX11_count_193 : decode cX11_count 193 = .ok (.getfield 122, 3) := by decide +kernel
theorem dX11_count_196 : decode cX11_count 196 = .ok (.ifCond .le 7, 3) := by decide +kernel
theorem dX11_count_199 : decode cX11_count 199 = .ok (.iconst 1, 1) := by decide +kernel
theorem dX11_count_200 : decode cX11_count 200 = .ok (.goto 4, 3) := by decide +kernel
theorem dX11_count_203 : decode cX11_count 203 = .ok (.iconst 0, 1) := by decide +kernel
theorem dX11_count_204 : decode cX11_count 204 = .ok (.ireturn, 1) := by decide +kernel
theorem dX11_count_205 : decode cX11_count 205 = .ok (.aload_n 0, 1) := by decide +kernel
theorem dX11_count_206 : decode cX11_count 206 = .ok (.getfield 166, 3) := by decide +kernel
theorem dX11_count_209 : decode cX11_count 209 = .ok (.ifCond .eq 7, 3) := by decide +kernel
theorem dX11_count_212 : decode cX11_count 212 = .ok (.iconst 1, 1) := by decide +kernel
theorem dX11_count_213 : decode cX11_count 213 = .ok (.goto 4, 3) := by decide +kernel
theorem dX11_count_216 : decode cX11_count 216 = .ok (.iconst 0, 1) := by decide +kernel
theorem dX11_count_217 : decode cX11_count 217 = .ok (.ireturn, 1) := by decide +kernel
theorem dX11_count_218 : decode cX11_count 218 = .ok (.aload_n 0, 1) := by decide +kernel
theorem dX11_count_219 : decode cX11_count 219 = .ok (.getfield 225, 3) := by decide +kernel
theorem dX11_count_222 : decode cX11_count 222 = .ok (.ifCond .eq 7, 3) := by decide +kernel
theorem dX11_count_225 : decode cX11_count 225 = .ok (.iconst 1, 1) := by decide +kernel
theorem dX11_count_226 : decode cX11_count 226 = .ok (.goto 4, 3) := by decide +kernel
theorem dX11_count_229 : decode cX11_count 229 = .ok (.iconst 0, 1) := by decide +kernel
theorem dX11_count_230 : decode cX11_count 230 = .ok (.ireturn, 1) := by decide +kernel
theorem dX11_count_231 : decode cX11_count 231 = .ok (.aload_n 0, 1) := by decide +kernel
theorem dX11_count_232 : decode cX11_count 232 = .ok (.getfield 131, 3) := by decide +kernel
theorem dX11_count_235 : decode cX11_count 235 = .ok (.ireturn, 1) := by decide +kernel
theorem dX11_count_236 : decode cX11_count 236 = .ok (.aload_n 0, 1) := by decide +kernel
theorem dX11_count_237 : decode cX11_count 237 = .ok (.getfield 26, 3) := by decide +kernel
theorem dX11_count_240 : decode cX11_count 240 = .ok (.ireturn, 1) := by decide +kernel
theorem dX11_count_241 : decode cX11_count 241 = .ok (.aload_n 0, 1) := by decide +kernel
theorem dX11_count_242 : decode cX11_count 242 = .ok (.invokevirtual 209, 3) := by decide +kernel
theorem dX11_count_245 : decode cX11_count 245 = .ok (.ireturn, 1) := by decide +kernel
theorem dX11_count_246 : decode cX11_count 246 = .ok (.iload_n 2, 1) := by decide +kernel
theorem dX11_count_247 : decode cX11_count 247 = .ok (.ireturn, 1) := by decide +kernel
theorem dX11_count_248 : decode cX11_count 248 = .ok (.iload_n 3, 1) := by decide +kernel
theorem dX11_count_249 : decode cX11_count 249 = .ok (.ireturn, 1) := by decide +kernel
theorem dX11_count_250 : decode cX11_count 250 = .ok (.aload_n 0, 1) := by decide +kernel
theorem dX11_count_251 : decode cX11_count 251 = .ok (.getfield 44, 3) := by decide +kernel
theorem dX11_count_254 : decode cX11_count 254 = .ok (.ireturn, 1) := by decide +kernel
theorem dX11_count_255 : decode cX11_count 255 = .ok (.iconst (-1), 1) := by decide +kernel
theorem dX11_count_256 : decode cX11_count 256 = .ok (.ireturn, 1) := by decide +kernel
