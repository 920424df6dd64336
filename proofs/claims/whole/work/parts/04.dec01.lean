theorem dX1_init_0 : decode cX1_init 0 = .ok (.aload_n 0, 1) := by decide +kernel
theorem dX1_init_1 : decode cX1_init 1 = .ok (.invokespecial 3, 3) := by decide +kernel
theorem dX1_init_4 : decode cX1_init 4 = .ok (.aload_n 0, 1) := by decide +kernel
theorem dX1_init_5 : decode cX1_init 5 = .ok (.bipush 12, 2) := by decide +kernel
theorem dX1_init_7 : decode cX1_init 7 = .ok (.anewarray 9, 3) := by decide +kernel
theorem dX1_init_10 : decode cX1_init 10 = .ok (.putfield 11, 3) := by decide +kernel
theorem dX1_init_13 : decode cX1_init 13 = .ok (.aload_n 0, 1) := by decide +kernel
theorem dX1_init_14 : decode cX1_init 14 = .ok (.bipush 12, 2) := by decide +kernel
theorem dX1_init_16 : decode cX1_init 16 = .ok (.newarray .boolean, 2) := by decide +kernel
theorem dX1_init_18 : decode cX1_init 18 = .ok (.putfield 17, 3) := by decide +kernel
theorem dX1_init_21 : decode cX1_init 21 = .ok (.aload_n 0, 1) := by decide +kernel
theorem dX1_init_22 : decode cX1_init 22 = .ok (.bipush 12, 2) := by decide +kernel
theorem dX1_init_24 : decode cX1_init 24 = .ok (.anewarray 21, 3) := by decide +kernel
theorem dX1_init_27 : decode cX1_init 27 = .ok (.putfield 23, 3) := by decide +kernel
theorem dX1_init_30 : decode cX1_init 30 = .ok (.aload_n 0, 1) := by decide +kernel
theorem dX1_init_31 : decode cX1_init 31 = .ok (.new 21, 3) := by decide +kernel
theorem dX1_init_34 : decode cX1_init 34 = .ok (.dup, 1) := by decide +kernel
theorem dX1_init_35 : decode cX1_init 35 = .ok (.invokespecial 27, 3) := by decide +kernel
theorem dX1_init_38 : decode cX1_init 38 = .ok (.putfield 28, 3) := by decide +kernel
theorem dX1_init_41 : decode cX1_init 41 = .ok (.aload_n 0, 1) := by decide +kernel
theorem dX1_init_42 : decode cX1_init 42 = .ok (.iconst 1, 1) := by decide +kernel
theorem dX1_init_43 : decode cX1_init 43 = .ok (.putfield 32, 3) := by decide +kernel
theorem dX1_init_46 : decode cX1_init 46 = .ok (.iconst 0, 1) := by decide +kernel
theorem dX1_init_47 : decode cX1_init 47 = .ok (.istore_n 1, 1) := by decide +kernel
theorem dX1_init_48 : decode cX1_init 48 = .ok (.iload_n 1, 1) := by decide +kernel
theorem dX1_init_49 : decode cX1_init 49 = .ok (.bipush 12, 2) := by decide +kernel
theorem dX1_init_51 : decode cX1_init 51 = .ok (.if_icmp .ge 51, 3) := by decide +kernel
theorem dX1_init_54 : decode cX1_init 54 = .ok (.aload_n 0, 1) := by decide +kernel
theorem dX1_init_55 : decode cX1_init 55 = .ok (.getfield 11, 3) := by decide +kernel
theorem dX1_init_58 : decode cX1_init 58 = .ok (.iload_n 1, 1) := by decide +kernel
theorem dX1_init_59 : decode cX1_init 59 = .ok (.new 9, 3) := by decide +kernel
theorem dX1_init_62 : decode cX1_init 62 = .ok (.dup, 1) := by decide +kernel
theorem dX1_init_63 : decode cX1_init 63 = .ok (.invokespecial 36, 3) := by decide +kernel
theorem dX1_init_66 : decode cX1_init 66 = .ok (.aastore, 1) := by decide +kernel
theorem dX1_init_67 : decode cX1_init 67 = .ok (.aload_n 0, 1) := by decide +kernel
theorem dX1_init_68 : decode cX1_init 68 = .ok (.getfield 23, 3) := by decide +kernel
theorem dX1_init_71 : decode cX1_init 71 = .ok (.iload_n 1, 1) := by decide +kernel
theorem dX1_init_72 : decode cX1_init 72 = .ok (.new 21, 3) := by decide +kernel
theorem dX1_init_75 : decode cX1_init 75 = .ok (.dup, 1) := by decide +kernel
theorem dX1_init_76 : decode cX1_init 76 = .ok (.invokespecial 27, 3) := by decide +kernel
theorem dX1_init_79 : decode cX1_init 79 = .ok (.aastore, 1) := by decide +kernel
theorem dX1_init_80 : decode cX1_init 80 = .ok (.aload_n 0, 1) := by decide +kernel
theorem dX1_init_81 : decode cX1_init 81 = .ok (.getfield 17, 3) := by decide +kernel
theorem dX1_init_84 : decode cX1_init 84 = .ok (.iload_n 1, 1) := by decide +kernel
theorem dX1_init_85 : decode cX1_init 85 = .ok (.iload_n 1, 1) := by decide +kernel
theorem dX1_init_86 : decode cX1_init 86 = .ok (.iconst 4, 1) := by decide +kernel
theorem dX1_init_87 : decode cX1_init 87 = .ok (.if_icmp .gt 7, 3) := by decide +kernel
theorem dX1_init_90 : decode cX1_init 90 = .ok (.iconst 1, 1) := by decide +kernel
theorem dX1_init_91 : decode cX1_init 91 = .ok (.goto 4, 3) := by decide +kernel
theorem dX1_init_94 : decode cX1_init 94 = .ok (.iconst 0, 1) := by decide +kernel
theorem dX1_init_95 : decode cX1_init 95 = .ok (.bastore, 1) := by decide +kernel
theorem dX1_init_96 : decode cX1_init 96 = .ok (.iinc 1 1, 3) := by decide +kernel
theorem dX1_init_99 : decode cX1_init 99 = .ok (.goto (-51), 3) := by decide +kernel
theorem dX1_init_102 : decode cX1_init 102 = .ok (.return_, 1) := by decide +kernel
theorem dX1_draft_0 : decode cX1_draft 0 = .ok (.iload_n 1, 1) := by decide +kernel
theorem dX1_draft_1 : decode cX1_draft 1 = .ok (.invokestatic 37, 3) := by decide +kernel
theorem dX1_draft_4 : decode cX1_draft 4 = .ok (.ifCond .ne 5, 3) := by decide +kernel
theorem dX1_draft_7 : decode cX1_draft 7 = .ok (.aconst_null, 1) := by decide +kernel
theorem dX1_draft_8 : decode cX1_draft 8 = .ok (.areturn, 1) := by decide +kernel
theorem dX1_draft_9 : decode cX1_draft 9 = .ok (.aload_n 0, 1) := by decide +kernel
theorem dX1_draft_10 : decode cX1_draft 10 = .ok (.getfield 23, 3) := by decide +kernel
theorem dX1_draft_13 : decode cX1_draft 13 = .ok (.iload_n 1, 1) := by decide +kernel
theorem dX1_draft_14 : decode cX1_draft 14 = .ok (.aaload, 1) := by decide +kernel
theorem dX1_draft_15 : decode cX1_draft 15 = .ok (.iload_n 1, 1) := by decide +kernel
theorem dX1_draft_16 : decode cX1_draft 16 = .ok (.iload_n 2, 1) := by decide +kernel
theorem dX1_draft_17 : decode cX1_draft 17 = .ok (.iload_n 3, 1) := by decide +kernel
theorem dX1_draft_18 : decode cX1_draft 18 = .ok (.iload 4, 2) := by decide +kernel
theorem dX1_draft_20 : decode cX1_draft 20 = .ok (.invokevirtual 41, 3) := by decide +kernel
theorem dX1_draft_23 : decode cX1_draft 23 = .ok (.aload_n 0, 1) := by decide +kernel
theorem dX1_draft_24 : decode cX1_draft 24 = .ok (.getfield 23, 3) := by decide +kernel
theorem dX1_draft_27 : decode cX1_draft 27 = .ok (.iload_n 1, 1) := by decide +kernel
theorem dX1_draft_28 : decode cX1_draft 28 = .ok (.aaload, 1) := by decide +kernel
theorem dX1_draft_29 : decode cX1_draft 29 = .ok (.areturn, 1) := by decide +kernel
theorem dX1_send_0 : decode cX1_send 0 = .ok (.aload_n 0, 1) := by decide +kernel
theorem dX1_send_1 : decode cX1_send 1 = .ok (.iload_n 1, 1) := by decide +kernel
theorem dX1_send_2 : decode cX1_send 2 = .ok (.iload_n 3, 1) := by decide +kernel
theorem dX1_send_3 : decode cX1_send 3 = .ok (.iload 4, 2) := by decide +kernel
theorem dX1_send_5 : decode cX1_send 5 = .ok (.iload 5, 2) := by decide +kernel
theorem dX1_send_7 : decode cX1_send 7 = .ok (.invokevirtual 45, 3) := by decide +kernel
theorem dX1_send_10 : decode cX1_send 10 = .ok (.astore 6, 2) := by decide +kernel
theorem dX1_send_12 : decode cX1_send 12 = .ok (.aload 6, 2) := by decide +kernel
theorem dX1_send_14 : decode cX1_send 14 = .ok (.ifnull 11, 3) := by decide +kernel
theorem dX1_send_17 : decode cX1_send 17 = .ok (.aload_n 0, 1) := by decide +kernel
theorem dX1_send_18 : decode cX1_send 18 = .ok (.aload 6, 2) := by decide +kernel
theorem dX1_send_20 : decode cX1_send 20 = .ok (.iload_n 2, 1) := by decide +kernel
theorem dX1_send_21 : decode cX1_send 21 = .ok (.invokevirtual 49, 3) := by decide +kernel
theorem dX1_send_24 : decode cX1_send 24 = .ok (.pop, 1) := by decide +kernel
theorem dX1_send_25 : decode cX1_send 25 = .ok (.return_, 1) := by decide +kernel
theorem dX1_postLoose_0 : decode cX1_postLoose 0 = .ok (.aload_n 0, 1) := by decide +kernel
theorem dX1_postLoose_1 : decode cX1_postLoose 1 = .ok (.getfield 28, 3) := by decide +kernel
theorem dX1_postLoose_4 : decode cX1_postLoose 4 = .ok (.iload_n 1, 1) := by decide +kernel
theorem dX1_postLoose_5 : decode cX1_postLoose 5 = .ok (.iload_n 3, 1) := by decide +kernel
theorem dX1_postLoose_6 : decode cX1_postLoose 6 = .ok (.iload 4, 2) := by decide +kernel
theorem dX1_postLoose_8 : decode cX1_postLoose 8 = .ok (.iload 5, 2) := by decide +kernel
theorem dX1_postLoose_10 : decode cX1_postLoose 10 = .ok (.invokevirtual 41, 3) := by decide +kernel
theorem dX1_postLoose_13 : decode cX1_postLoose 13 = .ok (.aload_n 0, 1) := by decide +kernel
theorem dX1_postLoose_14 : decode cX1_postLoose 14 = .ok (.aload_n 0, 1) := by decide +kernel
theorem dX1_postLoose_15 : decode cX1_postLoose 15 = .ok (.getfield 28, 3) := by decide +kernel
theorem dX1_postLoose_18 : decode cX1_postLoose 18 = .ok (.iload_n 2, 1) := by decide +kernel
theorem dX1_postLoose_19 : decode cX1_postLoose 19 = .ok (.invokevirtual 49, 3) := by decide +kernel
theorem dX1_postLoose_22 : decode cX1_postLoose 22 = .ok (.ireturn, 1) := by decide +kernel
theorem dX1_sendHeld_0 : decode cX1_sendHeld 0 = .ok (.iload_n 1, 1) := by decide +kernel
theorem dX1_sendHeld_1 : decode cX1_sendHeld 1 = .ok (.invokestatic 37, 3) := by decide +kernel
theorem dX1_sendHeld_4 : decode cX1_sendHeld 4 = .ok (.ifCond .eq 16, 3) := by decide +kernel
theorem dX1_sendHeld_7 : decode cX1_sendHeld 7 = .ok (.aload_n 0, 1) := by decide +kernel
theorem dX1_sendHeld_8 : decode cX1_sendHeld 8 = .ok (.getfield 23, 3) := by decide +kernel
theorem dX1_sendHeld_11 : decode cX1_sendHeld 11 = .ok (.iload_n 1, 1) := by decide +kernel
theorem dX1_sendHeld_12 : decode cX1_sendHeld 12 = .ok (.aaload, 1) := by decide +kernel
theorem dX1_sendHeld_13 : decode cX1_sendHeld 13 = .ok (.getfield 53, 3) := by decide +kernel
theorem dX1_sendHeld_16 : decode cX1_sendHeld 16 = .ok (.iconst (-1), 1) := by decide +kernel
theorem dX1_sendHeld_17 : decode cX1_sendHeld 17 = .ok (.if_icmp .ne 5, 3) := by decide +kernel
theorem dX1_sendHeld_20 : decode cX1_sendHeld 20 = .ok (.iconst 0, 1) := by decide +kernel
theorem dX1_sendHeld_21 : decode cX1_sendHeld 21 = .ok (.ireturn, 1) := by decide +kernel
theorem dX1_sendHeld_22 : decode cX1_sendHeld 22 = .ok (.aload_n 0, 1) := by decide +kernel
theorem dX1_sendHeld_23 : decode cX1_sendHeld 23 = .ok (.getfield 23, 3) := by decide +kernel
theorem dX1_sendHeld_26 : decode cX1_sendHeld 26 = .ok (.iload_n 1, 1) := by decide +kernel
theorem dX1_sendHeld_27 : decode cX1_sendHeld 27 = .ok (.aaload, 1) := by decide +kernel
theorem dX1_sendHeld_28 : decode cX1_sendHeld 28 = .ok (.astore_n 2, 1) := by decide +kernel
theorem dX1_sendHeld_29 : decode cX1_sendHeld 29 = .ok (.aload_n 2, 1) := by decide +kernel
theorem dX1_sendHeld_30 : decode cX1_sendHeld 30 = .ok (.getfield 53, 3) := by decide +kernel
theorem dX1_sendHeld_33 : decode cX1_sendHeld 33 = .ok (.istore_n 3, 1) := by decide +kernel
theorem dX1_sendHeld_34 : decode cX1_sendHeld 34 = .ok (.aload_n 2, 1) := by decide +kernel
theorem dX1_sendHeld_35 : decode cX1_sendHeld 35 = .ok (.iconst (-1), 1) := by decide +kernel
theorem dX1_sendHeld_36 : decode cX1_sendHeld 36 = .ok (.putfield 53, 3) := by decide +kernel
theorem dX1_sendHeld_39 : decode cX1_sendHeld 39 = .ok (.aload_n 0, 1) := by decide +kernel
theorem dX1_sendHeld_40 : decode cX1_sendHeld 40 = .ok (.aload_n 2, 1) := by decide +kernel
theorem dX1_sendHeld_41 : decode cX1_sendHeld 41 = .ok (.iload_n 3, 1) := by decide +kernel
theorem dX1_sendHeld_42 : decode cX1_sendHeld 42 = .ok (.invokevirtual 49, 3) := by decide +kernel
theorem dX1_sendHeld_45 : decode cX1_sendHeld 45 = .ok (.pop, 1) := by decide +kernel
theorem dX1_sendHeld_46 : decode cX1_sendHeld 46 = .ok (.iconst 1, 1) := by decide +kernel
theorem dX1_sendHeld_47 : decode cX1_sendHeld 47 = .ok (.ireturn, 1) := by decide +kernel
theorem dX1_post_0 : decode cX1_post 0 = .ok (.aload_n 1, 1) := by decide +kernel
theorem dX1_post_1 : decode cX1_post 1 = .ok (.getfield 56, 3) := by decide +kernel
theorem dX1_post_4 : decode cX1_post 4 = .ok (.invokestatic 37, 3) := by decide +kernel
theorem dX1_post_7 : decode cX1_post 7 = .ok (.ifCond .eq 25, 3) := by decide +kernel
theorem dX1_post_10 : decode cX1_post 10 = .ok (.iload_n 2, 1) := by decide +kernel
theorem dX1_post_11 : decode cX1_post 11 = .ok (.invokestatic 37, 3) := by decide +kernel
theorem dX1_post_14 : decode cX1_post 14 = .ok (.ifCond .eq 18, 3) := by decide +kernel
theorem dX1_post_17 : decode cX1_post 17 = .ok (.getstatic 59, 3) := by decide +kernel
theorem dX1_post_20 : decode cX1_post 20 = .ok (.aload_n 1, 1) := by decide +kernel
theorem dX1_post_21 : decode cX1_post 21 = .ok (.getfield 56, 3) := by decide +kernel
theorem dX1_post_24 : decode cX1_post 24 = .ok (.iaload, 1) := by decide +kernel
theorem dX1_post_25 : decode cX1_post 25 = .ok (.iload_n 2, 1) := by decide +kernel
theorem dX1_post_26 : decode cX1_post 26 = .ok (.ishr, 1) := by decide +kernel
theorem dX1_post_27 : decode cX1_post 27 = .ok (.iconst 1, 1) := by decide +kernel
theorem dX1_post_28 : decode cX1_post 28 = .ok (.iand, 1) := by decide +kernel
theorem dX1_post_29 : decode cX1_post 29 = .ok (.ifCond .ne 15, 3) := by decide +kernel
theorem dX1_post_32 : decode cX1_post 32 = .ok (.aload_n 0, 1) := by decide +kernel
theorem dX1_post_33 : decode cX1_post 33 = .ok (.dup, 1) := by decide +kernel
theorem dX1_post_34 : decode cX1_post 34 = .ok (.getfield 63, 3) := by decide +kernel
theorem dX1_post_37 : decode cX1_post 37 = .ok (.iconst 1, 1) := by decide +kernel
theorem dX1_post_38 : decode cX1_post 38 = .ok (.iadd, 1) := by decide +kernel
theorem dX1_post_39 : decode cX1_post 39 = .ok (.putfield 63, 3) := by decide +kernel
theorem dX1_post_42 : decode cX1_post 42 = .ok (.iconst 1, 1) := by decide +kernel
theorem dX1_post_43 : decode cX1_post 43 = .ok (.ireturn, 1) := by decide +kernel
theorem dX1_post_44 : decode cX1_post 44 = .ok (.aload_n 0, 1) := by decide +kernel
theorem dX1_post_45 : decode cX1_post 45 = .ok (.getfield 17, 3) := by decide +kernel
theorem dX1_post_48 : decode cX1_post 48 = .ok (.iload_n 2, 1) := by decide +kernel
theorem dX1_post_49 : decode cX1_post 49 = .ok (.baload, 1) := by decide +kernel
theorem dX1_post_50 : decode cX1_post 50 = .ok (.ifCond .eq 21, 3) := by decide +kernel
theorem dX1_post_53 : decode cX1_post 53 = .ok (.aload_n 1, 1) := by decide +kernel
theorem dX1_post_54 : decode cX1_post 54 = .ok (.getfield 66, 3) := by decide +kernel
theorem dX1_post_57 : decode cX1_post 57 = .ok (.ifCond .eq 16, 3) := by decide +kernel
theorem dX1_post_60 : decode cX1_post 60 = .ok (.aload_n 1, 1) := by decide +kernel
theorem dX1_post_61 : decode cX1_post 61 = .ok (.getfield 66, 3) := by decide +kernel
theorem dX1_post_64 : decode cX1_post 64 = .ok (.aload_n 0, 1) := by decide +kernel
theorem dX1_post_65 : decode cX1_post 65 = .ok (.getfield 32, 3) := by decide +kernel
theorem dX1_post_68 : decode cX1_post 68 = .ok (.if_icmp .eq 5, 3) := by decide +kernel
theorem dX1_post_71 : decode cX1_post 71 = .ok (.iconst 2, 1) := by decide +kernel
theorem dX1_post_72 : decode cX1_post 72 = .ok (.ireturn, 1) := by decide +kernel
theorem dX1_post_73 : decode cX1_post 73 = .ok (.aload_n 0, 1) := by decide +kernel
theorem dX1_post_74 : decode cX1_post 74 = .ok (.getfield 11, 3) := by decide +kernel
theorem dX1_post_77 : decode cX1_post 77 = .ok (.iload_n 2, 1) := by decide +kernel
theorem dX1_post_78 : decode cX1_post 78 = .ok (.aaload, 1) := by decide +kernel
theorem dX1_post_79 : decode cX1_post 79 = .ok (.invokevirtual 69, 3) := by decide +kernel
theorem dX1_post_82 : decode cX1_post 82 = .ok (.astore_n 3, 1) := by decide +kernel
theorem dX1_post_83 : decode cX1_post 83 = .ok (.aload_n 3, 1) := by decide +kernel
theorem dX1_post_84 : decode cX1_post 84 = .ok (.ifnonnull 10, 3) := by decide +kernel
theorem dX1_post_87 : decode cX1_post 87 = .ok (.aload_n 1, 1) := by decide +kernel
theorem dX1_post_88 : decode cX1_post 88 = .ok (.iload_n 2, 1) := by decide +kernel
theorem dX1_post_89 : decode cX1_post 89 = .ok (.putfield 53, 3) := by decide +kernel
theorem dX1_post_92 : decode cX1_post 92 = .ok (.iconst 3, 1) := by decide +kernel
theorem dX1_post_93 : decode cX1_post 93 = .ok (.ireturn, 1) := by decide +kernel
theorem dX1_post_94 : decode cX1_post 94 = .ok (.aload_n 3, 1) := by decide +kernel
theorem dX1_post_95 : decode cX1_post 95 = .ok (.aload_n 1, 1) := by decide +kernel
theorem dX1_post_96 : decode cX1_post 96 = .ok (.invokevirtual 73, 3) := by decide +kernel
theorem dX1_post_99 : decode cX1_post 99 = .ok (.aload_n 0, 1) := by decide +kernel
theorem dX1_post_100 : decode cX1_post 100 = .ok (.dup, 1) := by decide +kernel
theorem dX1_post_101 : decode cX1_post 101 = .ok (.getfield 77, 3) := by decide +kernel
theorem dX1_post_104 : decode cX1_post 104 = .ok (.iconst 1, 1) := by decide +kernel
theorem dX1_post_105 : decode cX1_post 105 = .ok (.iadd, 1) := by decide +kernel
theorem dX1_post_106 : decode cX1_post 106 = .ok (.putfield 77, 3) := by decide +kernel
theorem dX1_post_109 : decode cX1_post 109 = .ok (.iconst 0, 1) := by decide +kernel
theorem dX1_post_110 : decode cX1_post 110 = .ok (.ireturn, 1) := by decide +kernel
theorem dX1_end_0 : decode cX1_end 0 = .ok (.iload_n 1, 1) := by decide +kernel
theorem dX1_end_1 : decode cX1_end 1 = .ok (.invokestatic 37, 3) := by decide +kernel
theorem dX1_end_4 : decode cX1_end 4 = .ok (.ifCond .eq 30, 3) := by decide +kernel
theorem dX1_end_7 : decode cX1_end 7 = .ok (.aload_n 0, 1) := by decide +kernel
theorem dX1_end_8 : decode cX1_end 8 = .ok (.getfield 17, 3) := by decide +kernel
theorem dX1_end_11 : decode cX1_end 11 = .ok (.iload_n 1, 1) := by decide +kernel
theorem dX1_end_12 : decode cX1_end 12 = .ok (.iconst 0, 1) := by decide +kernel
theorem dX1_end_13 : decode cX1_end 13 = .ok (.bastore, 1) := by decide +kernel
theorem dX1_end_14 : decode cX1_end 14 = .ok (.aload_n 0, 1) := by decide +kernel
theorem dX1_end_15 : decode cX1_end 15 = .ok (.getfield 11, 3) := by decide +kernel
theorem dX1_end_18 : decode cX1_end 18 = .ok (.iload_n 1, 1) := by decide +kernel
theorem dX1_end_19 : decode cX1_end 19 = .ok (.aaload, 1) := by decide +kernel
theorem dX1_end_20 : decode cX1_end 20 = .ok (.iconst 0, 1) := by decide +kernel
theorem dX1_end_21 : decode cX1_end 21 = .ok (.putfield 80, 3) := by decide +kernel
theorem dX1_end_24 : decode cX1_end 24 = .ok (.aload_n 0, 1) := by decide +kernel
theorem dX1_end_25 : decode cX1_end 25 = .ok (.getfield 23, 3) := by decide +kernel
theorem dX1_end_28 : decode cX1_end 28 = .ok (.iload_n 1, 1) := by decide +kernel
theorem dX1_end_29 : decode cX1_end 29 = .ok (.aaload, 1) := by decide +kernel
theorem dX1_end_30 : decode cX1_end 30 = .ok (.iconst (-1), 1) := by decide +kernel
theorem dX1_end_31 : decode cX1_end 31 = .ok (.putfield 53, 3) := by decide +kernel
theorem dX1_end_34 : decode cX1_end 34 = .ok (.return_, 1) := by decide +kernel
theorem dX1_startDriver_0 : decode cX1_startDriver 0 = .ok (.aload_n 0, 1) := by decide +kernel
theorem dX1_startDriver_1 : decode cX1_startDriver 1 = .ok (.getfield 17, 3) := by decide +kernel
theorem dX1_startDriver_4 : decode cX1_startDriver 4 = .ok (.iconst 1, 1) := by decide +kernel
theorem dX1_startDriver_5 : decode cX1_startDriver 5 = .ok (.iconst 1, 1) := by decide +kernel
theorem dX1_startDriver_6 : decode cX1_startDriver 6 = .ok (.bastore, 1) := by decide +kernel
theorem dX1_startDriver_7 : decode cX1_startDriver 7 = .ok (.aload_n 0, 1) := by decide +kernel
theorem dX1_startDriver_8 : decode cX1_startDriver 8 = .ok (.dup, 1) := by decide +kernel
theorem dX1_startDriver_9 : decode cX1_startDriver 9 = .ok (.getfield 32, 3) := by decide +kernel
theorem dX1_startDriver_12 : decode cX1_startDriver 12 = .ok (.iconst 1, 1) := by decide +kernel
theorem dX1_startDriver_13 : decode cX1_startDriver 13 = .ok (.iadd, 1) := by decide +kernel
theorem dX1_startDriver_14 : decode cX1_startDriver 14 = .ok (.putfield 32, 3) := by decide +kernel
theorem dX1_startDriver_17 : decode cX1_startDriver 17 = .ok (.return_, 1) := by decide +kernel
theorem dX1_livingUsers_0 : decode cX1_livingUsers 0 = .ok (.iconst 0, 1) := by decide +kernel
theorem dX1_livingUsers_1 : decode cX1_livingUsers 1 = .ok (.istore_n 1, 1) := by decide +kernel
theorem dX1_livingUsers_2 : decode cX1_livingUsers 2 = .ok (.iconst 4, 1) := by decide +kernel
theorem dX1_livingUsers_3 : decode cX1_livingUsers 3 = .ok (.istore_n 2, 1) := by decide +kernel
theorem dX1_livingUsers_4 : decode cX1_livingUsers 4 = .ok (.iload_n 2, 1) := by decide +kernel
theorem dX1_livingUsers_5 : decode cX1_livingUsers 5 = .ok (.bipush 12, 2) := by decide +kernel
theorem dX1_livingUsers_7 : decode cX1_livingUsers 7 = .ok (.if_icmp .ge 26, 3) := by decide +kernel
theorem dX1_livingUsers_10 : decode cX1_livingUsers 10 = .ok (.iload_n 1, 1) := by decide +kernel
theorem dX1_livingUsers_11 : decode cX1_livingUsers 11 = .ok (.aload_n 0, 1) := by decide +kernel
theorem dX1_livingUsers_12 : decode cX1_livingUsers 12 = .ok (.getfield 17, 3) := by decide +kernel
theorem dX1_livingUsers_15 : decode cX1_livingUsers 15 = .ok (.iload_n 2, 1) := by decide +kernel
theorem dX1_livingUsers_16 : decode cX1_livingUsers 16 = .ok (.baload, 1) := by decide +kernel
theorem dX1_livingUsers_17 : decode cX1_livingUsers 17 = .ok (.ifCond .eq 7, 3) := by decide +kernel
theorem dX1_livingUsers_20 : decode cX1_livingUsers 20 = .ok (.iconst 1, 1) := by decide +kernel
theorem dX1_livingUsers_21 : decode cX1_livingUsers 21 = .ok (.goto 4, 3) := by decide +kernel
theorem dX1_livingUsers_24 : decode cX1_livingUsers 24 = .ok (.iconst 0, 1) := by decide +kernel
theorem dX1_livingUsers_25 : decode cX1_livingUsers 25 = .ok (.iadd, 1) := by decide +kernel
theorem dX1_livingUsers_26 : decode cX1_livingUsers 26 = .ok (.istore_n 1, 1) := by decide +kernel
theorem dX1_livingUsers_27 : decode cX1_livingUsers 27 = .ok (.iinc 2 1, 3) := by decide +kernel
theorem dX1_livingUsers_30 : decode cX1_livingUsers 30 = .ok (.goto (-26), 3) := by decide +kernel
theorem dX1_livingUsers_33 : decode cX1_livingUsers 33 = .ok (.iload_n 1, 1) := by decide +kernel
theorem dX1_livingUsers_34 : decode cX1_livingUsers 34 = .ok (.ireturn, 1) := by decide +kernel
