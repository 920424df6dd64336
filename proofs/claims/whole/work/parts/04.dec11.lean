theorem dX11_thrown_0 : decode cX11_thrown 0 = .ok (.aload_n 0, 1) := by decide +kernel
theorem dX11_thrown_1 : decode cX11_thrown 1 = .ok (.getfield 1, 3) := by decide +kernel
theorem dX11_thrown_4 : decode cX11_thrown 4 = .ok (.ireturn, 1) := by decide +kernel
theorem dX11_drafts_0 : decode cX11_drafts 0 = .ok (.iconst 0, 1) := by decide +kernel
theorem dX11_drafts_1 : decode cX11_drafts 1 = .ok (.istore 4, 2) := by decide +kernel
theorem dX11_drafts_3 : decode cX11_drafts 3 = .ok (.iload 4, 2) := by decide +kernel
theorem dX11_drafts_5 : decode cX11_drafts 5 = .ok (.bipush 13, 2) := by decide +kernel
theorem dX11_drafts_7 : decode cX11_drafts 7 = .ok (.if_icmp .ge 17, 3) := by decide +kernel
theorem dX11_drafts_10 : decode cX11_drafts 10 = .ok (.aload_n 0, 1) := by decide +kernel
theorem dX11_drafts_11 : decode cX11_drafts 11 = .ok (.getfield 7, 3) := by decide +kernel
theorem dX11_drafts_14 : decode cX11_drafts 14 = .ok (.iload 4, 2) := by decide +kernel
theorem dX11_drafts_16 : decode cX11_drafts 16 = .ok (.iconst 0, 1) := by decide +kernel
theorem dX11_drafts_17 : decode cX11_drafts 17 = .ok (.iastore, 1) := by decide +kernel
theorem dX11_drafts_18 : decode cX11_drafts 18 = .ok (.iinc 4 1, 3) := by decide +kernel
theorem dX11_drafts_21 : decode cX11_drafts 21 = .ok (.goto (-18), 3) := by decide +kernel
theorem dX11_drafts_24 : decode cX11_drafts 24 = .ok (.aload_n 0, 1) := by decide +kernel
theorem dX11_drafts_25 : decode cX11_drafts 25 = .ok (.getfield 7, 3) := by decide +kernel
theorem dX11_drafts_28 : decode cX11_drafts 28 = .ok (.iconst 1, 1) := by decide +kernel
theorem dX11_drafts_29 : decode cX11_drafts 29 = .ok (.iload_n 1, 1) := by decide +kernel
theorem dX11_drafts_30 : decode cX11_drafts 30 = .ok (.iastore, 1) := by decide +kernel
theorem dX11_drafts_31 : decode cX11_drafts 31 = .ok (.aload_n 0, 1) := by decide +kernel
theorem dX11_drafts_32 : decode cX11_drafts 32 = .ok (.getfield 7, 3) := by decide +kernel
theorem dX11_drafts_35 : decode cX11_drafts 35 = .ok (.iconst 2, 1) := by decide +kernel
theorem dX11_drafts_36 : decode cX11_drafts 36 = .ok (.iload_n 2, 1) := by decide +kernel
theorem dX11_drafts_37 : decode cX11_drafts 37 = .ok (.iastore, 1) := by decide +kernel
theorem dX11_drafts_38 : decode cX11_drafts 38 = .ok (.aload_n 0, 1) := by decide +kernel
theorem dX11_drafts_39 : decode cX11_drafts 39 = .ok (.getfield 7, 3) := by decide +kernel
theorem dX11_drafts_42 : decode cX11_drafts 42 = .ok (.iconst 3, 1) := by decide +kernel
theorem dX11_drafts_43 : decode cX11_drafts 43 = .ok (.iload_n 3, 1) := by decide +kernel
theorem dX11_drafts_44 : decode cX11_drafts 44 = .ok (.iastore, 1) := by decide +kernel
theorem dX11_drafts_45 : decode cX11_drafts 45 = .ok (.return_, 1) := by decide +kernel
theorem dX11_isUser_0 : decode cX11_isUser 0 = .ok (.iload_n 0, 1) := by decide +kernel
theorem dX11_isUser_1 : decode cX11_isUser 1 = .ok (.iconst 4, 1) := by decide +kernel
theorem dX11_isUser_2 : decode cX11_isUser 2 = .ok (.if_icmp .lt 13, 3) := by decide +kernel
theorem dX11_isUser_5 : decode cX11_isUser 5 = .ok (.iload_n 0, 1) := by decide +kernel
theorem dX11_isUser_6 : decode cX11_isUser 6 = .ok (.bipush 12, 2) := by decide +kernel
theorem dX11_isUser_8 : decode cX11_isUser 8 = .ok (.if_icmp .ge 7, 3) := by decide +kernel
theorem dX11_isUser_11 : decode cX11_isUser 11 = .ok (.iconst 1, 1) := by decide +kernel
theorem dX11_isUser_12 : decode cX11_isUser 12 = .ok (.goto 4, 3) := by decide +kernel
theorem dX11_isUser_15 : decode cX11_isUser 15 = .ok (.iconst 0, 1) := by decide +kernel
theorem dX11_isUser_16 : decode cX11_isUser 16 = .ok (.ireturn, 1) := by decide +kernel
theorem dX11_isAllowed_0 : decode cX11_isAllowed 0 = .ok (.iload_n 0, 1) := by decide +kernel
theorem dX11_isAllowed_1 : decode cX11_isAllowed 1 = .ok (.tableswitch 103 0 3 #[31, 47, 62, 85], 31) := by decide +kernel
theorem dX11_isAllowed_32 : decode cX11_isAllowed 32 = .ok (.iload_n 1, 1) := by decide +kernel
theorem dX11_isAllowed_33 : decode cX11_isAllowed 33 = .ok (.iconst 1, 1) := by decide +kernel
theorem dX11_isAllowed_34 : decode cX11_isAllowed 34 = .ok (.if_icmp .eq 8, 3) := by decide +kernel
theorem dX11_isAllowed_37 : decode cX11_isAllowed 37 = .ok (.iload_n 1, 1) := by decide +kernel
theorem dX11_isAllowed_38 : decode cX11_isAllowed 38 = .ok (.iconst 2, 1) := by decide +kernel
theorem dX11_isAllowed_39 : decode cX11_isAllowed 39 = .ok (.if_icmp .ne 7, 3) := by decide +kernel
theorem dX11_isAllowed_42 : decode cX11_isAllowed 42 = .ok (.iconst 1, 1) := by decide +kernel
theorem dX11_isAllowed_43 : decode cX11_isAllowed 43 = .ok (.goto 4, 3) := by decide +kernel
theorem dX11_isAllowed_46 : decode cX11_isAllowed 46 = .ok (.iconst 0, 1) := by decide +kernel
theorem dX11_isAllowed_47 : decode cX11_isAllowed 47 = .ok (.ireturn, 1) := by decide +kernel
theorem dX11_isAllowed_48 : decode cX11_isAllowed 48 = .ok (.iload_n 1, 1) := by decide +kernel
theorem dX11_isAllowed_49 : decode cX11_isAllowed 49 = .ok (.ifCond .eq 8, 3) := by decide +kernel
theorem dX11_isAllowed_52 : decode cX11_isAllowed 52 = .ok (.iload_n 1, 1) := by decide +kernel
theorem dX11_isAllowed_53 : decode cX11_isAllowed 53 = .ok (.iconst 2, 1) := by decide +kernel
theorem dX11_isAllowed_54 : decode cX11_isAllowed 54 = .ok (.if_icmp .ne 7, 3) := by decide +kernel
theorem dX11_isAllowed_57 : decode cX11_isAllowed 57 = .ok (.iconst 1, 1) := by decide +kernel
theorem dX11_isAllowed_58 : decode cX11_isAllowed 58 = .ok (.goto 4, 3) := by decide +kernel
theorem dX11_isAllowed_61 : decode cX11_isAllowed 61 = .ok (.iconst 0, 1) := by decide +kernel
theorem dX11_isAllowed_62 : decode cX11_isAllowed 62 = .ok (.ireturn, 1) := by decide +kernel
theorem dX11_isAllowed_63 : decode cX11_isAllowed 63 = .ok (.iload_n 1, 1) := by decide +kernel
theorem dX11_isAllowed_64 : decode cX11_isAllowed 64 = .ok (.iconst 1, 1) := by decide +kernel
theorem dX11_isAllowed_65 : decode cX11_isAllowed 65 = .ok (.if_icmp .eq 15, 3) := by decide +kernel
theorem dX11_isAllowed_68 : decode cX11_isAllowed 68 = .ok (.iload_n 1, 1) := by decide +kernel
theorem dX11_isAllowed_69 : decode cX11_isAllowed 69 = .ok (.iconst 3, 1) := by decide +kernel
theorem dX11_isAllowed_70 : decode cX11_isAllowed 70 = .ok (.if_icmp .eq 10, 3) := by decide +kernel
theorem dX11_isAllowed_73 : decode cX11_isAllowed 73 = .ok (.iload_n 1, 1) := by decide +kernel
theorem dX11_isAllowed_74 : decode cX11_isAllowed 74 = .ok (.invokestatic 11, 3) := by decide +kernel
theorem dX11_isAllowed_77 : decode cX11_isAllowed 77 = .ok (.ifCond .eq 7, 3) := by decide +kernel
theorem dX11_isAllowed_80 : decode cX11_isAllowed 80 = .ok (.iconst 1, 1) := by decide +kernel
theorem dX11_isAllowed_81 : decode cX11_isAllowed 81 = .ok (.goto 4, 3) := by decide +kernel
theorem dX11_isAllowed_84 : decode cX11_isAllowed 84 = .ok (.iconst 0, 1) := by decide +kernel
theorem dX11_isAllowed_85 : decode cX11_isAllowed 85 = .ok (.ireturn, 1) := by decide +kernel
theorem dX11_isAllowed_86 : decode cX11_isAllowed 86 = .ok (.iload_n 1, 1) := by decide +kernel
theorem dX11_isAllowed_87 : decode cX11_isAllowed 87 = .ok (.iconst 2, 1) := by decide +kernel
theorem dX11_isAllowed_88 : decode cX11_isAllowed 88 = .ok (.if_icmp .eq 10, 3) := by decide +kernel
theorem dX11_isAllowed_91 : decode cX11_isAllowed 91 = .ok (.iload_n 1, 1) := by decide +kernel
theorem dX11_isAllowed_92 : decode cX11_isAllowed 92 = .ok (.invokestatic 11, 3) := by decide +kernel
theorem dX11_isAllowed_95 : decode cX11_isAllowed 95 = .ok (.ifCond .eq 7, 3) := by decide +kernel
theorem dX11_isAllowed_98 : decode cX11_isAllowed 98 = .ok (.iconst 1, 1) := by decide +kernel
theorem dX11_isAllowed_99 : decode cX11_isAllowed 99 = .ok (.goto 4, 3) := by decide +kernel
theorem dX11_isAllowed_102 : decode cX11_isAllowed 102 = .ok (.iconst 0, 1) := by decide +kernel
theorem dX11_isAllowed_103 : decode cX11_isAllowed 103 = .ok (.ireturn, 1) := by decide +kernel
theorem dX11_isAllowed_104 : decode cX11_isAllowed 104 = .ok (.iload_n 1, 1) := by decide +kernel
theorem dX11_isAllowed_105 : decode cX11_isAllowed 105 = .ok (.iconst 2, 1) := by decide +kernel
theorem dX11_isAllowed_106 : decode cX11_isAllowed 106 = .ok (.if_icmp .eq 8, 3) := by decide +kernel
theorem dX11_isAllowed_109 : decode cX11_isAllowed 109 = .ok (.iload_n 1, 1) := by decide +kernel
theorem dX11_isAllowed_110 : decode cX11_isAllowed 110 = .ok (.iconst 3, 1) := by decide +kernel
theorem dX11_isAllowed_111 : decode cX11_isAllowed 111 = .ok (.if_icmp .ne 7, 3) := by decide +kernel
theorem dX11_isAllowed_114 : decode cX11_isAllowed 114 = .ok (.iconst 1, 1) := by decide +kernel
theorem dX11_isAllowed_115 : decode cX11_isAllowed 115 = .ok (.goto 4, 3) := by decide +kernel
theorem dX11_isAllowed_118 : decode cX11_isAllowed 118 = .ok (.iconst 0, 1) := by decide +kernel
theorem dX11_isAllowed_119 : decode cX11_isAllowed 119 = .ok (.ireturn, 1) := by decide +kernel
theorem dX11_lives_0 : decode cX11_lives 0 = .ok (.iload_n 1, 1) := by decide +kernel
theorem dX11_lives_1 : decode cX11_lives 1 = .ok (.iconst 1, 1) := by decide +kernel
theorem dX11_lives_2 : decode cX11_lives 2 = .ok (.if_icmp .ne 10, 3) := by decide +kernel
theorem dX11_lives_5 : decode cX11_lives 5 = .ok (.aload_n 0, 1) := by decide +kernel
theorem dX11_lives_6 : decode cX11_lives 6 = .ok (.getfield 15, 3) := by decide +kernel
theorem dX11_lives_9 : decode cX11_lives 9 = .ok (.goto 25, 3) := by decide +kernel
theorem dX11_lives_12 : decode cX11_lives 12 = .ok (.iload_n 1, 1) := by decide +kernel
theorem dX11_lives_13 : decode cX11_lives 13 = .ok (.invokestatic 11, 3) := by decide +kernel
theorem dX11_lives_16 : decode cX11_lives 16 = .ok (.ifCond .eq 13, 3) := by decide +kernel
theorem dX11_lives_19 : decode cX11_lives 19 = .ok (.aload_n 0, 1) := by decide +kernel
theorem dX11_lives_20 : decode cX11_lives 20 = .ok (.getfield 19, 3) := by decide +kernel
theorem dX11_lives_23 : decode cX11_lives 23 = .ok (.iload_n 1, 1) := by decide +kernel
theorem dX11_lives_24 : decode cX11_lives 24 = .ok (.iaload, 1) := by decide +kernel
theorem dX11_lives_25 : decode cX11_lives 25 = .ok (.iconst 1, 1) := by decide +kernel
theorem dX11_lives_26 : decode cX11_lives 26 = .ok (.if_icmp .ne 7, 3) := by decide +kernel
theorem dX11_lives_29 : decode cX11_lives 29 = .ok (.iconst 1, 1) := by decide +kernel
theorem dX11_lives_30 : decode cX11_lives 30 = .ok (.goto 4, 3) := by decide +kernel
theorem dX11_lives_33 : decode cX11_lives 33 = .ok (.iconst 0, 1) := by decide +kernel
theorem dX11_lives_34 : decode cX11_lives 34 = .ok (.ireturn, 1) := by decide +kernel
theorem dX11_send_0 : decode cX11_send 0 = .ok (.iload_n 1, 1) := by decide +kernel
theorem dX11_send_1 : decode cX11_send 1 = .ok (.iload_n 2, 1) := by decide +kernel
theorem dX11_send_2 : decode cX11_send 2 = .ok (.invokestatic 22, 3) := by decide +kernel
theorem dX11_send_5 : decode cX11_send 5 = .ok (.ifCond .ne 15, 3) := by decide +kernel
theorem dX11_send_8 : decode cX11_send 8 = .ok (.aload_n 0, 1) := by decide +kernel
theorem dX11_send_9 : decode cX11_send 9 = .ok (.dup, 1) := by decide +kernel
theorem dX11_send_10 : decode cX11_send 10 = .ok (.getfield 26, 3) := by decide +kernel
theorem dX11_send_13 : decode cX11_send 13 = .ok (.iconst 1, 1) := by decide +kernel
theorem dX11_send_14 : decode cX11_send 14 = .ok (.iadd, 1) := by decide +kernel
theorem dX11_send_15 : decode cX11_send 15 = .ok (.putfield 26, 3) := by decide +kernel
theorem dX11_send_18 : decode cX11_send 18 = .ok (.iconst 1, 1) := by decide +kernel
theorem dX11_send_19 : decode cX11_send 19 = .ok (.ireturn, 1) := by decide +kernel
theorem dX11_send_20 : decode cX11_send 20 = .ok (.aload_n 0, 1) := by decide +kernel
theorem dX11_send_21 : decode cX11_send 21 = .ok (.iload_n 2, 1) := by decide +kernel
theorem dX11_send_22 : decode cX11_send 22 = .ok (.invokevirtual 29, 3) := by decide +kernel
theorem dX11_send_25 : decode cX11_send 25 = .ok (.ifCond .eq 28, 3) := by decide +kernel
theorem dX11_send_28 : decode cX11_send 28 = .ok (.iload_n 3, 1) := by decide +kernel
theorem dX11_send_29 : decode cX11_send 29 = .ok (.ifCond .eq 26, 3) := by decide +kernel
theorem dX11_send_32 : decode cX11_send 32 = .ok (.iload_n 1, 1) := by decide +kernel
theorem dX11_send_33 : decode cX11_send 33 = .ok (.iconst 2, 1) := by decide +kernel
theorem dX11_send_34 : decode cX11_send 34 = .ok (.if_icmp .ne 21, 3) := by decide +kernel
theorem dX11_send_37 : decode cX11_send 37 = .ok (.iload_n 2, 1) := by decide +kernel
theorem dX11_send_38 : decode cX11_send 38 = .ok (.iconst 1, 1) := by decide +kernel
theorem dX11_send_39 : decode cX11_send 39 = .ok (.if_icmp .ne 16, 3) := by decide +kernel
theorem dX11_send_42 : decode cX11_send 42 = .ok (.aload_n 0, 1) := by decide +kernel
theorem dX11_send_43 : decode cX11_send 43 = .ok (.getfield 32, 3) := by decide +kernel
theorem dX11_send_46 : decode cX11_send 46 = .ok (.aload_n 0, 1) := by decide +kernel
theorem dX11_send_47 : decode cX11_send 47 = .ok (.getfield 35, 3) := by decide +kernel
theorem dX11_send_50 : decode cX11_send 50 = .ok (.if_icmp .eq 5, 3) := by decide +kernel
theorem dX11_send_53 : decode cX11_send 53 = .ok (.iconst 2, 1) := by decide +kernel
theorem dX11_send_54 : decode cX11_send 54 = .ok (.ireturn, 1) := by decide +kernel
theorem dX11_send_55 : decode cX11_send 55 = .ok (.aload_n 0, 1) := by decide +kernel
theorem dX11_send_56 : decode cX11_send 56 = .ok (.getfield 38, 3) := by decide +kernel
theorem dX11_send_59 : decode cX11_send 59 = .ok (.iload_n 2, 1) := by decide +kernel
theorem dX11_send_60 : decode cX11_send 60 = .ok (.iaload, 1) := by decide +kernel
theorem dX11_send_61 : decode cX11_send 61 = .ok (.bipush 12, 2) := by decide +kernel
theorem dX11_send_63 : decode cX11_send 63 = .ok (.if_icmp .ne 5, 3) := by decide +kernel
theorem dX11_send_66 : decode cX11_send 66 = .ok (.iconst 3, 1) := by decide +kernel
theorem dX11_send_67 : decode cX11_send 67 = .ok (.ireturn, 1) := by decide +kernel
theorem dX11_send_68 : decode cX11_send 68 = .ok (.bipush 13, 2) := by decide +kernel
theorem dX11_send_70 : decode cX11_send 70 = .ok (.bipush 12, 2) := by decide +kernel
theorem dX11_send_72 : decode cX11_send 72 = .ok (.iload_n 2, 1) := by decide +kernel
theorem dX11_send_73 : decode cX11_send 73 = .ok (.imul, 1) := by decide +kernel
theorem dX11_send_74 : decode cX11_send 74 = .ok (.aload_n 0, 1) := by decide +kernel
theorem dX11_send_75 : decode cX11_send 75 = .ok (.getfield 38, 3) := by decide +kernel
theorem dX11_send_78 : decode cX11_send 78 = .ok (.iload_n 2, 1) := by decide +kernel
theorem dX11_send_79 : decode cX11_send 79 = .ok (.iaload, 1) := by decide +kernel
theorem dX11_send_80 : decode cX11_send 80 = .ok (.iadd, 1) := by decide +kernel
theorem dX11_send_81 : decode cX11_send 81 = .ok (.imul, 1) := by decide +kernel
theorem dX11_send_82 : decode cX11_send 82 = .ok (.istore 4, 2) := by decide +kernel
theorem dX11_send_84 : decode cX11_send 84 = .ok (.aload_n 0, 1) := by decide +kernel
theorem dX11_send_85 : decode cX11_send 85 = .ok (.getfield 7, 3) := by decide +kernel
theorem dX11_send_88 : decode cX11_send 88 = .ok (.iconst 0, 1) := by decide +kernel
theorem dX11_send_89 : decode cX11_send 89 = .ok (.iload_n 1, 1) := by decide +kernel
theorem dX11_send_90 : decode cX11_send 90 = .ok (.iastore, 1) := by decide +kernel
theorem dX11_send_91 : decode cX11_send 91 = .ok (.iconst 0, 1) := by decide +kernel
theorem dX11_send_92 : decode cX11_send 92 = .ok (.istore 5, 2) := by decide +kernel
theorem dX11_send_94 : decode cX11_send 94 = .ok (.iload 5, 2) := by decide +kernel
theorem dX11_send_96 : decode cX11_send 96 = .ok (.bipush 13, 2) := by decide +kernel
theorem dX11_send_98 : decode cX11_send 98 = .ok (.if_icmp .ge 26, 3) := by decide +kernel
theorem dX11_send_101 : decode cX11_send 101 = .ok (.aload_n 0, 1) := by decide +kernel
theorem dX11_send_102 : decode cX11_send 102 = .ok (.getfield 41, 3) := by decide +kernel
theorem dX11_send_105 : decode cX11_send 105 = .ok (.iload 4, 2) := by decide +kernel
theorem dX11_send_107 : decode cX11_send 107 = .ok (.iload 5, 2) := by decide +kernel
theorem dX11_send_109 : decode cX11_send 109 = .ok (.iadd, 1) := by decide +kernel
theorem dX11_send_110 : decode cX11_send 110 = .ok (.aload_n 0, 1) := by decide +kernel
theorem dX11_send_111 : decode cX11_send 111 = .ok (.getfield 7, 3) := by decide +kernel
theorem dX11_send_114 : decode cX11_send 114 = .ok (.iload 5, 2) := by decide +kernel
theorem dX11_send_116 : decode cX11_send 116 = .ok (.iaload, 1) := by decide +kernel
theorem dX11_send_117 : decode cX11_send 117 = .ok (.iastore, 1) := by decide +kernel
theorem dX11_send_118 : decode cX11_send 118 = .ok (.iinc 5 1, 3) := by decide +kernel
theorem dX11_send_121 : decode cX11_send 121 = .ok (.goto (-27), 3) := by decide +kernel
theorem dX11_send_124 : decode cX11_send 124 = .ok (.aload_n 0, 1) := by decide +kernel
theorem dX11_send_125 : decode cX11_send 125 = .ok (.getfield 38, 3) := by decide +kernel
theorem dX11_send_128 : decode cX11_send 128 = .ok (.iload_n 2, 1) := by decide +kernel
theorem dX11_send_129 : decode cX11_send 129 = .ok (.dup2, 1) := by decide +kernel
theorem dX11_send_130 : decode cX11_send 130 = .ok (.iaload, 1) := by decide +kernel
theorem dX11_send_131 : decode cX11_send 131 = .ok (.iconst 1, 1) := by decide +kernel
theorem dX11_send_132 : decode cX11_send 132 = .ok (.iadd, 1) := by decide +kernel
theorem dX11_send_133 : decode cX11_send 133 = .ok (.iastore, 1) := by decide +kernel
theorem dX11_send_134 : decode cX11_send 134 = .ok (.aload_n 0, 1) := by decide +kernel
theorem dX11_send_135 : decode cX11_send 135 = .ok (.dup, 1) := by decide +kernel
theorem dX11_send_136 : decode cX11_send 136 = .ok (.getfield 44, 3) := by decide +kernel
theorem dX11_send_139 : decode cX11_send 139 = .ok (.iconst 1, 1) := by decide +kernel
theorem dX11_send_140 : decode cX11_send 140 = .ok (.iadd, 1) := by decide +kernel
theorem dX11_send_141 : decode cX11_send 141 = .ok (.putfield 44, 3) := by decide +kernel
theorem dX11_send_144 : decode cX11_send 144 = .ok (.iconst 0, 1) := by decide +kernel
theorem dX11_send_145 : decode cX11_send 145 = .ok (.ireturn, 1) := by decide +kernel
theorem dX11_sends_0 : decode cX11_sends 0 = .ok (.aload_n 0, 1) := by decide +kernel
theorem dX11_sends_1 : decode cX11_sends 1 = .ok (.iload_n 1, 1) := by decide +kernel
theorem dX11_sends_2 : decode cX11_sends 2 = .ok (.iload_n 2, 1) := by decide +kernel
theorem dX11_sends_3 : decode cX11_sends 3 = .ok (.iconst 1, 1) := by decide +kernel
theorem dX11_sends_4 : decode cX11_sends 4 = .ok (.invokevirtual 47, 3) := by decide +kernel
theorem dX11_sends_7 : decode cX11_sends 7 = .ok (.iconst 3, 1) := by decide +kernel
theorem dX11_sends_8 : decode cX11_sends 8 = .ok (.if_icmp .ne 41, 3) := by decide +kernel
theorem dX11_sends_11 : decode cX11_sends 11 = .ok (.iconst 0, 1) := by decide +kernel
theorem dX11_sends_12 : decode cX11_sends 12 = .ok (.istore_n 3, 1) := by decide +kernel
theorem dX11_sends_13 : decode cX11_sends 13 = .ok (.iload_n 3, 1) := by decide +kernel
theorem dX11_sends_14 : decode cX11_sends 14 = .ok (.bipush 13, 2) := by decide +kernel
theorem dX11_sends_16 : decode cX11_sends 16 = .ok (.if_icmp .ge 26, 3) := by decide +kernel
theorem dX11_sends_19 : decode cX11_sends 19 = .ok (.aload_n 0, 1) := by decide +kernel
theorem dX11_sends_20 : decode cX11_sends 20 = .ok (.getfield 51, 3) := by decide +kernel
theorem dX11_sends_23 : decode cX11_sends 23 = .ok (.bipush 13, 2) := by decide +kernel
theorem dX11_sends_25 : decode cX11_sends 25 = .ok (.iload_n 1, 1) := by decide +kernel
theorem dX11_sends_26 : decode cX11_sends 26 = .ok (.imul, 1) := by decide +kernel
theorem dX11_sends_27 : decode cX11_sends 27 = .ok (.iload_n 3, 1) := by decide +kernel
theorem dX11_sends_28 : decode cX11_sends 28 = .ok (.iadd, 1) := by decide +kernel
theorem dX11_sends_29 : decode cX11_sends 29 = .ok (.aload_n 0, 1) := by decide +kernel
theorem dX11_sends_30 : decode cX11_sends 30 = .ok (.getfield 7, 3) := by decide +kernel
theorem dX11_sends_33 : decode cX11_sends 33 = .ok (.iload_n 3, 1) := by decide +kernel
theorem dX11_sends_34 : decode cX11_sends 34 = .ok (.iaload, 1) := by decide +kernel
theorem dX11_sends_35 : decode cX11_sends 35 = .ok (.iastore, 1) := by decide +kernel
theorem dX11_sends_36 : decode cX11_sends 36 = .ok (.iinc 3 1, 3) := by decide +kernel
theorem dX11_sends_39 : decode cX11_sends 39 = .ok (.goto (-26), 3) := by decide +kernel
theorem dX11_sends_42 : decode cX11_sends 42 = .ok (.aload_n 0, 1) := by decide +kernel
theorem dX11_sends_43 : decode cX11_sends 43 = .ok (.getfield 54, 3) := by decide +kernel
theorem dX11_sends_46 : decode cX11_sends 46 = .ok (.iload_n 1, 1) := by decide +kernel
theorem dX11_sends_47 : decode cX11_sends 47 = .ok (.iload_n 2, 1) := by decide +kernel
theorem dX11_sends_48 : decode cX11_sends 48 = .ok (.iastore, 1) := by decide +kernel
theorem dX11_sends_49 : decode cX11_sends 49 = .ok (.return_, 1) := by decide +kernel
theorem dX11_sendsAgain_0 : decode cX11_sendsAgain 0 = .ok (.aload_n 0, 1) := by decide +kernel
theorem dX11_sendsAgain_1 : decode cX11_sendsAgain 1 = .ok (.getfield 54, 3) := by decide +kernel
theorem dX11_sendsAgain_4 : decode cX11_sendsAgain 4 = .ok (.iload_n 1, 1) := by decide +kernel
theorem dX11_sendsAgain_5 : decode cX11_sendsAgain 5 = .ok (.iaload, 1) := by decide +kernel
theorem dX11_sendsAgain_6 : decode cX11_sendsAgain 6 = .ok (.ifCond .ge 5, 3) := by decide +kernel
theorem dX11_sendsAgain_9 : decode cX11_sendsAgain 9 = .ok (.iconst 0, 1) := by decide +kernel
theorem dX11_sendsAgain_10 : decode cX11_sendsAgain 10 = .ok (.ireturn, 1) := by decide +kernel
theorem dX11_sendsAgain_11 : decode cX11_sendsAgain 11 = .ok (.iconst 0, 1) := by decide +kernel
theorem dX11_sendsAgain_12 : decode cX11_sendsAgain 12 = .ok (.istore_n 2, 1) := by decide +kernel
theorem dX11_sendsAgain_13 : decode cX11_sendsAgain 13 = .ok (.iload_n 2, 1) := by decide +kernel
theorem dX11_sendsAgain_14 : decode cX11_sendsAgain 14 = .ok (.bipush 13, 2) := by decide +kernel
theorem dX11_sendsAgain_16 : decode cX11_sendsAgain 16 = .ok (.if_icmp .ge 26, 3) := by decide +kernel
theorem dX11_sendsAgain_19 : decode cX11_sendsAgain 19 = .ok (.aload_n 0, 1) := by decide +kernel
theorem dX11_sendsAgain_20 : decode cX11_sendsAgain 20 = .ok (.getfield 7, 3) := by decide +kernel
theorem dX11_sendsAgain_23 : decode cX11_sendsAgain 23 = .ok (.iload_n 2, 1) := by decide +kernel
theorem dX11_sendsAgain_24 : decode cX11_sendsAgain 24 = .ok (.aload_n 0, 1) := by decide +kernel
theorem dX11_sendsAgain_25 : decode cX11_sendsAgain 25 = .ok (.getfield 51, 3) := by decide +kernel
theorem dX11_sendsAgain_28 : decode cX11_sendsAgain 28 = .ok (.bipush 13, 2) := by decide +kernel
theorem dX11_sendsAgain_30 : decode cX11_sendsAgain 30 = .ok (.iload_n 1, 1) := by decide +kernel
theorem dX11_sendsAgain_31 : decode cX11_sendsAgain 31 = .ok (.imul, 1) := by decide +kernel
theorem dX11_sendsAgain_32 : decode cX11_sendsAgain 32 = .ok (.iload_n 2, 1) := by decide +kernel
theorem dX11_sendsAgain_33 : decode cX11_sendsAgain 33 = .ok (.iadd, 1) := by decide +kernel
theorem dX11_sendsAgain_34 : decode cX11_sendsAgain 34 = .ok (.iaload, 1) := by decide +kernel
theorem dX11_sendsAgain_35 : decode cX11_sendsAgain 35 = .ok (.iastore, 1) := by decide +kernel
theorem dX11_sendsAgain_36 : decode cX11_sendsAgain 36 = .ok (.iinc 2 1, 3) := by decide +kernel
theorem dX11_sendsAgain_39 : decode cX11_sendsAgain 39 = .ok (.goto (-26), 3) := by decide +kernel
theorem dX11_sendsAgain_42 : decode cX11_sendsAgain 42 = .ok (.aload_n 0, 1) := by decide +kernel
theorem dX11_sendsAgain_43 : decode cX11_sendsAgain 43 = .ok (.getfield 54, 3) := by decide +kernel
theorem dX11_sendsAgain_46 : decode cX11_sendsAgain 46 = .ok (.iload_n 1, 1) := by decide +kernel
theorem dX11_sendsAgain_47 : decode cX11_sendsAgain 47 = .ok (.iaload, 1) := by decide +kernel
theorem dX11_sendsAgain_48 : decode cX11_sendsAgain 48 = .ok (.istore_n 2, 1) := by decide +kernel
theorem dX11_sendsAgain_49 : decode cX11_sendsAgain 49 = .ok (.aload_n 0, 1) := by decide +kernel
theorem dX11_sendsAgain_50 : decode cX11_sendsAgain 50 = .ok (.getfield 54, 3) := by decide +kernel
theorem dX11_sendsAgain_53 : decode cX11_sendsAgain 53 = .ok (.iload_n 1, 1) := by decide +kernel
theorem dX11_sendsAgain_54 : decode cX11_sendsAgain 54 = .ok (.iconst (-1), 1) := by decide +kernel
theorem dX11_sendsAgain_55 : decode cX11_sendsAgain 55 = .ok (.iastore, 1) := by decide +kernel
theorem dX11_sendsAgain_56 : decode cX11_sendsAgain 56 = .ok (.aload_n 0, 1) := by decide +kernel
theorem dX11_sendsAgain_57 : decode cX11_sendsAgain 57 = .ok (.iload_n 1, 1) := by decide +kernel
theorem dX11_sendsAgain_58 : decode cX11_sendsAgain 58 = .ok (.iload_n 2, 1) := by decide +kernel
theorem dX11_sendsAgain_59 : decode cX11_sendsAgain 59 = .ok (.invokevirtual 57, 3) := by decide +kernel
theorem dX11_sendsAgain_62 : decode cX11_sendsAgain 62 = .ok (.iconst 1, 1) := by decide +kernel
theorem dX11_sendsAgain_63 : decode cX11_sendsAgain 63 = .ok (.ireturn, 1) := by decide +kernel
theorem dX11_takeOut_0 : decode cX11_takeOut 0 = .ok (.bipush 13, 2) := by decide +kernel
theorem dX11_takeOut_2 : decode cX11_takeOut 2 = .ok (.bipush 12, 2) := by decide +kernel
theorem dX11_takeOut_4 : decode cX11_takeOut 4 = .ok (.iload_n 1, 1) := by decide +kernel
theorem dX11_takeOut_5 : decode cX11_takeOut 5 = .ok (.imul, 1) := by decide +kernel
theorem dX11_takeOut_6 : decode cX11_takeOut 6 = .ok (.iload_n 2, 1) := by decide +kernel
theorem dX11_takeOut_7 : decode cX11_takeOut 7 = .ok (.iadd, 1) := by decide +kernel
theorem dX11_takeOut_8 : decode cX11_takeOut 8 = .ok (.imul, 1) := by decide +kernel
theorem dX11_takeOut_9 : decode cX11_takeOut 9 = .ok (.istore_n 3, 1) := by decide +kernel
theorem dX11_takeOut_10 : decode cX11_takeOut 10 = .ok (.iconst 0, 1) := by decide +kernel
theorem dX11_takeOut_11 : decode cX11_takeOut 11 = .ok (.istore 4, 2) := by decide +kernel
theorem dX11_takeOut_13 : decode cX11_takeOut 13 = .ok (.iload 4, 2) := by decide +kernel
theorem dX11_takeOut_15 : decode cX11_takeOut 15 = .ok (.bipush 13, 2) := by decide +kernel
theorem dX11_takeOut_17 : decode cX11_takeOut 17 = .ok (.if_icmp .ge 25, 3) := by decide +kernel
theorem dX11_takeOut_20 : decode cX11_takeOut 20 = .ok (.aload_n 0, 1) := by decide +kernel
theorem dX11_takeOut_21 : decode cX11_takeOut 21 = .ok (.getfield 61, 3) := by decide +kernel
theorem dX11_takeOut_24 : decode cX11_takeOut 24 = .ok (.iload 4, 2) := by decide +kernel
theorem dX11_takeOut_26 : decode cX11_takeOut 26 = .ok (.aload_n 0, 1) := by decide +kernel
theorem dX11_takeOut_27 : decode cX11_takeOut 27 = .ok (.getfield 41, 3) := by decide +kernel
theorem dX11_takeOut_30 : decode cX11_takeOut 30 = .ok (.iload_n 3, 1) := by decide +kernel
theorem dX11_takeOut_31 : decode cX11_takeOut 31 = .ok (.iload 4, 2) := by decide +kernel
theorem dX11_takeOut_33 : decode cX11_takeOut 33 = .ok (.iadd, 1) := by decide +kernel
theorem dX11_takeOut_34 : decode cX11_takeOut 34 = .ok (.iaload, 1) := by decide +kernel
theorem dX11_takeOut_35 : decode cX11_takeOut 35 = .ok (.iastore, 1) := by decide +kernel
theorem dX11_takeOut_36 : decode cX11_takeOut 36 = .ok (.iinc 4 1, 3) := by decide +kernel
theorem dX11_takeOut_39 : decode cX11_takeOut 39 = .ok (.goto (-26), 3) := by decide +kernel
theorem dX11_takeOut_42 : decode cX11_takeOut 42 = .ok (.aload_n 0, 1) := by decide +kernel
theorem dX11_takeOut_43 : decode cX11_takeOut 43 = .ok (.iload_n 1, 1) := by decide +kernel
theorem dX11_takeOut_44 : decode cX11_takeOut 44 = .ok (.iload_n 2, 1) := by decide +kernel
theorem dX11_takeOut_45 : decode cX11_takeOut 45 = .ok (.invokevirtual 64, 3) := by decide +kernel
theorem dX11_takeOut_48 : decode cX11_takeOut 48 = .ok (.return_, 1) := by decide +kernel
theorem dX11_drop_0 : decode cX11_drop 0 = .ok (.aload_n 0, 1) := by decide +kernel
theorem dX11_drop_1 : decode cX11_drop 1 = .ok (.getfield 38, 3) := by decide +kernel
theorem dX11_drop_4 : decode cX11_drop 4 = .ok (.iload_n 1, 1) := by decide +kernel
theorem dX11_drop_5 : decode cX11_drop 5 = .ok (.dup2, 1) := by decide +kernel
theorem dX11_drop_6 : decode cX11_drop 6 = .ok (.iaload, 1) := by decide +kernel
theorem dX11_drop_7 : decode cX11_drop 7 = .ok (.iconst 1, 1) := by decide +kernel
theorem dX11_drop_8 : decode cX11_drop 8 = .ok (.isub, 1) := by decide +kernel
theorem dX11_drop_9 : decode cX11_drop 9 = .ok (.iastore, 1) := by decide +kernel
theorem dX11_drop_10 : decode cX11_drop 10 = .ok (.bipush 13, 2) := by decide +kernel
theorem dX11_drop_12 : decode cX11_drop 12 = .ok (.bipush 12, 2) := by decide +kernel
theorem dX11_drop_14 : decode cX11_drop 14 = .ok (.iload_n 1, 1) := by decide +kernel
theorem dX11_drop_15 : decode cX11_drop 15 = .ok (.imul, 1) := by decide +kernel
theorem dX11_drop_16 : decode cX11_drop 16 = .ok (.iload_n 2, 1) := by decide +kernel
theorem dX11_drop_17 : decode cX11_drop 17 = .ok (.iadd, 1) := by decide +kernel
theorem dX11_drop_18 : decode cX11_drop 18 = .ok (.imul, 1) := by decide +kernel
theorem dX11_drop_19 : decode cX11_drop 19 = .ok (.istore_n 3, 1) := by decide +kernel
theorem dX11_drop_20 : decode cX11_drop 20 = .ok (.iload_n 3, 1) := by decide +kernel
theorem dX11_drop_21 : decode cX11_drop 21 = .ok (.bipush 13, 2) := by decide +kernel
theorem dX11_drop_23 : decode cX11_drop 23 = .ok (.bipush 12, 2) := by decide +kernel
theorem dX11_drop_25 : decode cX11_drop 25 = .ok (.iload_n 1, 1) := by decide +kernel
theorem dX11_drop_26 : decode cX11_drop 26 = .ok (.imul, 1) := by decide +kernel
theorem dX11_drop_27 : decode cX11_drop 27 = .ok (.aload_n 0, 1) := by decide +kernel
theorem dX11_drop_28 : decode cX11_drop 28 = .ok (.getfield 38, 3) := by decide +kernel
theorem dX11_drop_31 : decode cX11_drop 31 = .ok (.iload_n 1, 1) := by decide +kernel
theorem dX11_drop_32 : decode cX11_drop 32 = .ok (.iaload, 1) := by decide +kernel
theorem dX11_drop_33 : decode cX11_drop 33 = .ok (.iadd, 1) := by decide +kernel
theorem dX11_drop_34 : decode cX11_drop 34 = .ok (.imul, 1) := by decide +kernel
theorem dX11_drop_35 : decode cX11_drop 35 = .ok (.if_icmp .ge 24, 3) := by decide +kernel
theorem dX11_drop_38 : decode cX11_drop 38 = .ok (.aload_n 0, 1) := by decide +kernel
theorem dX11_drop_39 : decode cX11_drop 39 = .ok (.getfield 41, 3) := by decide +kernel
theorem dX11_drop_42 : decode cX11_drop 42 = .ok (.iload_n 3, 1) := by decide +kernel
theorem dX11_drop_43 : decode cX11_drop 43 = .ok (.aload_n 0, 1) := by decide +kernel
theorem dX11_drop_44 : decode cX11_drop 44 = .ok (.getfield 41, 3) := by decide +kernel
theorem dX11_drop_47 : decode cX11_drop 47 = .ok (.iload_n 3, 1) := by decide +kernel
theorem dX11_drop_48 : decode cX11_drop 48 = .ok (.bipush 13, 2) := by decide +kernel
theorem dX11_drop_50 : decode cX11_drop 50 = .ok (.iadd, 1) := by decide +kernel
theorem dX11_drop_51 : decode cX11_drop 51 = .ok (.iaload, 1) := by decide +kernel
theorem dX11_drop_52 : decode cX11_drop 52 = .ok (.iastore, 1) := by decide +kernel
theorem dX11_drop_53 : decode cX11_drop 53 = .ok (.iinc 3 1, 3) := by decide +kernel
theorem dX11_drop_56 : decode cX11_drop 56 = .ok (.goto (-36), 3) := by decide +kernel
theorem dX11_drop_59 : decode cX11_drop 59 = .ok (.return_, 1) := by decide +kernel
theorem dX11_field_0 : decode cX11_field 0 = .ok (.aload_n 0, 1) := by decide +kernel
theorem dX11_field_1 : decode cX11_field 1 = .ok (.getfield 41, 3) := by decide +kernel
theorem dX11_field_4 : decode cX11_field 4 = .ok (.bipush 13, 2) := by decide +kernel
theorem dX11_field_6 : decode cX11_field 6 = .ok (.bipush 12, 2) := by decide +kernel
theorem dX11_field_8 : decode cX11_field 8 = .ok (.iload_n 1, 1) := by decide +kernel
theorem dX11_field_9 : decode cX11_field 9 = .ok (.imul, 1) := by decide +kernel
theorem dX11_field_10 : decode cX11_field 10 = .ok (.iload_n 2, 1) := by decide +kernel
theorem dX11_field_11 : decode cX11_field 11 = .ok (.iadd, 1) := by decide +kernel
theorem dX11_field_12 : decode cX11_field 12 = .ok (.imul, 1) := by decide +kernel
theorem dX11_field_13 : decode cX11_field 13 = .ok (.iload_n 3, 1) := by decide +kernel
theorem dX11_field_14 : decode cX11_field 14 = .ok (.iadd, 1) := by decide +kernel
theorem dX11_field_15 : decode cX11_field 15 = .ok (.iaload, 1) := by decide +kernel
theorem dX11_field_16 : decode cX11_field 16 = .ok (.ireturn, 1) := by decide +kernel
theorem dX11_init_0 : decode cX11_init 0 = .ok (.aload_n 0, 1) := by decide +kernel
theorem dX11_init_1 : decode cX11_init 1 = .ok (.invokespecial 67, 3) := by decide +kernel
theorem dX11_init_4 : decode cX11_init 4 = .ok (.aload_n 0, 1) := by decide +kernel
theorem dX11_init_5 : decode cX11_init 5 = .ok (.sipush 1872, 3) := by decide +kernel
theorem dX11_init_8 : decode cX11_init 8 = .ok (.newarray .int, 2) := by decide +kernel
theorem dX11_init_10 : decode cX11_init 10 = .ok (.putfield 41, 3) := by decide +kernel
theorem dX11_init_13 : decode cX11_init 13 = .ok (.aload_n 0, 1) := by decide +kernel
theorem dX11_init_14 : decode cX11_init 14 = .ok (.bipush 12, 2) := by decide +kernel
theorem dX11_init_16 : decode cX11_init 16 = .ok (.newarray .int, 2) := by decide +kernel
theorem dX11_init_18 : decode cX11_init 18 = .ok (.putfield 38, 3) := by decide +kernel
theorem dX11_init_21 : decode cX11_init 21 = .ok (.aload_n 0, 1) := by decide +kernel
theorem dX11_init_22 : decode cX11_init 22 = .ok (.bipush 13, 2) := by decide +kernel
theorem dX11_init_24 : decode cX11_init 24 = .ok (.newarray .int, 2) := by decide +kernel
theorem dX11_init_26 : decode cX11_init 26 = .ok (.putfield 7, 3) := by decide +kernel
theorem dX11_init_29 : decode cX11_init 29 = .ok (.aload_n 0, 1) := by decide +kernel
theorem dX11_init_30 : decode cX11_init 30 = .ok (.sipush 156, 3) := by decide +kernel
theorem dX11_init_33 : decode cX11_init 33 = .ok (.newarray .int, 2) := by decide +kernel
theorem dX11_init_35 : decode cX11_init 35 = .ok (.putfield 51, 3) := by decide +kernel
theorem dX11_init_38 : decode cX11_init 38 = .ok (.aload_n 0, 1) := by decide +kernel
theorem dX11_init_39 : decode cX11_init 39 = .ok (.bipush 12, 2) := by decide +kernel
theorem dX11_init_41 : decode cX11_init 41 = .ok (.newarray .int, 2) := by decide +kernel
theorem dX11_init_43 : decode cX11_init 43 = .ok (.putfield 54, 3) := by decide +kernel
theorem dX11_init_46 : decode cX11_init 46 = .ok (.aload_n 0, 1) := by decide +kernel
theorem dX11_init_47 : decode cX11_init 47 = .ok (.bipush 13, 2) := by decide +kernel
theorem dX11_init_49 : decode cX11_init 49 = .ok (.newarray .int, 2) := by decide +kernel
theorem dX11_init_51 : decode cX11_init 51 = .ok (.putfield 61, 3) := by decide +kernel
theorem dX11_init_54 : decode cX11_init 54 = .ok (.aload_n 0, 1) := by decide +kernel
theorem dX11_init_55 : decode cX11_init 55 = .ok (.bipush 12, 2) := by decide +kernel
theorem dX11_init_57 : decode cX11_init 57 = .ok (.newarray .int, 2) := by decide +kernel
theorem dX11_init_59 : decode cX11_init 59 = .ok (.putfield 19, 3) := by decide +kernel
theorem dX11_init_62 : decode cX11_init 62 = .ok (.aload_n 0, 1) := by decide +kernel
theorem dX11_init_63 : decode cX11_init 63 = .ok (.bipush 12, 2) := by decide +kernel
theorem dX11_init_65 : decode cX11_init 65 = .ok (.newarray .boolean, 2) := by decide +kernel
theorem dX11_init_67 : decode cX11_init 67 = .ok (.putfield 73, 3) := by decide +kernel
theorem dX11_init_70 : decode cX11_init 70 = .ok (.aload_n 0, 1) := by decide +kernel
theorem dX11_init_71 : decode cX11_init 71 = .ok (.bipush 12, 2) := by decide +kernel
theorem dX11_init_73 : decode cX11_init 73 = .ok (.newarray .int, 2) := by decide +kernel
theorem dX11_init_75 : decode cX11_init 75 = .ok (.putfield 77, 3) := by decide +kernel
theorem dX11_init_78 : decode cX11_init 78 = .ok (.aload_n 0, 1) := by decide +kernel
theorem dX11_init_79 : decode cX11_init 79 = .ok (.bipush 12, 2) := by decide +kernel
theorem dX11_init_81 : decode cX11_init 81 = .ok (.newarray .int, 2) := by decide +kernel
theorem dX11_init_83 : decode cX11_init 83 = .ok (.putfield 80, 3) := by decide +kernel
theorem dX11_init_86 : decode cX11_init 86 = .ok (.aload_n 0, 1) := by decide +kernel
theorem dX11_init_87 : decode cX11_init 87 = .ok (.bipush 12, 2) := by decide +kernel
theorem dX11_init_89 : decode cX11_init 89 = .ok (.newarray .int, 2) := by decide +kernel
theorem dX11_init_91 : decode cX11_init 91 = .ok (.putfield 83, 3) := by decide +kernel
theorem dX11_init_94 : decode cX11_init 94 = .ok (.aload_n 0, 1) := by decide +kernel
theorem dX11_init_95 : decode cX11_init 95 = .ok (.bipush 12, 2) := by decide +kernel
theorem dX11_init_97 : decode cX11_init 97 = .ok (.newarray .int, 2) := by decide +kernel
theorem dX11_init_99 : decode cX11_init 99 = .ok (.putfield 86, 3) := by decide +kernel
theorem dX11_init_102 : decode cX11_init 102 = .ok (.aload_n 0, 1) := by decide +kernel
theorem dX11_init_103 : decode cX11_init 103 = .ok (.bipush 12, 2) := by decide +kernel
theorem dX11_init_105 : decode cX11_init 105 = .ok (.newarray .boolean, 2) := by decide +kernel
theorem dX11_init_107 : decode cX11_init 107 = .ok (.putfield 89, 3) := by decide +kernel
theorem dX11_init_110 : decode cX11_init 110 = .ok (.aload_n 0, 1) := by decide +kernel
theorem dX11_init_111 : decode cX11_init 111 = .ok (.bipush 48, 2) := by decide +kernel
theorem dX11_init_113 : decode cX11_init 113 = .ok (.newarray .int, 2) := by decide +kernel
theorem dX11_init_115 : decode cX11_init 115 = .ok (.putfield 92, 3) := by decide +kernel
theorem dX11_init_118 : decode cX11_init 118 = .ok (.aload_n 0, 1) := by decide +kernel
theorem dX11_init_119 : decode cX11_init 119 = .ok (.bipush 48, 2) := by decide +kernel
theorem dX11_init_121 : decode cX11_init 121 = .ok (.newarray .int, 2) := by decide +kernel
theorem dX11_init_123 : decode cX11_init 123 = .ok (.putfield 95, 3) := by decide +kernel
theorem dX11_init_126 : decode cX11_init 126 = .ok (.aload_n 0, 1) := by decide +kernel
theorem dX11_init_127 : decode cX11_init 127 = .ok (.bipush 16, 2) := by decide +kernel
theorem dX11_init_129 : decode cX11_init 129 = .ok (.newarray .boolean, 2) := by decide +kernel
theorem dX11_init_131 : decode cX11_init 131 = .ok (.putfield 98, 3) := by decide +kernel
theorem dX11_init_134 : decode cX11_init 134 = .ok (.aload_n 0, 1) := by decide +kernel
theorem dX11_init_135 : decode cX11_init 135 = .ok (.bipush 16, 2) := by decide +kernel
theorem dX11_init_137 : decode cX11_init 137 = .ok (.newarray .int, 2) := by decide +kernel
theorem dX11_init_139 : decode cX11_init 139 = .ok (.putfield 101, 3) := by decide +kernel
theorem dX11_init_142 : decode cX11_init 142 = .ok (.aload_n 0, 1) := by decide +kernel
theorem dX11_init_143 : decode cX11_init 143 = .ok (.bipush 64, 2) := by decide +kernel
theorem dX11_init_145 : decode cX11_init 145 = .ok (.newarray .int, 2) := by decide +kernel
theorem dX11_init_147 : decode cX11_init 147 = .ok (.putfield 104, 3) := by decide +kernel
theorem dX11_init_150 : decode cX11_init 150 = .ok (.aload_n 0, 1) := by decide +kernel
theorem dX11_init_151 : decode cX11_init 151 = .ok (.bipush 24, 2) := by decide +kernel
theorem dX11_init_153 : decode cX11_init 153 = .ok (.newarray .boolean, 2) := by decide +kernel
theorem dX11_init_155 : decode cX11_init 155 = .ok (.putfield 107, 3) := by decide +kernel
theorem dX11_init_158 : decode cX11_init 158 = .ok (.aload_n 0, 1) := by decide +kernel
theorem dX11_init_159 : decode cX11_init 159 = .ok (.sipush 192, 3) := by decide +kernel
theorem dX11_init_162 : decode cX11_init 162 = .ok (.newarray .int, 2) := by decide +kernel
theorem dX11_init_164 : decode cX11_init 164 = .ok (.putfield 110, 3) := by decide +kernel
theorem dX11_init_167 : decode cX11_init 167 = .ok (.aload_n 0, 1) := by decide +kernel
theorem dX11_init_168 : decode cX11_init 168 = .ok (.iconst 1, 1) := by decide +kernel
theorem dX11_init_169 : decode cX11_init 169 = .ok (.putfield 15, 3) := by decide +kernel
theorem dX11_init_172 : decode cX11_init 172 = .ok (.aload_n 0, 1) := by decide +kernel
theorem dX11_init_173 : decode cX11_init 173 = .ok (.iconst 1, 1) := by decide +kernel
theorem dX11_init_174 : decode cX11_init 174 = .ok (.putfield 35, 3) := by decide +kernel
theorem dX11_init_177 : decode cX11_init 177 = .ok (.aload_n 0, 1) := by decide +kernel
theorem dX11_init_178 : decode cX11_init 178 = .ok (.bipush 8, 2) := by decide +kernel
theorem dX11_init_180 : decode cX11_init 180 = .ok (.newarray .int, 2) := by decide +kernel
theorem dX11_init_182 : decode cX11_init 182 = .ok (.putfield 113, 3) := by decide +kernel
theorem dX11_init_185 : decode cX11_init 185 = .ok (.aload_n 0, 1) := by decide +kernel
theorem dX11_init_186 : decode cX11_init 186 = .ok (.iconst 1, 1) := by decide +kernel
theorem dX11_init_187 : decode cX11_init 187 = .ok (.putfield 32, 3) := by decide +kernel
theorem dX11_init_190 : decode cX11_init 190 = .ok (.aload_n 0, 1) := by decide +kernel
theorem dX11_init_191 : decode cX11_init 191 = .ok (.bipush 8, 2) := by decide +kernel
theorem dX11_init_193 : decode cX11_init 193 = .ok (.newarray .int, 2) := by decide +kernel
theorem dX11_init_195 : decode cX11_init 195 = .ok (.putfield 116, 3) := by decide +kernel
theorem dX11_init_198 : decode cX11_init 198 = .ok (.iconst 0, 1) := by decide +kernel
theorem dX11_init_199 : decode cX11_init 199 = .ok (.istore_n 1, 1) := by decide +kernel
theorem dX11_init_200 : decode cX11_init 200 = .ok (.iload_n 1, 1) := by decide +kernel
theorem dX11_init_201 : decode cX11_init 201 = .ok (.bipush 12, 2) := by decide +kernel
theorem dX11_init_203 : decode cX11_init 203 = .ok (.if_icmp .ge 23, 3) := by decide +kernel
theorem dX11_init_206 : decode cX11_init 206 = .ok (.aload_n 0, 1) := by decide +kernel
theorem dX11_init_207 : decode cX11_init 207 = .ok (.getfield 54, 3) := by decide +kernel
theorem dX11_init_210 : decode cX11_init 210 = .ok (.iload_n 1, 1) := by decide +kernel
theorem dX11_init_211 : decode cX11_init 211 = .ok (.iconst (-1), 1) := by decide +kernel
theorem dX11_init_212 : decode cX11_init 212 = .ok (.iastore, 1) := by decide +kernel
theorem dX11_init_213 : decode cX11_init 213 = .ok (.aload_n 0, 1) := by decide +kernel
theorem dX11_init_214 : decode cX11_init 214 = .ok (.getfield 83, 3) := by decide +kernel
theorem dX11_init_217 : decode cX11_init 217 = .ok (.iload_n 1, 1) := by decide +kernel
theorem dX11_init_218 : decode cX11_init 218 = .ok (.iconst (-1), 1) := by decide +kernel
theorem dX11_init_219 : decode cX11_init 219 = .ok (.iastore, 1) := by decide +kernel
theorem dX11_init_220 : decode cX11_init 220 = .ok (.iinc 1 1, 3) := by decide +kernel
theorem dX11_init_223 : decode cX11_init 223 = .ok (.goto (-23), 3) := by decide +kernel
theorem dX11_init_226 : decode cX11_init 226 = .ok (.iconst 0, 1) := by decide +kernel
theorem dX11_init_227 : decode cX11_init 227 = .ok (.istore_n 1, 1) := by decide +kernel
theorem dX11_init_228 : decode cX11_init 228 = .ok (.iload_n 1, 1) := by decide +kernel
theorem dX11_init_229 : decode cX11_init 229 = .ok (.bipush 48, 2) := by decide +kernel
theorem dX11_init_231 : decode cX11_init 231 = .ok (.if_icmp .ge 16, 3) := by decide +kernel
theorem dX11_init_234 : decode cX11_init 234 = .ok (.aload_n 0, 1) := by decide +kernel
theorem dX11_init_235 : decode cX11_init 235 = .ok (.getfield 92, 3) := by decide +kernel
theorem dX11_init_238 : decode cX11_init 238 = .ok (.iload_n 1, 1) := by decide +kernel
theorem dX11_init_239 : decode cX11_init 239 = .ok (.iconst (-1), 1) := by decide +kernel
theorem dX11_init_240 : decode cX11_init 240 = .ok (.iastore, 1) := by decide +kernel
theorem dX11_init_241 : decode cX11_init 241 = .ok (.iinc 1 1, 3) := by decide +kernel
theorem dX11_init_244 : decode cX11_init 244 = .ok (.goto (-16), 3) := by decide +kernel
theorem dX11_init_247 : decode cX11_init 247 = .ok (.iconst 0, 1) := by decide +kernel
theorem dX11_init_248 : decode cX11_init 248 = .ok (.istore_n 1, 1) := by decide +kernel
theorem dX11_init_249 : decode cX11_init 249 = .ok (.iload_n 1, 1) := by decide +kernel
theorem dX11_init_250 : decode cX11_init 250 = .ok (.bipush 64, 2) := by decide +kernel
theorem dX11_init_252 : decode cX11_init 252 = .ok (.if_icmp .ge 16, 3) := by decide +kernel
theorem dX11_init_255 : decode cX11_init 255 = .ok (.aload_n 0, 1) := by decide +kernel
theorem dX11_init_256 : decode cX11_init 256 = .ok (.getfield 104, 3) := by decide +kernel
theorem dX11_init_259 : decode cX11_init 259 = .ok (.iload_n 1, 1) := by decide +kernel
theorem dX11_init_260 : decode cX11_init 260 = .ok (.iconst (-1), 1) := by decide +kernel
theorem dX11_init_261 : decode cX11_init 261 = .ok (.iastore, 1) := by decide +kernel
theorem dX11_init_262 : decode cX11_init 262 = .ok (.iinc 1 1, 3) := by decide +kernel
theorem dX11_init_265 : decode cX11_init 265 = .ok (.goto (-16), 3) := by decide +kernel
theorem dX11_init_268 : decode cX11_init 268 = .ok (.aload_n 0, 1) := by decide +kernel
theorem dX11_init_269 : decode cX11_init 269 = .ok (.getfield 19, 3) := by decide +kernel
theorem dX11_init_272 : decode cX11_init 272 = .ok (.iconst 4, 1) := by decide +kernel
theorem dX11_init_273 : decode cX11_init 273 = .ok (.iconst 1, 1) := by decide +kernel
theorem dX11_init_274 : decode cX11_init 274 = .ok (.iastore, 1) := by decide +kernel
theorem dX11_init_275 : decode cX11_init 275 = .ok (.return_, 1) := by decide +kernel
theorem dX11_crashesNow_0 : decode cX11_crashesNow 0 = .ok (.aload_n 0, 1) := by decide +kernel
theorem dX11_crashesNow_1 : decode cX11_crashesNow 1 = .ok (.iconst 0, 1) := by decide +kernel
theorem dX11_crashesNow_2 : decode cX11_crashesNow 2 = .ok (.putfield 15, 3) := by decide +kernel
theorem dX11_crashesNow_5 : decode cX11_crashesNow 5 = .ok (.aload_n 0, 1) := by decide +kernel
theorem dX11_crashesNow_6 : decode cX11_crashesNow 6 = .ok (.iconst 0, 1) := by decide +kernel
theorem dX11_crashesNow_7 : decode cX11_crashesNow 7 = .ok (.putfield 119, 3) := by decide +kernel
theorem dX11_crashesNow_10 : decode cX11_crashesNow 10 = .ok (.aload_n 0, 1) := by decide +kernel
theorem dX11_crashesNow_11 : decode cX11_crashesNow 11 = .ok (.iconst 0, 1) := by decide +kernel
theorem dX11_crashesNow_12 : decode cX11_crashesNow 12 = .ok (.putfield 122, 3) := by decide +kernel
theorem dX11_crashesNow_15 : decode cX11_crashesNow 15 = .ok (.aload_n 0, 1) := by decide +kernel
theorem dX11_crashesNow_16 : decode cX11_crashesNow 16 = .ok (.getfield 38, 3) := by decide +kernel
theorem dX11_crashesNow_19 : decode cX11_crashesNow 19 = .ok (.iconst 1, 1) := by decide +kernel
theorem dX11_crashesNow_20 : decode cX11_crashesNow 20 = .ok (.iconst 0, 1) := by decide +kernel
theorem dX11_crashesNow_21 : decode cX11_crashesNow 21 = .ok (.iastore, 1) := by decide +kernel
theorem dX11_crashesNow_22 : decode cX11_crashesNow 22 = .ok (.aload_n 0, 1) := by decide +kernel
theorem dX11_crashesNow_23 : decode cX11_crashesNow 23 = .ok (.iconst 0, 1) := by decide +kernel
theorem dX11_crashesNow_24 : decode cX11_crashesNow 24 = .ok (.putfield 125, 3) := by decide +kernel
theorem dX11_crashesNow_27 : decode cX11_crashesNow 27 = .ok (.aload_n 0, 1) := by decide +kernel
theorem dX11_crashesNow_28 : decode cX11_crashesNow 28 = .ok (.getfield 54, 3) := by decide +kernel
theorem dX11_crashesNow_31 : decode cX11_crashesNow 31 = .ok (.iconst 1, 1) := by decide +kernel
theorem dX11_crashesNow_32 : decode cX11_crashesNow 32 = .ok (.iconst (-1), 1) := by decide +kernel
theorem dX11_crashesNow_33 : decode cX11_crashesNow 33 = .ok (.iastore, 1) := by decide +kernel
theorem dX11_crashesNow_34 : decode cX11_crashesNow 34 = .ok (.aload_n 0, 1) := by decide +kernel
theorem dX11_crashesNow_35 : decode cX11_crashesNow 35 = .ok (.iconst 0, 1) := by decide +kernel
theorem dX11_crashesNow_36 : decode cX11_crashesNow 36 = .ok (.putfield 128, 3) := by decide +kernel
theorem dX11_crashesNow_39 : decode cX11_crashesNow 39 = .ok (.aload_n 0, 1) := by decide +kernel
theorem dX11_crashesNow_40 : decode cX11_crashesNow 40 = .ok (.dup, 1) := by decide +kernel
theorem dX11_crashesNow_41 : decode cX11_crashesNow 41 = .ok (.getfield 131, 3) := by decide +kernel
theorem dX11_crashesNow_44 : decode cX11_crashesNow 44 = .ok (.iconst 1, 1) := by decide +kernel
theorem dX11_crashesNow_45 : decode cX11_crashesNow 45 = .ok (.iadd, 1) := by decide +kernel
theorem dX11_crashesNow_46 : decode cX11_crashesNow 46 = .ok (.putfield 131, 3) := by decide +kernel
theorem dX11_crashesNow_49 : decode cX11_crashesNow 49 = .ok (.return_, 1) := by decide +kernel
theorem dX11_keeper_0 : decode cX11_keeper 0 = .ok (.aload_n 0, 1) := by decide +kernel
theorem dX11_keeper_1 : decode cX11_keeper 1 = .ok (.dup, 1) := by decide +kernel
theorem dX11_keeper_2 : decode cX11_keeper 2 = .ok (.getfield 134, 3) := by decide +kernel
theorem dX11_keeper_5 : decode cX11_keeper 5 = .ok (.iconst 1, 1) := by decide +kernel
theorem dX11_keeper_6 : decode cX11_keeper 6 = .ok (.iadd, 1) := by decide +kernel
theorem dX11_keeper_7 : decode cX11_keeper 7 = .ok (.putfield 134, 3) := by decide +kernel
theorem dX11_keeper_10 : decode cX11_keeper 10 = .ok (.aload_n 0, 1) := by decide +kernel
theorem dX11_keeper_11 : decode cX11_keeper 11 = .ok (.iconst 0, 1) := by decide +kernel
theorem dX11_keeper_12 : decode cX11_keeper 12 = .ok (.invokevirtual 137, 3) := by decide +kernel
theorem dX11_keeper_15 : decode cX11_keeper 15 = .ok (.ifCond .eq 4, 3) := by decide +kernel
theorem dX11_keeper_18 : decode cX11_keeper 18 = .ok (.return_, 1) := by decide +kernel
theorem dX11_keeper_19 : decode cX11_keeper 19 = .ok (.aload_n 0, 1) := by decide +kernel
theorem dX11_keeper_20 : decode cX11_keeper 20 = .ok (.getfield 15, 3) := by decide +kernel
theorem dX11_keeper_23 : decode cX11_keeper 23 = .ok (.ifCond .ne 26, 3) := by decide +kernel
theorem dX11_keeper_26 : decode cX11_keeper 26 = .ok (.aload_n 0, 1) := by decide +kernel
theorem dX11_keeper_27 : decode cX11_keeper 27 = .ok (.dup, 1) := by decide +kernel
theorem dX11_keeper_28 : decode cX11_keeper 28 = .ok (.getfield 128, 3) := by decide +kernel
theorem dX11_keeper_31 : decode cX11_keeper 31 = .ok (.iconst 1, 1) := by decide +kernel
theorem dX11_keeper_32 : decode cX11_keeper 32 = .ok (.iadd, 1) := by decide +kernel
theorem dX11_keeper_33 : decode cX11_keeper 33 = .ok (.putfield 128, 3) := by decide +kernel
theorem dX11_keeper_36 : decode cX11_keeper 36 = .ok (.aload_n 0, 1) := by decide +kernel
theorem dX11_keeper_37 : decode cX11_keeper 37 = .ok (.getfield 128, 3) := by decide +kernel
theorem dX11_keeper_40 : decode cX11_keeper 40 = .ok (.iconst 3, 1) := by decide +kernel
theorem dX11_keeper_41 : decode cX11_keeper 41 = .ok (.if_icmp .ne 7, 3) := by decide +kernel
theorem dX11_keeper_44 : decode cX11_keeper 44 = .ok (.aload_n 0, 1) := by decide +kernel
theorem dX11_keeper_45 : decode cX11_keeper 45 = .ok (.invokevirtual 140, 3) := by decide +kernel
theorem dX11_keeper_48 : decode cX11_keeper 48 = .ok (.return_, 1) := by decide +kernel
theorem dX11_keeper_49 : decode cX11_keeper 49 = .ok (.aload_n 0, 1) := by decide +kernel
theorem dX11_keeper_50 : decode cX11_keeper 50 = .ok (.getfield 38, 3) := by decide +kernel
theorem dX11_keeper_53 : decode cX11_keeper 53 = .ok (.iconst 0, 1) := by decide +kernel
theorem dX11_keeper_54 : decode cX11_keeper 54 = .ok (.iaload, 1) := by decide +kernel
theorem dX11_keeper_55 : decode cX11_keeper 55 = .ok (.ifCond .le 46, 3) := by decide +kernel
theorem dX11_keeper_58 : decode cX11_keeper 58 = .ok (.aload_n 0, 1) := by decide +kernel
theorem dX11_keeper_59 : decode cX11_keeper 59 = .ok (.iconst 0, 1) := by decide +kernel
theorem dX11_keeper_60 : decode cX11_keeper 60 = .ok (.iconst 0, 1) := by decide +kernel
theorem dX11_keeper_61 : decode cX11_keeper 61 = .ok (.invokevirtual 143, 3) := by decide +kernel
theorem dX11_keeper_64 : decode cX11_keeper 64 = .ok (.aload_n 0, 1) := by decide +kernel
theorem dX11_keeper_65 : decode cX11_keeper 65 = .ok (.getfield 61, 3) := by decide +kernel
theorem dX11_keeper_68 : decode cX11_keeper 68 = .ok (.iconst 1, 1) := by decide +kernel
theorem dX11_keeper_69 : decode cX11_keeper 69 = .ok (.iaload, 1) := by decide +kernel
theorem dX11_keeper_70 : decode cX11_keeper 70 = .ok (.ifCond .ne 4, 3) := by decide +kernel
theorem dX11_keeper_73 : decode cX11_keeper 73 = .ok (.return_, 1) := by decide +kernel
theorem dX11_keeper_74 : decode cX11_keeper 74 = .ok (.aload_n 0, 1) := by decide +kernel
theorem dX11_keeper_75 : decode cX11_keeper 75 = .ok (.aload_n 0, 1) := by decide +kernel
theorem dX11_keeper_76 : decode cX11_keeper 76 = .ok (.getfield 146, 3) := by decide +kernel
theorem dX11_keeper_79 : decode cX11_keeper 79 = .ok (.ifCond .eq 18, 3) := by decide +kernel
theorem dX11_keeper_82 : decode cX11_keeper 82 = .ok (.aload_n 0, 1) := by decide +kernel
theorem dX11_keeper_83 : decode cX11_keeper 83 = .ok (.getfield 61, 3) := by decide +kernel
theorem dX11_keeper_86 : decode cX11_keeper 86 = .ok (.iconst 1, 1) := by decide +kernel
theorem dX11_keeper_87 : decode cX11_keeper 87 = .ok (.iaload, 1) := by decide +kernel
theorem dX11_keeper_88 : decode cX11_keeper 88 = .ok (.bipush 41, 2) := by decide +kernel
theorem dX11_keeper_90 : decode cX11_keeper 90 = .ok (.if_icmp .eq 7, 3) := by decide +kernel
theorem dX11_keeper_93 : decode cX11_keeper 93 = .ok (.iconst 1, 1) := by decide +kernel
theorem dX11_keeper_94 : decode cX11_keeper 94 = .ok (.goto 4, 3) := by decide +kernel
theorem dX11_keeper_97 : decode cX11_keeper 97 = .ok (.iconst 0, 1) := by decide +kernel
theorem dX11_keeper_98 : decode cX11_keeper 98 = .ok (.putfield 146, 3) := by decide +kernel
theorem dX11_keeper_101 : decode cX11_keeper 101 = .ok (.aload_n 0, 1) := by decide +kernel
theorem dX11_keeper_102 : decode cX11_keeper 102 = .ok (.getfield 134, 3) := by decide +kernel
theorem dX11_keeper_105 : decode cX11_keeper 105 = .ok (.bipush 10, 2) := by decide +kernel
theorem dX11_keeper_107 : decode cX11_keeper 107 = .ok (.irem, 1) := by decide +kernel
theorem dX11_keeper_108 : decode cX11_keeper 108 = .ok (.ifCond .eq 4, 3) := by decide +kernel
theorem dX11_keeper_111 : decode cX11_keeper 111 = .ok (.return_, 1) := by decide +kernel
theorem dX11_keeper_112 : decode cX11_keeper 112 = .ok (.aload_n 0, 1) := by decide +kernel
theorem dX11_keeper_113 : decode cX11_keeper 113 = .ok (.getfield 146, 3) := by decide +kernel
theorem dX11_keeper_116 : decode cX11_keeper 116 = .ok (.ifCond .eq 15, 3) := by decide +kernel
theorem dX11_keeper_119 : decode cX11_keeper 119 = .ok (.aload_n 0, 1) := by decide +kernel
theorem dX11_keeper_120 : decode cX11_keeper 120 = .ok (.invokevirtual 149, 3) := by decide +kernel
theorem dX11_keeper_123 : decode cX11_keeper 123 = .ok (.aload_n 0, 1) := by decide +kernel
theorem dX11_keeper_124 : decode cX11_keeper 124 = .ok (.iconst 0, 1) := by decide +kernel
theorem dX11_keeper_125 : decode cX11_keeper 125 = .ok (.putfield 146, 3) := by decide +kernel
theorem dX11_keeper_128 : decode cX11_keeper 128 = .ok (.goto 22, 3) := by decide +kernel
theorem dX11_keeper_131 : decode cX11_keeper 131 = .ok (.aload_n 0, 1) := by decide +kernel
theorem dX11_keeper_132 : decode cX11_keeper 132 = .ok (.iconst 1, 1) := by decide +kernel
theorem dX11_keeper_133 : decode cX11_keeper 133 = .ok (.putfield 146, 3) := by decide +kernel
theorem dX11_keeper_136 : decode cX11_keeper 136 = .ok (.aload_n 0, 1) := by decide +kernel
theorem dX11_keeper_137 : decode cX11_keeper 137 = .ok (.bipush 40, 2) := by decide +kernel
theorem dX11_keeper_139 : decode cX11_keeper 139 = .ok (.iconst 0, 1) := by decide +kernel
theorem dX11_keeper_140 : decode cX11_keeper 140 = .ok (.iconst 0, 1) := by decide +kernel
theorem dX11_keeper_141 : decode cX11_keeper 141 = .ok (.invokevirtual 152, 3) := by decide +kernel
theorem dX11_keeper_144 : decode cX11_keeper 144 = .ok (.aload_n 0, 1) := by decide +kernel
theorem dX11_keeper_145 : decode cX11_keeper 145 = .ok (.iconst 0, 1) := by decide +kernel
theorem dX11_keeper_146 : decode cX11_keeper 146 = .ok (.iconst 1, 1) := by decide +kernel
theorem dX11_keeper_147 : decode cX11_keeper 147 = .ok (.invokevirtual 57, 3) := by decide +kernel
theorem dX11_keeper_150 : decode cX11_keeper 150 = .ok (.return_, 1) := by decide +kernel
theorem dX11_starts_0 : decode cX11_starts 0 = .ok (.aload_n 0, 1) := by decide +kernel
theorem dX11_starts_1 : decode cX11_starts 1 = .ok (.iconst 1, 1) := by decide +kernel
theorem dX11_starts_2 : decode cX11_starts 2 = .ok (.putfield 15, 3) := by decide +kernel
theorem dX11_starts_5 : decode cX11_starts 5 = .ok (.aload_n 0, 1) := by decide +kernel
theorem dX11_starts_6 : decode cX11_starts 6 = .ok (.iconst 0, 1) := by decide +kernel
theorem dX11_starts_7 : decode cX11_starts 7 = .ok (.putfield 119, 3) := by decide +kernel
theorem dX11_starts_10 : decode cX11_starts 10 = .ok (.aload_n 0, 1) := by decide +kernel
theorem dX11_starts_11 : decode cX11_starts 11 = .ok (.dup, 1) := by decide +kernel
theorem dX11_starts_12 : decode cX11_starts 12 = .ok (.getfield 35, 3) := by decide +kernel
theorem dX11_starts_15 : decode cX11_starts 15 = .ok (.iconst 1, 1) := by decide +kernel
theorem dX11_starts_16 : decode cX11_starts 16 = .ok (.iadd, 1) := by decide +kernel
theorem dX11_starts_17 : decode cX11_starts 17 = .ok (.putfield 35, 3) := by decide +kernel
theorem dX11_starts_20 : decode cX11_starts 20 = .ok (.aload_n 0, 1) := by decide +kernel
theorem dX11_starts_21 : decode cX11_starts 21 = .ok (.iconst 0, 1) := by decide +kernel
theorem dX11_starts_22 : decode cX11_starts 22 = .ok (.putfield 125, 3) := by decide +kernel
theorem dX11_starts_25 : decode cX11_starts 25 = .ok (.aload_n 0, 1) := by decide +kernel
theorem dX11_starts_26 : decode cX11_starts 26 = .ok (.iconst 0, 1) := by decide +kernel
theorem dX11_starts_27 : decode cX11_starts 27 = .ok (.putfield 122, 3) := by decide +kernel
theorem dX11_starts_30 : decode cX11_starts 30 = .ok (.aload_n 0, 1) := by decide +kernel
theorem dX11_starts_31 : decode cX11_starts 31 = .ok (.getfield 38, 3) := by decide +kernel
theorem dX11_starts_34 : decode cX11_starts 34 = .ok (.iconst 1, 1) := by decide +kernel
theorem dX11_starts_35 : decode cX11_starts 35 = .ok (.iconst 0, 1) := by decide +kernel
theorem dX11_starts_36 : decode cX11_starts 36 = .ok (.iastore, 1) := by decide +kernel
theorem dX11_starts_37 : decode cX11_starts 37 = .ok (.aload_n 0, 1) := by decide +kernel
theorem dX11_starts_38 : decode cX11_starts 38 = .ok (.iconst 0, 1) := by decide +kernel
theorem dX11_starts_39 : decode cX11_starts 39 = .ok (.putfield 146, 3) := by decide +kernel
theorem dX11_starts_42 : decode cX11_starts 42 = .ok (.aload_n 0, 1) := by decide +kernel
theorem dX11_starts_43 : decode cX11_starts 43 = .ok (.bipush 42, 2) := by decide +kernel
theorem dX11_starts_45 : decode cX11_starts 45 = .ok (.aload_n 0, 1) := by decide +kernel
theorem dX11_starts_46 : decode cX11_starts 46 = .ok (.getfield 35, 3) := by decide +kernel
theorem dX11_starts_49 : decode cX11_starts 49 = .ok (.iconst 0, 1) := by decide +kernel
theorem dX11_starts_50 : decode cX11_starts 50 = .ok (.invokevirtual 152, 3) := by decide +kernel
theorem dX11_starts_53 : decode cX11_starts 53 = .ok (.aload_n 0, 1) := by decide +kernel
theorem dX11_starts_54 : decode cX11_starts 54 = .ok (.iconst 0, 1) := by decide +kernel
theorem dX11_starts_55 : decode cX11_starts 55 = .ok (.iconst 2, 1) := by decide +kernel
theorem dX11_starts_56 : decode cX11_starts 56 = .ok (.invokevirtual 57, 3) := by decide +kernel
theorem dX11_starts_59 : decode cX11_starts 59 = .ok (.return_, 1) := by decide +kernel
theorem dX11_driver_0 : decode cX11_driver 0 = .ok (.aload_n 0, 1) := by decide +kernel
theorem dX11_driver_1 : decode cX11_driver 1 = .ok (.getfield 119, 3) := by decide +kernel
theorem dX11_driver_4 : decode cX11_driver 4 = .ok (.ifCond .ne 11, 3) := by decide +kernel
theorem dX11_driver_7 : decode cX11_driver 7 = .ok (.aload_n 0, 1) := by decide +kernel
theorem dX11_driver_8 : decode cX11_driver 8 = .ok (.iconst 1, 1) := by decide +kernel
theorem dX11_driver_9 : decode cX11_driver 9 = .ok (.invokevirtual 137, 3) := by decide +kernel
theorem dX11_driver_12 : decode cX11_driver 12 = .ok (.ifCond .eq 4, 3) := by decide +kernel
theorem dX11_driver_15 : decode cX11_driver 15 = .ok (.return_, 1) := by decide +kernel
theorem dX11_driver_16 : decode cX11_driver 16 = .ok (.iconst 0, 1) := by decide +kernel
theorem dX11_driver_17 : decode cX11_driver 17 = .ok (.istore_n 1, 1) := by decide +kernel
theorem dX11_driver_18 : decode cX11_driver 18 = .ok (.iload_n 1, 1) := by decide +kernel
theorem dX11_driver_19 : decode cX11_driver 19 = .ok (.aload_n 0, 1) := by decide +kernel
theorem dX11_driver_20 : decode cX11_driver 20 = .ok (.getfield 38, 3) := by decide +kernel
theorem dX11_driver_23 : decode cX11_driver 23 = .ok (.iconst 1, 1) := by decide +kernel
theorem dX11_driver_24 : decode cX11_driver 24 = .ok (.iaload, 1) := by decide +kernel
theorem dX11_driver_25 : decode cX11_driver 25 = .ok (.if_icmp .ge 42, 3) := by decide +kernel
theorem dX11_driver_28 : decode cX11_driver 28 = .ok (.aload_n 0, 1) := by decide +kernel
theorem dX11_driver_29 : decode cX11_driver 29 = .ok (.iconst 1, 1) := by decide +kernel
theorem dX11_driver_30 : decode cX11_driver 30 = .ok (.iload_n 1, 1) := by decide +kernel
theorem dX11_driver_31 : decode cX11_driver 31 = .ok (.iconst 1, 1) := by decide +kernel
theorem dX11_driver_32 : decode cX11_driver 32 = .ok (.invokevirtual 156, 3) := by decide +kernel
theorem dX11_driver_35 : decode cX11_driver 35 = .ok (.bipush 40, 2) := by decide +kernel
theorem dX11_driver_37 : decode cX11_driver 37 = .ok (.if_icmp .ne 24, 3) := by decide +kernel
theorem dX11_driver_40 : decode cX11_driver 40 = .ok (.aload_n 0, 1) := by decide +kernel
theorem dX11_driver_41 : decode cX11_driver 41 = .ok (.iconst 1, 1) := by decide +kernel
theorem dX11_driver_42 : decode cX11_driver 42 = .ok (.iload_n 1, 1) := by decide +kernel
theorem dX11_driver_43 : decode cX11_driver 43 = .ok (.invokevirtual 64, 3) := by decide +kernel
theorem dX11_driver_46 : decode cX11_driver 46 = .ok (.aload_n 0, 1) := by decide +kernel
theorem dX11_driver_47 : decode cX11_driver 47 = .ok (.bipush 41, 2) := by decide +kernel
theorem dX11_driver_49 : decode cX11_driver 49 = .ok (.iconst 0, 1) := by decide +kernel
theorem dX11_driver_50 : decode cX11_driver 50 = .ok (.iconst 0, 1) := by decide +kernel
theorem dX11_driver_51 : decode cX11_driver 51 = .ok (.invokevirtual 152, 3) := by decide +kernel
theorem dX11_driver_54 : decode cX11_driver 54 = .ok (.aload_n 0, 1) := by decide +kernel
theorem dX11_driver_55 : decode cX11_driver 55 = .ok (.iconst 1, 1) := by decide +kernel
theorem dX11_driver_56 : decode cX11_driver 56 = .ok (.iconst 0, 1) := by decide +kernel
theorem dX11_driver_57 : decode cX11_driver 57 = .ok (.invokevirtual 57, 3) := by decide +kernel
theorem dX11_driver_60 : decode cX11_driver 60 = .ok (.return_, 1) := by decide +kernel
theorem dX11_driver_61 : decode cX11_driver 61 = .ok (.iinc 1 1, 3) := by decide +kernel
theorem dX11_driver_64 : decode cX11_driver 64 = .ok (.goto (-46), 3) := by decide +kernel
theorem dX11_driver_67 : decode cX11_driver 67 = .ok (.aload_n 0, 1) := by decide +kernel
theorem dX11_driver_68 : decode cX11_driver 68 = .ok (.getfield 122, 3) := by decide +kernel
