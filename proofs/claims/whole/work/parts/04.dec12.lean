theorem dX11_driver_71 : decode cX11_driver 71 = .ok (.ifCond .le 10, 3) := by decide +kernel
theorem dX11_driver_74 : decode cX11_driver 74 = .ok (.aload_n 0, 1) := by decide +kernel
theorem dX11_driver_75 : decode cX11_driver 75 = .ok (.invokevirtual 160, 3) := by decide +kernel
theorem dX11_driver_78 : decode cX11_driver 78 = .ok (.goto 88, 3) := by decide +kernel
theorem dX11_driver_81 : decode cX11_driver 81 = .ok (.aload_n 0, 1) := by decide +kernel
theorem dX11_driver_82 : decode cX11_driver 82 = .ok (.getfield 38, 3) := by decide +kernel
theorem dX11_driver_85 : decode cX11_driver 85 = .ok (.iconst 1, 1) := by decide +kernel
theorem dX11_driver_86 : decode cX11_driver 86 = .ok (.iaload, 1) := by decide +kernel
theorem dX11_driver_87 : decode cX11_driver 87 = .ok (.ifCond .le 79, 3) := by decide +kernel
theorem dX11_driver_90 : decode cX11_driver 90 = .ok (.aload_n 0, 1) := by decide +kernel
theorem dX11_driver_91 : decode cX11_driver 91 = .ok (.iconst 1, 1) := by decide +kernel
theorem dX11_driver_92 : decode cX11_driver 92 = .ok (.iconst 0, 1) := by decide +kernel
theorem dX11_driver_93 : decode cX11_driver 93 = .ok (.invokevirtual 143, 3) := by decide +kernel
theorem dX11_driver_96 : decode cX11_driver 96 = .ok (.aload_n 0, 1) := by decide +kernel
theorem dX11_driver_97 : decode cX11_driver 97 = .ok (.getfield 61, 3) := by decide +kernel
theorem dX11_driver_100 : decode cX11_driver 100 = .ok (.iconst 1, 1) := by decide +kernel
theorem dX11_driver_101 : decode cX11_driver 101 = .ok (.iaload, 1) := by decide +kernel
theorem dX11_driver_102 : decode cX11_driver 102 = .ok (.bipush 20, 2) := by decide +kernel
theorem dX11_driver_104 : decode cX11_driver 104 = .ok (.if_icmp .eq 14, 3) := by decide +kernel
theorem dX11_driver_107 : decode cX11_driver 107 = .ok (.aload_n 0, 1) := by decide +kernel
theorem dX11_driver_108 : decode cX11_driver 108 = .ok (.getfield 61, 3) := by decide +kernel
theorem dX11_driver_111 : decode cX11_driver 111 = .ok (.iconst 1, 1) := by decide +kernel
theorem dX11_driver_112 : decode cX11_driver 112 = .ok (.iaload, 1) := by decide +kernel
theorem dX11_driver_113 : decode cX11_driver 113 = .ok (.bipush 21, 2) := by decide +kernel
theorem dX11_driver_115 : decode cX11_driver 115 = .ok (.if_icmp .ne 51, 3) := by decide +kernel
theorem dX11_driver_118 : decode cX11_driver 118 = .ok (.aload_n 0, 1) := by decide +kernel
theorem dX11_driver_119 : decode cX11_driver 119 = .ok (.aload_n 0, 1) := by decide +kernel
theorem dX11_driver_120 : decode cX11_driver 120 = .ok (.getfield 61, 3) := by decide +kernel
theorem dX11_driver_123 : decode cX11_driver 123 = .ok (.iconst 1, 1) := by decide +kernel
theorem dX11_driver_124 : decode cX11_driver 124 = .ok (.iaload, 1) := by decide +kernel
theorem dX11_driver_125 : decode cX11_driver 125 = .ok (.putfield 122, 3) := by decide +kernel
theorem dX11_driver_128 : decode cX11_driver 128 = .ok (.aload_n 0, 1) := by decide +kernel
theorem dX11_driver_129 : decode cX11_driver 129 = .ok (.aload_n 0, 1) := by decide +kernel
theorem dX11_driver_130 : decode cX11_driver 130 = .ok (.getfield 61, 3) := by decide +kernel
theorem dX11_driver_133 : decode cX11_driver 133 = .ok (.iconst 2, 1) := by decide +kernel
theorem dX11_driver_134 : decode cX11_driver 134 = .ok (.iaload, 1) := by decide +kernel
theorem dX11_driver_135 : decode cX11_driver 135 = .ok (.putfield 163, 3) := by decide +kernel
theorem dX11_driver_138 : decode cX11_driver 138 = .ok (.iconst 0, 1) := by decide +kernel
theorem dX11_driver_139 : decode cX11_driver 139 = .ok (.istore_n 1, 1) := by decide +kernel
theorem dX11_driver_140 : decode cX11_driver 140 = .ok (.iload_n 1, 1) := by decide +kernel
theorem dX11_driver_141 : decode cX11_driver 141 = .ok (.bipush 8, 2) := by decide +kernel
theorem dX11_driver_143 : decode cX11_driver 143 = .ok (.if_icmp .ge 23, 3) := by decide +kernel
theorem dX11_driver_146 : decode cX11_driver 146 = .ok (.aload_n 0, 1) := by decide +kernel
theorem dX11_driver_147 : decode cX11_driver 147 = .ok (.getfield 113, 3) := by decide +kernel
theorem dX11_driver_150 : decode cX11_driver 150 = .ok (.iload_n 1, 1) := by decide +kernel
theorem dX11_driver_151 : decode cX11_driver 151 = .ok (.aload_n 0, 1) := by decide +kernel
theorem dX11_driver_152 : decode cX11_driver 152 = .ok (.getfield 61, 3) := by decide +kernel
theorem dX11_driver_155 : decode cX11_driver 155 = .ok (.iconst 5, 1) := by decide +kernel
theorem dX11_driver_156 : decode cX11_driver 156 = .ok (.iload_n 1, 1) := by decide +kernel
theorem dX11_driver_157 : decode cX11_driver 157 = .ok (.iadd, 1) := by decide +kernel
theorem dX11_driver_158 : decode cX11_driver 158 = .ok (.iaload, 1) := by decide +kernel
theorem dX11_driver_159 : decode cX11_driver 159 = .ok (.iastore, 1) := by decide +kernel
theorem dX11_driver_160 : decode cX11_driver 160 = .ok (.iinc 1 1, 3) := by decide +kernel
theorem dX11_driver_163 : decode cX11_driver 163 = .ok (.goto (-23), 3) := by decide +kernel
theorem dX11_driver_166 : decode cX11_driver 166 = .ok (.return_, 1) := by decide +kernel
theorem dX11_works_0 : decode cX11_works 0 = .ok (.aload_n 0, 1) := by decide +kernel
theorem dX11_works_1 : decode cX11_works 1 = .ok (.getfield 125, 3) := by decide +kernel
theorem dX11_works_4 : decode cX11_works 4 = .ok (.aload_n 0, 1) := by decide +kernel
theorem dX11_works_5 : decode cX11_works 5 = .ok (.getfield 163, 3) := by decide +kernel
theorem dX11_works_8 : decode cX11_works 8 = .ok (.if_icmp .eq 29, 3) := by decide +kernel
theorem dX11_works_11 : decode cX11_works 11 = .ok (.aload_n 0, 1) := by decide +kernel
theorem dX11_works_12 : decode cX11_works 12 = .ok (.dup, 1) := by decide +kernel
theorem dX11_works_13 : decode cX11_works 13 = .ok (.getfield 125, 3) := by decide +kernel
theorem dX11_works_16 : decode cX11_works 16 = .ok (.aload_n 0, 1) := by decide +kernel
theorem dX11_works_17 : decode cX11_works 17 = .ok (.getfield 125, 3) := by decide +kernel
theorem dX11_works_20 : decode cX11_works 20 = .ok (.aload_n 0, 1) := by decide +kernel
theorem dX11_works_21 : decode cX11_works 21 = .ok (.getfield 163, 3) := by decide +kernel
theorem dX11_works_24 : decode cX11_works 24 = .ok (.if_icmp .ge 7, 3) := by decide +kernel
theorem dX11_works_27 : decode cX11_works 27 = .ok (.iconst 1, 1) := by decide +kernel
theorem dX11_works_28 : decode cX11_works 28 = .ok (.goto 4, 3) := by decide +kernel
theorem dX11_works_31 : decode cX11_works 31 = .ok (.iconst (-1), 1) := by decide +kernel
theorem dX11_works_32 : decode cX11_works 32 = .ok (.iadd, 1) := by decide +kernel
theorem dX11_works_33 : decode cX11_works 33 = .ok (.putfield 125, 3) := by decide +kernel
theorem dX11_works_36 : decode cX11_works 36 = .ok (.return_, 1) := by decide +kernel
theorem dX11_works_37 : decode cX11_works 37 = .ok (.aload_n 0, 1) := by decide +kernel
theorem dX11_works_38 : decode cX11_works 38 = .ok (.bipush 22, 2) := by decide +kernel
theorem dX11_works_40 : decode cX11_works 40 = .ok (.iconst 0, 1) := by decide +kernel
theorem dX11_works_41 : decode cX11_works 41 = .ok (.iconst 0, 1) := by decide +kernel
theorem dX11_works_42 : decode cX11_works 42 = .ok (.invokevirtual 152, 3) := by decide +kernel
theorem dX11_works_45 : decode cX11_works 45 = .ok (.iconst 0, 1) := by decide +kernel
theorem dX11_works_46 : decode cX11_works 46 = .ok (.istore_n 1, 1) := by decide +kernel
theorem dX11_works_47 : decode cX11_works 47 = .ok (.iload_n 1, 1) := by decide +kernel
theorem dX11_works_48 : decode cX11_works 48 = .ok (.bipush 8, 2) := by decide +kernel
theorem dX11_works_50 : decode cX11_works 50 = .ok (.if_icmp .ge 63, 3) := by decide +kernel
theorem dX11_works_53 : decode cX11_works 53 = .ok (.aload_n 0, 1) := by decide +kernel
theorem dX11_works_54 : decode cX11_works 54 = .ok (.getfield 122, 3) := by decide +kernel
theorem dX11_works_57 : decode cX11_works 57 = .ok (.bipush 20, 2) := by decide +kernel
theorem dX11_works_59 : decode cX11_works 59 = .ok (.if_icmp .ne 28, 3) := by decide +kernel
theorem dX11_works_62 : decode cX11_works 62 = .ok (.aload_n 0, 1) := by decide +kernel
theorem dX11_works_63 : decode cX11_works 63 = .ok (.getfield 7, 3) := by decide +kernel
theorem dX11_works_66 : decode cX11_works 66 = .ok (.iconst 5, 1) := by decide +kernel
theorem dX11_works_67 : decode cX11_works 67 = .ok (.iload_n 1, 1) := by decide +kernel
theorem dX11_works_68 : decode cX11_works 68 = .ok (.iadd, 1) := by decide +kernel
theorem dX11_works_69 : decode cX11_works 69 = .ok (.aload_n 0, 1) := by decide +kernel
theorem dX11_works_70 : decode cX11_works 70 = .ok (.getfield 110, 3) := by decide +kernel
theorem dX11_works_73 : decode cX11_works 73 = .ok (.bipush 8, 2) := by decide +kernel
theorem dX11_works_75 : decode cX11_works 75 = .ok (.aload_n 0, 1) := by decide +kernel
theorem dX11_works_76 : decode cX11_works 76 = .ok (.getfield 163, 3) := by decide +kernel
theorem dX11_works_79 : decode cX11_works 79 = .ok (.imul, 1) := by decide +kernel
theorem dX11_works_80 : decode cX11_works 80 = .ok (.iload_n 1, 1) := by decide +kernel
theorem dX11_works_81 : decode cX11_works 81 = .ok (.iadd, 1) := by decide +kernel
theorem dX11_works_82 : decode cX11_works 82 = .ok (.iaload, 1) := by decide +kernel
theorem dX11_works_83 : decode cX11_works 83 = .ok (.iastore, 1) := by decide +kernel
theorem dX11_works_84 : decode cX11_works 84 = .ok (.goto 23, 3) := by decide +kernel
theorem dX11_works_87 : decode cX11_works 87 = .ok (.aload_n 0, 1) := by decide +kernel
theorem dX11_works_88 : decode cX11_works 88 = .ok (.getfield 110, 3) := by decide +kernel
theorem dX11_works_91 : decode cX11_works 91 = .ok (.bipush 8, 2) := by decide +kernel
theorem dX11_works_93 : decode cX11_works 93 = .ok (.aload_n 0, 1) := by decide +kernel
theorem dX11_works_94 : decode cX11_works 94 = .ok (.getfield 163, 3) := by decide +kernel
theorem dX11_works_97 : decode cX11_works 97 = .ok (.imul, 1) := by decide +kernel
theorem dX11_works_98 : decode cX11_works 98 = .ok (.iload_n 1, 1) := by decide +kernel
theorem dX11_works_99 : decode cX11_works 99 = .ok (.iadd, 1) := by decide +kernel
theorem dX11_works_100 : decode cX11_works 100 = .ok (.aload_n 0, 1) := by decide +kernel
theorem dX11_works_101 : decode cX11_works 101 = .ok (.getfield 113, 3) := by decide +kernel
theorem dX11_works_104 : decode cX11_works 104 = .ok (.iload_n 1, 1) := by decide +kernel
theorem dX11_works_105 : decode cX11_works 105 = .ok (.iaload, 1) := by decide +kernel
theorem dX11_works_106 : decode cX11_works 106 = .ok (.iastore, 1) := by decide +kernel
theorem dX11_works_107 : decode cX11_works 107 = .ok (.iinc 1 1, 3) := by decide +kernel
theorem dX11_works_110 : decode cX11_works 110 = .ok (.goto (-63), 3) := by decide +kernel
theorem dX11_works_113 : decode cX11_works 113 = .ok (.aload_n 0, 1) := by decide +kernel
theorem dX11_works_114 : decode cX11_works 114 = .ok (.iconst 0, 1) := by decide +kernel
theorem dX11_works_115 : decode cX11_works 115 = .ok (.putfield 122, 3) := by decide +kernel
theorem dX11_works_118 : decode cX11_works 118 = .ok (.aload_n 0, 1) := by decide +kernel
theorem dX11_works_119 : decode cX11_works 119 = .ok (.iconst 1, 1) := by decide +kernel
theorem dX11_works_120 : decode cX11_works 120 = .ok (.iconst 2, 1) := by decide +kernel
theorem dX11_works_121 : decode cX11_works 121 = .ok (.invokevirtual 57, 3) := by decide +kernel
theorem dX11_works_124 : decode cX11_works 124 = .ok (.return_, 1) := by decide +kernel
theorem dX11_files_0 : decode cX11_files 0 = .ok (.aload_n 0, 1) := by decide +kernel
theorem dX11_files_1 : decode cX11_files 1 = .ok (.iconst 2, 1) := by decide +kernel
theorem dX11_files_2 : decode cX11_files 2 = .ok (.invokevirtual 137, 3) := by decide +kernel
theorem dX11_files_5 : decode cX11_files 5 = .ok (.ifCond .eq 4, 3) := by decide +kernel
theorem dX11_files_8 : decode cX11_files 8 = .ok (.return_, 1) := by decide +kernel
theorem dX11_files_9 : decode cX11_files 9 = .ok (.iconst 0, 1) := by decide +kernel
theorem dX11_files_10 : decode cX11_files 10 = .ok (.istore_n 1, 1) := by decide +kernel
theorem dX11_files_11 : decode cX11_files 11 = .ok (.aload_n 0, 1) := by decide +kernel
theorem dX11_files_12 : decode cX11_files 12 = .ok (.getfield 166, 3) := by decide +kernel
theorem dX11_files_15 : decode cX11_files 15 = .ok (.ifCond .eq 40, 3) := by decide +kernel
theorem dX11_files_18 : decode cX11_files 18 = .ok (.iload_n 1, 1) := by decide +kernel
theorem dX11_files_19 : decode cX11_files 19 = .ok (.aload_n 0, 1) := by decide +kernel
theorem dX11_files_20 : decode cX11_files 20 = .ok (.getfield 38, 3) := by decide +kernel
theorem dX11_files_23 : decode cX11_files 23 = .ok (.iconst 2, 1) := by decide +kernel
theorem dX11_files_24 : decode cX11_files 24 = .ok (.iaload, 1) := by decide +kernel
theorem dX11_files_25 : decode cX11_files 25 = .ok (.if_icmp .ge 30, 3) := by decide +kernel
theorem dX11_files_28 : decode cX11_files 28 = .ok (.aload_n 0, 1) := by decide +kernel
theorem dX11_files_29 : decode cX11_files 29 = .ok (.iconst 2, 1) := by decide +kernel
theorem dX11_files_30 : decode cX11_files 30 = .ok (.iload_n 1, 1) := by decide +kernel
theorem dX11_files_31 : decode cX11_files 31 = .ok (.iconst 0, 1) := by decide +kernel
theorem dX11_files_32 : decode cX11_files 32 = .ok (.invokevirtual 156, 3) := by decide +kernel
theorem dX11_files_35 : decode cX11_files 35 = .ok (.iconst 1, 1) := by decide +kernel
theorem dX11_files_36 : decode cX11_files 36 = .ok (.if_icmp .le 19, 3) := by decide +kernel
theorem dX11_files_39 : decode cX11_files 39 = .ok (.aload_n 0, 1) := by decide +kernel
theorem dX11_files_40 : decode cX11_files 40 = .ok (.iconst 2, 1) := by decide +kernel
theorem dX11_files_41 : decode cX11_files 41 = .ok (.iload_n 1, 1) := by decide +kernel
theorem dX11_files_42 : decode cX11_files 42 = .ok (.iconst 1, 1) := by decide +kernel
theorem dX11_files_43 : decode cX11_files 43 = .ok (.invokevirtual 156, 3) := by decide +kernel
theorem dX11_files_46 : decode cX11_files 46 = .ok (.ifCond .eq 9, 3) := by decide +kernel
theorem dX11_files_49 : decode cX11_files 49 = .ok (.iinc 1 1, 3) := by decide +kernel
theorem dX11_files_52 : decode cX11_files 52 = .ok (.goto (-41), 3) := by decide +kernel
theorem dX11_files_55 : decode cX11_files 55 = .ok (.iload_n 1, 1) := by decide +kernel
theorem dX11_files_56 : decode cX11_files 56 = .ok (.aload_n 0, 1) := by decide +kernel
theorem dX11_files_57 : decode cX11_files 57 = .ok (.getfield 38, 3) := by decide +kernel
theorem dX11_files_60 : decode cX11_files 60 = .ok (.iconst 2, 1) := by decide +kernel
theorem dX11_files_61 : decode cX11_files 61 = .ok (.iaload, 1) := by decide +kernel
theorem dX11_files_62 : decode cX11_files 62 = .ok (.if_icmp .ne 4, 3) := by decide +kernel
theorem dX11_files_65 : decode cX11_files 65 = .ok (.return_, 1) := by decide +kernel
theorem dX11_files_66 : decode cX11_files 66 = .ok (.aload_n 0, 1) := by decide +kernel
theorem dX11_files_67 : decode cX11_files 67 = .ok (.iconst 2, 1) := by decide +kernel
theorem dX11_files_68 : decode cX11_files 68 = .ok (.iload_n 1, 1) := by decide +kernel
theorem dX11_files_69 : decode cX11_files 69 = .ok (.invokevirtual 143, 3) := by decide +kernel
theorem dX11_files_72 : decode cX11_files 72 = .ok (.aload_n 0, 1) := by decide +kernel
theorem dX11_files_73 : decode cX11_files 73 = .ok (.getfield 61, 3) := by decide +kernel
theorem dX11_files_76 : decode cX11_files 76 = .ok (.iconst 0, 1) := by decide +kernel
theorem dX11_files_77 : decode cX11_files 77 = .ok (.iaload, 1) := by decide +kernel
theorem dX11_files_78 : decode cX11_files 78 = .ok (.istore_n 2, 1) := by decide +kernel
theorem dX11_files_79 : decode cX11_files 79 = .ok (.aload_n 0, 1) := by decide +kernel
theorem dX11_files_80 : decode cX11_files 80 = .ok (.getfield 61, 3) := by decide +kernel
theorem dX11_files_83 : decode cX11_files 83 = .ok (.iconst 1, 1) := by decide +kernel
theorem dX11_files_84 : decode cX11_files 84 = .ok (.iaload, 1) := by decide +kernel
theorem dX11_files_85 : decode cX11_files 85 = .ok (.lookupswitch 142 #[(0, 51), (22, 52), (30, 86), (31, 117), (42, 64)], 51) := by decide +kernel
theorem dX11_files_136 : decode cX11_files 136 = .ok (.return_, 1) := by decide +kernel
theorem dX11_files_137 : decode cX11_files 137 = .ok (.aload_n 0, 1) := by decide +kernel
theorem dX11_files_138 : decode cX11_files 138 = .ok (.getfield 166, 3) := by decide +kernel
theorem dX11_files_141 : decode cX11_files 141 = .ok (.ifCond .eq 7, 3) := by decide +kernel
theorem dX11_files_144 : decode cX11_files 144 = .ok (.aload_n 0, 1) := by decide +kernel
theorem dX11_files_145 : decode cX11_files 145 = .ok (.invokevirtual 169, 3) := by decide +kernel
theorem dX11_files_148 : decode cX11_files 148 = .ok (.return_, 1) := by decide +kernel
theorem dX11_files_149 : decode cX11_files 149 = .ok (.aload_n 0, 1) := by decide +kernel
theorem dX11_files_150 : decode cX11_files 150 = .ok (.aload_n 0, 1) := by decide +kernel
theorem dX11_files_151 : decode cX11_files 151 = .ok (.getfield 61, 3) := by decide +kernel
theorem dX11_files_154 : decode cX11_files 154 = .ok (.iconst 2, 1) := by decide +kernel
theorem dX11_files_155 : decode cX11_files 155 = .ok (.iaload, 1) := by decide +kernel
theorem dX11_files_156 : decode cX11_files 156 = .ok (.putfield 32, 3) := by decide +kernel
theorem dX11_files_159 : decode cX11_files 159 = .ok (.aload_n 0, 1) := by decide +kernel
theorem dX11_files_160 : decode cX11_files 160 = .ok (.getfield 166, 3) := by decide +kernel
theorem dX11_files_163 : decode cX11_files 163 = .ok (.ifCond .eq 7, 3) := by decide +kernel
theorem dX11_files_166 : decode cX11_files 166 = .ok (.aload_n 0, 1) := by decide +kernel
theorem dX11_files_167 : decode cX11_files 167 = .ok (.invokevirtual 172, 3) := by decide +kernel
theorem dX11_files_170 : decode cX11_files 170 = .ok (.return_, 1) := by decide +kernel
theorem dX11_files_171 : decode cX11_files 171 = .ok (.aload_n 0, 1) := by decide +kernel
theorem dX11_files_172 : decode cX11_files 172 = .ok (.aload_n 0, 1) := by decide +kernel
theorem dX11_files_173 : decode cX11_files 173 = .ok (.getfield 61, 3) := by decide +kernel
theorem dX11_files_176 : decode cX11_files 176 = .ok (.iconst 2, 1) := by decide +kernel
theorem dX11_files_177 : decode cX11_files 177 = .ok (.iaload, 1) := by decide +kernel
theorem dX11_files_178 : decode cX11_files 178 = .ok (.aload_n 0, 1) := by decide +kernel
theorem dX11_files_179 : decode cX11_files 179 = .ok (.getfield 61, 3) := by decide +kernel
theorem dX11_files_182 : decode cX11_files 182 = .ok (.iconst 3, 1) := by decide +kernel
theorem dX11_files_183 : decode cX11_files 183 = .ok (.iaload, 1) := by decide +kernel
theorem dX11_files_184 : decode cX11_files 184 = .ok (.invokevirtual 175, 3) := by decide +kernel
theorem dX11_files_187 : decode cX11_files 187 = .ok (.aload_n 0, 1) := by decide +kernel
theorem dX11_files_188 : decode cX11_files 188 = .ok (.bipush 32, 2) := by decide +kernel
theorem dX11_files_190 : decode cX11_files 190 = .ok (.iconst 0, 1) := by decide +kernel
theorem dX11_files_191 : decode cX11_files 191 = .ok (.iconst 0, 1) := by decide +kernel
theorem dX11_files_192 : decode cX11_files 192 = .ok (.invokevirtual 152, 3) := by decide +kernel
theorem dX11_files_195 : decode cX11_files 195 = .ok (.aload_n 0, 1) := by decide +kernel
theorem dX11_files_196 : decode cX11_files 196 = .ok (.iconst 2, 1) := by decide +kernel
theorem dX11_files_197 : decode cX11_files 197 = .ok (.iconst 3, 1) := by decide +kernel
theorem dX11_files_198 : decode cX11_files 198 = .ok (.invokevirtual 57, 3) := by decide +kernel
theorem dX11_files_201 : decode cX11_files 201 = .ok (.return_, 1) := by decide +kernel
theorem dX11_files_202 : decode cX11_files 202 = .ok (.aload_n 0, 1) := by decide +kernel
theorem dX11_files_203 : decode cX11_files 203 = .ok (.aload_n 0, 1) := by decide +kernel
theorem dX11_files_204 : decode cX11_files 204 = .ok (.getfield 61, 3) := by decide +kernel
theorem dX11_files_207 : decode cX11_files 207 = .ok (.iconst 2, 1) := by decide +kernel
theorem dX11_files_208 : decode cX11_files 208 = .ok (.iaload, 1) := by decide +kernel
theorem dX11_files_209 : decode cX11_files 209 = .ok (.invokevirtual 178, 3) := by decide +kernel
theorem dX11_files_212 : decode cX11_files 212 = .ok (.aload_n 0, 1) := by decide +kernel
theorem dX11_files_213 : decode cX11_files 213 = .ok (.bipush 32, 2) := by decide +kernel
theorem dX11_files_215 : decode cX11_files 215 = .ok (.iconst 0, 1) := by decide +kernel
theorem dX11_files_216 : decode cX11_files 216 = .ok (.iconst 0, 1) := by decide +kernel
theorem dX11_files_217 : decode cX11_files 217 = .ok (.invokevirtual 152, 3) := by decide +kernel
theorem dX11_files_220 : decode cX11_files 220 = .ok (.aload_n 0, 1) := by decide +kernel
theorem dX11_files_221 : decode cX11_files 221 = .ok (.iconst 2, 1) := by decide +kernel
theorem dX11_files_222 : decode cX11_files 222 = .ok (.iconst 3, 1) := by decide +kernel
theorem dX11_files_223 : decode cX11_files 223 = .ok (.invokevirtual 57, 3) := by decide +kernel
theorem dX11_files_226 : decode cX11_files 226 = .ok (.return_, 1) := by decide +kernel
theorem dX11_files_227 : decode cX11_files 227 = .ok (.aload_n 0, 1) := by decide +kernel
theorem dX11_files_228 : decode cX11_files 228 = .ok (.iload_n 2, 1) := by decide +kernel
theorem dX11_files_229 : decode cX11_files 229 = .ok (.aload_n 0, 1) := by decide +kernel
theorem dX11_files_230 : decode cX11_files 230 = .ok (.getfield 61, 3) := by decide +kernel
theorem dX11_files_233 : decode cX11_files 233 = .ok (.iconst 1, 1) := by decide +kernel
theorem dX11_files_234 : decode cX11_files 234 = .ok (.iaload, 1) := by decide +kernel
theorem dX11_files_235 : decode cX11_files 235 = .ok (.aload_n 0, 1) := by decide +kernel
theorem dX11_files_236 : decode cX11_files 236 = .ok (.getfield 61, 3) := by decide +kernel
theorem dX11_files_239 : decode cX11_files 239 = .ok (.iconst 2, 1) := by decide +kernel
theorem dX11_files_240 : decode cX11_files 240 = .ok (.iaload, 1) := by decide +kernel
theorem dX11_files_241 : decode cX11_files 241 = .ok (.aload_n 0, 1) := by decide +kernel
theorem dX11_files_242 : decode cX11_files 242 = .ok (.getfield 61, 3) := by decide +kernel
theorem dX11_files_245 : decode cX11_files 245 = .ok (.iconst 3, 1) := by decide +kernel
theorem dX11_files_246 : decode cX11_files 246 = .ok (.iaload, 1) := by decide +kernel
theorem dX11_files_247 : decode cX11_files 247 = .ok (.invokevirtual 182, 3) := by decide +kernel
theorem dX11_files_250 : decode cX11_files 250 = .ok (.return_, 1) := by decide +kernel
theorem dX11_asksDriver_0 : decode cX11_asksDriver 0 = .ok (.aload_n 0, 1) := by decide +kernel
theorem dX11_asksDriver_1 : decode cX11_asksDriver 1 = .ok (.iconst 1, 1) := by decide +kernel
theorem dX11_asksDriver_2 : decode cX11_asksDriver 2 = .ok (.putfield 166, 3) := by decide +kernel
theorem dX11_asksDriver_5 : decode cX11_asksDriver 5 = .ok (.aload_n 0, 1) := by decide +kernel
theorem dX11_asksDriver_6 : decode cX11_asksDriver 6 = .ok (.aload_n 0, 1) := by decide +kernel
theorem dX11_asksDriver_7 : decode cX11_asksDriver 7 = .ok (.getfield 186, 3) := by decide +kernel
theorem dX11_asksDriver_10 : decode cX11_asksDriver 10 = .ok (.aload_n 0, 1) := by decide +kernel
theorem dX11_asksDriver_11 : decode cX11_asksDriver 11 = .ok (.getfield 189, 3) := by decide +kernel
theorem dX11_asksDriver_14 : decode cX11_asksDriver 14 = .ok (.iconst 0, 1) := by decide +kernel
theorem dX11_asksDriver_15 : decode cX11_asksDriver 15 = .ok (.invokevirtual 152, 3) := by decide +kernel
theorem dX11_asksDriver_18 : decode cX11_asksDriver 18 = .ok (.iconst 0, 1) := by decide +kernel
theorem dX11_asksDriver_19 : decode cX11_asksDriver 19 = .ok (.istore_n 1, 1) := by decide +kernel
theorem dX11_asksDriver_20 : decode cX11_asksDriver 20 = .ok (.iload_n 1, 1) := by decide +kernel
theorem dX11_asksDriver_21 : decode cX11_asksDriver 21 = .ok (.bipush 8, 2) := by decide +kernel
theorem dX11_asksDriver_23 : decode cX11_asksDriver 23 = .ok (.if_icmp .ge 36, 3) := by decide +kernel
theorem dX11_asksDriver_26 : decode cX11_asksDriver 26 = .ok (.aload_n 0, 1) := by decide +kernel
theorem dX11_asksDriver_27 : decode cX11_asksDriver 27 = .ok (.getfield 7, 3) := by decide +kernel
theorem dX11_asksDriver_30 : decode cX11_asksDriver 30 = .ok (.iconst 5, 1) := by decide +kernel
theorem dX11_asksDriver_31 : decode cX11_asksDriver 31 = .ok (.iload_n 1, 1) := by decide +kernel
theorem dX11_asksDriver_32 : decode cX11_asksDriver 32 = .ok (.iadd, 1) := by decide +kernel
theorem dX11_asksDriver_33 : decode cX11_asksDriver 33 = .ok (.aload_n 0, 1) := by decide +kernel
theorem dX11_asksDriver_34 : decode cX11_asksDriver 34 = .ok (.getfield 186, 3) := by decide +kernel
theorem dX11_asksDriver_37 : decode cX11_asksDriver 37 = .ok (.bipush 21, 2) := by decide +kernel
theorem dX11_asksDriver_39 : decode cX11_asksDriver 39 = .ok (.if_icmp .ne 12, 3) := by decide +kernel
theorem dX11_asksDriver_42 : decode cX11_asksDriver 42 = .ok (.aload_n 0, 1) := by decide +kernel
theorem dX11_asksDriver_43 : decode cX11_asksDriver 43 = .ok (.getfield 116, 3) := by decide +kernel
theorem dX11_asksDriver_46 : decode cX11_asksDriver 46 = .ok (.iload_n 1, 1) := by decide +kernel
theorem dX11_asksDriver_47 : decode cX11_asksDriver 47 = .ok (.iaload, 1) := by decide +kernel
theorem dX11_asksDriver_48 : decode cX11_asksDriver 48 = .ok (.goto 4, 3) := by decide +kernel
theorem dX11_asksDriver_51 : decode cX11_asksDriver 51 = .ok (.iconst 0, 1) := by decide +kernel
theorem dX11_asksDriver_52 : decode cX11_asksDriver 52 = .ok (.iastore, 1) := by decide +kernel
theorem dX11_asksDriver_53 : decode cX11_asksDriver 53 = .ok (.iinc 1 1, 3) := by decide +kernel
theorem dX11_asksDriver_56 : decode cX11_asksDriver 56 = .ok (.goto (-36), 3) := by decide +kernel
theorem dX11_asksDriver_59 : decode cX11_asksDriver 59 = .ok (.aload_n 0, 1) := by decide +kernel
theorem dX11_asksDriver_60 : decode cX11_asksDriver 60 = .ok (.iconst 2, 1) := by decide +kernel
theorem dX11_asksDriver_61 : decode cX11_asksDriver 61 = .ok (.iconst 1, 1) := by decide +kernel
theorem dX11_asksDriver_62 : decode cX11_asksDriver 62 = .ok (.invokevirtual 57, 3) := by decide +kernel
theorem dX11_asksDriver_65 : decode cX11_asksDriver 65 = .ok (.return_, 1) := by decide +kernel
theorem dX11_tells_0 : decode cX11_tells 0 = .ok (.aload_n 0, 1) := by decide +kernel
theorem dX11_tells_1 : decode cX11_tells 1 = .ok (.bipush 50, 2) := by decide +kernel
theorem dX11_tells_3 : decode cX11_tells 3 = .ok (.iload_n 3, 1) := by decide +kernel
theorem dX11_tells_4 : decode cX11_tells 4 = .ok (.iconst 0, 1) := by decide +kernel
theorem dX11_tells_5 : decode cX11_tells 5 = .ok (.invokevirtual 152, 3) := by decide +kernel
theorem dX11_tells_8 : decode cX11_tells 8 = .ok (.aload_n 0, 1) := by decide +kernel
theorem dX11_tells_9 : decode cX11_tells 9 = .ok (.iload_n 1, 1) := by decide +kernel
theorem dX11_tells_10 : decode cX11_tells 10 = .ok (.iload_n 2, 1) := by decide +kernel
theorem dX11_tells_11 : decode cX11_tells 11 = .ok (.invokevirtual 57, 3) := by decide +kernel
theorem dX11_tells_14 : decode cX11_tells 14 = .ok (.return_, 1) := by decide +kernel
theorem dX11_copies_0 : decode cX11_copies 0 = .ok (.iconst 0, 1) := by decide +kernel
theorem dX11_copies_1 : decode cX11_copies 1 = .ok (.istore_n 3, 1) := by decide +kernel
theorem dX11_copies_2 : decode cX11_copies 2 = .ok (.iload_n 3, 1) := by decide +kernel
theorem dX11_copies_3 : decode cX11_copies 3 = .ok (.iconst 4, 1) := by decide +kernel
theorem dX11_copies_4 : decode cX11_copies 4 = .ok (.if_icmp .ge 49, 3) := by decide +kernel
theorem dX11_copies_7 : decode cX11_copies 7 = .ok (.aload_n 0, 1) := by decide +kernel
theorem dX11_copies_8 : decode cX11_copies 8 = .ok (.getfield 92, 3) := by decide +kernel
theorem dX11_copies_11 : decode cX11_copies 11 = .ok (.iconst 4, 1) := by decide +kernel
theorem dX11_copies_12 : decode cX11_copies 12 = .ok (.iload_n 2, 1) := by decide +kernel
theorem dX11_copies_13 : decode cX11_copies 13 = .ok (.imul, 1) := by decide +kernel
theorem dX11_copies_14 : decode cX11_copies 14 = .ok (.iload_n 3, 1) := by decide +kernel
theorem dX11_copies_15 : decode cX11_copies 15 = .ok (.iadd, 1) := by decide +kernel
theorem dX11_copies_16 : decode cX11_copies 16 = .ok (.aload_n 0, 1) := by decide +kernel
theorem dX11_copies_17 : decode cX11_copies 17 = .ok (.getfield 92, 3) := by decide +kernel
theorem dX11_copies_20 : decode cX11_copies 20 = .ok (.iconst 4, 1) := by decide +kernel
theorem dX11_copies_21 : decode cX11_copies 21 = .ok (.iload_n 1, 1) := by decide +kernel
theorem dX11_copies_22 : decode cX11_copies 22 = .ok (.imul, 1) := by decide +kernel
theorem dX11_copies_23 : decode cX11_copies 23 = .ok (.iload_n 3, 1) := by decide +kernel
theorem dX11_copies_24 : decode cX11_copies 24 = .ok (.iadd, 1) := by decide +kernel
theorem dX11_copies_25 : decode cX11_copies 25 = .ok (.iaload, 1) := by decide +kernel
theorem dX11_copies_26 : decode cX11_copies 26 = .ok (.iastore, 1) := by decide +kernel
theorem dX11_copies_27 : decode cX11_copies 27 = .ok (.aload_n 0, 1) := by decide +kernel
theorem dX11_copies_28 : decode cX11_copies 28 = .ok (.getfield 95, 3) := by decide +kernel
theorem dX11_copies_31 : decode cX11_copies 31 = .ok (.iconst 4, 1) := by decide +kernel
theorem dX11_copies_32 : decode cX11_copies 32 = .ok (.iload_n 2, 1) := by decide +kernel
theorem dX11_copies_33 : decode cX11_copies 33 = .ok (.imul, 1) := by decide +kernel
theorem dX11_copies_34 : decode cX11_copies 34 = .ok (.iload_n 3, 1) := by decide +kernel
theorem dX11_copies_35 : decode cX11_copies 35 = .ok (.iadd, 1) := by decide +kernel
theorem dX11_copies_36 : decode cX11_copies 36 = .ok (.aload_n 0, 1) := by decide +kernel
theorem dX11_copies_37 : decode cX11_copies 37 = .ok (.getfield 95, 3) := by decide +kernel
theorem dX11_copies_40 : decode cX11_copies 40 = .ok (.iconst 4, 1) := by decide +kernel
theorem dX11_copies_41 : decode cX11_copies 41 = .ok (.iload_n 1, 1) := by decide +kernel
theorem dX11_copies_42 : decode cX11_copies 42 = .ok (.imul, 1) := by decide +kernel
theorem dX11_copies_43 : decode cX11_copies 43 = .ok (.iload_n 3, 1) := by decide +kernel
theorem dX11_copies_44 : decode cX11_copies 44 = .ok (.iadd, 1) := by decide +kernel
theorem dX11_copies_45 : decode cX11_copies 45 = .ok (.iaload, 1) := by decide +kernel
theorem dX11_copies_46 : decode cX11_copies 46 = .ok (.iastore, 1) := by decide +kernel
theorem dX11_copies_47 : decode cX11_copies 47 = .ok (.iinc 3 1, 3) := by decide +kernel
theorem dX11_copies_50 : decode cX11_copies 50 = .ok (.goto (-48), 3) := by decide +kernel
theorem dX11_copies_53 : decode cX11_copies 53 = .ok (.return_, 1) := by decide +kernel
theorem dX11_closesAll_0 : decode cX11_closesAll 0 = .ok (.iconst 0, 1) := by decide +kernel
theorem dX11_closesAll_1 : decode cX11_closesAll 1 = .ok (.istore_n 2, 1) := by decide +kernel
theorem dX11_closesAll_2 : decode cX11_closesAll 2 = .ok (.iload_n 2, 1) := by decide +kernel
theorem dX11_closesAll_3 : decode cX11_closesAll 3 = .ok (.iconst 4, 1) := by decide +kernel
theorem dX11_closesAll_4 : decode cX11_closesAll 4 = .ok (.if_icmp .ge 20, 3) := by decide +kernel
theorem dX11_closesAll_7 : decode cX11_closesAll 7 = .ok (.aload_n 0, 1) := by decide +kernel
theorem dX11_closesAll_8 : decode cX11_closesAll 8 = .ok (.getfield 92, 3) := by decide +kernel
theorem dX11_closesAll_11 : decode cX11_closesAll 11 = .ok (.iconst 4, 1) := by decide +kernel
theorem dX11_closesAll_12 : decode cX11_closesAll 12 = .ok (.iload_n 1, 1) := by decide +kernel
theorem dX11_closesAll_13 : decode cX11_closesAll 13 = .ok (.imul, 1) := by decide +kernel
theorem dX11_closesAll_14 : decode cX11_closesAll 14 = .ok (.iload_n 2, 1) := by decide +kernel
theorem dX11_closesAll_15 : decode cX11_closesAll 15 = .ok (.iadd, 1) := by decide +kernel
theorem dX11_closesAll_16 : decode cX11_closesAll 16 = .ok (.iconst (-1), 1) := by decide +kernel
theorem dX11_closesAll_17 : decode cX11_closesAll 17 = .ok (.iastore, 1) := by decide +kernel
theorem dX11_closesAll_18 : decode cX11_closesAll 18 = .ok (.iinc 2 1, 3) := by decide +kernel
theorem dX11_closesAll_21 : decode cX11_closesAll 21 = .ok (.goto (-19), 3) := by decide +kernel
theorem dX11_closesAll_24 : decode cX11_closesAll 24 = .ok (.return_, 1) := by decide +kernel
theorem dX11_begins_0 : decode cX11_begins 0 = .ok (.iload_n 2, 1) := by decide +kernel
theorem dX11_begins_1 : decode cX11_begins 1 = .ok (.iconst 1, 1) := by decide +kernel
theorem dX11_begins_2 : decode cX11_begins 2 = .ok (.if_icmp .ne 16, 3) := by decide +kernel
theorem dX11_begins_5 : decode cX11_begins 5 = .ok (.aload_n 0, 1) := by decide +kernel
theorem dX11_begins_6 : decode cX11_begins 6 = .ok (.iconst 2, 1) := by decide +kernel
theorem dX11_begins_7 : decode cX11_begins 7 = .ok (.iload_n 1, 1) := by decide +kernel
theorem dX11_begins_8 : decode cX11_begins 8 = .ok (.aload_n 0, 1) := by decide +kernel
theorem dX11_begins_9 : decode cX11_begins 9 = .ok (.iload_n 1, 1) := by decide +kernel
theorem dX11_begins_10 : decode cX11_begins 10 = .ok (.iload_n 3, 1) := by decide +kernel
theorem dX11_begins_11 : decode cX11_begins 11 = .ok (.invokevirtual 192, 3) := by decide +kernel
theorem dX11_begins_14 : decode cX11_begins 14 = .ok (.invokevirtual 196, 3) := by decide +kernel
theorem dX11_begins_17 : decode cX11_begins 17 = .ok (.return_, 1) := by decide +kernel
theorem dX11_begins_18 : decode cX11_begins 18 = .ok (.iload_n 2, 1) := by decide +kernel
theorem dX11_begins_19 : decode cX11_begins 19 = .ok (.bipush 6, 2) := by decide +kernel
theorem dX11_begins_21 : decode cX11_begins 21 = .ok (.if_icmp .ne 15, 3) := by decide +kernel
theorem dX11_begins_24 : decode cX11_begins 24 = .ok (.aload_n 0, 1) := by decide +kernel
theorem dX11_begins_25 : decode cX11_begins 25 = .ok (.iconst 2, 1) := by decide +kernel
theorem dX11_begins_26 : decode cX11_begins 26 = .ok (.iload_n 1, 1) := by decide +kernel
theorem dX11_begins_27 : decode cX11_begins 27 = .ok (.aload_n 0, 1) := by decide +kernel
theorem dX11_begins_28 : decode cX11_begins 28 = .ok (.iload_n 3, 1) := by decide +kernel
theorem dX11_begins_29 : decode cX11_begins 29 = .ok (.invokevirtual 199, 3) := by decide +kernel
theorem dX11_begins_32 : decode cX11_begins 32 = .ok (.invokevirtual 196, 3) := by decide +kernel
theorem dX11_begins_35 : decode cX11_begins 35 = .ok (.return_, 1) := by decide +kernel
theorem dX11_begins_36 : decode cX11_begins 36 = .ok (.iload_n 3, 1) := by decide +kernel
theorem dX11_begins_37 : decode cX11_begins 37 = .ok (.ifCond .lt 21, 3) := by decide +kernel
theorem dX11_begins_40 : decode cX11_begins 40 = .ok (.iload_n 3, 1) := by decide +kernel
theorem dX11_begins_41 : decode cX11_begins 41 = .ok (.iconst 3, 1) := by decide +kernel
theorem dX11_begins_42 : decode cX11_begins 42 = .ok (.if_icmp .gt 16, 3) := by decide +kernel
theorem dX11_begins_45 : decode cX11_begins 45 = .ok (.aload_n 0, 1) := by decide +kernel
theorem dX11_begins_46 : decode cX11_begins 46 = .ok (.getfield 92, 3) := by decide +kernel
theorem dX11_begins_49 : decode cX11_begins 49 = .ok (.iconst 4, 1) := by decide +kernel
theorem dX11_begins_50 : decode cX11_begins 50 = .ok (.iload_n 1, 1) := by decide +kernel
theorem dX11_begins_51 : decode cX11_begins 51 = .ok (.imul, 1) := by decide +kernel
theorem dX11_begins_52 : decode cX11_begins 52 = .ok (.iload_n 3, 1) := by decide +kernel
theorem dX11_begins_53 : decode cX11_begins 53 = .ok (.iadd, 1) := by decide +kernel
theorem dX11_begins_54 : decode cX11_begins 54 = .ok (.iaload, 1) := by decide +kernel
theorem dX11_begins_55 : decode cX11_begins 55 = .ok (.ifCond .ge 12, 3) := by decide +kernel
theorem dX11_begins_58 : decode cX11_begins 58 = .ok (.aload_n 0, 1) := by decide +kernel
theorem dX11_begins_59 : decode cX11_begins 59 = .ok (.iconst 2, 1) := by decide +kernel
theorem dX11_begins_60 : decode cX11_begins 60 = .ok (.iload_n 1, 1) := by decide +kernel
theorem dX11_begins_61 : decode cX11_begins 61 = .ok (.bipush (-8), 2) := by decide +kernel
theorem dX11_begins_63 : decode cX11_begins 63 = .ok (.invokevirtual 196, 3) := by decide +kernel
theorem dX11_begins_66 : decode cX11_begins 66 = .ok (.return_, 1) := by decide +kernel
theorem dX11_begins_67 : decode cX11_begins 67 = .ok (.iconst 4, 1) := by decide +kernel
theorem dX11_begins_68 : decode cX11_begins 68 = .ok (.iload_n 1, 1) := by decide +kernel
theorem dX11_begins_69 : decode cX11_begins 69 = .ok (.imul, 1) := by decide +kernel
theorem dX11_begins_70 : decode cX11_begins 70 = .ok (.iload_n 3, 1) := by decide +kernel
theorem dX11_begins_71 : decode cX11_begins 71 = .ok (.iadd, 1) := by decide +kernel
theorem dX11_begins_72 : decode cX11_begins 72 = .ok (.istore 5, 2) := by decide +kernel
theorem dX11_begins_74 : decode cX11_begins 74 = .ok (.aload_n 0, 1) := by decide +kernel
theorem dX11_begins_75 : decode cX11_begins 75 = .ok (.getfield 92, 3) := by decide +kernel
theorem dX11_begins_78 : decode cX11_begins 78 = .ok (.iload 5, 2) := by decide +kernel
theorem dX11_begins_80 : decode cX11_begins 80 = .ok (.iaload, 1) := by decide +kernel
theorem dX11_begins_81 : decode cX11_begins 81 = .ok (.istore 6, 2) := by decide +kernel
theorem dX11_begins_83 : decode cX11_begins 83 = .ok (.iload_n 2, 1) := by decide +kernel
theorem dX11_begins_84 : decode cX11_begins 84 = .ok (.iconst 2, 1) := by decide +kernel
theorem dX11_begins_85 : decode cX11_begins 85 = .ok (.if_icmp .ne 21, 3) := by decide +kernel
theorem dX11_begins_88 : decode cX11_begins 88 = .ok (.aload_n 0, 1) := by decide +kernel
theorem dX11_begins_89 : decode cX11_begins 89 = .ok (.getfield 92, 3) := by decide +kernel
theorem dX11_begins_92 : decode cX11_begins 92 = .ok (.iload 5, 2) := by decide +kernel
theorem dX11_begins_94 : decode cX11_begins 94 = .ok (.iconst (-1), 1) := by decide +kernel
theorem dX11_begins_95 : decode cX11_begins 95 = .ok (.iastore, 1) := by decide +kernel
theorem dX11_begins_96 : decode cX11_begins 96 = .ok (.aload_n 0, 1) := by decide +kernel
theorem dX11_begins_97 : decode cX11_begins 97 = .ok (.iconst 2, 1) := by decide +kernel
theorem dX11_begins_98 : decode cX11_begins 98 = .ok (.iload_n 1, 1) := by decide +kernel
theorem dX11_begins_99 : decode cX11_begins 99 = .ok (.iconst 0, 1) := by decide +kernel
theorem dX11_begins_100 : decode cX11_begins 100 = .ok (.invokevirtual 196, 3) := by decide +kernel
theorem dX11_begins_103 : decode cX11_begins 103 = .ok (.goto 124, 3) := by decide +kernel
theorem dX11_begins_106 : decode cX11_begins 106 = .ok (.iload_n 2, 1) := by decide +kernel
theorem dX11_begins_107 : decode cX11_begins 107 = .ok (.iconst 3, 1) := by decide +kernel
theorem dX11_begins_108 : decode cX11_begins 108 = .ok (.if_icmp .ne 15, 3) := by decide +kernel
theorem dX11_begins_111 : decode cX11_begins 111 = .ok (.aload_n 0, 1) := by decide +kernel
theorem dX11_begins_112 : decode cX11_begins 112 = .ok (.iload_n 1, 1) := by decide +kernel
theorem dX11_begins_113 : decode cX11_begins 113 = .ok (.iload 5, 2) := by decide +kernel
theorem dX11_begins_115 : decode cX11_begins 115 = .ok (.iload 6, 2) := by decide +kernel
theorem dX11_begins_117 : decode cX11_begins 117 = .ok (.invokevirtual 203, 3) := by decide +kernel
theorem dX11_begins_120 : decode cX11_begins 120 = .ok (.goto 107, 3) := by decide +kernel
theorem dX11_begins_123 : decode cX11_begins 123 = .ok (.iload_n 2, 1) := by decide +kernel
theorem dX11_begins_124 : decode cX11_begins 124 = .ok (.iconst 4, 1) := by decide +kernel
theorem dX11_begins_125 : decode cX11_begins 125 = .ok (.if_icmp .ne 17, 3) := by decide +kernel
theorem dX11_begins_128 : decode cX11_begins 128 = .ok (.aload_n 0, 1) := by decide +kernel
theorem dX11_begins_129 : decode cX11_begins 129 = .ok (.iload_n 1, 1) := by decide +kernel
theorem dX11_begins_130 : decode cX11_begins 130 = .ok (.iload 5, 2) := by decide +kernel
theorem dX11_begins_132 : decode cX11_begins 132 = .ok (.iload 6, 2) := by decide +kernel
theorem dX11_begins_134 : decode cX11_begins 134 = .ok (.iload 4, 2) := by decide +kernel
theorem dX11_begins_136 : decode cX11_begins 136 = .ok (.invokevirtual 206, 3) := by decide +kernel
theorem dX11_begins_139 : decode cX11_begins 139 = .ok (.goto 88, 3) := by decide +kernel
theorem dX11_begins_142 : decode cX11_begins 142 = .ok (.iload_n 2, 1) := by decide +kernel
theorem dX11_begins_143 : decode cX11_begins 143 = .ok (.iconst 5, 1) := by decide +kernel
theorem dX11_begins_144 : decode cX11_begins 144 = .ok (.if_icmp .ne 70, 3) := by decide +kernel
theorem dX11_begins_147 : decode cX11_begins 147 = .ok (.iload 4, 2) := by decide +kernel
theorem dX11_begins_149 : decode cX11_begins 149 = .ok (.ifCond .lt 19, 3) := by decide +kernel
theorem dX11_begins_152 : decode cX11_begins 152 = .ok (.iload 4, 2) := by decide +kernel
theorem dX11_begins_154 : decode cX11_begins 154 = .ok (.aload_n 0, 1) := by decide +kernel
theorem dX11_begins_155 : decode cX11_begins 155 = .ok (.getfield 101, 3) := by decide +kernel
theorem dX11_begins_158 : decode cX11_begins 158 = .ok (.iload 6, 2) := by decide +kernel
theorem dX11_begins_160 : decode cX11_begins 160 = .ok (.iaload, 1) := by decide +kernel
theorem dX11_begins_161 : decode cX11_begins 161 = .ok (.if_icmp .gt 7, 3) := by decide +kernel
theorem dX11_begins_164 : decode cX11_begins 164 = .ok (.iconst 1, 1) := by decide +kernel
theorem dX11_begins_165 : decode cX11_begins 165 = .ok (.goto 4, 3) := by decide +kernel
theorem dX11_begins_168 : decode cX11_begins 168 = .ok (.iconst 0, 1) := by decide +kernel
theorem dX11_begins_169 : decode cX11_begins 169 = .ok (.istore 7, 2) := by decide +kernel
theorem dX11_begins_171 : decode cX11_begins 171 = .ok (.aload_n 0, 1) := by decide +kernel
theorem dX11_begins_172 : decode cX11_begins 172 = .ok (.getfield 95, 3) := by decide +kernel
theorem dX11_begins_175 : decode cX11_begins 175 = .ok (.iload 5, 2) := by decide +kernel
theorem dX11_begins_177 : decode cX11_begins 177 = .ok (.iload 7, 2) := by decide +kernel
theorem dX11_begins_179 : decode cX11_begins 179 = .ok (.ifCond .eq 8, 3) := by decide +kernel
theorem dX11_begins_182 : decode cX11_begins 182 = .ok (.iload 4, 2) := by decide +kernel
theorem dX11_begins_184 : decode cX11_begins 184 = .ok (.goto 10, 3) := by decide +kernel
theorem dX11_begins_187 : decode cX11_begins 187 = .ok (.aload_n 0, 1) := by decide +kernel
theorem dX11_begins_188 : decode cX11_begins 188 = .ok (.getfield 95, 3) := by decide +kernel
theorem dX11_begins_191 : decode cX11_begins 191 = .ok (.iload 5, 2) := by decide +kernel
theorem dX11_begins_193 : decode cX11_begins 193 = .ok (.iaload, 1) := by decide +kernel
theorem dX11_begins_194 : decode cX11_begins 194 = .ok (.iastore, 1) := by decide +kernel
theorem dX11_begins_195 : decode cX11_begins 195 = .ok (.aload_n 0, 1) := by decide +kernel
theorem dX11_begins_196 : decode cX11_begins 196 = .ok (.iconst 2, 1) := by decide +kernel
theorem dX11_begins_197 : decode cX11_begins 197 = .ok (.iload_n 1, 1) := by decide +kernel
theorem dX11_begins_198 : decode cX11_begins 198 = .ok (.iload 7, 2) := by decide +kernel
theorem dX11_begins_200 : decode cX11_begins 200 = .ok (.ifCond .eq 7, 3) := by decide +kernel
theorem dX11_begins_203 : decode cX11_begins 203 = .ok (.iconst 0, 1) := by decide +kernel
theorem dX11_begins_204 : decode cX11_begins 204 = .ok (.goto 4, 3) := by decide +kernel
theorem dX11_begins_207 : decode cX11_begins 207 = .ok (.iconst (-1), 1) := by decide +kernel
theorem dX11_begins_208 : decode cX11_begins 208 = .ok (.invokevirtual 196, 3) := by decide +kernel
theorem dX11_begins_211 : decode cX11_begins 211 = .ok (.goto 16, 3) := by decide +kernel
theorem dX11_begins_214 : decode cX11_begins 214 = .ok (.aload_n 0, 1) := by decide +kernel
theorem dX11_begins_215 : decode cX11_begins 215 = .ok (.iconst 2, 1) := by decide +kernel
theorem dX11_begins_216 : decode cX11_begins 216 = .ok (.iload_n 1, 1) := by decide +kernel
theorem dX11_begins_217 : decode cX11_begins 217 = .ok (.aload_n 0, 1) := by decide +kernel
theorem dX11_begins_218 : decode cX11_begins 218 = .ok (.getfield 101, 3) := by decide +kernel
theorem dX11_begins_221 : decode cX11_begins 221 = .ok (.iload 6, 2) := by decide +kernel
theorem dX11_begins_223 : decode cX11_begins 223 = .ok (.iaload, 1) := by decide +kernel
theorem dX11_begins_224 : decode cX11_begins 224 = .ok (.invokevirtual 196, 3) := by decide +kernel
theorem dX11_begins_227 : decode cX11_begins 227 = .ok (.return_, 1) := by decide +kernel
theorem dX11_opens_0 : decode cX11_opens 0 = .ok (.iload_n 2, 1) := by decide +kernel
theorem dX11_opens_1 : decode cX11_opens 1 = .ok (.ifCond .lt 9, 3) := by decide +kernel
theorem dX11_opens_4 : decode cX11_opens 4 = .ok (.iload_n 2, 1) := by decide +kernel
theorem dX11_opens_5 : decode cX11_opens 5 = .ok (.bipush 15, 2) := by decide +kernel
theorem dX11_opens_7 : decode cX11_opens 7 = .ok (.if_icmp .le 5, 3) := by decide +kernel
theorem dX11_opens_10 : decode cX11_opens 10 = .ok (.iconst (-1), 1) := by decide +kernel
theorem dX11_opens_11 : decode cX11_opens 11 = .ok (.ireturn, 1) := by decide +kernel
theorem dX11_opens_12 : decode cX11_opens 12 = .ok (.iconst 0, 1) := by decide +kernel
theorem dX11_opens_13 : decode cX11_opens 13 = .ok (.istore_n 3, 1) := by decide +kernel
theorem dX11_opens_14 : decode cX11_opens 14 = .ok (.iload_n 3, 1) := by decide +kernel
theorem dX11_opens_15 : decode cX11_opens 15 = .ok (.iconst 4, 1) := by decide +kernel
theorem dX11_opens_16 : decode cX11_opens 16 = .ok (.if_icmp .ge 22, 3) := by decide +kernel
theorem dX11_opens_19 : decode cX11_opens 19 = .ok (.aload_n 0, 1) := by decide +kernel
theorem dX11_opens_20 : decode cX11_opens 20 = .ok (.getfield 92, 3) := by decide +kernel
theorem dX11_opens_23 : decode cX11_opens 23 = .ok (.iconst 4, 1) := by decide +kernel
theorem dX11_opens_24 : decode cX11_opens 24 = .ok (.iload_n 1, 1) := by decide +kernel
theorem dX11_opens_25 : decode cX11_opens 25 = .ok (.imul, 1) := by decide +kernel
theorem dX11_opens_26 : decode cX11_opens 26 = .ok (.iload_n 3, 1) := by decide +kernel
theorem dX11_opens_27 : decode cX11_opens 27 = .ok (.iadd, 1) := by decide +kernel
theorem dX11_opens_28 : decode cX11_opens 28 = .ok (.iaload, 1) := by decide +kernel
theorem dX11_opens_29 : decode cX11_opens 29 = .ok (.ifCond .lt 9, 3) := by decide +kernel
theorem dX11_opens_32 : decode cX11_opens 32 = .ok (.iinc 3 1, 3) := by decide +kernel
theorem dX11_opens_35 : decode cX11_opens 35 = .ok (.goto (-21), 3) := by decide +kernel
theorem dX11_opens_38 : decode cX11_opens 38 = .ok (.iload_n 3, 1) := by decide +kernel
theorem dX11_opens_39 : decode cX11_opens 39 = .ok (.iconst 4, 1) := by decide +kernel
theorem dX11_opens_40 : decode cX11_opens 40 = .ok (.if_icmp .ne 6, 3) := by decide +kernel
theorem dX11_opens_43 : decode cX11_opens 43 = .ok (.bipush (-2), 2) := by decide +kernel
theorem dX11_opens_45 : decode cX11_opens 45 = .ok (.ireturn, 1) := by decide +kernel
theorem dX11_opens_46 : decode cX11_opens 46 = .ok (.aload_n 0, 1) := by decide +kernel
theorem dX11_opens_47 : decode cX11_opens 47 = .ok (.getfield 98, 3) := by decide +kernel
theorem dX11_opens_50 : decode cX11_opens 50 = .ok (.iload_n 2, 1) := by decide +kernel
theorem dX11_opens_51 : decode cX11_opens 51 = .ok (.baload, 1) := by decide +kernel
theorem dX11_opens_52 : decode cX11_opens 52 = .ok (.ifCond .ne 29, 3) := by decide +kernel
theorem dX11_opens_55 : decode cX11_opens 55 = .ok (.aload_n 0, 1) := by decide +kernel
theorem dX11_opens_56 : decode cX11_opens 56 = .ok (.invokevirtual 209, 3) := by decide +kernel
theorem dX11_opens_59 : decode cX11_opens 59 = .ok (.bipush 8, 2) := by decide +kernel
theorem dX11_opens_61 : decode cX11_opens 61 = .ok (.if_icmp .ne 6, 3) := by decide +kernel
theorem dX11_opens_64 : decode cX11_opens 64 = .ok (.bipush (-3), 2) := by decide +kernel
theorem dX11_opens_66 : decode cX11_opens 66 = .ok (.ireturn, 1) := by decide +kernel
theorem dX11_opens_67 : decode cX11_opens 67 = .ok (.aload_n 0, 1) := by decide +kernel
theorem dX11_opens_68 : decode cX11_opens 68 = .ok (.getfield 98, 3) := by decide +kernel
theorem dX11_opens_71 : decode cX11_opens 71 = .ok (.iload_n 2, 1) := by decide +kernel
theorem dX11_opens_72 : decode cX11_opens 72 = .ok (.iconst 1, 1) := by decide +kernel
theorem dX11_opens_73 : decode cX11_opens 73 = .ok (.bastore, 1) := by decide +kernel
theorem dX11_opens_74 : decode cX11_opens 74 = .ok (.aload_n 0, 1) := by decide +kernel
theorem dX11_opens_75 : decode cX11_opens 75 = .ok (.getfield 101, 3) := by decide +kernel
theorem dX11_opens_78 : decode cX11_opens 78 = .ok (.iload_n 2, 1) := by decide +kernel
theorem dX11_opens_79 : decode cX11_opens 79 = .ok (.iconst 0, 1) := by decide +kernel
theorem dX11_opens_80 : decode cX11_opens 80 = .ok (.iastore, 1) := by decide +kernel
theorem dX11_opens_81 : decode cX11_opens 81 = .ok (.aload_n 0, 1) := by decide +kernel
theorem dX11_opens_82 : decode cX11_opens 82 = .ok (.getfield 92, 3) := by decide +kernel
theorem dX11_opens_85 : decode cX11_opens 85 = .ok (.iconst 4, 1) := by decide +kernel
theorem dX11_opens_86 : decode cX11_opens 86 = .ok (.iload_n 1, 1) := by decide +kernel
theorem dX11_opens_87 : decode cX11_opens 87 = .ok (.imul, 1) := by decide +kernel
theorem dX11_opens_88 : decode cX11_opens 88 = .ok (.iload_n 3, 1) := by decide +kernel
theorem dX11_opens_89 : decode cX11_opens 89 = .ok (.iadd, 1) := by decide +kernel
theorem dX11_opens_90 : decode cX11_opens 90 = .ok (.iload_n 2, 1) := by decide +kernel
theorem dX11_opens_91 : decode cX11_opens 91 = .ok (.iastore, 1) := by decide +kernel
theorem dX11_opens_92 : decode cX11_opens 92 = .ok (.aload_n 0, 1) := by decide +kernel
theorem dX11_opens_93 : decode cX11_opens 93 = .ok (.getfield 95, 3) := by decide +kernel
theorem dX11_opens_96 : decode cX11_opens 96 = .ok (.iconst 4, 1) := by decide +kernel
theorem dX11_opens_97 : decode cX11_opens 97 = .ok (.iload_n 1, 1) := by decide +kernel
theorem dX11_opens_98 : decode cX11_opens 98 = .ok (.imul, 1) := by decide +kernel
theorem dX11_opens_99 : decode cX11_opens 99 = .ok (.iload_n 3, 1) := by decide +kernel
theorem dX11_opens_100 : decode cX11_opens 100 = .ok (.iadd, 1) := by decide +kernel
theorem dX11_opens_101 : decode cX11_opens 101 = .ok (.iconst 0, 1) := by decide +kernel
theorem dX11_opens_102 : decode cX11_opens 102 = .ok (.iastore, 1) := by decide +kernel
theorem dX11_opens_103 : decode cX11_opens 103 = .ok (.iload_n 3, 1) := by decide +kernel
theorem dX11_opens_104 : decode cX11_opens 104 = .ok (.ireturn, 1) := by decide +kernel
theorem dX11_filesThere_0 : decode cX11_filesThere 0 = .ok (.iconst 0, 1) := by decide +kernel
theorem dX11_filesThere_1 : decode cX11_filesThere 1 = .ok (.istore_n 1, 1) := by decide +kernel
theorem dX11_filesThere_2 : decode cX11_filesThere 2 = .ok (.iconst 0, 1) := by decide +kernel
theorem dX11_filesThere_3 : decode cX11_filesThere 3 = .ok (.istore_n 2, 1) := by decide +kernel
theorem dX11_filesThere_4 : decode cX11_filesThere 4 = .ok (.iload_n 2, 1) := by decide +kernel
theorem dX11_filesThere_5 : decode cX11_filesThere 5 = .ok (.bipush 16, 2) := by decide +kernel
theorem dX11_filesThere_7 : decode cX11_filesThere 7 = .ok (.if_icmp .ge 26, 3) := by decide +kernel
theorem dX11_filesThere_10 : decode cX11_filesThere 10 = .ok (.iload_n 1, 1) := by decide +kernel
theorem dX11_filesThere_11 : decode cX11_filesThere 11 = .ok (.aload_n 0, 1) := by decide +kernel
theorem dX11_filesThere_12 : decode cX11_filesThere 12 = .ok (.getfield 98, 3) := by decide +kernel
theorem dX11_filesThere_15 : decode cX11_filesThere 15 = .ok (.iload_n 2, 1) := by decide +kernel
theorem dX11_filesThere_16 : decode cX11_filesThere 16 = .ok (.baload, 1) := by decide +kernel
theorem dX11_filesThere_17 : decode cX11_filesThere 17 = .ok (.ifCond .eq 7, 3) := by decide +kernel
theorem dX11_filesThere_20 : decode cX11_filesThere 20 = .ok (.iconst 1, 1) := by decide +kernel
theorem dX11_filesThere_21 : decode cX11_filesThere 21 = .ok (.goto 4, 3) := by decide +kernel
theorem dX11_filesThere_24 : decode cX11_filesThere 24 = .ok (.iconst 0, 1) := by decide +kernel
theorem dX11_filesThere_25 : decode cX11_filesThere 25 = .ok (.iadd, 1) := by decide +kernel
theorem dX11_filesThere_26 : decode cX11_filesThere 26 = .ok (.istore_n 1, 1) := by decide +kernel
theorem dX11_filesThere_27 : decode cX11_filesThere 27 = .ok (.iinc 2 1, 3) := by decide +kernel
theorem dX11_filesThere_30 : decode cX11_filesThere 30 = .ok (.goto (-26), 3) := by decide +kernel
theorem dX11_filesThere_33 : decode cX11_filesThere 33 = .ok (.iload_n 1, 1) := by decide +kernel
theorem dX11_filesThere_34 : decode cX11_filesThere 34 = .ok (.ireturn, 1) := by decide +kernel
theorem dX11_removes_0 : decode cX11_removes 0 = .ok (.iload_n 1, 1) := by decide +kernel
theorem dX11_removes_1 : decode cX11_removes 1 = .ok (.ifCond .lt 18, 3) := by decide +kernel
theorem dX11_removes_4 : decode cX11_removes 4 = .ok (.iload_n 1, 1) := by decide +kernel
theorem dX11_removes_5 : decode cX11_removes 5 = .ok (.bipush 15, 2) := by decide +kernel
theorem dX11_removes_7 : decode cX11_removes 7 = .ok (.if_icmp .gt 12, 3) := by decide +kernel
theorem dX11_removes_10 : decode cX11_removes 10 = .ok (.aload_n 0, 1) := by decide +kernel
theorem dX11_removes_11 : decode cX11_removes 11 = .ok (.getfield 98, 3) := by decide +kernel
theorem dX11_removes_14 : decode cX11_removes 14 = .ok (.iload_n 1, 1) := by decide +kernel
theorem dX11_removes_15 : decode cX11_removes 15 = .ok (.baload, 1) := by decide +kernel
theorem dX11_removes_16 : decode cX11_removes 16 = .ok (.ifCond .ne 5, 3) := by decide +kernel
theorem dX11_removes_19 : decode cX11_removes 19 = .ok (.iconst (-1), 1) := by decide +kernel
theorem dX11_removes_20 : decode cX11_removes 20 = .ok (.ireturn, 1) := by decide +kernel
theorem dX11_removes_21 : decode cX11_removes 21 = .ok (.iconst 0, 1) := by decide +kernel
theorem dX11_removes_22 : decode cX11_removes 22 = .ok (.istore_n 2, 1) := by decide +kernel
theorem dX11_removes_23 : decode cX11_removes 23 = .ok (.iload_n 2, 1) := by decide +kernel
theorem dX11_removes_24 : decode cX11_removes 24 = .ok (.bipush 48, 2) := by decide +kernel
theorem dX11_removes_26 : decode cX11_removes 26 = .ok (.if_icmp .ge 22, 3) := by decide +kernel
theorem dX11_removes_29 : decode cX11_removes 29 = .ok (.aload_n 0, 1) := by decide +kernel
theorem dX11_removes_30 : decode cX11_removes 30 = .ok (.getfield 92, 3) := by decide +kernel
theorem dX11_removes_33 : decode cX11_removes 33 = .ok (.iload_n 2, 1) := by decide +kernel
theorem dX11_removes_34 : decode cX11_removes 34 = .ok (.iaload, 1) := by decide +kernel
theorem dX11_removes_35 : decode cX11_removes 35 = .ok (.iload_n 1, 1) := by decide +kernel
theorem dX11_removes_36 : decode cX11_removes 36 = .ok (.if_icmp .ne 6, 3) := by decide +kernel
theorem dX11_removes_39 : decode cX11_removes 39 = .ok (.bipush (-7), 2) := by decide +kernel
theorem dX11_removes_41 : decode cX11_removes 41 = .ok (.ireturn, 1) := by decide +kernel
theorem dX11_removes_42 : decode cX11_removes 42 = .ok (.iinc 2 1, 3) := by decide +kernel
theorem dX11_removes_45 : decode cX11_removes 45 = .ok (.goto (-22), 3) := by decide +kernel
theorem dX11_removes_48 : decode cX11_removes 48 = .ok (.aload_n 0, 1) := by decide +kernel
theorem dX11_removes_49 : decode cX11_removes 49 = .ok (.getfield 98, 3) := by decide +kernel
theorem dX11_removes_52 : decode cX11_removes 52 = .ok (.iload_n 1, 1) := by decide +kernel
theorem dX11_removes_53 : decode cX11_removes 53 = .ok (.iconst 0, 1) := by decide +kernel
theorem dX11_removes_54 : decode cX11_removes 54 = .ok (.bastore, 1) := by decide +kernel
theorem dX11_removes_55 : decode cX11_removes 55 = .ok (.iconst 4, 1) := by decide +kernel
theorem dX11_removes_56 : decode cX11_removes 56 = .ok (.iload_n 1, 1) := by decide +kernel
theorem dX11_removes_57 : decode cX11_removes 57 = .ok (.imul, 1) := by decide +kernel
theorem dX11_removes_58 : decode cX11_removes 58 = .ok (.istore_n 2, 1) := by decide +kernel
theorem dX11_removes_59 : decode cX11_removes 59 = .ok (.iload_n 2, 1) := by decide +kernel
theorem dX11_removes_60 : decode cX11_removes 60 = .ok (.iconst 4, 1) := by decide +kernel
theorem dX11_removes_61 : decode cX11_removes 61 = .ok (.iload_n 1, 1) := by decide +kernel
theorem dX11_removes_62 : decode cX11_removes 62 = .ok (.imul, 1) := by decide +kernel
theorem dX11_removes_63 : decode cX11_removes 63 = .ok (.iconst 4, 1) := by decide +kernel
theorem dX11_removes_64 : decode cX11_removes 64 = .ok (.iadd, 1) := by decide +kernel
theorem dX11_removes_65 : decode cX11_removes 65 = .ok (.if_icmp .ge 37, 3) := by decide +kernel
theorem dX11_removes_68 : decode cX11_removes 68 = .ok (.aload_n 0, 1) := by decide +kernel
theorem dX11_removes_69 : decode cX11_removes 69 = .ok (.getfield 104, 3) := by decide +kernel
theorem dX11_removes_72 : decode cX11_removes 72 = .ok (.iload_n 2, 1) := by decide +kernel
theorem dX11_removes_73 : decode cX11_removes 73 = .ok (.iaload, 1) := by decide +kernel
theorem dX11_removes_74 : decode cX11_removes 74 = .ok (.ifCond .lt 22, 3) := by decide +kernel
theorem dX11_removes_77 : decode cX11_removes 77 = .ok (.aload_n 0, 1) := by decide +kernel
theorem dX11_removes_78 : decode cX11_removes 78 = .ok (.getfield 107, 3) := by decide +kernel
theorem dX11_removes_81 : decode cX11_removes 81 = .ok (.aload_n 0, 1) := by decide +kernel
theorem dX11_removes_82 : decode cX11_removes 82 = .ok (.getfield 104, 3) := by decide +kernel
theorem dX11_removes_85 : decode cX11_removes 85 = .ok (.iload_n 2, 1) := by decide +kernel
theorem dX11_removes_86 : decode cX11_removes 86 = .ok (.iaload, 1) := by decide +kernel
theorem dX11_removes_87 : decode cX11_removes 87 = .ok (.iconst 0, 1) := by decide +kernel
theorem dX11_removes_88 : decode cX11_removes 88 = .ok (.bastore, 1) := by decide +kernel
theorem dX11_removes_89 : decode cX11_removes 89 = .ok (.aload_n 0, 1) := by decide +kernel
theorem dX11_removes_90 : decode cX11_removes 90 = .ok (.getfield 104, 3) := by decide +kernel
theorem dX11_removes_93 : decode cX11_removes 93 = .ok (.iload_n 2, 1) := by decide +kernel
theorem dX11_removes_94 : decode cX11_removes 94 = .ok (.iconst (-1), 1) := by decide +kernel
theorem dX11_removes_95 : decode cX11_removes 95 = .ok (.iastore, 1) := by decide +kernel
theorem dX11_removes_96 : decode cX11_removes 96 = .ok (.iinc 2 1, 3) := by decide +kernel
theorem dX11_removes_99 : decode cX11_removes 99 = .ok (.goto (-40), 3) := by decide +kernel
theorem dX11_removes_102 : decode cX11_removes 102 = .ok (.iconst 0, 1) := by decide +kernel
theorem dX11_removes_103 : decode cX11_removes 103 = .ok (.ireturn, 1) := by decide +kernel
theorem dX11_reads_0 : decode cX11_reads 0 = .ok (.aload_n 0, 1) := by decide +kernel
theorem dX11_reads_1 : decode cX11_reads 1 = .ok (.getfield 95, 3) := by decide +kernel
theorem dX11_reads_4 : decode cX11_reads 4 = .ok (.iload_n 2, 1) := by decide +kernel
theorem dX11_reads_5 : decode cX11_reads 5 = .ok (.iaload, 1) := by decide +kernel
theorem dX11_reads_6 : decode cX11_reads 6 = .ok (.istore 4, 2) := by decide +kernel
theorem dX11_reads_8 : decode cX11_reads 8 = .ok (.iload 4, 2) := by decide +kernel
theorem dX11_reads_10 : decode cX11_reads 10 = .ok (.aload_n 0, 1) := by decide +kernel
theorem dX11_reads_11 : decode cX11_reads 11 = .ok (.getfield 101, 3) := by decide +kernel
theorem dX11_reads_14 : decode cX11_reads 14 = .ok (.iload_n 3, 1) := by decide +kernel
theorem dX11_reads_15 : decode cX11_reads 15 = .ok (.iaload, 1) := by decide +kernel
theorem dX11_reads_16 : decode cX11_reads 16 = .ok (.if_icmp .ne 12, 3) := by decide +kernel
theorem dX11_reads_19 : decode cX11_reads 19 = .ok (.aload_n 0, 1) := by decide +kernel
theorem dX11_reads_20 : decode cX11_reads 20 = .ok (.iconst 2, 1) := by decide +kernel
theorem dX11_reads_21 : decode cX11_reads 21 = .ok (.iload_n 1, 1) := by decide +kernel
theorem dX11_reads_22 : decode cX11_reads 22 = .ok (.bipush (-5), 2) := by decide +kernel
theorem dX11_reads_24 : decode cX11_reads 24 = .ok (.invokevirtual 196, 3) := by decide +kernel
theorem dX11_reads_27 : decode cX11_reads 27 = .ok (.return_, 1) := by decide +kernel
theorem dX11_reads_28 : decode cX11_reads 28 = .ok (.aload_n 0, 1) := by decide +kernel
theorem dX11_reads_29 : decode cX11_reads 29 = .ok (.iload_n 1, 1) := by decide +kernel
theorem dX11_reads_30 : decode cX11_reads 30 = .ok (.putfield 213, 3) := by decide +kernel
theorem dX11_reads_33 : decode cX11_reads 33 = .ok (.aload_n 0, 1) := by decide +kernel
theorem dX11_reads_34 : decode cX11_reads 34 = .ok (.iload_n 2, 1) := by decide +kernel
theorem dX11_reads_35 : decode cX11_reads 35 = .ok (.putfield 216, 3) := by decide +kernel
theorem dX11_reads_38 : decode cX11_reads 38 = .ok (.aload_n 0, 1) := by decide +kernel
theorem dX11_reads_39 : decode cX11_reads 39 = .ok (.iconst 1, 1) := by decide +kernel
theorem dX11_reads_40 : decode cX11_reads 40 = .ok (.putfield 219, 3) := by decide +kernel
theorem dX11_reads_43 : decode cX11_reads 43 = .ok (.aload_n 0, 1) := by decide +kernel
theorem dX11_reads_44 : decode cX11_reads 44 = .ok (.bipush 20, 2) := by decide +kernel
theorem dX11_reads_46 : decode cX11_reads 46 = .ok (.putfield 186, 3) := by decide +kernel
theorem dX11_reads_49 : decode cX11_reads 49 = .ok (.aload_n 0, 1) := by decide +kernel
theorem dX11_reads_50 : decode cX11_reads 50 = .ok (.aload_n 0, 1) := by decide +kernel
theorem dX11_reads_51 : decode cX11_reads 51 = .ok (.getfield 104, 3) := by decide +kernel
theorem dX11_reads_54 : decode cX11_reads 54 = .ok (.iconst 4, 1) := by decide +kernel
theorem dX11_reads_55 : decode cX11_reads 55 = .ok (.iload_n 3, 1) := by decide +kernel
theorem dX11_reads_56 : decode cX11_reads 56 = .ok (.imul, 1) := by decide +kernel
theorem dX11_reads_57 : decode cX11_reads 57 = .ok (.iload 4, 2) := by decide +kernel
theorem dX11_reads_59 : decode cX11_reads 59 = .ok (.bipush 8, 2) := by decide +kernel
theorem dX11_reads_61 : decode cX11_reads 61 = .ok (.idiv, 1) := by decide +kernel
theorem dX11_reads_62 : decode cX11_reads 62 = .ok (.iadd, 1) := by decide +kernel
theorem dX11_reads_63 : decode cX11_reads 63 = .ok (.iaload, 1) := by decide +kernel
theorem dX11_reads_64 : decode cX11_reads 64 = .ok (.putfield 189, 3) := by decide +kernel
theorem dX11_reads_67 : decode cX11_reads 67 = .ok (.aload_n 0, 1) := by decide +kernel
theorem dX11_reads_68 : decode cX11_reads 68 = .ok (.invokevirtual 172, 3) := by decide +kernel
theorem dX11_reads_71 : decode cX11_reads 71 = .ok (.return_, 1) := by decide +kernel
theorem dX11_writes_0 : decode cX11_writes 0 = .ok (.aload_n 0, 1) := by decide +kernel
theorem dX11_writes_1 : decode cX11_writes 1 = .ok (.getfield 95, 3) := by decide +kernel
theorem dX11_writes_4 : decode cX11_writes 4 = .ok (.iload_n 2, 1) := by decide +kernel
theorem dX11_writes_5 : decode cX11_writes 5 = .ok (.iaload, 1) := by decide +kernel
theorem dX11_writes_6 : decode cX11_writes 6 = .ok (.istore 5, 2) := by decide +kernel
theorem dX11_writes_8 : decode cX11_writes 8 = .ok (.iload 5, 2) := by decide +kernel
theorem dX11_writes_10 : decode cX11_writes 10 = .ok (.bipush 32, 2) := by decide +kernel
theorem dX11_writes_12 : decode cX11_writes 12 = .ok (.if_icmp .ne 12, 3) := by decide +kernel
theorem dX11_writes_15 : decode cX11_writes 15 = .ok (.aload_n 0, 1) := by decide +kernel
theorem dX11_writes_16 : decode cX11_writes 16 = .ok (.iconst 2, 1) := by decide +kernel
theorem dX11_writes_17 : decode cX11_writes 17 = .ok (.iload_n 1, 1) := by decide +kernel
theorem dX11_writes_18 : decode cX11_writes 18 = .ok (.bipush (-4), 2) := by decide +kernel
