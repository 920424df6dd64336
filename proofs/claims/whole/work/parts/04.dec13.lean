theorem dX11_writes_20 : decode cX11_writes 20 = .ok (.invokevirtual 196, 3) := by decide +kernel
theorem dX11_writes_23 : decode cX11_writes 23 = .ok (.return_, 1) := by decide +kernel
theorem dX11_writes_24 : decode cX11_writes 24 = .ok (.aload_n 0, 1) := by decide +kernel
theorem dX11_writes_25 : decode cX11_writes 25 = .ok (.iload_n 1, 1) := by decide +kernel
theorem dX11_writes_26 : decode cX11_writes 26 = .ok (.putfield 213, 3) := by decide +kernel
theorem dX11_writes_29 : decode cX11_writes 29 = .ok (.aload_n 0, 1) := by decide +kernel
theorem dX11_writes_30 : decode cX11_writes 30 = .ok (.iload_n 2, 1) := by decide +kernel
theorem dX11_writes_31 : decode cX11_writes 31 = .ok (.putfield 216, 3) := by decide +kernel
theorem dX11_writes_34 : decode cX11_writes 34 = .ok (.aload_n 0, 1) := by decide +kernel
theorem dX11_writes_35 : decode cX11_writes 35 = .ok (.iload 4, 2) := by decide +kernel
theorem dX11_writes_37 : decode cX11_writes 37 = .ok (.putfield 222, 3) := by decide +kernel
theorem dX11_writes_40 : decode cX11_writes 40 = .ok (.iload 5, 2) := by decide +kernel
theorem dX11_writes_42 : decode cX11_writes 42 = .ok (.aload_n 0, 1) := by decide +kernel
theorem dX11_writes_43 : decode cX11_writes 43 = .ok (.getfield 101, 3) := by decide +kernel
theorem dX11_writes_46 : decode cX11_writes 46 = .ok (.iload_n 3, 1) := by decide +kernel
theorem dX11_writes_47 : decode cX11_writes 47 = .ok (.iaload, 1) := by decide +kernel
theorem dX11_writes_48 : decode cX11_writes 48 = .ok (.if_icmp .ne 125, 3) := by decide +kernel
theorem dX11_writes_51 : decode cX11_writes 51 = .ok (.iload 5, 2) := by decide +kernel
theorem dX11_writes_53 : decode cX11_writes 53 = .ok (.bipush 8, 2) := by decide +kernel
theorem dX11_writes_55 : decode cX11_writes 55 = .ok (.irem, 1) := by decide +kernel
theorem dX11_writes_56 : decode cX11_writes 56 = .ok (.ifCond .ne 117, 3) := by decide +kernel
theorem dX11_writes_59 : decode cX11_writes 59 = .ok (.iconst 0, 1) := by decide +kernel
theorem dX11_writes_60 : decode cX11_writes 60 = .ok (.istore 6, 2) := by decide +kernel
theorem dX11_writes_62 : decode cX11_writes 62 = .ok (.iload 6, 2) := by decide +kernel
theorem dX11_writes_64 : decode cX11_writes 64 = .ok (.bipush 24, 2) := by decide +kernel
theorem dX11_writes_66 : decode cX11_writes 66 = .ok (.if_icmp .ge 19, 3) := by decide +kernel
theorem dX11_writes_69 : decode cX11_writes 69 = .ok (.aload_n 0, 1) := by decide +kernel
theorem dX11_writes_70 : decode cX11_writes 70 = .ok (.getfield 107, 3) := by decide +kernel
theorem dX11_writes_73 : decode cX11_writes 73 = .ok (.iload 6, 2) := by decide +kernel
theorem dX11_writes_75 : decode cX11_writes 75 = .ok (.baload, 1) := by decide +kernel
theorem dX11_writes_76 : decode cX11_writes 76 = .ok (.ifCond .eq 9, 3) := by decide +kernel
theorem dX11_writes_79 : decode cX11_writes 79 = .ok (.iinc 6 1, 3) := by decide +kernel
theorem dX11_writes_82 : decode cX11_writes 82 = .ok (.goto (-20), 3) := by decide +kernel
theorem dX11_writes_85 : decode cX11_writes 85 = .ok (.iload 6, 2) := by decide +kernel
theorem dX11_writes_87 : decode cX11_writes 87 = .ok (.bipush 24, 2) := by decide +kernel
theorem dX11_writes_89 : decode cX11_writes 89 = .ok (.if_icmp .ne 12, 3) := by decide +kernel
theorem dX11_writes_92 : decode cX11_writes 92 = .ok (.aload_n 0, 1) := by decide +kernel
theorem dX11_writes_93 : decode cX11_writes 93 = .ok (.iconst 2, 1) := by decide +kernel
theorem dX11_writes_94 : decode cX11_writes 94 = .ok (.iload_n 1, 1) := by decide +kernel
theorem dX11_writes_95 : decode cX11_writes 95 = .ok (.bipush (-6), 2) := by decide +kernel
theorem dX11_writes_97 : decode cX11_writes 97 = .ok (.invokevirtual 196, 3) := by decide +kernel
theorem dX11_writes_100 : decode cX11_writes 100 = .ok (.return_, 1) := by decide +kernel
theorem dX11_writes_101 : decode cX11_writes 101 = .ok (.aload_n 0, 1) := by decide +kernel
theorem dX11_writes_102 : decode cX11_writes 102 = .ok (.getfield 107, 3) := by decide +kernel
theorem dX11_writes_105 : decode cX11_writes 105 = .ok (.iload 6, 2) := by decide +kernel
theorem dX11_writes_107 : decode cX11_writes 107 = .ok (.iconst 1, 1) := by decide +kernel
theorem dX11_writes_108 : decode cX11_writes 108 = .ok (.bastore, 1) := by decide +kernel
theorem dX11_writes_109 : decode cX11_writes 109 = .ok (.aload_n 0, 1) := by decide +kernel
theorem dX11_writes_110 : decode cX11_writes 110 = .ok (.getfield 104, 3) := by decide +kernel
theorem dX11_writes_113 : decode cX11_writes 113 = .ok (.iconst 4, 1) := by decide +kernel
theorem dX11_writes_114 : decode cX11_writes 114 = .ok (.iload_n 3, 1) := by decide +kernel
theorem dX11_writes_115 : decode cX11_writes 115 = .ok (.imul, 1) := by decide +kernel
theorem dX11_writes_116 : decode cX11_writes 116 = .ok (.iload 5, 2) := by decide +kernel
theorem dX11_writes_118 : decode cX11_writes 118 = .ok (.bipush 8, 2) := by decide +kernel
theorem dX11_writes_120 : decode cX11_writes 120 = .ok (.idiv, 1) := by decide +kernel
theorem dX11_writes_121 : decode cX11_writes 121 = .ok (.iadd, 1) := by decide +kernel
theorem dX11_writes_122 : decode cX11_writes 122 = .ok (.iload 6, 2) := by decide +kernel
theorem dX11_writes_124 : decode cX11_writes 124 = .ok (.iastore, 1) := by decide +kernel
theorem dX11_writes_125 : decode cX11_writes 125 = .ok (.iconst 0, 1) := by decide +kernel
theorem dX11_writes_126 : decode cX11_writes 126 = .ok (.istore 7, 2) := by decide +kernel
theorem dX11_writes_128 : decode cX11_writes 128 = .ok (.iload 7, 2) := by decide +kernel
theorem dX11_writes_130 : decode cX11_writes 130 = .ok (.bipush 8, 2) := by decide +kernel
theorem dX11_writes_132 : decode cX11_writes 132 = .ok (.if_icmp .ge 27, 3) := by decide +kernel
theorem dX11_writes_135 : decode cX11_writes 135 = .ok (.aload_n 0, 1) := by decide +kernel
theorem dX11_writes_136 : decode cX11_writes 136 = .ok (.getfield 116, 3) := by decide +kernel
theorem dX11_writes_139 : decode cX11_writes 139 = .ok (.iload 7, 2) := by decide +kernel
theorem dX11_writes_141 : decode cX11_writes 141 = .ok (.iload 7, 2) := by decide +kernel
theorem dX11_writes_143 : decode cX11_writes 143 = .ok (.ifCond .ne 8, 3) := by decide +kernel
theorem dX11_writes_146 : decode cX11_writes 146 = .ok (.iload 4, 2) := by decide +kernel
theorem dX11_writes_148 : decode cX11_writes 148 = .ok (.goto 4, 3) := by decide +kernel
theorem dX11_writes_151 : decode cX11_writes 151 = .ok (.iconst 0, 1) := by decide +kernel
theorem dX11_writes_152 : decode cX11_writes 152 = .ok (.iastore, 1) := by decide +kernel
theorem dX11_writes_153 : decode cX11_writes 153 = .ok (.iinc 7 1, 3) := by decide +kernel
theorem dX11_writes_156 : decode cX11_writes 156 = .ok (.goto (-28), 3) := by decide +kernel
theorem dX11_writes_159 : decode cX11_writes 159 = .ok (.aload_n 0, 1) := by decide +kernel
theorem dX11_writes_160 : decode cX11_writes 160 = .ok (.iconst 3, 1) := by decide +kernel
theorem dX11_writes_161 : decode cX11_writes 161 = .ok (.putfield 219, 3) := by decide +kernel
theorem dX11_writes_164 : decode cX11_writes 164 = .ok (.aload_n 0, 1) := by decide +kernel
theorem dX11_writes_165 : decode cX11_writes 165 = .ok (.bipush 21, 2) := by decide +kernel
theorem dX11_writes_167 : decode cX11_writes 167 = .ok (.putfield 186, 3) := by decide +kernel
theorem dX11_writes_170 : decode cX11_writes 170 = .ok (.goto 14, 3) := by decide +kernel
theorem dX11_writes_173 : decode cX11_writes 173 = .ok (.aload_n 0, 1) := by decide +kernel
theorem dX11_writes_174 : decode cX11_writes 174 = .ok (.iconst 2, 1) := by decide +kernel
theorem dX11_writes_175 : decode cX11_writes 175 = .ok (.putfield 219, 3) := by decide +kernel
theorem dX11_writes_178 : decode cX11_writes 178 = .ok (.aload_n 0, 1) := by decide +kernel
theorem dX11_writes_179 : decode cX11_writes 179 = .ok (.bipush 20, 2) := by decide +kernel
theorem dX11_writes_181 : decode cX11_writes 181 = .ok (.putfield 186, 3) := by decide +kernel
theorem dX11_writes_184 : decode cX11_writes 184 = .ok (.aload_n 0, 1) := by decide +kernel
theorem dX11_writes_185 : decode cX11_writes 185 = .ok (.aload_n 0, 1) := by decide +kernel
theorem dX11_writes_186 : decode cX11_writes 186 = .ok (.getfield 104, 3) := by decide +kernel
theorem dX11_writes_189 : decode cX11_writes 189 = .ok (.iconst 4, 1) := by decide +kernel
theorem dX11_writes_190 : decode cX11_writes 190 = .ok (.iload_n 3, 1) := by decide +kernel
theorem dX11_writes_191 : decode cX11_writes 191 = .ok (.imul, 1) := by decide +kernel
theorem dX11_writes_192 : decode cX11_writes 192 = .ok (.iload 5, 2) := by decide +kernel
theorem dX11_writes_194 : decode cX11_writes 194 = .ok (.bipush 8, 2) := by decide +kernel
theorem dX11_writes_196 : decode cX11_writes 196 = .ok (.idiv, 1) := by decide +kernel
theorem dX11_writes_197 : decode cX11_writes 197 = .ok (.iadd, 1) := by decide +kernel
theorem dX11_writes_198 : decode cX11_writes 198 = .ok (.iaload, 1) := by decide +kernel
theorem dX11_writes_199 : decode cX11_writes 199 = .ok (.putfield 189, 3) := by decide +kernel
theorem dX11_writes_202 : decode cX11_writes 202 = .ok (.aload_n 0, 1) := by decide +kernel
theorem dX11_writes_203 : decode cX11_writes 203 = .ok (.invokevirtual 172, 3) := by decide +kernel
theorem dX11_writes_206 : decode cX11_writes 206 = .ok (.return_, 1) := by decide +kernel
theorem dX11_goesOn_0 : decode cX11_goesOn 0 = .ok (.aload_n 0, 1) := by decide +kernel
theorem dX11_goesOn_1 : decode cX11_goesOn 1 = .ok (.getfield 92, 3) := by decide +kernel
theorem dX11_goesOn_4 : decode cX11_goesOn 4 = .ok (.aload_n 0, 1) := by decide +kernel
theorem dX11_goesOn_5 : decode cX11_goesOn 5 = .ok (.getfield 216, 3) := by decide +kernel
theorem dX11_goesOn_8 : decode cX11_goesOn 8 = .ok (.iaload, 1) := by decide +kernel
theorem dX11_goesOn_9 : decode cX11_goesOn 9 = .ok (.istore_n 1, 1) := by decide +kernel
theorem dX11_goesOn_10 : decode cX11_goesOn 10 = .ok (.aload_n 0, 1) := by decide +kernel
theorem dX11_goesOn_11 : decode cX11_goesOn 11 = .ok (.getfield 95, 3) := by decide +kernel
theorem dX11_goesOn_14 : decode cX11_goesOn 14 = .ok (.aload_n 0, 1) := by decide +kernel
theorem dX11_goesOn_15 : decode cX11_goesOn 15 = .ok (.getfield 216, 3) := by decide +kernel
theorem dX11_goesOn_18 : decode cX11_goesOn 18 = .ok (.iaload, 1) := by decide +kernel
theorem dX11_goesOn_19 : decode cX11_goesOn 19 = .ok (.istore_n 2, 1) := by decide +kernel
theorem dX11_goesOn_20 : decode cX11_goesOn 20 = .ok (.aload_n 0, 1) := by decide +kernel
theorem dX11_goesOn_21 : decode cX11_goesOn 21 = .ok (.iconst 0, 1) := by decide +kernel
theorem dX11_goesOn_22 : decode cX11_goesOn 22 = .ok (.putfield 166, 3) := by decide +kernel
theorem dX11_goesOn_25 : decode cX11_goesOn 25 = .ok (.aload_n 0, 1) := by decide +kernel
theorem dX11_goesOn_26 : decode cX11_goesOn 26 = .ok (.getfield 219, 3) := by decide +kernel
theorem dX11_goesOn_29 : decode cX11_goesOn 29 = .ok (.iconst 1, 1) := by decide +kernel
theorem dX11_goesOn_30 : decode cX11_goesOn 30 = .ok (.if_icmp .ne 39, 3) := by decide +kernel
theorem dX11_goesOn_33 : decode cX11_goesOn 33 = .ok (.aload_n 0, 1) := by decide +kernel
theorem dX11_goesOn_34 : decode cX11_goesOn 34 = .ok (.getfield 95, 3) := by decide +kernel
theorem dX11_goesOn_37 : decode cX11_goesOn 37 = .ok (.aload_n 0, 1) := by decide +kernel
theorem dX11_goesOn_38 : decode cX11_goesOn 38 = .ok (.getfield 216, 3) := by decide +kernel
theorem dX11_goesOn_41 : decode cX11_goesOn 41 = .ok (.dup2, 1) := by decide +kernel
theorem dX11_goesOn_42 : decode cX11_goesOn 42 = .ok (.iaload, 1) := by decide +kernel
theorem dX11_goesOn_43 : decode cX11_goesOn 43 = .ok (.iconst 1, 1) := by decide +kernel
theorem dX11_goesOn_44 : decode cX11_goesOn 44 = .ok (.iadd, 1) := by decide +kernel
theorem dX11_goesOn_45 : decode cX11_goesOn 45 = .ok (.iastore, 1) := by decide +kernel
theorem dX11_goesOn_46 : decode cX11_goesOn 46 = .ok (.aload_n 0, 1) := by decide +kernel
theorem dX11_goesOn_47 : decode cX11_goesOn 47 = .ok (.iconst 2, 1) := by decide +kernel
theorem dX11_goesOn_48 : decode cX11_goesOn 48 = .ok (.aload_n 0, 1) := by decide +kernel
theorem dX11_goesOn_49 : decode cX11_goesOn 49 = .ok (.getfield 213, 3) := by decide +kernel
theorem dX11_goesOn_52 : decode cX11_goesOn 52 = .ok (.aload_n 0, 1) := by decide +kernel
theorem dX11_goesOn_53 : decode cX11_goesOn 53 = .ok (.getfield 61, 3) := by decide +kernel
theorem dX11_goesOn_56 : decode cX11_goesOn 56 = .ok (.iconst 5, 1) := by decide +kernel
theorem dX11_goesOn_57 : decode cX11_goesOn 57 = .ok (.iload_n 2, 1) := by decide +kernel
theorem dX11_goesOn_58 : decode cX11_goesOn 58 = .ok (.bipush 8, 2) := by decide +kernel
theorem dX11_goesOn_60 : decode cX11_goesOn 60 = .ok (.irem, 1) := by decide +kernel
theorem dX11_goesOn_61 : decode cX11_goesOn 61 = .ok (.iadd, 1) := by decide +kernel
theorem dX11_goesOn_62 : decode cX11_goesOn 62 = .ok (.iaload, 1) := by decide +kernel
theorem dX11_goesOn_63 : decode cX11_goesOn 63 = .ok (.invokevirtual 196, 3) := by decide +kernel
theorem dX11_goesOn_66 : decode cX11_goesOn 66 = .ok (.goto 119, 3) := by decide +kernel
theorem dX11_goesOn_69 : decode cX11_goesOn 69 = .ok (.aload_n 0, 1) := by decide +kernel
theorem dX11_goesOn_70 : decode cX11_goesOn 70 = .ok (.getfield 219, 3) := by decide +kernel
theorem dX11_goesOn_73 : decode cX11_goesOn 73 = .ok (.iconst 2, 1) := by decide +kernel
theorem dX11_goesOn_74 : decode cX11_goesOn 74 = .ok (.if_icmp .ne 64, 3) := by decide +kernel
theorem dX11_goesOn_77 : decode cX11_goesOn 77 = .ok (.iconst 0, 1) := by decide +kernel
theorem dX11_goesOn_78 : decode cX11_goesOn 78 = .ok (.istore_n 3, 1) := by decide +kernel
theorem dX11_goesOn_79 : decode cX11_goesOn 79 = .ok (.iload_n 3, 1) := by decide +kernel
theorem dX11_goesOn_80 : decode cX11_goesOn 80 = .ok (.bipush 8, 2) := by decide +kernel
theorem dX11_goesOn_82 : decode cX11_goesOn 82 = .ok (.if_icmp .ge 38, 3) := by decide +kernel
theorem dX11_goesOn_85 : decode cX11_goesOn 85 = .ok (.aload_n 0, 1) := by decide +kernel
theorem dX11_goesOn_86 : decode cX11_goesOn 86 = .ok (.getfield 116, 3) := by decide +kernel
theorem dX11_goesOn_89 : decode cX11_goesOn 89 = .ok (.iload_n 3, 1) := by decide +kernel
theorem dX11_goesOn_90 : decode cX11_goesOn 90 = .ok (.iload_n 3, 1) := by decide +kernel
theorem dX11_goesOn_91 : decode cX11_goesOn 91 = .ok (.iload_n 2, 1) := by decide +kernel
theorem dX11_goesOn_92 : decode cX11_goesOn 92 = .ok (.bipush 8, 2) := by decide +kernel
theorem dX11_goesOn_94 : decode cX11_goesOn 94 = .ok (.irem, 1) := by decide +kernel
theorem dX11_goesOn_95 : decode cX11_goesOn 95 = .ok (.if_icmp .ne 10, 3) := by decide +kernel
theorem dX11_goesOn_98 : decode cX11_goesOn 98 = .ok (.aload_n 0, 1) := by decide +kernel
theorem dX11_goesOn_99 : decode cX11_goesOn 99 = .ok (.getfield 222, 3) := by decide +kernel
theorem dX11_goesOn_102 : decode cX11_goesOn 102 = .ok (.goto 11, 3) := by decide +kernel
theorem dX11_goesOn_105 : decode cX11_goesOn 105 = .ok (.aload_n 0, 1) := by decide +kernel
theorem dX11_goesOn_106 : decode cX11_goesOn 106 = .ok (.getfield 61, 3) := by decide +kernel
theorem dX11_goesOn_109 : decode cX11_goesOn 109 = .ok (.iconst 5, 1) := by decide +kernel
theorem dX11_goesOn_110 : decode cX11_goesOn 110 = .ok (.iload_n 3, 1) := by decide +kernel
theorem dX11_goesOn_111 : decode cX11_goesOn 111 = .ok (.iadd, 1) := by decide +kernel
theorem dX11_goesOn_112 : decode cX11_goesOn 112 = .ok (.iaload, 1) := by decide +kernel
theorem dX11_goesOn_113 : decode cX11_goesOn 113 = .ok (.iastore, 1) := by decide +kernel
theorem dX11_goesOn_114 : decode cX11_goesOn 114 = .ok (.iinc 3 1, 3) := by decide +kernel
theorem dX11_goesOn_117 : decode cX11_goesOn 117 = .ok (.goto (-38), 3) := by decide +kernel
theorem dX11_goesOn_120 : decode cX11_goesOn 120 = .ok (.aload_n 0, 1) := by decide +kernel
theorem dX11_goesOn_121 : decode cX11_goesOn 121 = .ok (.iconst 3, 1) := by decide +kernel
theorem dX11_goesOn_122 : decode cX11_goesOn 122 = .ok (.putfield 219, 3) := by decide +kernel
theorem dX11_goesOn_125 : decode cX11_goesOn 125 = .ok (.aload_n 0, 1) := by decide +kernel
theorem dX11_goesOn_126 : decode cX11_goesOn 126 = .ok (.bipush 21, 2) := by decide +kernel
theorem dX11_goesOn_128 : decode cX11_goesOn 128 = .ok (.putfield 186, 3) := by decide +kernel
theorem dX11_goesOn_131 : decode cX11_goesOn 131 = .ok (.aload_n 0, 1) := by decide +kernel
theorem dX11_goesOn_132 : decode cX11_goesOn 132 = .ok (.invokevirtual 172, 3) := by decide +kernel
theorem dX11_goesOn_135 : decode cX11_goesOn 135 = .ok (.goto 50, 3) := by decide +kernel
theorem dX11_goesOn_138 : decode cX11_goesOn 138 = .ok (.aload_n 0, 1) := by decide +kernel
theorem dX11_goesOn_139 : decode cX11_goesOn 139 = .ok (.getfield 101, 3) := by decide +kernel
theorem dX11_goesOn_142 : decode cX11_goesOn 142 = .ok (.iload_n 1, 1) := by decide +kernel
theorem dX11_goesOn_143 : decode cX11_goesOn 143 = .ok (.dup2, 1) := by decide +kernel
theorem dX11_goesOn_144 : decode cX11_goesOn 144 = .ok (.iaload, 1) := by decide +kernel
theorem dX11_goesOn_145 : decode cX11_goesOn 145 = .ok (.iload_n 2, 1) := by decide +kernel
theorem dX11_goesOn_146 : decode cX11_goesOn 146 = .ok (.aload_n 0, 1) := by decide +kernel
theorem dX11_goesOn_147 : decode cX11_goesOn 147 = .ok (.getfield 101, 3) := by decide +kernel
theorem dX11_goesOn_150 : decode cX11_goesOn 150 = .ok (.iload_n 1, 1) := by decide +kernel
theorem dX11_goesOn_151 : decode cX11_goesOn 151 = .ok (.iaload, 1) := by decide +kernel
theorem dX11_goesOn_152 : decode cX11_goesOn 152 = .ok (.if_icmp .ne 7, 3) := by decide +kernel
theorem dX11_goesOn_155 : decode cX11_goesOn 155 = .ok (.iconst 1, 1) := by decide +kernel
theorem dX11_goesOn_156 : decode cX11_goesOn 156 = .ok (.goto 4, 3) := by decide +kernel
theorem dX11_goesOn_159 : decode cX11_goesOn 159 = .ok (.iconst 0, 1) := by decide +kernel
theorem dX11_goesOn_160 : decode cX11_goesOn 160 = .ok (.iadd, 1) := by decide +kernel
theorem dX11_goesOn_161 : decode cX11_goesOn 161 = .ok (.iastore, 1) := by decide +kernel
theorem dX11_goesOn_162 : decode cX11_goesOn 162 = .ok (.aload_n 0, 1) := by decide +kernel
theorem dX11_goesOn_163 : decode cX11_goesOn 163 = .ok (.getfield 95, 3) := by decide +kernel
theorem dX11_goesOn_166 : decode cX11_goesOn 166 = .ok (.aload_n 0, 1) := by decide +kernel
theorem dX11_goesOn_167 : decode cX11_goesOn 167 = .ok (.getfield 216, 3) := by decide +kernel
theorem dX11_goesOn_170 : decode cX11_goesOn 170 = .ok (.dup2, 1) := by decide +kernel
theorem dX11_goesOn_171 : decode cX11_goesOn 171 = .ok (.iaload, 1) := by decide +kernel
theorem dX11_goesOn_172 : decode cX11_goesOn 172 = .ok (.iconst 1, 1) := by decide +kernel
theorem dX11_goesOn_173 : decode cX11_goesOn 173 = .ok (.iadd, 1) := by decide +kernel
theorem dX11_goesOn_174 : decode cX11_goesOn 174 = .ok (.iastore, 1) := by decide +kernel
theorem dX11_goesOn_175 : decode cX11_goesOn 175 = .ok (.aload_n 0, 1) := by decide +kernel
theorem dX11_goesOn_176 : decode cX11_goesOn 176 = .ok (.iconst 2, 1) := by decide +kernel
theorem dX11_goesOn_177 : decode cX11_goesOn 177 = .ok (.aload_n 0, 1) := by decide +kernel
theorem dX11_goesOn_178 : decode cX11_goesOn 178 = .ok (.getfield 213, 3) := by decide +kernel
theorem dX11_goesOn_181 : decode cX11_goesOn 181 = .ok (.iconst 0, 1) := by decide +kernel
theorem dX11_goesOn_182 : decode cX11_goesOn 182 = .ok (.invokevirtual 196, 3) := by decide +kernel
theorem dX11_goesOn_185 : decode cX11_goesOn 185 = .ok (.return_, 1) := by decide +kernel
theorem dX11_processes_0 : decode cX11_processes 0 = .ok (.aload_n 0, 1) := by decide +kernel
theorem dX11_processes_1 : decode cX11_processes 1 = .ok (.iconst 3, 1) := by decide +kernel
theorem dX11_processes_2 : decode cX11_processes 2 = .ok (.invokevirtual 137, 3) := by decide +kernel
theorem dX11_processes_5 : decode cX11_processes 5 = .ok (.ifCond .eq 4, 3) := by decide +kernel
theorem dX11_processes_8 : decode cX11_processes 8 = .ok (.return_, 1) := by decide +kernel
theorem dX11_processes_9 : decode cX11_processes 9 = .ok (.iconst 0, 1) := by decide +kernel
theorem dX11_processes_10 : decode cX11_processes 10 = .ok (.istore_n 1, 1) := by decide +kernel
theorem dX11_processes_11 : decode cX11_processes 11 = .ok (.aload_n 0, 1) := by decide +kernel
theorem dX11_processes_12 : decode cX11_processes 12 = .ok (.getfield 225, 3) := by decide +kernel
theorem dX11_processes_15 : decode cX11_processes 15 = .ok (.ifCond .eq 40, 3) := by decide +kernel
theorem dX11_processes_18 : decode cX11_processes 18 = .ok (.iload_n 1, 1) := by decide +kernel
theorem dX11_processes_19 : decode cX11_processes 19 = .ok (.aload_n 0, 1) := by decide +kernel
theorem dX11_processes_20 : decode cX11_processes 20 = .ok (.getfield 38, 3) := by decide +kernel
theorem dX11_processes_23 : decode cX11_processes 23 = .ok (.iconst 3, 1) := by decide +kernel
theorem dX11_processes_24 : decode cX11_processes 24 = .ok (.iaload, 1) := by decide +kernel
theorem dX11_processes_25 : decode cX11_processes 25 = .ok (.if_icmp .ge 30, 3) := by decide +kernel
theorem dX11_processes_28 : decode cX11_processes 28 = .ok (.aload_n 0, 1) := by decide +kernel
theorem dX11_processes_29 : decode cX11_processes 29 = .ok (.iconst 3, 1) := by decide +kernel
theorem dX11_processes_30 : decode cX11_processes 30 = .ok (.iload_n 1, 1) := by decide +kernel
theorem dX11_processes_31 : decode cX11_processes 31 = .ok (.iconst 0, 1) := by decide +kernel
theorem dX11_processes_32 : decode cX11_processes 32 = .ok (.invokevirtual 156, 3) := by decide +kernel
theorem dX11_processes_35 : decode cX11_processes 35 = .ok (.iconst 2, 1) := by decide +kernel
theorem dX11_processes_36 : decode cX11_processes 36 = .ok (.if_icmp .eq 19, 3) := by decide +kernel
theorem dX11_processes_39 : decode cX11_processes 39 = .ok (.aload_n 0, 1) := by decide +kernel
theorem dX11_processes_40 : decode cX11_processes 40 = .ok (.iconst 3, 1) := by decide +kernel
theorem dX11_processes_41 : decode cX11_processes 41 = .ok (.iload_n 1, 1) := by decide +kernel
theorem dX11_processes_42 : decode cX11_processes 42 = .ok (.iconst 1, 1) := by decide +kernel
theorem dX11_processes_43 : decode cX11_processes 43 = .ok (.invokevirtual 156, 3) := by decide +kernel
theorem dX11_processes_46 : decode cX11_processes 46 = .ok (.ifCond .eq 9, 3) := by decide +kernel
theorem dX11_processes_49 : decode cX11_processes 49 = .ok (.iinc 1 1, 3) := by decide +kernel
theorem dX11_processes_52 : decode cX11_processes 52 = .ok (.goto (-41), 3) := by decide +kernel
theorem dX11_processes_55 : decode cX11_processes 55 = .ok (.iload_n 1, 1) := by decide +kernel
theorem dX11_processes_56 : decode cX11_processes 56 = .ok (.aload_n 0, 1) := by decide +kernel
theorem dX11_processes_57 : decode cX11_processes 57 = .ok (.getfield 38, 3) := by decide +kernel
theorem dX11_processes_60 : decode cX11_processes 60 = .ok (.iconst 3, 1) := by decide +kernel
theorem dX11_processes_61 : decode cX11_processes 61 = .ok (.iaload, 1) := by decide +kernel
theorem dX11_processes_62 : decode cX11_processes 62 = .ok (.if_icmp .ne 4, 3) := by decide +kernel
theorem dX11_processes_65 : decode cX11_processes 65 = .ok (.return_, 1) := by decide +kernel
theorem dX11_processes_66 : decode cX11_processes 66 = .ok (.aload_n 0, 1) := by decide +kernel
theorem dX11_processes_67 : decode cX11_processes 67 = .ok (.iconst 3, 1) := by decide +kernel
theorem dX11_processes_68 : decode cX11_processes 68 = .ok (.iload_n 1, 1) := by decide +kernel
theorem dX11_processes_69 : decode cX11_processes 69 = .ok (.invokevirtual 143, 3) := by decide +kernel
theorem dX11_processes_72 : decode cX11_processes 72 = .ok (.aload_n 0, 1) := by decide +kernel
theorem dX11_processes_73 : decode cX11_processes 73 = .ok (.getfield 61, 3) := by decide +kernel
theorem dX11_processes_76 : decode cX11_processes 76 = .ok (.iconst 0, 1) := by decide +kernel
theorem dX11_processes_77 : decode cX11_processes 77 = .ok (.iaload, 1) := by decide +kernel
theorem dX11_processes_78 : decode cX11_processes 78 = .ok (.istore_n 2, 1) := by decide +kernel
theorem dX11_processes_79 : decode cX11_processes 79 = .ok (.aload_n 0, 1) := by decide +kernel
theorem dX11_processes_80 : decode cX11_processes 80 = .ok (.getfield 61, 3) := by decide +kernel
theorem dX11_processes_83 : decode cX11_processes 83 = .ok (.iconst 2, 1) := by decide +kernel
theorem dX11_processes_84 : decode cX11_processes 84 = .ok (.iaload, 1) := by decide +kernel
theorem dX11_processes_85 : decode cX11_processes 85 = .ok (.istore_n 3, 1) := by decide +kernel
theorem dX11_processes_86 : decode cX11_processes 86 = .ok (.aload_n 0, 1) := by decide +kernel
theorem dX11_processes_87 : decode cX11_processes 87 = .ok (.getfield 61, 3) := by decide +kernel
theorem dX11_processes_90 : decode cX11_processes 90 = .ok (.iconst 1, 1) := by decide +kernel
theorem dX11_processes_91 : decode cX11_processes 91 = .ok (.iaload, 1) := by decide +kernel
theorem dX11_processes_92 : decode cX11_processes 92 = .ok (.lookupswitch 176 #[(8, 60), (9, 66), (10, 82), (11, 88), (12, 138), (32, 164)], 60) := by decide +kernel
theorem dX11_processes_152 : decode cX11_processes 152 = .ok (.aload_n 0, 1) := by decide +kernel
theorem dX11_processes_153 : decode cX11_processes 153 = .ok (.iload_n 2, 1) := by decide +kernel
theorem dX11_processes_154 : decode cX11_processes 154 = .ok (.invokevirtual 228, 3) := by decide +kernel
theorem dX11_processes_157 : decode cX11_processes 157 = .ok (.return_, 1) := by decide +kernel
theorem dX11_processes_158 : decode cX11_processes 158 = .ok (.aload_n 0, 1) := by decide +kernel
theorem dX11_processes_159 : decode cX11_processes 159 = .ok (.iload_n 2, 1) := by decide +kernel
theorem dX11_processes_160 : decode cX11_processes 160 = .ok (.iload_n 2, 1) := by decide +kernel
theorem dX11_processes_161 : decode cX11_processes 161 = .ok (.iload_n 3, 1) := by decide +kernel
theorem dX11_processes_162 : decode cX11_processes 162 = .ok (.sipush 256, 3) := by decide +kernel
theorem dX11_processes_165 : decode cX11_processes 165 = .ok (.invokestatic 231, 3) := by decide +kernel
theorem dX11_processes_168 : decode cX11_processes 168 = .ok (.bipush 9, 2) := by decide +kernel
theorem dX11_processes_170 : decode cX11_processes 170 = .ok (.invokevirtual 236, 3) := by decide +kernel
theorem dX11_processes_173 : decode cX11_processes 173 = .ok (.return_, 1) := by decide +kernel
theorem dX11_processes_174 : decode cX11_processes 174 = .ok (.aload_n 0, 1) := by decide +kernel
theorem dX11_processes_175 : decode cX11_processes 175 = .ok (.iload_n 2, 1) := by decide +kernel
theorem dX11_processes_176 : decode cX11_processes 176 = .ok (.invokevirtual 239, 3) := by decide +kernel
theorem dX11_processes_179 : decode cX11_processes 179 = .ok (.return_, 1) := by decide +kernel
theorem dX11_processes_180 : decode cX11_processes 180 = .ok (.iload_n 3, 1) := by decide +kernel
theorem dX11_processes_181 : decode cX11_processes 181 = .ok (.invokestatic 11, 3) := by decide +kernel
theorem dX11_processes_184 : decode cX11_processes 184 = .ok (.ifCond .eq 37, 3) := by decide +kernel
theorem dX11_processes_187 : decode cX11_processes 187 = .ok (.aload_n 0, 1) := by decide +kernel
theorem dX11_processes_188 : decode cX11_processes 188 = .ok (.getfield 83, 3) := by decide +kernel
theorem dX11_processes_191 : decode cX11_processes 191 = .ok (.iload_n 3, 1) := by decide +kernel
theorem dX11_processes_192 : decode cX11_processes 192 = .ok (.iaload, 1) := by decide +kernel
theorem dX11_processes_193 : decode cX11_processes 193 = .ok (.iload_n 2, 1) := by decide +kernel
theorem dX11_processes_194 : decode cX11_processes 194 = .ok (.if_icmp .ne 27, 3) := by decide +kernel
theorem dX11_processes_197 : decode cX11_processes 197 = .ok (.aload_n 0, 1) := by decide +kernel
theorem dX11_processes_198 : decode cX11_processes 198 = .ok (.getfield 19, 3) := by decide +kernel
theorem dX11_processes_201 : decode cX11_processes 201 = .ok (.iload_n 3, 1) := by decide +kernel
theorem dX11_processes_202 : decode cX11_processes 202 = .ok (.iaload, 1) := by decide +kernel
theorem dX11_processes_203 : decode cX11_processes 203 = .ok (.iconst 1, 1) := by decide +kernel
theorem dX11_processes_204 : decode cX11_processes 204 = .ok (.if_icmp .ne 17, 3) := by decide +kernel
theorem dX11_processes_207 : decode cX11_processes 207 = .ok (.aload_n 0, 1) := by decide +kernel
theorem dX11_processes_208 : decode cX11_processes 208 = .ok (.iload_n 2, 1) := by decide +kernel
theorem dX11_processes_209 : decode cX11_processes 209 = .ok (.iload_n 3, 1) := by decide +kernel
theorem dX11_processes_210 : decode cX11_processes 210 = .ok (.sipush 255, 3) := by decide +kernel
theorem dX11_processes_213 : decode cX11_processes 213 = .ok (.bipush 11, 2) := by decide +kernel
theorem dX11_processes_215 : decode cX11_processes 215 = .ok (.invokevirtual 236, 3) := by decide +kernel
theorem dX11_processes_218 : decode cX11_processes 218 = .ok (.goto 11, 3) := by decide +kernel
theorem dX11_processes_221 : decode cX11_processes 221 = .ok (.aload_n 0, 1) := by decide +kernel
theorem dX11_processes_222 : decode cX11_processes 222 = .ok (.iconst 3, 1) := by decide +kernel
theorem dX11_processes_223 : decode cX11_processes 223 = .ok (.iload_n 2, 1) := by decide +kernel
theorem dX11_processes_224 : decode cX11_processes 224 = .ok (.bipush (-11), 2) := by decide +kernel
theorem dX11_processes_226 : decode cX11_processes 226 = .ok (.invokevirtual 196, 3) := by decide +kernel
theorem dX11_processes_229 : decode cX11_processes 229 = .ok (.return_, 1) := by decide +kernel
theorem dX11_processes_230 : decode cX11_processes 230 = .ok (.aload_n 0, 1) := by decide +kernel
theorem dX11_processes_231 : decode cX11_processes 231 = .ok (.iconst 3, 1) := by decide +kernel
theorem dX11_processes_232 : decode cX11_processes 232 = .ok (.iload_n 2, 1) := by decide +kernel
theorem dX11_processes_233 : decode cX11_processes 233 = .ok (.aload_n 0, 1) := by decide +kernel
theorem dX11_processes_234 : decode cX11_processes 234 = .ok (.getfield 83, 3) := by decide +kernel
theorem dX11_processes_237 : decode cX11_processes 237 = .ok (.iload_n 2, 1) := by decide +kernel
theorem dX11_processes_238 : decode cX11_processes 238 = .ok (.iaload, 1) := by decide +kernel
theorem dX11_processes_239 : decode cX11_processes 239 = .ok (.ifCond .ge 7, 3) := by decide +kernel
theorem dX11_processes_242 : decode cX11_processes 242 = .ok (.iconst 0, 1) := by decide +kernel
theorem dX11_processes_243 : decode cX11_processes 243 = .ok (.goto 9, 3) := by decide +kernel
theorem dX11_processes_246 : decode cX11_processes 246 = .ok (.aload_n 0, 1) := by decide +kernel
theorem dX11_processes_247 : decode cX11_processes 247 = .ok (.getfield 83, 3) := by decide +kernel
theorem dX11_processes_250 : decode cX11_processes 250 = .ok (.iload_n 2, 1) := by decide +kernel
theorem dX11_processes_251 : decode cX11_processes 251 = .ok (.iaload, 1) := by decide +kernel
theorem dX11_processes_252 : decode cX11_processes 252 = .ok (.invokevirtual 196, 3) := by decide +kernel
theorem dX11_processes_255 : decode cX11_processes 255 = .ok (.return_, 1) := by decide +kernel
theorem dX11_processes_256 : decode cX11_processes 256 = .ok (.aload_n 0, 1) := by decide +kernel
theorem dX11_processes_257 : decode cX11_processes 257 = .ok (.getfield 225, 3) := by decide +kernel
theorem dX11_processes_260 : decode cX11_processes 260 = .ok (.ifCond .eq 7, 3) := by decide +kernel
theorem dX11_processes_263 : decode cX11_processes 263 = .ok (.aload_n 0, 1) := by decide +kernel
theorem dX11_processes_264 : decode cX11_processes 264 = .ok (.invokevirtual 242, 3) := by decide +kernel
theorem dX11_processes_267 : decode cX11_processes 267 = .ok (.return_, 1) := by decide +kernel
theorem dX11_processes_268 : decode cX11_processes 268 = .ok (.return_, 1) := by decide +kernel
theorem dX11_forks_0 : decode cX11_forks 0 = .ok (.iconst 5, 1) := by decide +kernel
theorem dX11_forks_1 : decode cX11_forks 1 = .ok (.istore_n 2, 1) := by decide +kernel
theorem dX11_forks_2 : decode cX11_forks 2 = .ok (.iload_n 2, 1) := by decide +kernel
theorem dX11_forks_3 : decode cX11_forks 3 = .ok (.bipush 12, 2) := by decide +kernel
theorem dX11_forks_5 : decode cX11_forks 5 = .ok (.if_icmp .ge 18, 3) := by decide +kernel
theorem dX11_forks_8 : decode cX11_forks 8 = .ok (.aload_n 0, 1) := by decide +kernel
theorem dX11_forks_9 : decode cX11_forks 9 = .ok (.getfield 19, 3) := by decide +kernel
theorem dX11_forks_12 : decode cX11_forks 12 = .ok (.iload_n 2, 1) := by decide +kernel
theorem dX11_forks_13 : decode cX11_forks 13 = .ok (.iaload, 1) := by decide +kernel
theorem dX11_forks_14 : decode cX11_forks 14 = .ok (.ifCond .eq 9, 3) := by decide +kernel
theorem dX11_forks_17 : decode cX11_forks 17 = .ok (.iinc 2 1, 3) := by decide +kernel
theorem dX11_forks_20 : decode cX11_forks 20 = .ok (.goto (-18), 3) := by decide +kernel
theorem dX11_forks_23 : decode cX11_forks 23 = .ok (.iload_n 2, 1) := by decide +kernel
theorem dX11_forks_24 : decode cX11_forks 24 = .ok (.bipush 12, 2) := by decide +kernel
theorem dX11_forks_26 : decode cX11_forks 26 = .ok (.if_icmp .ne 12, 3) := by decide +kernel
theorem dX11_forks_29 : decode cX11_forks 29 = .ok (.aload_n 0, 1) := by decide +kernel
theorem dX11_forks_30 : decode cX11_forks 30 = .ok (.iconst 3, 1) := by decide +kernel
theorem dX11_forks_31 : decode cX11_forks 31 = .ok (.iload_n 1, 1) := by decide +kernel
theorem dX11_forks_32 : decode cX11_forks 32 = .ok (.bipush (-9), 2) := by decide +kernel
theorem dX11_forks_34 : decode cX11_forks 34 = .ok (.invokevirtual 196, 3) := by decide +kernel
theorem dX11_forks_37 : decode cX11_forks 37 = .ok (.return_, 1) := by decide +kernel
theorem dX11_forks_38 : decode cX11_forks 38 = .ok (.aload_n 0, 1) := by decide +kernel
theorem dX11_forks_39 : decode cX11_forks 39 = .ok (.bipush 8, 2) := by decide +kernel
theorem dX11_forks_41 : decode cX11_forks 41 = .ok (.iload_n 1, 1) := by decide +kernel
theorem dX11_forks_42 : decode cX11_forks 42 = .ok (.iload_n 2, 1) := by decide +kernel
theorem dX11_forks_43 : decode cX11_forks 43 = .ok (.invokevirtual 245, 3) := by decide +kernel
theorem dX11_forks_46 : decode cX11_forks 46 = .ok (.aload_n 0, 1) := by decide +kernel
theorem dX11_forks_47 : decode cX11_forks 47 = .ok (.bipush 30, 2) := by decide +kernel
theorem dX11_forks_49 : decode cX11_forks 49 = .ok (.iload_n 1, 1) := by decide +kernel
theorem dX11_forks_50 : decode cX11_forks 50 = .ok (.iload_n 2, 1) := by decide +kernel
theorem dX11_forks_51 : decode cX11_forks 51 = .ok (.invokevirtual 152, 3) := by decide +kernel
theorem dX11_forks_54 : decode cX11_forks 54 = .ok (.aload_n 0, 1) := by decide +kernel
theorem dX11_forks_55 : decode cX11_forks 55 = .ok (.iconst 3, 1) := by decide +kernel
theorem dX11_forks_56 : decode cX11_forks 56 = .ok (.iconst 2, 1) := by decide +kernel
theorem dX11_forks_57 : decode cX11_forks 57 = .ok (.invokevirtual 57, 3) := by decide +kernel
theorem dX11_forks_60 : decode cX11_forks 60 = .ok (.return_, 1) := by decide +kernel
theorem dX11_holds_0 : decode cX11_holds 0 = .ok (.aload_n 0, 1) := by decide +kernel
theorem dX11_holds_1 : decode cX11_holds 1 = .ok (.iconst 1, 1) := by decide +kernel
theorem dX11_holds_2 : decode cX11_holds 2 = .ok (.putfield 225, 3) := by decide +kernel
theorem dX11_holds_5 : decode cX11_holds 5 = .ok (.aload_n 0, 1) := by decide +kernel
theorem dX11_holds_6 : decode cX11_holds 6 = .ok (.iload_n 1, 1) := by decide +kernel
theorem dX11_holds_7 : decode cX11_holds 7 = .ok (.putfield 248, 3) := by decide +kernel
theorem dX11_holds_10 : decode cX11_holds 10 = .ok (.aload_n 0, 1) := by decide +kernel
theorem dX11_holds_11 : decode cX11_holds 11 = .ok (.iload_n 2, 1) := by decide +kernel
theorem dX11_holds_12 : decode cX11_holds 12 = .ok (.putfield 251, 3) := by decide +kernel
theorem dX11_holds_15 : decode cX11_holds 15 = .ok (.aload_n 0, 1) := by decide +kernel
theorem dX11_holds_16 : decode cX11_holds 16 = .ok (.iload_n 3, 1) := by decide +kernel
theorem dX11_holds_17 : decode cX11_holds 17 = .ok (.putfield 254, 3) := by decide +kernel
theorem dX11_holds_20 : decode cX11_holds 20 = .ok (.return_, 1) := by decide +kernel
theorem dX11_ends_0 : decode cX11_ends 0 = .ok (.aload_n 0, 1) := by decide +kernel
theorem dX11_ends_1 : decode cX11_ends 1 = .ok (.getfield 19, 3) := by decide +kernel
theorem dX11_ends_4 : decode cX11_ends 4 = .ok (.iload_n 2, 1) := by decide +kernel
theorem dX11_ends_5 : decode cX11_ends 5 = .ok (.iconst 2, 1) := by decide +kernel
theorem dX11_ends_6 : decode cX11_ends 6 = .ok (.iastore, 1) := by decide +kernel
theorem dX11_ends_7 : decode cX11_ends 7 = .ok (.aload_n 0, 1) := by decide +kernel
theorem dX11_ends_8 : decode cX11_ends 8 = .ok (.getfield 86, 3) := by decide +kernel
theorem dX11_ends_11 : decode cX11_ends 11 = .ok (.iload_n 2, 1) := by decide +kernel
theorem dX11_ends_12 : decode cX11_ends 12 = .ok (.iload_n 3, 1) := by decide +kernel
theorem dX11_ends_13 : decode cX11_ends 13 = .ok (.iastore, 1) := by decide +kernel
theorem dX11_ends_14 : decode cX11_ends 14 = .ok (.aload_n 0, 1) := by decide +kernel
theorem dX11_ends_15 : decode cX11_ends 15 = .ok (.getfield 73, 3) := by decide +kernel
theorem dX11_ends_18 : decode cX11_ends 18 = .ok (.iload_n 2, 1) := by decide +kernel
theorem dX11_ends_19 : decode cX11_ends 19 = .ok (.iconst 0, 1) := by decide +kernel
theorem dX11_ends_20 : decode cX11_ends 20 = .ok (.bastore, 1) := by decide +kernel
theorem dX11_ends_21 : decode cX11_ends 21 = .ok (.aload_n 0, 1) := by decide +kernel
theorem dX11_ends_22 : decode cX11_ends 22 = .ok (.getfield 89, 3) := by decide +kernel
theorem dX11_ends_25 : decode cX11_ends 25 = .ok (.iload_n 2, 1) := by decide +kernel
theorem dX11_ends_26 : decode cX11_ends 26 = .ok (.iconst 0, 1) := by decide +kernel
theorem dX11_ends_27 : decode cX11_ends 27 = .ok (.bastore, 1) := by decide +kernel
theorem dX11_ends_28 : decode cX11_ends 28 = .ok (.aload_n 0, 1) := by decide +kernel
theorem dX11_ends_29 : decode cX11_ends 29 = .ok (.getfield 38, 3) := by decide +kernel
theorem dX11_ends_32 : decode cX11_ends 32 = .ok (.iload_n 2, 1) := by decide +kernel
theorem dX11_ends_33 : decode cX11_ends 33 = .ok (.iconst 0, 1) := by decide +kernel
theorem dX11_ends_34 : decode cX11_ends 34 = .ok (.iastore, 1) := by decide +kernel
theorem dX11_ends_35 : decode cX11_ends 35 = .ok (.iconst 2, 1) := by decide +kernel
theorem dX11_ends_36 : decode cX11_ends 36 = .ok (.istore 5, 2) := by decide +kernel
theorem dX11_ends_38 : decode cX11_ends 38 = .ok (.iload 5, 2) := by decide +kernel
theorem dX11_ends_40 : decode cX11_ends 40 = .ok (.iconst 3, 1) := by decide +kernel
theorem dX11_ends_41 : decode cX11_ends 41 = .ok (.if_icmp .gt 52, 3) := by decide +kernel
theorem dX11_ends_44 : decode cX11_ends 44 = .ok (.aload_n 0, 1) := by decide +kernel
theorem dX11_ends_45 : decode cX11_ends 45 = .ok (.getfield 38, 3) := by decide +kernel
theorem dX11_ends_48 : decode cX11_ends 48 = .ok (.iload 5, 2) := by decide +kernel
theorem dX11_ends_50 : decode cX11_ends 50 = .ok (.iaload, 1) := by decide +kernel
theorem dX11_ends_51 : decode cX11_ends 51 = .ok (.iconst 1, 1) := by decide +kernel
theorem dX11_ends_52 : decode cX11_ends 52 = .ok (.isub, 1) := by decide +kernel
theorem dX11_ends_53 : decode cX11_ends 53 = .ok (.istore 6, 2) := by decide +kernel
theorem dX11_ends_55 : decode cX11_ends 55 = .ok (.iload 6, 2) := by decide +kernel
theorem dX11_ends_57 : decode cX11_ends 57 = .ok (.ifCond .lt 30, 3) := by decide +kernel
theorem dX11_ends_60 : decode cX11_ends 60 = .ok (.aload_n 0, 1) := by decide +kernel
theorem dX11_ends_61 : decode cX11_ends 61 = .ok (.iload 5, 2) := by decide +kernel
theorem dX11_ends_63 : decode cX11_ends 63 = .ok (.iload 6, 2) := by decide +kernel
theorem dX11_ends_65 : decode cX11_ends 65 = .ok (.iconst 0, 1) := by decide +kernel
theorem dX11_ends_66 : decode cX11_ends 66 = .ok (.invokevirtual 156, 3) := by decide +kernel
theorem dX11_ends_69 : decode cX11_ends 69 = .ok (.iload_n 2, 1) := by decide +kernel
theorem dX11_ends_70 : decode cX11_ends 70 = .ok (.if_icmp .ne 11, 3) := by decide +kernel
theorem dX11_ends_73 : decode cX11_ends 73 = .ok (.aload_n 0, 1) := by decide +kernel
theorem dX11_ends_74 : decode cX11_ends 74 = .ok (.iload 5, 2) := by decide +kernel
theorem dX11_ends_76 : decode cX11_ends 76 = .ok (.iload 6, 2) := by decide +kernel
theorem dX11_ends_78 : decode cX11_ends 78 = .ok (.invokevirtual 64, 3) := by decide +kernel
theorem dX11_ends_81 : decode cX11_ends 81 = .ok (.iinc 6 (-1), 3) := by decide +kernel
theorem dX11_ends_84 : decode cX11_ends 84 = .ok (.goto (-29), 3) := by decide +kernel
theorem dX11_ends_87 : decode cX11_ends 87 = .ok (.iinc 5 1, 3) := by decide +kernel
theorem dX11_ends_90 : decode cX11_ends 90 = .ok (.goto (-52), 3) := by decide +kernel
theorem dX11_ends_93 : decode cX11_ends 93 = .ok (.aload_n 0, 1) := by decide +kernel
theorem dX11_ends_94 : decode cX11_ends 94 = .ok (.iload 4, 2) := by decide +kernel
theorem dX11_ends_96 : decode cX11_ends 96 = .ok (.iload_n 1, 1) := by decide +kernel
theorem dX11_ends_97 : decode cX11_ends 97 = .ok (.iload_n 2, 1) := by decide +kernel
theorem dX11_ends_98 : decode cX11_ends 98 = .ok (.invokevirtual 245, 3) := by decide +kernel
theorem dX11_ends_101 : decode cX11_ends 101 = .ok (.aload_n 0, 1) := by decide +kernel
theorem dX11_ends_102 : decode cX11_ends 102 = .ok (.bipush 31, 2) := by decide +kernel
theorem dX11_ends_104 : decode cX11_ends 104 = .ok (.iload_n 2, 1) := by decide +kernel
theorem dX11_ends_105 : decode cX11_ends 105 = .ok (.iconst 0, 1) := by decide +kernel
theorem dX11_ends_106 : decode cX11_ends 106 = .ok (.invokevirtual 152, 3) := by decide +kernel
theorem dX11_ends_109 : decode cX11_ends 109 = .ok (.aload_n 0, 1) := by decide +kernel
theorem dX11_ends_110 : decode cX11_ends 110 = .ok (.iconst 3, 1) := by decide +kernel
theorem dX11_ends_111 : decode cX11_ends 111 = .ok (.iconst 2, 1) := by decide +kernel
theorem dX11_ends_112 : decode cX11_ends 112 = .ok (.invokevirtual 57, 3) := by decide +kernel
theorem dX11_ends_115 : decode cX11_ends 115 = .ok (.return_, 1) := by decide +kernel
theorem dX11_done_0 : decode cX11_done 0 = .ok (.aload_n 0, 1) := by decide +kernel
theorem dX11_done_1 : decode cX11_done 1 = .ok (.iconst 0, 1) := by decide +kernel
theorem dX11_done_2 : decode cX11_done 2 = .ok (.putfield 225, 3) := by decide +kernel
theorem dX11_done_5 : decode cX11_done 5 = .ok (.aload_n 0, 1) := by decide +kernel
theorem dX11_done_6 : decode cX11_done 6 = .ok (.getfield 254, 3) := by decide +kernel
theorem dX11_done_9 : decode cX11_done 9 = .ok (.istore_n 1, 1) := by decide +kernel
theorem dX11_done_10 : decode cX11_done 10 = .ok (.aload_n 0, 1) := by decide +kernel
theorem dX11_done_11 : decode cX11_done 11 = .ok (.getfield 248, 3) := by decide +kernel
theorem dX11_done_14 : decode cX11_done 14 = .ok (.bipush 8, 2) := by decide +kernel
theorem dX11_done_16 : decode cX11_done 16 = .ok (.if_icmp .ne 38, 3) := by decide +kernel
theorem dX11_done_19 : decode cX11_done 19 = .ok (.aload_n 0, 1) := by decide +kernel
theorem dX11_done_20 : decode cX11_done 20 = .ok (.getfield 19, 3) := by decide +kernel
theorem dX11_done_23 : decode cX11_done 23 = .ok (.iload_n 1, 1) := by decide +kernel
theorem dX11_done_24 : decode cX11_done 24 = .ok (.iconst 1, 1) := by decide +kernel
theorem dX11_done_25 : decode cX11_done 25 = .ok (.iastore, 1) := by decide +kernel
theorem dX11_done_26 : decode cX11_done 26 = .ok (.aload_n 0, 1) := by decide +kernel
theorem dX11_done_27 : decode cX11_done 27 = .ok (.getfield 83, 3) := by decide +kernel
theorem dX11_done_30 : decode cX11_done 30 = .ok (.iload_n 1, 1) := by decide +kernel
theorem dX11_done_31 : decode cX11_done 31 = .ok (.aload_n 0, 1) := by decide +kernel
theorem dX11_done_32 : decode cX11_done 32 = .ok (.getfield 251, 3) := by decide +kernel
theorem dX11_done_35 : decode cX11_done 35 = .ok (.iastore, 1) := by decide +kernel
theorem dX11_done_36 : decode cX11_done 36 = .ok (.aload_n 0, 1) := by decide +kernel
theorem dX11_done_37 : decode cX11_done 37 = .ok (.getfield 86, 3) := by decide +kernel
theorem dX11_done_40 : decode cX11_done 40 = .ok (.iload_n 1, 1) := by decide +kernel
theorem dX11_done_41 : decode cX11_done 41 = .ok (.iconst 0, 1) := by decide +kernel
theorem dX11_done_42 : decode cX11_done 42 = .ok (.iastore, 1) := by decide +kernel
theorem dX11_done_43 : decode cX11_done 43 = .ok (.aload_n 0, 1) := by decide +kernel
theorem dX11_done_44 : decode cX11_done 44 = .ok (.iconst 3, 1) := by decide +kernel
theorem dX11_done_45 : decode cX11_done 45 = .ok (.aload_n 0, 1) := by decide +kernel
theorem dX11_done_46 : decode cX11_done 46 = .ok (.getfield 251, 3) := by decide +kernel
theorem dX11_done_49 : decode cX11_done 49 = .ok (.iload_n 1, 1) := by decide +kernel
theorem dX11_done_50 : decode cX11_done 50 = .ok (.invokevirtual 196, 3) := by decide +kernel
theorem dX11_done_53 : decode cX11_done 53 = .ok (.return_, 1) := by decide +kernel
theorem dX11_done_54 : decode cX11_done 54 = .ok (.iconst 4, 1) := by decide +kernel
theorem dX11_done_55 : decode cX11_done 55 = .ok (.istore_n 2, 1) := by decide +kernel
theorem dX11_done_56 : decode cX11_done 56 = .ok (.iload_n 2, 1) := by decide +kernel
theorem dX11_done_57 : decode cX11_done 57 = .ok (.bipush 12, 2) := by decide +kernel
theorem dX11_done_59 : decode cX11_done 59 = .ok (.if_icmp .ge 52, 3) := by decide +kernel
theorem dX11_done_62 : decode cX11_done 62 = .ok (.aload_n 0, 1) := by decide +kernel
theorem dX11_done_63 : decode cX11_done 63 = .ok (.getfield 83, 3) := by decide +kernel
theorem dX11_done_66 : decode cX11_done 66 = .ok (.iload_n 2, 1) := by decide +kernel
theorem dX11_done_67 : decode cX11_done 67 = .ok (.iaload, 1) := by decide +kernel
theorem dX11_done_68 : decode cX11_done 68 = .ok (.iload_n 1, 1) := by decide +kernel
theorem dX11_done_69 : decode cX11_done 69 = .ok (.if_icmp .ne 36, 3) := by decide +kernel
theorem dX11_done_72 : decode cX11_done 72 = .ok (.aload_n 0, 1) := by decide +kernel
theorem dX11_done_73 : decode cX11_done 73 = .ok (.getfield 83, 3) := by decide +kernel
theorem dX11_done_76 : decode cX11_done 76 = .ok (.iload_n 2, 1) := by decide +kernel
theorem dX11_done_77 : decode cX11_done 77 = .ok (.iconst (-1), 1) := by decide +kernel
theorem dX11_done_78 : decode cX11_done 78 = .ok (.iastore, 1) := by decide +kernel
theorem dX11_done_79 : decode cX11_done 79 = .ok (.aload_n 0, 1) := by decide +kernel
theorem dX11_done_80 : decode cX11_done 80 = .ok (.getfield 19, 3) := by decide +kernel
theorem dX11_done_83 : decode cX11_done 83 = .ok (.iload_n 2, 1) := by decide +kernel
theorem dX11_done_84 : decode cX11_done 84 = .ok (.aload_n 0, 1) := by decide +kernel
theorem dX11_done_85 : decode cX11_done 85 = .ok (.getfield 19, 3) := by decide +kernel
theorem dX11_done_88 : decode cX11_done 88 = .ok (.iload_n 2, 1) := by decide +kernel
theorem dX11_done_89 : decode cX11_done 89 = .ok (.iaload, 1) := by decide +kernel
theorem dX11_done_90 : decode cX11_done 90 = .ok (.iconst 2, 1) := by decide +kernel
theorem dX11_done_91 : decode cX11_done 91 = .ok (.if_icmp .ne 7, 3) := by decide +kernel
theorem dX11_done_94 : decode cX11_done 94 = .ok (.iconst 0, 1) := by decide +kernel
theorem dX11_done_95 : decode cX11_done 95 = .ok (.goto 9, 3) := by decide +kernel
theorem dX11_done_98 : decode cX11_done 98 = .ok (.aload_n 0, 1) := by decide +kernel
theorem dX11_done_99 : decode cX11_done 99 = .ok (.getfield 19, 3) := by decide +kernel
theorem dX11_done_102 : decode cX11_done 102 = .ok (.iload_n 2, 1) := by decide +kernel
theorem dX11_done_103 : decode cX11_done 103 = .ok (.iaload, 1) := by decide +kernel
theorem dX11_done_104 : decode cX11_done 104 = .ok (.iastore, 1) := by decide +kernel
theorem dX11_done_105 : decode cX11_done 105 = .ok (.iinc 2 1, 3) := by decide +kernel
theorem dX11_done_108 : decode cX11_done 108 = .ok (.goto (-52), 3) := by decide +kernel
theorem dX11_done_111 : decode cX11_done 111 = .ok (.aload_n 0, 1) := by decide +kernel
theorem dX11_done_112 : decode cX11_done 112 = .ok (.getfield 83, 3) := by decide +kernel
theorem dX11_done_115 : decode cX11_done 115 = .ok (.iload_n 1, 1) := by decide +kernel
theorem dX11_done_116 : decode cX11_done 116 = .ok (.iaload, 1) := by decide +kernel
theorem dX11_done_117 : decode cX11_done 117 = .ok (.istore_n 2, 1) := by decide +kernel
theorem dX11_done_118 : decode cX11_done 118 = .ok (.iload_n 2, 1) := by decide +kernel
theorem dX11_done_119 : decode cX11_done 119 = .ok (.ifCond .ge 13, 3) := by decide +kernel
theorem dX11_done_122 : decode cX11_done 122 = .ok (.aload_n 0, 1) := by decide +kernel
theorem dX11_done_123 : decode cX11_done 123 = .ok (.getfield 19, 3) := by decide +kernel
theorem dX11_done_126 : decode cX11_done 126 = .ok (.iload_n 1, 1) := by decide +kernel
theorem dX11_done_127 : decode cX11_done 127 = .ok (.iconst 0, 1) := by decide +kernel
theorem dX11_done_128 : decode cX11_done 128 = .ok (.iastore, 1) := by decide +kernel
theorem dX11_done_129 : decode cX11_done 129 = .ok (.goto 30, 3) := by decide +kernel
theorem dX11_done_132 : decode cX11_done 132 = .ok (.aload_n 0, 1) := by decide +kernel
theorem dX11_done_133 : decode cX11_done 133 = .ok (.getfield 89, 3) := by decide +kernel
theorem dX11_done_136 : decode cX11_done 136 = .ok (.iload_n 2, 1) := by decide +kernel
theorem dX11_done_137 : decode cX11_done 137 = .ok (.baload, 1) := by decide +kernel
theorem dX11_done_138 : decode cX11_done 138 = .ok (.ifCond .eq 21, 3) := by decide +kernel
theorem dX11_done_141 : decode cX11_done 141 = .ok (.aload_n 0, 1) := by decide +kernel
theorem dX11_done_142 : decode cX11_done 142 = .ok (.getfield 89, 3) := by decide +kernel
theorem dX11_done_145 : decode cX11_done 145 = .ok (.iload_n 2, 1) := by decide +kernel
theorem dX11_done_146 : decode cX11_done 146 = .ok (.iconst 0, 1) := by decide +kernel
theorem dX11_done_147 : decode cX11_done 147 = .ok (.bastore, 1) := by decide +kernel
theorem dX11_done_148 : decode cX11_done 148 = .ok (.aload_n 0, 1) := by decide +kernel
theorem dX11_done_149 : decode cX11_done 149 = .ok (.iconst 3, 1) := by decide +kernel
theorem dX11_done_150 : decode cX11_done 150 = .ok (.iload_n 2, 1) := by decide +kernel
theorem dX11_done_151 : decode cX11_done 151 = .ok (.aload_n 0, 1) := by decide +kernel
theorem dX11_done_152 : decode cX11_done 152 = .ok (.iload_n 1, 1) := by decide +kernel
theorem dX11_done_153 : decode cX11_done 153 = .ok (.invokevirtual 257, 3) := by decide +kernel
theorem dX11_done_156 : decode cX11_done 156 = .ok (.invokevirtual 196, 3) := by decide +kernel
theorem dX11_done_159 : decode cX11_done 159 = .ok (.aload_n 0, 1) := by decide +kernel
theorem dX11_done_160 : decode cX11_done 160 = .ok (.getfield 248, 3) := by decide +kernel
theorem dX11_done_163 : decode cX11_done 163 = .ok (.bipush 11, 2) := by decide +kernel
theorem dX11_done_165 : decode cX11_done 165 = .ok (.if_icmp .ne 13, 3) := by decide +kernel
theorem dX11_done_168 : decode cX11_done 168 = .ok (.aload_n 0, 1) := by decide +kernel
theorem dX11_done_169 : decode cX11_done 169 = .ok (.iconst 3, 1) := by decide +kernel
theorem dX11_done_170 : decode cX11_done 170 = .ok (.aload_n 0, 1) := by decide +kernel
theorem dX11_done_171 : decode cX11_done 171 = .ok (.getfield 251, 3) := by decide +kernel
theorem dX11_done_174 : decode cX11_done 174 = .ok (.iconst 0, 1) := by decide +kernel
theorem dX11_done_175 : decode cX11_done 175 = .ok (.invokevirtual 196, 3) := by decide +kernel
theorem dX11_done_178 : decode cX11_done 178 = .ok (.return_, 1) := by decide +kernel
theorem dX11_freed_0 : decode cX11_freed 0 = .ok (.aload_n 0, 1) := by decide +kernel
theorem dX11_freed_1 : decode cX11_freed 1 = .ok (.getfield 19, 3) := by decide +kernel
theorem dX11_freed_4 : decode cX11_freed 4 = .ok (.iload_n 1, 1) := by decide +kernel
theorem dX11_freed_5 : decode cX11_freed 5 = .ok (.iconst 0, 1) := by decide +kernel
theorem dX11_freed_6 : decode cX11_freed 6 = .ok (.iastore, 1) := by decide +kernel
theorem dX11_freed_7 : decode cX11_freed 7 = .ok (.aload_n 0, 1) := by decide +kernel
theorem dX11_freed_8 : decode cX11_freed 8 = .ok (.getfield 83, 3) := by decide +kernel
theorem dX11_freed_11 : decode cX11_freed 11 = .ok (.iload_n 1, 1) := by decide +kernel
theorem dX11_freed_12 : decode cX11_freed 12 = .ok (.iconst (-1), 1) := by decide +kernel
theorem dX11_freed_13 : decode cX11_freed 13 = .ok (.iastore, 1) := by decide +kernel
theorem dX11_freed_14 : decode cX11_freed 14 = .ok (.sipush 256, 3) := by decide +kernel
theorem dX11_freed_17 : decode cX11_freed 17 = .ok (.iload_n 1, 1) := by decide +kernel
theorem dX11_freed_18 : decode cX11_freed 18 = .ok (.imul, 1) := by decide +kernel
theorem dX11_freed_19 : decode cX11_freed 19 = .ok (.aload_n 0, 1) := by decide +kernel
theorem dX11_freed_20 : decode cX11_freed 20 = .ok (.getfield 86, 3) := by decide +kernel
theorem dX11_freed_23 : decode cX11_freed 23 = .ok (.iload_n 1, 1) := by decide +kernel
theorem dX11_freed_24 : decode cX11_freed 24 = .ok (.iaload, 1) := by decide +kernel
theorem dX11_freed_25 : decode cX11_freed 25 = .ok (.iadd, 1) := by decide +kernel
theorem dX11_freed_26 : decode cX11_freed 26 = .ok (.ireturn, 1) := by decide +kernel
theorem dX11_waitsFor_0 : decode cX11_waitsFor 0 = .ok (.iconst (-1), 1) := by decide +kernel
theorem dX11_waitsFor_1 : decode cX11_waitsFor 1 = .ok (.istore_n 2, 1) := by decide +kernel
theorem dX11_waitsFor_2 : decode cX11_waitsFor 2 = .ok (.iconst 0, 1) := by decide +kernel
theorem dX11_waitsFor_3 : decode cX11_waitsFor 3 = .ok (.istore_n 3, 1) := by decide +kernel
theorem dX11_waitsFor_4 : decode cX11_waitsFor 4 = .ok (.bipush 11, 2) := by decide +kernel
theorem dX11_waitsFor_6 : decode cX11_waitsFor 6 = .ok (.istore 4, 2) := by decide +kernel
theorem dX11_waitsFor_8 : decode cX11_waitsFor 8 = .ok (.iload 4, 2) := by decide +kernel
theorem dX11_waitsFor_10 : decode cX11_waitsFor 10 = .ok (.iconst 4, 1) := by decide +kernel
theorem dX11_waitsFor_11 : decode cX11_waitsFor 11 = .ok (.if_icmp .lt 75, 3) := by decide +kernel
theorem dX11_waitsFor_14 : decode cX11_waitsFor 14 = .ok (.aload_n 0, 1) := by decide +kernel
theorem dX11_waitsFor_15 : decode cX11_waitsFor 15 = .ok (.getfield 83, 3) := by decide +kernel
theorem dX11_waitsFor_18 : decode cX11_waitsFor 18 = .ok (.iload 4, 2) := by decide +kernel
theorem dX11_waitsFor_20 : decode cX11_waitsFor 20 = .ok (.iaload, 1) := by decide +kernel
theorem dX11_waitsFor_21 : decode cX11_waitsFor 21 = .ok (.iload_n 1, 1) := by decide +kernel
theorem dX11_waitsFor_22 : decode cX11_waitsFor 22 = .ok (.if_icmp .ne 17, 3) := by decide +kernel
theorem dX11_waitsFor_25 : decode cX11_waitsFor 25 = .ok (.aload_n 0, 1) := by decide +kernel
theorem dX11_waitsFor_26 : decode cX11_waitsFor 26 = .ok (.getfield 19, 3) := by decide +kernel
theorem dX11_waitsFor_29 : decode cX11_waitsFor 29 = .ok (.iload 4, 2) := by decide +kernel
theorem dX11_waitsFor_31 : decode cX11_waitsFor 31 = .ok (.iaload, 1) := by decide +kernel
theorem dX11_waitsFor_32 : decode cX11_waitsFor 32 = .ok (.ifCond .eq 7, 3) := by decide +kernel
theorem dX11_waitsFor_35 : decode cX11_waitsFor 35 = .ok (.iconst 1, 1) := by decide +kernel
theorem dX11_waitsFor_36 : decode cX11_waitsFor 36 = .ok (.goto 4, 3) := by decide +kernel
theorem dX11_waitsFor_39 : decode cX11_waitsFor 39 = .ok (.iconst 0, 1) := by decide +kernel
theorem dX11_waitsFor_40 : decode cX11_waitsFor 40 = .ok (.istore 5, 2) := by decide +kernel
theorem dX11_waitsFor_42 : decode cX11_waitsFor 42 = .ok (.iload_n 3, 1) := by decide +kernel
theorem dX11_waitsFor_43 : decode cX11_waitsFor 43 = .ok (.ifCond .ne 8, 3) := by decide +kernel
theorem dX11_waitsFor_46 : decode cX11_waitsFor 46 = .ok (.iload 5, 2) := by decide +kernel
theorem dX11_waitsFor_48 : decode cX11_waitsFor 48 = .ok (.ifCond .eq 7, 3) := by decide +kernel
theorem dX11_waitsFor_51 : decode cX11_waitsFor 51 = .ok (.iconst 1, 1) := by decide +kernel
theorem dX11_waitsFor_52 : decode cX11_waitsFor 52 = .ok (.goto 4, 3) := by decide +kernel
theorem dX11_waitsFor_55 : decode cX11_waitsFor 55 = .ok (.iconst 0, 1) := by decide +kernel
theorem dX11_waitsFor_56 : decode cX11_waitsFor 56 = .ok (.istore_n 3, 1) := by decide +kernel
theorem dX11_waitsFor_57 : decode cX11_waitsFor 57 = .ok (.iload 5, 2) := by decide +kernel
theorem dX11_waitsFor_59 : decode cX11_waitsFor 59 = .ok (.ifCond .eq 19, 3) := by decide +kernel
theorem dX11_waitsFor_62 : decode cX11_waitsFor 62 = .ok (.aload_n 0, 1) := by decide +kernel
theorem dX11_waitsFor_63 : decode cX11_waitsFor 63 = .ok (.getfield 19, 3) := by decide +kernel
theorem dX11_waitsFor_66 : decode cX11_waitsFor 66 = .ok (.iload 4, 2) := by decide +kernel
theorem dX11_waitsFor_68 : decode cX11_waitsFor 68 = .ok (.iaload, 1) := by decide +kernel
theorem dX11_waitsFor_69 : decode cX11_waitsFor 69 = .ok (.iconst 2, 1) := by decide +kernel
theorem dX11_waitsFor_70 : decode cX11_waitsFor 70 = .ok (.if_icmp .ne 8, 3) := by decide +kernel
theorem dX11_waitsFor_73 : decode cX11_waitsFor 73 = .ok (.iload 4, 2) := by decide +kernel
theorem dX11_waitsFor_75 : decode cX11_waitsFor 75 = .ok (.goto 4, 3) := by decide +kernel
theorem dX11_waitsFor_78 : decode cX11_waitsFor 78 = .ok (.iload_n 2, 1) := by decide +kernel
theorem dX11_waitsFor_79 : decode cX11_waitsFor 79 = .ok (.istore_n 2, 1) := by decide +kernel
theorem dX11_waitsFor_80 : decode cX11_waitsFor 80 = .ok (.iinc 4 (-1), 3) := by decide +kernel
theorem dX11_waitsFor_83 : decode cX11_waitsFor 83 = .ok (.goto (-75), 3) := by decide +kernel
theorem dX11_waitsFor_86 : decode cX11_waitsFor 86 = .ok (.iload_n 2, 1) := by decide +kernel
theorem dX11_waitsFor_87 : decode cX11_waitsFor 87 = .ok (.ifCond .lt 17, 3) := by decide +kernel
theorem dX11_waitsFor_90 : decode cX11_waitsFor 90 = .ok (.aload_n 0, 1) := by decide +kernel
theorem dX11_waitsFor_91 : decode cX11_waitsFor 91 = .ok (.iconst 3, 1) := by decide +kernel
theorem dX11_waitsFor_92 : decode cX11_waitsFor 92 = .ok (.iload_n 1, 1) := by decide +kernel
theorem dX11_waitsFor_93 : decode cX11_waitsFor 93 = .ok (.aload_n 0, 1) := by decide +kernel
theorem dX11_waitsFor_94 : decode cX11_waitsFor 94 = .ok (.iload_n 2, 1) := by decide +kernel
theorem dX11_waitsFor_95 : decode cX11_waitsFor 95 = .ok (.invokevirtual 257, 3) := by decide +kernel
theorem dX11_waitsFor_98 : decode cX11_waitsFor 98 = .ok (.invokevirtual 196, 3) := by decide +kernel
theorem dX11_waitsFor_101 : decode cX11_waitsFor 101 = .ok (.goto 25, 3) := by decide +kernel
theorem dX11_waitsFor_104 : decode cX11_waitsFor 104 = .ok (.iload_n 3, 1) := by decide +kernel
theorem dX11_waitsFor_105 : decode cX11_waitsFor 105 = .ok (.ifCond .eq 13, 3) := by decide +kernel
theorem dX11_waitsFor_108 : decode cX11_waitsFor 108 = .ok (.aload_n 0, 1) := by decide +kernel
theorem dX11_waitsFor_109 : decode cX11_waitsFor 109 = .ok (.getfield 89, 3) := by decide +kernel
theorem dX11_waitsFor_112 : decode cX11_waitsFor 112 = .ok (.iload_n 1, 1) := by decide +kernel
theorem dX11_waitsFor_113 : decode cX11_waitsFor 113 = .ok (.iconst 1, 1) := by decide +kernel
theorem dX11_waitsFor_114 : decode cX11_waitsFor 114 = .ok (.bastore, 1) := by decide +kernel
theorem dX11_waitsFor_115 : decode cX11_waitsFor 115 = .ok (.goto 11, 3) := by decide +kernel
theorem dX11_waitsFor_118 : decode cX11_waitsFor 118 = .ok (.aload_n 0, 1) := by decide +kernel
theorem dX11_waitsFor_119 : decode cX11_waitsFor 119 = .ok (.iconst 3, 1) := by decide +kernel
theorem dX11_waitsFor_120 : decode cX11_waitsFor 120 = .ok (.iload_n 1, 1) := by decide +kernel
theorem dX11_waitsFor_121 : decode cX11_waitsFor 121 = .ok (.bipush (-10), 2) := by decide +kernel
theorem dX11_waitsFor_123 : decode cX11_waitsFor 123 = .ok (.invokevirtual 196, 3) := by decide +kernel
theorem dX11_waitsFor_126 : decode cX11_waitsFor 126 = .ok (.return_, 1) := by decide +kernel
theorem dX11_ofUser_0 : decode cX11_ofUser 0 = .ok (.aload_n 0, 1) := by decide +kernel
theorem dX11_ofUser_1 : decode cX11_ofUser 1 = .ok (.getfield 38, 3) := by decide +kernel
theorem dX11_ofUser_4 : decode cX11_ofUser 4 = .ok (.iload_n 1, 1) := by decide +kernel
theorem dX11_ofUser_5 : decode cX11_ofUser 5 = .ok (.iaload, 1) := by decide +kernel
theorem dX11_ofUser_6 : decode cX11_ofUser 6 = .ok (.ifCond .ne 4, 3) := by decide +kernel
theorem dX11_ofUser_9 : decode cX11_ofUser 9 = .ok (.return_, 1) := by decide +kernel
theorem dX11_ofUser_10 : decode cX11_ofUser 10 = .ok (.aload_n 0, 1) := by decide +kernel
theorem dX11_ofUser_11 : decode cX11_ofUser 11 = .ok (.iload_n 1, 1) := by decide +kernel
theorem dX11_ofUser_12 : decode cX11_ofUser 12 = .ok (.iconst 0, 1) := by decide +kernel
theorem dX11_ofUser_13 : decode cX11_ofUser 13 = .ok (.invokevirtual 143, 3) := by decide +kernel
theorem dX11_ofUser_16 : decode cX11_ofUser 16 = .ok (.aload_n 0, 1) := by decide +kernel
theorem dX11_ofUser_17 : decode cX11_ofUser 17 = .ok (.getfield 61, 3) := by decide +kernel
theorem dX11_ofUser_20 : decode cX11_ofUser 20 = .ok (.iconst 1, 1) := by decide +kernel
theorem dX11_ofUser_21 : decode cX11_ofUser 21 = .ok (.iaload, 1) := by decide +kernel
theorem dX11_ofUser_22 : decode cX11_ofUser 22 = .ok (.bipush 50, 2) := by decide +kernel
theorem dX11_ofUser_24 : decode cX11_ofUser 24 = .ok (.if_icmp .ne 32, 3) := by decide +kernel
theorem dX11_ofUser_27 : decode cX11_ofUser 27 = .ok (.aload_n 0, 1) := by decide +kernel
theorem dX11_ofUser_28 : decode cX11_ofUser 28 = .ok (.getfield 73, 3) := by decide +kernel
theorem dX11_ofUser_31 : decode cX11_ofUser 31 = .ok (.iload_n 1, 1) := by decide +kernel
theorem dX11_ofUser_32 : decode cX11_ofUser 32 = .ok (.iconst 0, 1) := by decide +kernel
theorem dX11_ofUser_33 : decode cX11_ofUser 33 = .ok (.bastore, 1) := by decide +kernel
theorem dX11_ofUser_34 : decode cX11_ofUser 34 = .ok (.aload_n 0, 1) := by decide +kernel
theorem dX11_ofUser_35 : decode cX11_ofUser 35 = .ok (.getfield 77, 3) := by decide +kernel
theorem dX11_ofUser_38 : decode cX11_ofUser 38 = .ok (.iload_n 1, 1) := by decide +kernel
theorem dX11_ofUser_39 : decode cX11_ofUser 39 = .ok (.aload_n 0, 1) := by decide +kernel
theorem dX11_ofUser_40 : decode cX11_ofUser 40 = .ok (.getfield 61, 3) := by decide +kernel
theorem dX11_ofUser_43 : decode cX11_ofUser 43 = .ok (.iconst 2, 1) := by decide +kernel
theorem dX11_ofUser_44 : decode cX11_ofUser 44 = .ok (.iaload, 1) := by decide +kernel
theorem dX11_ofUser_45 : decode cX11_ofUser 45 = .ok (.iastore, 1) := by decide +kernel
theorem dX11_ofUser_46 : decode cX11_ofUser 46 = .ok (.aload_n 0, 1) := by decide +kernel
theorem dX11_ofUser_47 : decode cX11_ofUser 47 = .ok (.getfield 80, 3) := by decide +kernel
theorem dX11_ofUser_50 : decode cX11_ofUser 50 = .ok (.iload_n 1, 1) := by decide +kernel
theorem dX11_ofUser_51 : decode cX11_ofUser 51 = .ok (.dup2, 1) := by decide +kernel
theorem dX11_ofUser_52 : decode cX11_ofUser 52 = .ok (.iaload, 1) := by decide +kernel
theorem dX11_ofUser_53 : decode cX11_ofUser 53 = .ok (.iconst 1, 1) := by decide +kernel
theorem dX11_ofUser_54 : decode cX11_ofUser 54 = .ok (.iadd, 1) := by decide +kernel
theorem dX11_ofUser_55 : decode cX11_ofUser 55 = .ok (.iastore, 1) := by decide +kernel
theorem dX11_ofUser_56 : decode cX11_ofUser 56 = .ok (.return_, 1) := by decide +kernel
theorem dX11_turn_0 : decode cX11_turn 0 = .ok (.aload_n 0, 1) := by decide +kernel
theorem dX11_turn_1 : decode cX11_turn 1 = .ok (.getfield 260, 3) := by decide +kernel
theorem dX11_turn_4 : decode cX11_turn 4 = .ok (.istore_n 1, 1) := by decide +kernel
theorem dX11_turn_5 : decode cX11_turn 5 = .ok (.aload_n 0, 1) := by decide +kernel
theorem dX11_turn_6 : decode cX11_turn 6 = .ok (.aload_n 0, 1) := by decide +kernel
theorem dX11_turn_7 : decode cX11_turn 7 = .ok (.getfield 260, 3) := by decide +kernel
theorem dX11_turn_10 : decode cX11_turn 10 = .ok (.iconst 1, 1) := by decide +kernel
theorem dX11_turn_11 : decode cX11_turn 11 = .ok (.iadd, 1) := by decide +kernel
