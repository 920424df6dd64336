theorem dX8_init_0 : decode cX8_init 0 = .ok (.aload_n 0, 1) := by decide +kernel
theorem dX8_init_1 : decode cX8_init 1 = .ok (.invokespecial 3, 3) := by decide +kernel
theorem dX8_init_4 : decode cX8_init 4 = .ok (.aload_n 0, 1) := by decide +kernel
theorem dX8_init_5 : decode cX8_init 5 = .ok (.bipush 12, 2) := by decide +kernel
theorem dX8_init_7 : decode cX8_init 7 = .ok (.newarray .int, 2) := by decide +kernel
theorem dX8_init_9 : decode cX8_init 9 = .ok (.putfield 9, 3) := by decide +kernel
theorem dX8_init_12 : decode cX8_init 12 = .ok (.aload_n 0, 1) := by decide +kernel
theorem dX8_init_13 : decode cX8_init 13 = .ok (.bipush 12, 2) := by decide +kernel
theorem dX8_init_15 : decode cX8_init 15 = .ok (.newarray .int, 2) := by decide +kernel
theorem dX8_init_17 : decode cX8_init 17 = .ok (.putfield 15, 3) := by decide +kernel
theorem dX8_init_20 : decode cX8_init 20 = .ok (.aload_n 0, 1) := by decide +kernel
theorem dX8_init_21 : decode cX8_init 21 = .ok (.bipush 12, 2) := by decide +kernel
theorem dX8_init_23 : decode cX8_init 23 = .ok (.newarray .boolean, 2) := by decide +kernel
theorem dX8_init_25 : decode cX8_init 25 = .ok (.putfield 18, 3) := by decide +kernel
theorem dX8_init_28 : decode cX8_init 28 = .ok (.aload_n 0, 1) := by decide +kernel
theorem dX8_init_29 : decode cX8_init 29 = .ok (.bipush 12, 2) := by decide +kernel
theorem dX8_init_31 : decode cX8_init 31 = .ok (.newarray .boolean, 2) := by decide +kernel
theorem dX8_init_33 : decode cX8_init 33 = .ok (.putfield 22, 3) := by decide +kernel
theorem dX8_init_36 : decode cX8_init 36 = .ok (.iconst 0, 1) := by decide +kernel
theorem dX8_init_37 : decode cX8_init 37 = .ok (.istore_n 1, 1) := by decide +kernel
theorem dX8_init_38 : decode cX8_init 38 = .ok (.iload_n 1, 1) := by decide +kernel
theorem dX8_init_39 : decode cX8_init 39 = .ok (.bipush 12, 2) := by decide +kernel
theorem dX8_init_41 : decode cX8_init 41 = .ok (.if_icmp .ge 16, 3) := by decide +kernel
theorem dX8_init_44 : decode cX8_init 44 = .ok (.aload_n 0, 1) := by decide +kernel
theorem dX8_init_45 : decode cX8_init 45 = .ok (.getfield 9, 3) := by decide +kernel
theorem dX8_init_48 : decode cX8_init 48 = .ok (.iload_n 1, 1) := by decide +kernel
theorem dX8_init_49 : decode cX8_init 49 = .ok (.iconst (-1), 1) := by decide +kernel
theorem dX8_init_50 : decode cX8_init 50 = .ok (.iastore, 1) := by decide +kernel
theorem dX8_init_51 : decode cX8_init 51 = .ok (.iinc 1 1, 3) := by decide +kernel
theorem dX8_init_54 : decode cX8_init 54 = .ok (.goto (-16), 3) := by decide +kernel
theorem dX8_init_57 : decode cX8_init 57 = .ok (.return_, 1) := by decide +kernel
theorem dX8_hasEnded_0 : decode cX8_hasEnded 0 = .ok (.iload_n 1, 1) := by decide +kernel
theorem dX8_hasEnded_1 : decode cX8_hasEnded 1 = .ok (.invokestatic 25, 3) := by decide +kernel
theorem dX8_hasEnded_4 : decode cX8_hasEnded 4 = .ok (.ifCond .eq 16, 3) := by decide +kernel
theorem dX8_hasEnded_7 : decode cX8_hasEnded 7 = .ok (.aload_n 0, 1) := by decide +kernel
theorem dX8_hasEnded_8 : decode cX8_hasEnded 8 = .ok (.getfield 18, 3) := by decide +kernel
theorem dX8_hasEnded_11 : decode cX8_hasEnded 11 = .ok (.iload_n 1, 1) := by decide +kernel
theorem dX8_hasEnded_12 : decode cX8_hasEnded 12 = .ok (.baload, 1) := by decide +kernel
theorem dX8_hasEnded_13 : decode cX8_hasEnded 13 = .ok (.ifCond .eq 7, 3) := by decide +kernel
theorem dX8_hasEnded_16 : decode cX8_hasEnded 16 = .ok (.iconst 1, 1) := by decide +kernel
theorem dX8_hasEnded_17 : decode cX8_hasEnded 17 = .ok (.goto 4, 3) := by decide +kernel
theorem dX8_hasEnded_20 : decode cX8_hasEnded 20 = .ok (.iconst 0, 1) := by decide +kernel
theorem dX8_hasEnded_21 : decode cX8_hasEnded 21 = .ok (.ireturn, 1) := by decide +kernel
theorem dX8_parentOf_0 : decode cX8_parentOf 0 = .ok (.iload_n 1, 1) := by decide +kernel
theorem dX8_parentOf_1 : decode cX8_parentOf 1 = .ok (.invokestatic 25, 3) := by decide +kernel
theorem dX8_parentOf_4 : decode cX8_parentOf 4 = .ok (.ifCond .eq 12, 3) := by decide +kernel
theorem dX8_parentOf_7 : decode cX8_parentOf 7 = .ok (.aload_n 0, 1) := by decide +kernel
theorem dX8_parentOf_8 : decode cX8_parentOf 8 = .ok (.getfield 9, 3) := by decide +kernel
theorem dX8_parentOf_11 : decode cX8_parentOf 11 = .ok (.iload_n 1, 1) := by decide +kernel
theorem dX8_parentOf_12 : decode cX8_parentOf 12 = .ok (.iaload, 1) := by decide +kernel
theorem dX8_parentOf_13 : decode cX8_parentOf 13 = .ok (.goto 4, 3) := by decide +kernel
theorem dX8_parentOf_16 : decode cX8_parentOf 16 = .ok (.iconst (-1), 1) := by decide +kernel
theorem dX8_parentOf_17 : decode cX8_parentOf 17 = .ok (.ireturn, 1) := by decide +kernel
theorem dX8_codeOf_0 : decode cX8_codeOf 0 = .ok (.iload_n 1, 1) := by decide +kernel
theorem dX8_codeOf_1 : decode cX8_codeOf 1 = .ok (.invokestatic 25, 3) := by decide +kernel
theorem dX8_codeOf_4 : decode cX8_codeOf 4 = .ok (.ifCond .eq 12, 3) := by decide +kernel
theorem dX8_codeOf_7 : decode cX8_codeOf 7 = .ok (.aload_n 0, 1) := by decide +kernel
theorem dX8_codeOf_8 : decode cX8_codeOf 8 = .ok (.getfield 15, 3) := by decide +kernel
theorem dX8_codeOf_11 : decode cX8_codeOf 11 = .ok (.iload_n 1, 1) := by decide +kernel
theorem dX8_codeOf_12 : decode cX8_codeOf 12 = .ok (.iaload, 1) := by decide +kernel
theorem dX8_codeOf_13 : decode cX8_codeOf 13 = .ok (.goto 4, 3) := by decide +kernel
theorem dX8_codeOf_16 : decode cX8_codeOf 16 = .ok (.iconst 0, 1) := by decide +kernel
theorem dX8_codeOf_17 : decode cX8_codeOf 17 = .ok (.ireturn, 1) := by decide +kernel
theorem dX8_takeTurn_0 : decode cX8_takeTurn 0 = .ok (.aload_n 1, 1) := by decide +kernel
theorem dX8_takeTurn_1 : decode cX8_takeTurn 1 = .ok (.getfield 29, 3) := by decide +kernel
theorem dX8_takeTurn_4 : decode cX8_takeTurn 4 = .ok (.iconst 3, 1) := by decide +kernel
theorem dX8_takeTurn_5 : decode cX8_takeTurn 5 = .ok (.aaload, 1) := by decide +kernel
theorem dX8_takeTurn_6 : decode cX8_takeTurn 6 = .ok (.astore_n 3, 1) := by decide +kernel
theorem dX8_takeTurn_7 : decode cX8_takeTurn 7 = .ok (.aload_n 3, 1) := by decide +kernel
theorem dX8_takeTurn_8 : decode cX8_takeTurn 8 = .ok (.aload_n 0, 1) := by decide +kernel
theorem dX8_takeTurn_9 : decode cX8_takeTurn 9 = .ok (.getfield 35, 3) := by decide +kernel
theorem dX8_takeTurn_12 : decode cX8_takeTurn 12 = .ok (.ifCond .eq 11, 3) := by decide +kernel
theorem dX8_takeTurn_15 : decode cX8_takeTurn 15 = .ok (.aload_n 3, 1) := by decide +kernel
theorem dX8_takeTurn_16 : decode cX8_takeTurn 16 = .ok (.iconst 4, 1) := by decide +kernel
theorem dX8_takeTurn_17 : decode cX8_takeTurn 17 = .ok (.invokevirtual 39, 3) := by decide +kernel
theorem dX8_takeTurn_20 : decode cX8_takeTurn 20 = .ok (.goto 4, 3) := by decide +kernel
theorem dX8_takeTurn_23 : decode cX8_takeTurn 23 = .ok (.iconst 0, 1) := by decide +kernel
theorem dX8_takeTurn_24 : decode cX8_takeTurn 24 = .ok (.invokevirtual 45, 3) := by decide +kernel
theorem dX8_takeTurn_27 : decode cX8_takeTurn 27 = .ok (.astore 4, 2) := by decide +kernel
theorem dX8_takeTurn_29 : decode cX8_takeTurn 29 = .ok (.aload 4, 2) := by decide +kernel
theorem dX8_takeTurn_31 : decode cX8_takeTurn 31 = .ok (.ifnull 14, 3) := by decide +kernel
theorem dX8_takeTurn_34 : decode cX8_takeTurn 34 = .ok (.aload 4, 2) := by decide +kernel
theorem dX8_takeTurn_36 : decode cX8_takeTurn 36 = .ok (.getfield 49, 3) := by decide +kernel
theorem dX8_takeTurn_39 : decode cX8_takeTurn 39 = .ok (.invokestatic 55, 3) := by decide +kernel
theorem dX8_takeTurn_42 : decode cX8_takeTurn 42 = .ok (.ifCond .ne 4, 3) := by decide +kernel
theorem dX8_takeTurn_45 : decode cX8_takeTurn 45 = .ok (.return_, 1) := by decide +kernel
theorem dX8_takeTurn_46 : decode cX8_takeTurn 46 = .ok (.aload 4, 2) := by decide +kernel
theorem dX8_takeTurn_48 : decode cX8_takeTurn 48 = .ok (.getfield 49, 3) := by decide +kernel
theorem dX8_takeTurn_51 : decode cX8_takeTurn 51 = .ok (.istore 5, 2) := by decide +kernel
theorem dX8_takeTurn_53 : decode cX8_takeTurn 53 = .ok (.aload 4, 2) := by decide +kernel
theorem dX8_takeTurn_55 : decode cX8_takeTurn 55 = .ok (.getfield 58, 3) := by decide +kernel
theorem dX8_takeTurn_58 : decode cX8_takeTurn 58 = .ok (.lookupswitch 217 #[(8, 66), (9, 76), (10, 99), (11, 109), (12, 182), (32, 58)], 58) := by decide +kernel
theorem dX8_takeTurn_116 : decode cX8_takeTurn 116 = .ok (.aload_n 0, 1) := by decide +kernel
theorem dX8_takeTurn_117 : decode cX8_takeTurn 117 = .ok (.aload_n 1, 1) := by decide +kernel
theorem dX8_takeTurn_118 : decode cX8_takeTurn 118 = .ok (.invokevirtual 61, 3) := by decide +kernel
theorem dX8_takeTurn_121 : decode cX8_takeTurn 121 = .ok (.goto 154, 3) := by decide +kernel
theorem dX8_takeTurn_124 : decode cX8_takeTurn 124 = .ok (.aload_n 0, 1) := by decide +kernel
theorem dX8_takeTurn_125 : decode cX8_takeTurn 125 = .ok (.aload_n 1, 1) := by decide +kernel
theorem dX8_takeTurn_126 : decode cX8_takeTurn 126 = .ok (.iload 5, 2) := by decide +kernel
theorem dX8_takeTurn_128 : decode cX8_takeTurn 128 = .ok (.invokevirtual 65, 3) := by decide +kernel
theorem dX8_takeTurn_131 : decode cX8_takeTurn 131 = .ok (.goto 144, 3) := by decide +kernel
theorem dX8_takeTurn_134 : decode cX8_takeTurn 134 = .ok (.aload_n 0, 1) := by decide +kernel
theorem dX8_takeTurn_135 : decode cX8_takeTurn 135 = .ok (.aload_n 1, 1) := by decide +kernel
theorem dX8_takeTurn_136 : decode cX8_takeTurn 136 = .ok (.aload_n 2, 1) := by decide +kernel
theorem dX8_takeTurn_137 : decode cX8_takeTurn 137 = .ok (.iload 5, 2) := by decide +kernel
theorem dX8_takeTurn_139 : decode cX8_takeTurn 139 = .ok (.aload 4, 2) := by decide +kernel
theorem dX8_takeTurn_141 : decode cX8_takeTurn 141 = .ok (.getfield 69, 3) := by decide +kernel
theorem dX8_takeTurn_144 : decode cX8_takeTurn 144 = .ok (.sipush 256, 3) := by decide +kernel
theorem dX8_takeTurn_147 : decode cX8_takeTurn 147 = .ok (.invokestatic 72, 3) := by decide +kernel
theorem dX8_takeTurn_150 : decode cX8_takeTurn 150 = .ok (.iconst (-1), 1) := by decide +kernel
theorem dX8_takeTurn_151 : decode cX8_takeTurn 151 = .ok (.invokevirtual 78, 3) := by decide +kernel
theorem dX8_takeTurn_154 : decode cX8_takeTurn 154 = .ok (.goto 121, 3) := by decide +kernel
theorem dX8_takeTurn_157 : decode cX8_takeTurn 157 = .ok (.aload_n 0, 1) := by decide +kernel
theorem dX8_takeTurn_158 : decode cX8_takeTurn 158 = .ok (.aload_n 1, 1) := by decide +kernel
theorem dX8_takeTurn_159 : decode cX8_takeTurn 159 = .ok (.iload 5, 2) := by decide +kernel
theorem dX8_takeTurn_161 : decode cX8_takeTurn 161 = .ok (.invokevirtual 82, 3) := by decide +kernel
theorem dX8_takeTurn_164 : decode cX8_takeTurn 164 = .ok (.goto 111, 3) := by decide +kernel
theorem dX8_takeTurn_167 : decode cX8_takeTurn 167 = .ok (.aload 4, 2) := by decide +kernel
theorem dX8_takeTurn_169 : decode cX8_takeTurn 169 = .ok (.getfield 69, 3) := by decide +kernel
theorem dX8_takeTurn_172 : decode cX8_takeTurn 172 = .ok (.invokestatic 25, 3) := by decide +kernel
theorem dX8_takeTurn_175 : decode cX8_takeTurn 175 = .ok (.ifCond .eq 50, 3) := by decide +kernel
theorem dX8_takeTurn_178 : decode cX8_takeTurn 178 = .ok (.aload_n 1, 1) := by decide +kernel
theorem dX8_takeTurn_179 : decode cX8_takeTurn 179 = .ok (.getfield 85, 3) := by decide +kernel
theorem dX8_takeTurn_182 : decode cX8_takeTurn 182 = .ok (.aload 4, 2) := by decide +kernel
theorem dX8_takeTurn_184 : decode cX8_takeTurn 184 = .ok (.getfield 69, 3) := by decide +kernel
theorem dX8_takeTurn_187 : decode cX8_takeTurn 187 = .ok (.baload, 1) := by decide +kernel
theorem dX8_takeTurn_188 : decode cX8_takeTurn 188 = .ok (.ifCond .eq 37, 3) := by decide +kernel
theorem dX8_takeTurn_191 : decode cX8_takeTurn 191 = .ok (.aload_n 0, 1) := by decide +kernel
theorem dX8_takeTurn_192 : decode cX8_takeTurn 192 = .ok (.getfield 9, 3) := by decide +kernel
theorem dX8_takeTurn_195 : decode cX8_takeTurn 195 = .ok (.aload 4, 2) := by decide +kernel
theorem dX8_takeTurn_197 : decode cX8_takeTurn 197 = .ok (.getfield 69, 3) := by decide +kernel
theorem dX8_takeTurn_200 : decode cX8_takeTurn 200 = .ok (.iaload, 1) := by decide +kernel
theorem dX8_takeTurn_201 : decode cX8_takeTurn 201 = .ok (.iload 5, 2) := by decide +kernel
theorem dX8_takeTurn_203 : decode cX8_takeTurn 203 = .ok (.if_icmp .ne 22, 3) := by decide +kernel
theorem dX8_takeTurn_206 : decode cX8_takeTurn 206 = .ok (.aload_n 0, 1) := by decide +kernel
theorem dX8_takeTurn_207 : decode cX8_takeTurn 207 = .ok (.aload_n 1, 1) := by decide +kernel
theorem dX8_takeTurn_208 : decode cX8_takeTurn 208 = .ok (.aload_n 2, 1) := by decide +kernel
theorem dX8_takeTurn_209 : decode cX8_takeTurn 209 = .ok (.aload 4, 2) := by decide +kernel
theorem dX8_takeTurn_211 : decode cX8_takeTurn 211 = .ok (.getfield 69, 3) := by decide +kernel
theorem dX8_takeTurn_214 : decode cX8_takeTurn 214 = .ok (.sipush 255, 3) := by decide +kernel
theorem dX8_takeTurn_217 : decode cX8_takeTurn 217 = .ok (.iload 5, 2) := by decide +kernel
theorem dX8_takeTurn_219 : decode cX8_takeTurn 219 = .ok (.invokevirtual 78, 3) := by decide +kernel
theorem dX8_takeTurn_222 : decode cX8_takeTurn 222 = .ok (.goto 53, 3) := by decide +kernel
theorem dX8_takeTurn_225 : decode cX8_takeTurn 225 = .ok (.aload_n 1, 1) := by decide +kernel
theorem dX8_takeTurn_226 : decode cX8_takeTurn 226 = .ok (.iconst 3, 1) := by decide +kernel
theorem dX8_takeTurn_227 : decode cX8_takeTurn 227 = .ok (.iload 5, 2) := by decide +kernel
theorem dX8_takeTurn_229 : decode cX8_takeTurn 229 = .ok (.bipush 50, 2) := by decide +kernel
theorem dX8_takeTurn_231 : decode cX8_takeTurn 231 = .ok (.bipush (-11), 2) := by decide +kernel
theorem dX8_takeTurn_233 : decode cX8_takeTurn 233 = .ok (.iconst 0, 1) := by decide +kernel
theorem dX8_takeTurn_234 : decode cX8_takeTurn 234 = .ok (.invokevirtual 88, 3) := by decide +kernel
theorem dX8_takeTurn_237 : decode cX8_takeTurn 237 = .ok (.goto 38, 3) := by decide +kernel
theorem dX8_takeTurn_240 : decode cX8_takeTurn 240 = .ok (.aload_n 1, 1) := by decide +kernel
theorem dX8_takeTurn_241 : decode cX8_takeTurn 241 = .ok (.iconst 3, 1) := by decide +kernel
theorem dX8_takeTurn_242 : decode cX8_takeTurn 242 = .ok (.iload 5, 2) := by decide +kernel
theorem dX8_takeTurn_244 : decode cX8_takeTurn 244 = .ok (.bipush 50, 2) := by decide +kernel
theorem dX8_takeTurn_246 : decode cX8_takeTurn 246 = .ok (.aload_n 0, 1) := by decide +kernel
theorem dX8_takeTurn_247 : decode cX8_takeTurn 247 = .ok (.getfield 9, 3) := by decide +kernel
theorem dX8_takeTurn_250 : decode cX8_takeTurn 250 = .ok (.iload 5, 2) := by decide +kernel
theorem dX8_takeTurn_252 : decode cX8_takeTurn 252 = .ok (.iaload, 1) := by decide +kernel
theorem dX8_takeTurn_253 : decode cX8_takeTurn 253 = .ok (.iconst (-1), 1) := by decide +kernel
theorem dX8_takeTurn_254 : decode cX8_takeTurn 254 = .ok (.if_icmp .ne 7, 3) := by decide +kernel
theorem dX8_takeTurn_257 : decode cX8_takeTurn 257 = .ok (.iconst 0, 1) := by decide +kernel
theorem dX8_takeTurn_258 : decode cX8_takeTurn 258 = .ok (.goto 10, 3) := by decide +kernel
theorem dX8_takeTurn_261 : decode cX8_takeTurn 261 = .ok (.aload_n 0, 1) := by decide +kernel
theorem dX8_takeTurn_262 : decode cX8_takeTurn 262 = .ok (.getfield 9, 3) := by decide +kernel
theorem dX8_takeTurn_265 : decode cX8_takeTurn 265 = .ok (.iload 5, 2) := by decide +kernel
theorem dX8_takeTurn_267 : decode cX8_takeTurn 267 = .ok (.iaload, 1) := by decide +kernel
theorem dX8_takeTurn_268 : decode cX8_takeTurn 268 = .ok (.iconst 0, 1) := by decide +kernel
theorem dX8_takeTurn_269 : decode cX8_takeTurn 269 = .ok (.invokevirtual 88, 3) := by decide +kernel
theorem dX8_takeTurn_272 : decode cX8_takeTurn 272 = .ok (.goto 3, 3) := by decide +kernel
theorem dX8_takeTurn_275 : decode cX8_takeTurn 275 = .ok (.return_, 1) := by decide +kernel
theorem dX8_fork_0 : decode cX8_fork 0 = .ok (.iconst 5, 1) := by decide +kernel
theorem dX8_fork_1 : decode cX8_fork 1 = .ok (.istore_n 3, 1) := by decide +kernel
theorem dX8_fork_2 : decode cX8_fork 2 = .ok (.iload_n 3, 1) := by decide +kernel
theorem dX8_fork_3 : decode cX8_fork 3 = .ok (.bipush 12, 2) := by decide +kernel
theorem dX8_fork_5 : decode cX8_fork 5 = .ok (.if_icmp .ge 45, 3) := by decide +kernel
theorem dX8_fork_8 : decode cX8_fork 8 = .ok (.aload_n 1, 1) := by decide +kernel
theorem dX8_fork_9 : decode cX8_fork 9 = .ok (.getfield 85, 3) := by decide +kernel
theorem dX8_fork_12 : decode cX8_fork 12 = .ok (.iload_n 3, 1) := by decide +kernel
theorem dX8_fork_13 : decode cX8_fork 13 = .ok (.baload, 1) := by decide +kernel
theorem dX8_fork_14 : decode cX8_fork 14 = .ok (.ifCond .ne 30, 3) := by decide +kernel
theorem dX8_fork_17 : decode cX8_fork 17 = .ok (.aload_n 0, 1) := by decide +kernel
theorem dX8_fork_18 : decode cX8_fork 18 = .ok (.getfield 18, 3) := by decide +kernel
theorem dX8_fork_21 : decode cX8_fork 21 = .ok (.iload_n 3, 1) := by decide +kernel
theorem dX8_fork_22 : decode cX8_fork 22 = .ok (.baload, 1) := by decide +kernel
theorem dX8_fork_23 : decode cX8_fork 23 = .ok (.ifCond .ne 21, 3) := by decide +kernel
theorem dX8_fork_26 : decode cX8_fork 26 = .ok (.aload_n 0, 1) := by decide +kernel
theorem dX8_fork_27 : decode cX8_fork 27 = .ok (.iconst 1, 1) := by decide +kernel
theorem dX8_fork_28 : decode cX8_fork 28 = .ok (.iload_n 3, 1) := by decide +kernel
theorem dX8_fork_29 : decode cX8_fork 29 = .ok (.iload_n 2, 1) := by decide +kernel
theorem dX8_fork_30 : decode cX8_fork 30 = .ok (.invokevirtual 92, 3) := by decide +kernel
theorem dX8_fork_33 : decode cX8_fork 33 = .ok (.aload_n 1, 1) := by decide +kernel
theorem dX8_fork_34 : decode cX8_fork 34 = .ok (.iconst 3, 1) := by decide +kernel
theorem dX8_fork_35 : decode cX8_fork 35 = .ok (.iconst 2, 1) := by decide +kernel
theorem dX8_fork_36 : decode cX8_fork 36 = .ok (.bipush 30, 2) := by decide +kernel
theorem dX8_fork_38 : decode cX8_fork 38 = .ok (.iload_n 2, 1) := by decide +kernel
theorem dX8_fork_39 : decode cX8_fork 39 = .ok (.iload_n 3, 1) := by decide +kernel
theorem dX8_fork_40 : decode cX8_fork 40 = .ok (.invokevirtual 88, 3) := by decide +kernel
theorem dX8_fork_43 : decode cX8_fork 43 = .ok (.return_, 1) := by decide +kernel
theorem dX8_fork_44 : decode cX8_fork 44 = .ok (.iinc 3 1, 3) := by decide +kernel
theorem dX8_fork_47 : decode cX8_fork 47 = .ok (.goto (-45), 3) := by decide +kernel
theorem dX8_fork_50 : decode cX8_fork 50 = .ok (.aload_n 1, 1) := by decide +kernel
theorem dX8_fork_51 : decode cX8_fork 51 = .ok (.iconst 3, 1) := by decide +kernel
theorem dX8_fork_52 : decode cX8_fork 52 = .ok (.iload_n 2, 1) := by decide +kernel
theorem dX8_fork_53 : decode cX8_fork 53 = .ok (.bipush 50, 2) := by decide +kernel
theorem dX8_fork_55 : decode cX8_fork 55 = .ok (.bipush (-9), 2) := by decide +kernel
theorem dX8_fork_57 : decode cX8_fork 57 = .ok (.iconst 0, 1) := by decide +kernel
theorem dX8_fork_58 : decode cX8_fork 58 = .ok (.invokevirtual 88, 3) := by decide +kernel
theorem dX8_fork_61 : decode cX8_fork 61 = .ok (.return_, 1) := by decide +kernel
theorem dX8_end_0 : decode cX8_end 0 = .ok (.iload_n 3, 1) := by decide +kernel
theorem dX8_end_1 : decode cX8_end 1 = .ok (.invokestatic 25, 3) := by decide +kernel
theorem dX8_end_4 : decode cX8_end 4 = .ok (.ifCond .ne 4, 3) := by decide +kernel
theorem dX8_end_7 : decode cX8_end 7 = .ok (.return_, 1) := by decide +kernel
theorem dX8_end_8 : decode cX8_end 8 = .ok (.aload_n 0, 1) := by decide +kernel
theorem dX8_end_9 : decode cX8_end 9 = .ok (.getfield 18, 3) := by decide +kernel
theorem dX8_end_12 : decode cX8_end 12 = .ok (.iload_n 3, 1) := by decide +kernel
theorem dX8_end_13 : decode cX8_end 13 = .ok (.iconst 1, 1) := by decide +kernel
theorem dX8_end_14 : decode cX8_end 14 = .ok (.bastore, 1) := by decide +kernel
theorem dX8_end_15 : decode cX8_end 15 = .ok (.aload_n 0, 1) := by decide +kernel
theorem dX8_end_16 : decode cX8_end 16 = .ok (.getfield 15, 3) := by decide +kernel
theorem dX8_end_19 : decode cX8_end 19 = .ok (.iload_n 3, 1) := by decide +kernel
theorem dX8_end_20 : decode cX8_end 20 = .ok (.iload 4, 2) := by decide +kernel
theorem dX8_end_22 : decode cX8_end 22 = .ok (.iastore, 1) := by decide +kernel
theorem dX8_end_23 : decode cX8_end 23 = .ok (.aload_n 0, 1) := by decide +kernel
theorem dX8_end_24 : decode cX8_end 24 = .ok (.getfield 22, 3) := by decide +kernel
theorem dX8_end_27 : decode cX8_end 27 = .ok (.iload_n 3, 1) := by decide +kernel
theorem dX8_end_28 : decode cX8_end 28 = .ok (.iconst 0, 1) := by decide +kernel
theorem dX8_end_29 : decode cX8_end 29 = .ok (.bastore, 1) := by decide +kernel
theorem dX8_end_30 : decode cX8_end 30 = .ok (.aload_n 2, 1) := by decide +kernel
theorem dX8_end_31 : decode cX8_end 31 = .ok (.iload_n 3, 1) := by decide +kernel
theorem dX8_end_32 : decode cX8_end 32 = .ok (.iconst 0, 1) := by decide +kernel
theorem dX8_end_33 : decode cX8_end 33 = .ok (.invokevirtual 96, 3) := by decide +kernel
theorem dX8_end_36 : decode cX8_end 36 = .ok (.aload_n 1, 1) := by decide +kernel
theorem dX8_end_37 : decode cX8_end 37 = .ok (.iload_n 3, 1) := by decide +kernel
theorem dX8_end_38 : decode cX8_end 38 = .ok (.invokevirtual 102, 3) := by decide +kernel
theorem dX8_end_41 : decode cX8_end 41 = .ok (.aload_n 1, 1) := by decide +kernel
theorem dX8_end_42 : decode cX8_end 42 = .ok (.getfield 29, 3) := by decide +kernel
theorem dX8_end_45 : decode cX8_end 45 = .ok (.iconst 2, 1) := by decide +kernel
theorem dX8_end_46 : decode cX8_end 46 = .ok (.aaload, 1) := by decide +kernel
theorem dX8_end_47 : decode cX8_end 47 = .ok (.iload_n 3, 1) := by decide +kernel
theorem dX8_end_48 : decode cX8_end 48 = .ok (.invokevirtual 105, 3) := by decide +kernel
theorem dX8_end_51 : decode cX8_end 51 = .ok (.aload_n 1, 1) := by decide +kernel
theorem dX8_end_52 : decode cX8_end 52 = .ok (.getfield 29, 3) := by decide +kernel
theorem dX8_end_55 : decode cX8_end 55 = .ok (.iconst 3, 1) := by decide +kernel
theorem dX8_end_56 : decode cX8_end 56 = .ok (.aaload, 1) := by decide +kernel
theorem dX8_end_57 : decode cX8_end 57 = .ok (.iload_n 3, 1) := by decide +kernel
theorem dX8_end_58 : decode cX8_end 58 = .ok (.invokevirtual 105, 3) := by decide +kernel
theorem dX8_end_61 : decode cX8_end 61 = .ok (.aload_n 0, 1) := by decide +kernel
theorem dX8_end_62 : decode cX8_end 62 = .ok (.iconst 0, 1) := by decide +kernel
theorem dX8_end_63 : decode cX8_end 63 = .ok (.iload_n 3, 1) := by decide +kernel
theorem dX8_end_64 : decode cX8_end 64 = .ok (.iload 5, 2) := by decide +kernel
theorem dX8_end_66 : decode cX8_end 66 = .ok (.invokevirtual 92, 3) := by decide +kernel
theorem dX8_end_69 : decode cX8_end 69 = .ok (.aload_n 1, 1) := by decide +kernel
theorem dX8_end_70 : decode cX8_end 70 = .ok (.iconst 3, 1) := by decide +kernel
theorem dX8_end_71 : decode cX8_end 71 = .ok (.iconst 2, 1) := by decide +kernel
theorem dX8_end_72 : decode cX8_end 72 = .ok (.bipush 31, 2) := by decide +kernel
theorem dX8_end_74 : decode cX8_end 74 = .ok (.iload_n 3, 1) := by decide +kernel
theorem dX8_end_75 : decode cX8_end 75 = .ok (.iconst 0, 1) := by decide +kernel
theorem dX8_end_76 : decode cX8_end 76 = .ok (.invokevirtual 88, 3) := by decide +kernel
theorem dX8_end_79 : decode cX8_end 79 = .ok (.return_, 1) := by decide +kernel
theorem dX8_waitFor_0 : decode cX8_waitFor 0 = .ok (.aload_n 0, 1) := by decide +kernel
theorem dX8_waitFor_1 : decode cX8_waitFor 1 = .ok (.iconst 1, 1) := by decide +kernel
theorem dX8_waitFor_2 : decode cX8_waitFor 2 = .ok (.putfield 35, 3) := by decide +kernel
theorem dX8_waitFor_5 : decode cX8_waitFor 5 = .ok (.aload_n 0, 1) := by decide +kernel
theorem dX8_waitFor_6 : decode cX8_waitFor 6 = .ok (.iload_n 1, 1) := by decide +kernel
theorem dX8_waitFor_7 : decode cX8_waitFor 7 = .ok (.putfield 108, 3) := by decide +kernel
theorem dX8_waitFor_10 : decode cX8_waitFor 10 = .ok (.aload_n 0, 1) := by decide +kernel
theorem dX8_waitFor_11 : decode cX8_waitFor 11 = .ok (.iload_n 2, 1) := by decide +kernel
theorem dX8_waitFor_12 : decode cX8_waitFor 12 = .ok (.putfield 111, 3) := by decide +kernel
theorem dX8_waitFor_15 : decode cX8_waitFor 15 = .ok (.aload_n 0, 1) := by decide +kernel
theorem dX8_waitFor_16 : decode cX8_waitFor 16 = .ok (.iload_n 3, 1) := by decide +kernel
theorem dX8_waitFor_17 : decode cX8_waitFor 17 = .ok (.putfield 114, 3) := by decide +kernel
theorem dX8_waitFor_20 : decode cX8_waitFor 20 = .ok (.return_, 1) := by decide +kernel
theorem dX8_await_0 : decode cX8_await 0 = .ok (.iconst 0, 1) := by decide +kernel
theorem dX8_await_1 : decode cX8_await 1 = .ok (.istore_n 3, 1) := by decide +kernel
theorem dX8_await_2 : decode cX8_await 2 = .ok (.iconst 4, 1) := by decide +kernel
theorem dX8_await_3 : decode cX8_await 3 = .ok (.istore 4, 2) := by decide +kernel
theorem dX8_await_5 : decode cX8_await 5 = .ok (.iload 4, 2) := by decide +kernel
theorem dX8_await_7 : decode cX8_await 7 = .ok (.bipush 12, 2) := by decide +kernel
theorem dX8_await_9 : decode cX8_await 9 = .ok (.if_icmp .ge 48, 3) := by decide +kernel
theorem dX8_await_12 : decode cX8_await 12 = .ok (.aload_n 0, 1) := by decide +kernel
theorem dX8_await_13 : decode cX8_await 13 = .ok (.getfield 9, 3) := by decide +kernel
theorem dX8_await_16 : decode cX8_await 16 = .ok (.iload 4, 2) := by decide +kernel
theorem dX8_await_18 : decode cX8_await 18 = .ok (.iaload, 1) := by decide +kernel
theorem dX8_await_19 : decode cX8_await 19 = .ok (.iload_n 2, 1) := by decide +kernel
theorem dX8_await_20 : decode cX8_await 20 = .ok (.if_icmp .ne 31, 3) := by decide +kernel
theorem dX8_await_23 : decode cX8_await 23 = .ok (.iconst 1, 1) := by decide +kernel
theorem dX8_await_24 : decode cX8_await 24 = .ok (.istore_n 3, 1) := by decide +kernel
theorem dX8_await_25 : decode cX8_await 25 = .ok (.aload_n 0, 1) := by decide +kernel
theorem dX8_await_26 : decode cX8_await 26 = .ok (.getfield 18, 3) := by decide +kernel
theorem dX8_await_29 : decode cX8_await 29 = .ok (.iload 4, 2) := by decide +kernel
theorem dX8_await_31 : decode cX8_await 31 = .ok (.baload, 1) := by decide +kernel
theorem dX8_await_32 : decode cX8_await 32 = .ok (.ifCond .eq 19, 3) := by decide +kernel
theorem dX8_await_35 : decode cX8_await 35 = .ok (.aload_n 1, 1) := by decide +kernel
theorem dX8_await_36 : decode cX8_await 36 = .ok (.iconst 3, 1) := by decide +kernel
theorem dX8_await_37 : decode cX8_await 37 = .ok (.iload_n 2, 1) := by decide +kernel
theorem dX8_await_38 : decode cX8_await 38 = .ok (.bipush 50, 2) := by decide +kernel
theorem dX8_await_40 : decode cX8_await 40 = .ok (.aload_n 0, 1) := by decide +kernel
theorem dX8_await_41 : decode cX8_await 41 = .ok (.iload 4, 2) := by decide +kernel
theorem dX8_await_43 : decode cX8_await 43 = .ok (.invokevirtual 117, 3) := by decide +kernel
theorem dX8_await_46 : decode cX8_await 46 = .ok (.iconst 0, 1) := by decide +kernel
theorem dX8_await_47 : decode cX8_await 47 = .ok (.invokevirtual 88, 3) := by decide +kernel
theorem dX8_await_50 : decode cX8_await 50 = .ok (.return_, 1) := by decide +kernel
theorem dX8_await_51 : decode cX8_await 51 = .ok (.iinc 4 1, 3) := by decide +kernel
theorem dX8_await_54 : decode cX8_await 54 = .ok (.goto (-49), 3) := by decide +kernel
theorem dX8_await_57 : decode cX8_await 57 = .ok (.iload_n 3, 1) := by decide +kernel
theorem dX8_await_58 : decode cX8_await 58 = .ok (.ifCond .eq 13, 3) := by decide +kernel
theorem dX8_await_61 : decode cX8_await 61 = .ok (.aload_n 0, 1) := by decide +kernel
theorem dX8_await_62 : decode cX8_await 62 = .ok (.getfield 22, 3) := by decide +kernel
theorem dX8_await_65 : decode cX8_await 65 = .ok (.iload_n 2, 1) := by decide +kernel
theorem dX8_await_66 : decode cX8_await 66 = .ok (.iconst 1, 1) := by decide +kernel
theorem dX8_await_67 : decode cX8_await 67 = .ok (.bastore, 1) := by decide +kernel
theorem dX8_await_68 : decode cX8_await 68 = .ok (.goto 14, 3) := by decide +kernel
theorem dX8_await_71 : decode cX8_await 71 = .ok (.aload_n 1, 1) := by decide +kernel
theorem dX8_await_72 : decode cX8_await 72 = .ok (.iconst 3, 1) := by decide +kernel
theorem dX8_await_73 : decode cX8_await 73 = .ok (.iload_n 2, 1) := by decide +kernel
theorem dX8_await_74 : decode cX8_await 74 = .ok (.bipush 50, 2) := by decide +kernel
theorem dX8_await_76 : decode cX8_await 76 = .ok (.bipush (-10), 2) := by decide +kernel
theorem dX8_await_78 : decode cX8_await 78 = .ok (.iconst 0, 1) := by decide +kernel
theorem dX8_await_79 : decode cX8_await 79 = .ok (.invokevirtual 88, 3) := by decide +kernel
theorem dX8_await_82 : decode cX8_await 82 = .ok (.return_, 1) := by decide +kernel
theorem dX8_collect_0 : decode cX8_collect 0 = .ok (.iload_n 1, 1) := by decide +kernel
theorem dX8_collect_1 : decode cX8_collect 1 = .ok (.invokestatic 25, 3) := by decide +kernel
theorem dX8_collect_4 : decode cX8_collect 4 = .ok (.ifCond .ne 6, 3) := by decide +kernel
theorem dX8_collect_7 : decode cX8_collect 7 = .ok (.bipush (-10), 2) := by decide +kernel
theorem dX8_collect_9 : decode cX8_collect 9 = .ok (.ireturn, 1) := by decide +kernel
theorem dX8_collect_10 : decode cX8_collect 10 = .ok (.aload_n 0, 1) := by decide +kernel
theorem dX8_collect_11 : decode cX8_collect 11 = .ok (.getfield 18, 3) := by decide +kernel
theorem dX8_collect_14 : decode cX8_collect 14 = .ok (.iload_n 1, 1) := by decide +kernel
theorem dX8_collect_15 : decode cX8_collect 15 = .ok (.iconst 0, 1) := by decide +kernel
theorem dX8_collect_16 : decode cX8_collect 16 = .ok (.bastore, 1) := by decide +kernel
theorem dX8_collect_17 : decode cX8_collect 17 = .ok (.aload_n 0, 1) := by decide +kernel
theorem dX8_collect_18 : decode cX8_collect 18 = .ok (.getfield 9, 3) := by decide +kernel
theorem dX8_collect_21 : decode cX8_collect 21 = .ok (.iload_n 1, 1) := by decide +kernel
theorem dX8_collect_22 : decode cX8_collect 22 = .ok (.iconst (-1), 1) := by decide +kernel
theorem dX8_collect_23 : decode cX8_collect 23 = .ok (.iastore, 1) := by decide +kernel
theorem dX8_collect_24 : decode cX8_collect 24 = .ok (.sipush 256, 3) := by decide +kernel
theorem dX8_collect_27 : decode cX8_collect 27 = .ok (.iload_n 1, 1) := by decide +kernel
theorem dX8_collect_28 : decode cX8_collect 28 = .ok (.imul, 1) := by decide +kernel
theorem dX8_collect_29 : decode cX8_collect 29 = .ok (.aload_n 0, 1) := by decide +kernel
theorem dX8_collect_30 : decode cX8_collect 30 = .ok (.getfield 15, 3) := by decide +kernel
theorem dX8_collect_33 : decode cX8_collect 33 = .ok (.iload_n 1, 1) := by decide +kernel
theorem dX8_collect_34 : decode cX8_collect 34 = .ok (.iaload, 1) := by decide +kernel
theorem dX8_collect_35 : decode cX8_collect 35 = .ok (.iadd, 1) := by decide +kernel
theorem dX8_collect_36 : decode cX8_collect 36 = .ok (.ireturn, 1) := by decide +kernel
theorem dX8_goOn_0 : decode cX8_goOn 0 = .ok (.aload_n 0, 1) := by decide +kernel
theorem dX8_goOn_1 : decode cX8_goOn 1 = .ok (.getfield 35, 3) := by decide +kernel
theorem dX8_goOn_4 : decode cX8_goOn 4 = .ok (.ifCond .eq 13, 3) := by decide +kernel
theorem dX8_goOn_7 : decode cX8_goOn 7 = .ok (.aload_n 0, 1) := by decide +kernel
theorem dX8_goOn_8 : decode cX8_goOn 8 = .ok (.getfield 111, 3) := by decide +kernel
theorem dX8_goOn_11 : decode cX8_goOn 11 = .ok (.invokestatic 25, 3) := by decide +kernel
theorem dX8_goOn_14 : decode cX8_goOn 14 = .ok (.ifCond .ne 4, 3) := by decide +kernel
theorem dX8_goOn_17 : decode cX8_goOn 17 = .ok (.return_, 1) := by decide +kernel
theorem dX8_goOn_18 : decode cX8_goOn 18 = .ok (.aload_n 0, 1) := by decide +kernel
theorem dX8_goOn_19 : decode cX8_goOn 19 = .ok (.iconst 0, 1) := by decide +kernel
theorem dX8_goOn_20 : decode cX8_goOn 20 = .ok (.putfield 35, 3) := by decide +kernel
theorem dX8_goOn_23 : decode cX8_goOn 23 = .ok (.aload_n 0, 1) := by decide +kernel
theorem dX8_goOn_24 : decode cX8_goOn 24 = .ok (.getfield 108, 3) := by decide +kernel
theorem dX8_goOn_27 : decode cX8_goOn 27 = .ok (.ifCond .eq 53, 3) := by decide +kernel
theorem dX8_goOn_30 : decode cX8_goOn 30 = .ok (.aload_n 1, 1) := by decide +kernel
theorem dX8_goOn_31 : decode cX8_goOn 31 = .ok (.getfield 85, 3) := by decide +kernel
theorem dX8_goOn_34 : decode cX8_goOn 34 = .ok (.aload_n 0, 1) := by decide +kernel
theorem dX8_goOn_35 : decode cX8_goOn 35 = .ok (.getfield 111, 3) := by decide +kernel
theorem dX8_goOn_38 : decode cX8_goOn 38 = .ok (.iconst 1, 1) := by decide +kernel
theorem dX8_goOn_39 : decode cX8_goOn 39 = .ok (.bastore, 1) := by decide +kernel
theorem dX8_goOn_40 : decode cX8_goOn 40 = .ok (.aload_n 0, 1) := by decide +kernel
theorem dX8_goOn_41 : decode cX8_goOn 41 = .ok (.getfield 9, 3) := by decide +kernel
theorem dX8_goOn_44 : decode cX8_goOn 44 = .ok (.aload_n 0, 1) := by decide +kernel
theorem dX8_goOn_45 : decode cX8_goOn 45 = .ok (.getfield 111, 3) := by decide +kernel
theorem dX8_goOn_48 : decode cX8_goOn 48 = .ok (.aload_n 0, 1) := by decide +kernel
theorem dX8_goOn_49 : decode cX8_goOn 49 = .ok (.getfield 114, 3) := by decide +kernel
theorem dX8_goOn_52 : decode cX8_goOn 52 = .ok (.iastore, 1) := by decide +kernel
theorem dX8_goOn_53 : decode cX8_goOn 53 = .ok (.aload_n 0, 1) := by decide +kernel
theorem dX8_goOn_54 : decode cX8_goOn 54 = .ok (.getfield 15, 3) := by decide +kernel
theorem dX8_goOn_57 : decode cX8_goOn 57 = .ok (.aload_n 0, 1) := by decide +kernel
theorem dX8_goOn_58 : decode cX8_goOn 58 = .ok (.getfield 111, 3) := by decide +kernel
theorem dX8_goOn_61 : decode cX8_goOn 61 = .ok (.iconst 0, 1) := by decide +kernel
theorem dX8_goOn_62 : decode cX8_goOn 62 = .ok (.iastore, 1) := by decide +kernel
theorem dX8_goOn_63 : decode cX8_goOn 63 = .ok (.aload_n 1, 1) := by decide +kernel
theorem dX8_goOn_64 : decode cX8_goOn 64 = .ok (.iconst 3, 1) := by decide +kernel
theorem dX8_goOn_65 : decode cX8_goOn 65 = .ok (.aload_n 0, 1) := by decide +kernel
theorem dX8_goOn_66 : decode cX8_goOn 66 = .ok (.getfield 114, 3) := by decide +kernel
theorem dX8_goOn_69 : decode cX8_goOn 69 = .ok (.bipush 50, 2) := by decide +kernel
theorem dX8_goOn_71 : decode cX8_goOn 71 = .ok (.aload_n 0, 1) := by decide +kernel
theorem dX8_goOn_72 : decode cX8_goOn 72 = .ok (.getfield 111, 3) := by decide +kernel
theorem dX8_goOn_75 : decode cX8_goOn 75 = .ok (.iconst 0, 1) := by decide +kernel
theorem dX8_goOn_76 : decode cX8_goOn 76 = .ok (.invokevirtual 88, 3) := by decide +kernel
theorem dX8_goOn_79 : decode cX8_goOn 79 = .ok (.return_, 1) := by decide +kernel
theorem dX8_goOn_80 : decode cX8_goOn 80 = .ok (.aload_n 0, 1) := by decide +kernel
theorem dX8_goOn_81 : decode cX8_goOn 81 = .ok (.aload_n 0, 1) := by decide +kernel
theorem dX8_goOn_82 : decode cX8_goOn 82 = .ok (.getfield 111, 3) := by decide +kernel
theorem dX8_goOn_85 : decode cX8_goOn 85 = .ok (.invokevirtual 120, 3) := by decide +kernel
theorem dX8_goOn_88 : decode cX8_goOn 88 = .ok (.aload_n 0, 1) := by decide +kernel
theorem dX8_goOn_89 : decode cX8_goOn 89 = .ok (.getfield 9, 3) := by decide +kernel
theorem dX8_goOn_92 : decode cX8_goOn 92 = .ok (.aload_n 0, 1) := by decide +kernel
theorem dX8_goOn_93 : decode cX8_goOn 93 = .ok (.getfield 111, 3) := by decide +kernel
theorem dX8_goOn_96 : decode cX8_goOn 96 = .ok (.iaload, 1) := by decide +kernel
theorem dX8_goOn_97 : decode cX8_goOn 97 = .ok (.istore_n 2, 1) := by decide +kernel
theorem dX8_goOn_98 : decode cX8_goOn 98 = .ok (.iload_n 2, 1) := by decide +kernel
theorem dX8_goOn_99 : decode cX8_goOn 99 = .ok (.iconst (-1), 1) := by decide +kernel
theorem dX8_goOn_100 : decode cX8_goOn 100 = .ok (.if_icmp .ne 16, 3) := by decide +kernel
theorem dX8_goOn_103 : decode cX8_goOn 103 = .ok (.aload_n 0, 1) := by decide +kernel
theorem dX8_goOn_104 : decode cX8_goOn 104 = .ok (.getfield 18, 3) := by decide +kernel
theorem dX8_goOn_107 : decode cX8_goOn 107 = .ok (.aload_n 0, 1) := by decide +kernel
theorem dX8_goOn_108 : decode cX8_goOn 108 = .ok (.getfield 111, 3) := by decide +kernel
theorem dX8_goOn_111 : decode cX8_goOn 111 = .ok (.iconst 0, 1) := by decide +kernel
theorem dX8_goOn_112 : decode cX8_goOn 112 = .ok (.bastore, 1) := by decide +kernel
theorem dX8_goOn_113 : decode cX8_goOn 113 = .ok (.goto 43, 3) := by decide +kernel
theorem dX8_goOn_116 : decode cX8_goOn 116 = .ok (.iload_n 2, 1) := by decide +kernel
theorem dX8_goOn_117 : decode cX8_goOn 117 = .ok (.invokestatic 25, 3) := by decide +kernel
theorem dX8_goOn_120 : decode cX8_goOn 120 = .ok (.ifCond .eq 36, 3) := by decide +kernel
theorem dX8_goOn_123 : decode cX8_goOn 123 = .ok (.aload_n 0, 1) := by decide +kernel
theorem dX8_goOn_124 : decode cX8_goOn 124 = .ok (.getfield 22, 3) := by decide +kernel
theorem dX8_goOn_127 : decode cX8_goOn 127 = .ok (.iload_n 2, 1) := by decide +kernel
theorem dX8_goOn_128 : decode cX8_goOn 128 = .ok (.baload, 1) := by decide +kernel
theorem dX8_goOn_129 : decode cX8_goOn 129 = .ok (.ifCond .eq 27, 3) := by decide +kernel
theorem dX8_goOn_132 : decode cX8_goOn 132 = .ok (.aload_n 0, 1) := by decide +kernel
theorem dX8_goOn_133 : decode cX8_goOn 133 = .ok (.getfield 22, 3) := by decide +kernel
theorem dX8_goOn_136 : decode cX8_goOn 136 = .ok (.iload_n 2, 1) := by decide +kernel
theorem dX8_goOn_137 : decode cX8_goOn 137 = .ok (.iconst 0, 1) := by decide +kernel
theorem dX8_goOn_138 : decode cX8_goOn 138 = .ok (.bastore, 1) := by decide +kernel
theorem dX8_goOn_139 : decode cX8_goOn 139 = .ok (.aload_n 1, 1) := by decide +kernel
theorem dX8_goOn_140 : decode cX8_goOn 140 = .ok (.iconst 3, 1) := by decide +kernel
theorem dX8_goOn_141 : decode cX8_goOn 141 = .ok (.iload_n 2, 1) := by decide +kernel
theorem dX8_goOn_142 : decode cX8_goOn 142 = .ok (.bipush 50, 2) := by decide +kernel
theorem dX8_goOn_144 : decode cX8_goOn 144 = .ok (.aload_n 0, 1) := by decide +kernel
theorem dX8_goOn_145 : decode cX8_goOn 145 = .ok (.aload_n 0, 1) := by decide +kernel
theorem dX8_goOn_146 : decode cX8_goOn 146 = .ok (.getfield 111, 3) := by decide +kernel
theorem dX8_goOn_149 : decode cX8_goOn 149 = .ok (.invokevirtual 117, 3) := by decide +kernel
theorem dX8_goOn_152 : decode cX8_goOn 152 = .ok (.iconst 0, 1) := by decide +kernel
theorem dX8_goOn_153 : decode cX8_goOn 153 = .ok (.invokevirtual 88, 3) := by decide +kernel
theorem dX8_goOn_156 : decode cX8_goOn 156 = .ok (.aload_n 0, 1) := by decide +kernel
theorem dX8_goOn_157 : decode cX8_goOn 157 = .ok (.getfield 114, 3) := by decide +kernel
theorem dX8_goOn_160 : decode cX8_goOn 160 = .ok (.iconst (-1), 1) := by decide +kernel
theorem dX8_goOn_161 : decode cX8_goOn 161 = .ok (.if_icmp .eq 16, 3) := by decide +kernel
theorem dX8_goOn_164 : decode cX8_goOn 164 = .ok (.aload_n 1, 1) := by decide +kernel
theorem dX8_goOn_165 : decode cX8_goOn 165 = .ok (.iconst 3, 1) := by decide +kernel
theorem dX8_goOn_166 : decode cX8_goOn 166 = .ok (.aload_n 0, 1) := by decide +kernel
theorem dX8_goOn_167 : decode cX8_goOn 167 = .ok (.getfield 114, 3) := by decide +kernel
theorem dX8_goOn_170 : decode cX8_goOn 170 = .ok (.bipush 50, 2) := by decide +kernel
theorem dX8_goOn_172 : decode cX8_goOn 172 = .ok (.iconst 0, 1) := by decide +kernel
theorem dX8_goOn_173 : decode cX8_goOn 173 = .ok (.iconst 0, 1) := by decide +kernel
theorem dX8_goOn_174 : decode cX8_goOn 174 = .ok (.invokevirtual 88, 3) := by decide +kernel
theorem dX8_goOn_177 : decode cX8_goOn 177 = .ok (.return_, 1) := by decide +kernel
theorem dX8_leaveChildren_0 : decode cX8_leaveChildren 0 = .ok (.iconst 4, 1) := by decide +kernel
theorem dX8_leaveChildren_1 : decode cX8_leaveChildren 1 = .ok (.istore_n 2, 1) := by decide +kernel
theorem dX8_leaveChildren_2 : decode cX8_leaveChildren 2 = .ok (.iload_n 2, 1) := by decide +kernel
theorem dX8_leaveChildren_3 : decode cX8_leaveChildren 3 = .ok (.bipush 12, 2) := by decide +kernel
theorem dX8_leaveChildren_5 : decode cX8_leaveChildren 5 = .ok (.if_icmp .ge 33, 3) := by decide +kernel
theorem dX8_leaveChildren_8 : decode cX8_leaveChildren 8 = .ok (.aload_n 0, 1) := by decide +kernel
theorem dX8_leaveChildren_9 : decode cX8_leaveChildren 9 = .ok (.getfield 9, 3) := by decide +kernel
theorem dX8_leaveChildren_12 : decode cX8_leaveChildren 12 = .ok (.iload_n 2, 1) := by decide +kernel
theorem dX8_leaveChildren_13 : decode cX8_leaveChildren 13 = .ok (.iaload, 1) := by decide +kernel
theorem dX8_leaveChildren_14 : decode cX8_leaveChildren 14 = .ok (.iload_n 1, 1) := by decide +kernel
theorem dX8_leaveChildren_15 : decode cX8_leaveChildren 15 = .ok (.if_icmp .ne 17, 3) := by decide +kernel
theorem dX8_leaveChildren_18 : decode cX8_leaveChildren 18 = .ok (.aload_n 0, 1) := by decide +kernel
theorem dX8_leaveChildren_19 : decode cX8_leaveChildren 19 = .ok (.getfield 9, 3) := by decide +kernel
theorem dX8_leaveChildren_22 : decode cX8_leaveChildren 22 = .ok (.iload_n 2, 1) := by decide +kernel
theorem dX8_leaveChildren_23 : decode cX8_leaveChildren 23 = .ok (.iconst (-1), 1) := by decide +kernel
theorem dX8_leaveChildren_24 : decode cX8_leaveChildren 24 = .ok (.iastore, 1) := by decide +kernel
theorem dX8_leaveChildren_25 : decode cX8_leaveChildren 25 = .ok (.aload_n 0, 1) := by decide +kernel
theorem dX8_leaveChildren_26 : decode cX8_leaveChildren 26 = .ok (.getfield 18, 3) := by decide +kernel
theorem dX8_leaveChildren_29 : decode cX8_leaveChildren 29 = .ok (.iload_n 2, 1) := by decide +kernel
theorem dX8_leaveChildren_30 : decode cX8_leaveChildren 30 = .ok (.iconst 0, 1) := by decide +kernel
theorem dX8_leaveChildren_31 : decode cX8_leaveChildren 31 = .ok (.bastore, 1) := by decide +kernel
theorem dX8_leaveChildren_32 : decode cX8_leaveChildren 32 = .ok (.iinc 2 1, 3) := by decide +kernel
theorem dX8_leaveChildren_35 : decode cX8_leaveChildren 35 = .ok (.goto (-33), 3) := by decide +kernel
theorem dX8_leaveChildren_38 : decode cX8_leaveChildren 38 = .ok (.return_, 1) := by decide +kernel
