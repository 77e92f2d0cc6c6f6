theorem dX7_init_0 : decode cX7_init 0 = .ok (.aload_n 0, 1) := by decide +kernel
theorem dX7_init_1 : decode cX7_init 1 = .ok (.invokespecial 1, 3) := by decide +kernel
theorem dX7_init_4 : decode cX7_init 4 = .ok (.aload_n 0, 1) := by decide +kernel
theorem dX7_init_5 : decode cX7_init 5 = .ok (.sipush 796, 3) := by decide +kernel
theorem dX7_init_8 : decode cX7_init 8 = .ok (.newarray .int, 2) := by decide +kernel
theorem dX7_init_10 : decode cX7_init 10 = .ok (.putfield 7, 3) := by decide +kernel
theorem dX7_init_13 : decode cX7_init 13 = .ok (.aload_n 0, 1) := by decide +kernel
theorem dX7_init_14 : decode cX7_init 14 = .ok (.bipush 28, 2) := by decide +kernel
theorem dX7_init_16 : decode cX7_init 16 = .ok (.newarray .int, 2) := by decide +kernel
theorem dX7_init_18 : decode cX7_init 18 = .ok (.putfield 13, 3) := by decide +kernel
theorem dX7_init_21 : decode cX7_init 21 = .ok (.aload_n 0, 1) := by decide +kernel
theorem dX7_init_22 : decode cX7_init 22 = .ok (.bipush 8, 2) := by decide +kernel
theorem dX7_init_24 : decode cX7_init 24 = .ok (.newarray .int, 2) := by decide +kernel
theorem dX7_init_26 : decode cX7_init 26 = .ok (.putfield 16, 3) := by decide +kernel
theorem dX7_init_29 : decode cX7_init 29 = .ok (.aload_n 0, 1) := by decide +kernel
theorem dX7_init_30 : decode cX7_init 30 = .ok (.bipush 6, 2) := by decide +kernel
theorem dX7_init_32 : decode cX7_init 32 = .ok (.newarray .int, 2) := by decide +kernel
theorem dX7_init_34 : decode cX7_init 34 = .ok (.putfield 19, 3) := by decide +kernel
theorem dX7_init_37 : decode cX7_init 37 = .ok (.aload_n 0, 1) := by decide +kernel
theorem dX7_init_38 : decode cX7_init 38 = .ok (.bipush 6, 2) := by decide +kernel
theorem dX7_init_40 : decode cX7_init 40 = .ok (.newarray .int, 2) := by decide +kernel
theorem dX7_init_42 : decode cX7_init 42 = .ok (.putfield 22, 3) := by decide +kernel
theorem dX7_init_45 : decode cX7_init 45 = .ok (.aload_n 0, 1) := by decide +kernel
theorem dX7_init_46 : decode cX7_init 46 = .ok (.bipush 6, 2) := by decide +kernel
theorem dX7_init_48 : decode cX7_init 48 = .ok (.newarray .int, 2) := by decide +kernel
theorem dX7_init_50 : decode cX7_init 50 = .ok (.putfield 25, 3) := by decide +kernel
theorem dX7_init_53 : decode cX7_init 53 = .ok (.aload_n 0, 1) := by decide +kernel
theorem dX7_init_54 : decode cX7_init 54 = .ok (.bipush 6, 2) := by decide +kernel
theorem dX7_init_56 : decode cX7_init 56 = .ok (.newarray .boolean, 2) := by decide +kernel
theorem dX7_init_58 : decode cX7_init 58 = .ok (.putfield 28, 3) := by decide +kernel
theorem dX7_init_61 : decode cX7_init 61 = .ok (.aload_n 0, 1) := by decide +kernel
theorem dX7_init_62 : decode cX7_init 62 = .ok (.bipush 28, 2) := by decide +kernel
theorem dX7_init_64 : decode cX7_init 64 = .ok (.newarray .int, 2) := by decide +kernel
theorem dX7_init_66 : decode cX7_init 66 = .ok (.putfield 32, 3) := by decide +kernel
theorem dX7_init_69 : decode cX7_init 69 = .ok (.aload_n 0, 1) := by decide +kernel
theorem dX7_init_70 : decode cX7_init 70 = .ok (.bipush 28, 2) := by decide +kernel
theorem dX7_init_72 : decode cX7_init 72 = .ok (.newarray .int, 2) := by decide +kernel
theorem dX7_init_74 : decode cX7_init 74 = .ok (.putfield 35, 3) := by decide +kernel
theorem dX7_init_77 : decode cX7_init 77 = .ok (.aload_n 0, 1) := by decide +kernel
theorem dX7_init_78 : decode cX7_init 78 = .ok (.sipush 796, 3) := by decide +kernel
theorem dX7_init_81 : decode cX7_init 81 = .ok (.newarray .int, 2) := by decide +kernel
theorem dX7_init_83 : decode cX7_init 83 = .ok (.putfield 38, 3) := by decide +kernel
theorem dX7_init_86 : decode cX7_init 86 = .ok (.aload_n 0, 1) := by decide +kernel
theorem dX7_init_87 : decode cX7_init 87 = .ok (.iconst 5, 1) := by decide +kernel
theorem dX7_init_88 : decode cX7_init 88 = .ok (.newarray .int, 2) := by decide +kernel
theorem dX7_init_90 : decode cX7_init 90 = .ok (.putfield 41, 3) := by decide +kernel
theorem dX7_init_93 : decode cX7_init 93 = .ok (.aload_n 0, 1) := by decide +kernel
theorem dX7_init_94 : decode cX7_init 94 = .ok (.sipush 10348, 3) := by decide +kernel
theorem dX7_init_97 : decode cX7_init 97 = .ok (.newarray .int, 2) := by decide +kernel
theorem dX7_init_99 : decode cX7_init 99 = .ok (.putfield 44, 3) := by decide +kernel
theorem dX7_init_102 : decode cX7_init 102 = .ok (.aload_n 0, 1) := by decide +kernel
theorem dX7_init_103 : decode cX7_init 103 = .ok (.sipush 1592, 3) := by decide +kernel
theorem dX7_init_106 : decode cX7_init 106 = .ok (.newarray .int, 2) := by decide +kernel
theorem dX7_init_108 : decode cX7_init 108 = .ok (.putfield 47, 3) := by decide +kernel
theorem dX7_init_111 : decode cX7_init 111 = .ok (.aload_n 0, 1) := by decide +kernel
theorem dX7_init_112 : decode cX7_init 112 = .ok (.iconst 2, 1) := by decide +kernel
theorem dX7_init_113 : decode cX7_init 113 = .ok (.newarray .boolean, 2) := by decide +kernel
theorem dX7_init_115 : decode cX7_init 115 = .ok (.putfield 50, 3) := by decide +kernel
theorem dX7_init_118 : decode cX7_init 118 = .ok (.iconst 0, 1) := by decide +kernel
theorem dX7_init_119 : decode cX7_init 119 = .ok (.istore_n 1, 1) := by decide +kernel
theorem dX7_init_120 : decode cX7_init 120 = .ok (.iload_n 1, 1) := by decide +kernel
theorem dX7_init_121 : decode cX7_init 121 = .ok (.bipush 16, 2) := by decide +kernel
theorem dX7_init_123 : decode cX7_init 123 = .ok (.if_icmp .ge 16, 3) := by decide +kernel
theorem dX7_init_126 : decode cX7_init 126 = .ok (.aload_n 0, 1) := by decide +kernel
theorem dX7_init_127 : decode cX7_init 127 = .ok (.getfield 7, 3) := by decide +kernel
theorem dX7_init_130 : decode cX7_init 130 = .ok (.iload_n 1, 1) := by decide +kernel
theorem dX7_init_131 : decode cX7_init 131 = .ok (.iconst (-1), 1) := by decide +kernel
theorem dX7_init_132 : decode cX7_init 132 = .ok (.iastore, 1) := by decide +kernel
theorem dX7_init_133 : decode cX7_init 133 = .ok (.iinc 1 1, 3) := by decide +kernel
theorem dX7_init_136 : decode cX7_init 136 = .ok (.goto (-16), 3) := by decide +kernel
theorem dX7_init_139 : decode cX7_init 139 = .ok (.iconst 0, 1) := by decide +kernel
theorem dX7_init_140 : decode cX7_init 140 = .ok (.istore_n 1, 1) := by decide +kernel
theorem dX7_init_141 : decode cX7_init 141 = .ok (.iload_n 1, 1) := by decide +kernel
theorem dX7_init_142 : decode cX7_init 142 = .ok (.bipush 28, 2) := by decide +kernel
theorem dX7_init_144 : decode cX7_init 144 = .ok (.if_icmp .ge 20, 3) := by decide +kernel
theorem dX7_init_147 : decode cX7_init 147 = .ok (.aload_n 0, 1) := by decide +kernel
theorem dX7_init_148 : decode cX7_init 148 = .ok (.getfield 7, 3) := by decide +kernel
theorem dX7_init_151 : decode cX7_init 151 = .ok (.iload_n 1, 1) := by decide +kernel
theorem dX7_init_152 : decode cX7_init 152 = .ok (.iconst 0, 1) := by decide +kernel
theorem dX7_init_153 : decode cX7_init 153 = .ok (.invokestatic 53, 3) := by decide +kernel
theorem dX7_init_156 : decode cX7_init 156 = .ok (.iconst (-1), 1) := by decide +kernel
theorem dX7_init_157 : decode cX7_init 157 = .ok (.iastore, 1) := by decide +kernel
theorem dX7_init_158 : decode cX7_init 158 = .ok (.iinc 1 1, 3) := by decide +kernel
theorem dX7_init_161 : decode cX7_init 161 = .ok (.goto (-20), 3) := by decide +kernel
theorem dX7_init_164 : decode cX7_init 164 = .ok (.iconst 0, 1) := by decide +kernel
theorem dX7_init_165 : decode cX7_init 165 = .ok (.istore_n 1, 1) := by decide +kernel
theorem dX7_init_166 : decode cX7_init 166 = .ok (.iload_n 1, 1) := by decide +kernel
theorem dX7_init_167 : decode cX7_init 167 = .ok (.bipush 28, 2) := by decide +kernel
theorem dX7_init_169 : decode cX7_init 169 = .ok (.if_icmp .ge 31, 3) := by decide +kernel
theorem dX7_init_172 : decode cX7_init 172 = .ok (.aload_n 0, 1) := by decide +kernel
theorem dX7_init_173 : decode cX7_init 173 = .ok (.getfield 7, 3) := by decide +kernel
theorem dX7_init_176 : decode cX7_init 176 = .ok (.iload_n 1, 1) := by decide +kernel
theorem dX7_init_177 : decode cX7_init 177 = .ok (.iconst 2, 1) := by decide +kernel
theorem dX7_init_178 : decode cX7_init 178 = .ok (.invokestatic 57, 3) := by decide +kernel
theorem dX7_init_181 : decode cX7_init 181 = .ok (.iconst (-1), 1) := by decide +kernel
theorem dX7_init_182 : decode cX7_init 182 = .ok (.iastore, 1) := by decide +kernel
theorem dX7_init_183 : decode cX7_init 183 = .ok (.aload_n 0, 1) := by decide +kernel
theorem dX7_init_184 : decode cX7_init 184 = .ok (.getfield 7, 3) := by decide +kernel
theorem dX7_init_187 : decode cX7_init 187 = .ok (.iload_n 1, 1) := by decide +kernel
theorem dX7_init_188 : decode cX7_init 188 = .ok (.iconst 3, 1) := by decide +kernel
theorem dX7_init_189 : decode cX7_init 189 = .ok (.invokestatic 57, 3) := by decide +kernel
theorem dX7_init_192 : decode cX7_init 192 = .ok (.iconst (-1), 1) := by decide +kernel
theorem dX7_init_193 : decode cX7_init 193 = .ok (.iastore, 1) := by decide +kernel
theorem dX7_init_194 : decode cX7_init 194 = .ok (.iinc 1 1, 3) := by decide +kernel
theorem dX7_init_197 : decode cX7_init 197 = .ok (.goto (-31), 3) := by decide +kernel
theorem dX7_init_200 : decode cX7_init 200 = .ok (.iconst 0, 1) := by decide +kernel
theorem dX7_init_201 : decode cX7_init 201 = .ok (.istore_n 1, 1) := by decide +kernel
theorem dX7_init_202 : decode cX7_init 202 = .ok (.iload_n 1, 1) := by decide +kernel
theorem dX7_init_203 : decode cX7_init 203 = .ok (.bipush 24, 2) := by decide +kernel
theorem dX7_init_205 : decode cX7_init 205 = .ok (.if_icmp .ge 20, 3) := by decide +kernel
theorem dX7_init_208 : decode cX7_init 208 = .ok (.aload_n 0, 1) := by decide +kernel
theorem dX7_init_209 : decode cX7_init 209 = .ok (.getfield 7, 3) := by decide +kernel
theorem dX7_init_212 : decode cX7_init 212 = .ok (.iload_n 1, 1) := by decide +kernel
theorem dX7_init_213 : decode cX7_init 213 = .ok (.iconst 0, 1) := by decide +kernel
theorem dX7_init_214 : decode cX7_init 214 = .ok (.invokestatic 60, 3) := by decide +kernel
theorem dX7_init_217 : decode cX7_init 217 = .ok (.iconst (-1), 1) := by decide +kernel
theorem dX7_init_218 : decode cX7_init 218 = .ok (.iastore, 1) := by decide +kernel
theorem dX7_init_219 : decode cX7_init 219 = .ok (.iinc 1 1, 3) := by decide +kernel
theorem dX7_init_222 : decode cX7_init 222 = .ok (.goto (-20), 3) := by decide +kernel
theorem dX7_init_225 : decode cX7_init 225 = .ok (.iconst 0, 1) := by decide +kernel
theorem dX7_init_226 : decode cX7_init 226 = .ok (.istore_n 1, 1) := by decide +kernel
theorem dX7_init_227 : decode cX7_init 227 = .ok (.iload_n 1, 1) := by decide +kernel
theorem dX7_init_228 : decode cX7_init 228 = .ok (.bipush 6, 2) := by decide +kernel
theorem dX7_init_230 : decode cX7_init 230 = .ok (.if_icmp .ge 31, 3) := by decide +kernel
theorem dX7_init_233 : decode cX7_init 233 = .ok (.aload_n 0, 1) := by decide +kernel
theorem dX7_init_234 : decode cX7_init 234 = .ok (.getfield 7, 3) := by decide +kernel
theorem dX7_init_237 : decode cX7_init 237 = .ok (.iload_n 1, 1) := by decide +kernel
theorem dX7_init_238 : decode cX7_init 238 = .ok (.iconst 0, 1) := by decide +kernel
theorem dX7_init_239 : decode cX7_init 239 = .ok (.invokestatic 63, 3) := by decide +kernel
theorem dX7_init_242 : decode cX7_init 242 = .ok (.iconst (-1), 1) := by decide +kernel
theorem dX7_init_243 : decode cX7_init 243 = .ok (.iastore, 1) := by decide +kernel
theorem dX7_init_244 : decode cX7_init 244 = .ok (.aload_n 0, 1) := by decide +kernel
theorem dX7_init_245 : decode cX7_init 245 = .ok (.getfield 7, 3) := by decide +kernel
theorem dX7_init_248 : decode cX7_init 248 = .ok (.iload_n 1, 1) := by decide +kernel
theorem dX7_init_249 : decode cX7_init 249 = .ok (.iconst 3, 1) := by decide +kernel
theorem dX7_init_250 : decode cX7_init 250 = .ok (.invokestatic 63, 3) := by decide +kernel
theorem dX7_init_253 : decode cX7_init 253 = .ok (.iconst (-1), 1) := by decide +kernel
theorem dX7_init_254 : decode cX7_init 254 = .ok (.iastore, 1) := by decide +kernel
theorem dX7_init_255 : decode cX7_init 255 = .ok (.iinc 1 1, 3) := by decide +kernel
theorem dX7_init_258 : decode cX7_init 258 = .ok (.goto (-31), 3) := by decide +kernel
theorem dX7_init_261 : decode cX7_init 261 = .ok (.return_, 1) := by decide +kernel
theorem dX7_isIn_0 : decode cX7_isIn 0 = .ok (.iload_n 0, 1) := by decide +kernel
theorem dX7_isIn_1 : decode cX7_isIn 1 = .ok (.iload_n 1, 1) := by decide +kernel
theorem dX7_isIn_2 : decode cX7_isIn 2 = .ok (.if_icmp .lt 12, 3) := by decide +kernel
theorem dX7_isIn_5 : decode cX7_isIn 5 = .ok (.iload_n 0, 1) := by decide +kernel
theorem dX7_isIn_6 : decode cX7_isIn 6 = .ok (.iload_n 2, 1) := by decide +kernel
theorem dX7_isIn_7 : decode cX7_isIn 7 = .ok (.if_icmp .gt 7, 3) := by decide +kernel
theorem dX7_isIn_10 : decode cX7_isIn 10 = .ok (.iconst 1, 1) := by decide +kernel
theorem dX7_isIn_11 : decode cX7_isIn 11 = .ok (.goto 4, 3) := by decide +kernel
theorem dX7_isIn_14 : decode cX7_isIn 14 = .ok (.iconst 0, 1) := by decide +kernel
theorem dX7_isIn_15 : decode cX7_isIn 15 = .ok (.ireturn, 1) := by decide +kernel
theorem dX7_objectAt_0 : decode cX7_objectAt 0 = .ok (.bipush 16, 2) := by decide +kernel
theorem dX7_objectAt_2 : decode cX7_objectAt 2 = .ok (.bipush 6, 2) := by decide +kernel
theorem dX7_objectAt_4 : decode cX7_objectAt 4 = .ok (.iload_n 0, 1) := by decide +kernel
theorem dX7_objectAt_5 : decode cX7_objectAt 5 = .ok (.imul, 1) := by decide +kernel
theorem dX7_objectAt_6 : decode cX7_objectAt 6 = .ok (.iadd, 1) := by decide +kernel
theorem dX7_objectAt_7 : decode cX7_objectAt 7 = .ok (.iload_n 1, 1) := by decide +kernel
theorem dX7_objectAt_8 : decode cX7_objectAt 8 = .ok (.iadd, 1) := by decide +kernel
theorem dX7_objectAt_9 : decode cX7_objectAt 9 = .ok (.ireturn, 1) := by decide +kernel
theorem dX7_pipeAt_0 : decode cX7_pipeAt 0 = .ok (.sipush 184, 3) := by decide +kernel
theorem dX7_pipeAt_3 : decode cX7_pipeAt 3 = .ok (.iconst 4, 1) := by decide +kernel
theorem dX7_pipeAt_4 : decode cX7_pipeAt 4 = .ok (.iload_n 0, 1) := by decide +kernel
theorem dX7_pipeAt_5 : decode cX7_pipeAt 5 = .ok (.imul, 1) := by decide +kernel
theorem dX7_pipeAt_6 : decode cX7_pipeAt 6 = .ok (.iadd, 1) := by decide +kernel
theorem dX7_pipeAt_7 : decode cX7_pipeAt 7 = .ok (.iload_n 1, 1) := by decide +kernel
theorem dX7_pipeAt_8 : decode cX7_pipeAt 8 = .ok (.iadd, 1) := by decide +kernel
theorem dX7_pipeAt_9 : decode cX7_pipeAt 9 = .ok (.ireturn, 1) := by decide +kernel
theorem dX7_interestAt_0 : decode cX7_interestAt 0 = .ok (.sipush 296, 3) := by decide +kernel
theorem dX7_interestAt_3 : decode cX7_interestAt 3 = .ok (.bipush 11, 2) := by decide +kernel
theorem dX7_interestAt_5 : decode cX7_interestAt 5 = .ok (.iload_n 0, 1) := by decide +kernel
theorem dX7_interestAt_6 : decode cX7_interestAt 6 = .ok (.imul, 1) := by decide +kernel
theorem dX7_interestAt_7 : decode cX7_interestAt 7 = .ok (.iadd, 1) := by decide +kernel
theorem dX7_interestAt_8 : decode cX7_interestAt 8 = .ok (.iload_n 1, 1) := by decide +kernel
theorem dX7_interestAt_9 : decode cX7_interestAt 9 = .ok (.iadd, 1) := by decide +kernel
theorem dX7_interestAt_10 : decode cX7_interestAt 10 = .ok (.ireturn, 1) := by decide +kernel
theorem dX7_taskAt_0 : decode cX7_taskAt 0 = .ok (.sipush 560, 3) := by decide +kernel
theorem dX7_taskAt_3 : decode cX7_taskAt 3 = .ok (.bipush 39, 2) := by decide +kernel
theorem dX7_taskAt_5 : decode cX7_taskAt 5 = .ok (.iload_n 0, 1) := by decide +kernel
theorem dX7_taskAt_6 : decode cX7_taskAt 6 = .ok (.imul, 1) := by decide +kernel
theorem dX7_taskAt_7 : decode cX7_taskAt 7 = .ok (.iadd, 1) := by decide +kernel
theorem dX7_taskAt_8 : decode cX7_taskAt 8 = .ok (.iload_n 1, 1) := by decide +kernel
theorem dX7_taskAt_9 : decode cX7_taskAt 9 = .ok (.iadd, 1) := by decide +kernel
theorem dX7_taskAt_10 : decode cX7_taskAt 10 = .ok (.ireturn, 1) := by decide +kernel
theorem dX7_ofObject_0 : decode cX7_ofObject 0 = .ok (.aload_n 0, 1) := by decide +kernel
theorem dX7_ofObject_1 : decode cX7_ofObject 1 = .ok (.getfield 7, 3) := by decide +kernel
theorem dX7_ofObject_4 : decode cX7_ofObject 4 = .ok (.iload_n 1, 1) := by decide +kernel
theorem dX7_ofObject_5 : decode cX7_ofObject 5 = .ok (.iload_n 2, 1) := by decide +kernel
theorem dX7_ofObject_6 : decode cX7_ofObject 6 = .ok (.invokestatic 53, 3) := by decide +kernel
theorem dX7_ofObject_9 : decode cX7_ofObject 9 = .ok (.iaload, 1) := by decide +kernel
theorem dX7_ofObject_10 : decode cX7_ofObject 10 = .ok (.ireturn, 1) := by decide +kernel
theorem dX7_ofPipe_0 : decode cX7_ofPipe 0 = .ok (.aload_n 0, 1) := by decide +kernel
theorem dX7_ofPipe_1 : decode cX7_ofPipe 1 = .ok (.getfield 7, 3) := by decide +kernel
theorem dX7_ofPipe_4 : decode cX7_ofPipe 4 = .ok (.iload_n 1, 1) := by decide +kernel
theorem dX7_ofPipe_5 : decode cX7_ofPipe 5 = .ok (.iload_n 2, 1) := by decide +kernel
theorem dX7_ofPipe_6 : decode cX7_ofPipe 6 = .ok (.invokestatic 57, 3) := by decide +kernel
theorem dX7_ofPipe_9 : decode cX7_ofPipe 9 = .ok (.iaload, 1) := by decide +kernel
theorem dX7_ofPipe_10 : decode cX7_ofPipe 10 = .ok (.ireturn, 1) := by decide +kernel
theorem dX7_ofInterest_0 : decode cX7_ofInterest 0 = .ok (.aload_n 0, 1) := by decide +kernel
theorem dX7_ofInterest_1 : decode cX7_ofInterest 1 = .ok (.getfield 7, 3) := by decide +kernel
theorem dX7_ofInterest_4 : decode cX7_ofInterest 4 = .ok (.iload_n 1, 1) := by decide +kernel
theorem dX7_ofInterest_5 : decode cX7_ofInterest 5 = .ok (.iload_n 2, 1) := by decide +kernel
theorem dX7_ofInterest_6 : decode cX7_ofInterest 6 = .ok (.invokestatic 60, 3) := by decide +kernel
theorem dX7_ofInterest_9 : decode cX7_ofInterest 9 = .ok (.iaload, 1) := by decide +kernel
theorem dX7_ofInterest_10 : decode cX7_ofInterest 10 = .ok (.ireturn, 1) := by decide +kernel
theorem dX7_ofTask_0 : decode cX7_ofTask 0 = .ok (.aload_n 0, 1) := by decide +kernel
theorem dX7_ofTask_1 : decode cX7_ofTask 1 = .ok (.getfield 7, 3) := by decide +kernel
theorem dX7_ofTask_4 : decode cX7_ofTask 4 = .ok (.iload_n 1, 1) := by decide +kernel
theorem dX7_ofTask_5 : decode cX7_ofTask 5 = .ok (.iload_n 2, 1) := by decide +kernel
theorem dX7_ofTask_6 : decode cX7_ofTask 6 = .ok (.invokestatic 63, 3) := by decide +kernel
theorem dX7_ofTask_9 : decode cX7_ofTask 9 = .ok (.iaload, 1) := by decide +kernel
theorem dX7_ofTask_10 : decode cX7_ofTask 10 = .ok (.ireturn, 1) := by decide +kernel
theorem dX7_kindOf_0 : decode cX7_kindOf 0 = .ok (.aload_n 0, 1) := by decide +kernel
theorem dX7_kindOf_1 : decode cX7_kindOf 1 = .ok (.iload_n 1, 1) := by decide +kernel
theorem dX7_kindOf_2 : decode cX7_kindOf 2 = .ok (.iconst 0, 1) := by decide +kernel
theorem dX7_kindOf_3 : decode cX7_kindOf 3 = .ok (.invokevirtual 66, 3) := by decide +kernel
theorem dX7_kindOf_6 : decode cX7_kindOf 6 = .ok (.ireturn, 1) := by decide +kernel
theorem dX7_isHandle_0 : decode cX7_isHandle 0 = .ok (.iload_n 1, 1) := by decide +kernel
theorem dX7_isHandle_1 : decode cX7_isHandle 1 = .ok (.iconst 0, 1) := by decide +kernel
theorem dX7_isHandle_2 : decode cX7_isHandle 2 = .ok (.bipush 15, 2) := by decide +kernel
theorem dX7_isHandle_4 : decode cX7_isHandle 4 = .ok (.invokestatic 69, 3) := by decide +kernel
theorem dX7_isHandle_7 : decode cX7_isHandle 7 = .ok (.ifCond .eq 16, 3) := by decide +kernel
theorem dX7_isHandle_10 : decode cX7_isHandle 10 = .ok (.aload_n 0, 1) := by decide +kernel
theorem dX7_isHandle_11 : decode cX7_isHandle 11 = .ok (.getfield 7, 3) := by decide +kernel
theorem dX7_isHandle_14 : decode cX7_isHandle 14 = .ok (.iload_n 1, 1) := by decide +kernel
theorem dX7_isHandle_15 : decode cX7_isHandle 15 = .ok (.iaload, 1) := by decide +kernel
theorem dX7_isHandle_16 : decode cX7_isHandle 16 = .ok (.ifCond .lt 7, 3) := by decide +kernel
theorem dX7_isHandle_19 : decode cX7_isHandle 19 = .ok (.iconst 1, 1) := by decide +kernel
theorem dX7_isHandle_20 : decode cX7_isHandle 20 = .ok (.goto 4, 3) := by decide +kernel
theorem dX7_isHandle_23 : decode cX7_isHandle 23 = .ok (.iconst 0, 1) := by decide +kernel
theorem dX7_isHandle_24 : decode cX7_isHandle 24 = .ok (.ireturn, 1) := by decide +kernel
theorem dX7_names_0 : decode cX7_names 0 = .ok (.aload_n 0, 1) := by decide +kernel
theorem dX7_names_1 : decode cX7_names 1 = .ok (.iload_n 1, 1) := by decide +kernel
theorem dX7_names_2 : decode cX7_names 2 = .ok (.invokevirtual 73, 3) := by decide +kernel
theorem dX7_names_5 : decode cX7_names 5 = .ok (.ifCond .eq 21, 3) := by decide +kernel
theorem dX7_names_8 : decode cX7_names 8 = .ok (.aload_n 0, 1) := by decide +kernel
theorem dX7_names_9 : decode cX7_names 9 = .ok (.aload_n 0, 1) := by decide +kernel
theorem dX7_names_10 : decode cX7_names 10 = .ok (.getfield 7, 3) := by decide +kernel
theorem dX7_names_13 : decode cX7_names 13 = .ok (.iload_n 1, 1) := by decide +kernel
theorem dX7_names_14 : decode cX7_names 14 = .ok (.iaload, 1) := by decide +kernel
theorem dX7_names_15 : decode cX7_names 15 = .ok (.invokevirtual 77, 3) := by decide +kernel
theorem dX7_names_18 : decode cX7_names 18 = .ok (.iload_n 2, 1) := by decide +kernel
theorem dX7_names_19 : decode cX7_names 19 = .ok (.if_icmp .ne 7, 3) := by decide +kernel
theorem dX7_names_22 : decode cX7_names 22 = .ok (.iconst 1, 1) := by decide +kernel
theorem dX7_names_23 : decode cX7_names 23 = .ok (.goto 4, 3) := by decide +kernel
theorem dX7_names_26 : decode cX7_names 26 = .ok (.iconst 0, 1) := by decide +kernel
theorem dX7_names_27 : decode cX7_names 27 = .ok (.ireturn, 1) := by decide +kernel
theorem dX7_isTask_0 : decode cX7_isTask 0 = .ok (.iload_n 1, 1) := by decide +kernel
theorem dX7_isTask_1 : decode cX7_isTask 1 = .ok (.iconst 0, 1) := by decide +kernel
theorem dX7_isTask_2 : decode cX7_isTask 2 = .ok (.iconst 5, 1) := by decide +kernel
theorem dX7_isTask_3 : decode cX7_isTask 3 = .ok (.invokestatic 69, 3) := by decide +kernel
theorem dX7_isTask_6 : decode cX7_isTask 6 = .ok (.ireturn, 1) := by decide +kernel
theorem dX7_isInterest_0 : decode cX7_isInterest 0 = .ok (.aload_n 0, 1) := by decide +kernel
theorem dX7_isInterest_1 : decode cX7_isInterest 1 = .ok (.iload_n 1, 1) := by decide +kernel
theorem dX7_isInterest_2 : decode cX7_isInterest 2 = .ok (.iconst 0, 1) := by decide +kernel
theorem dX7_isInterest_3 : decode cX7_isInterest 3 = .ok (.invokevirtual 81, 3) := by decide +kernel
theorem dX7_isInterest_6 : decode cX7_isInterest 6 = .ok (.ifCond .lt 7, 3) := by decide +kernel
theorem dX7_isInterest_9 : decode cX7_isInterest 9 = .ok (.iconst 1, 1) := by decide +kernel
theorem dX7_isInterest_10 : decode cX7_isInterest 10 = .ok (.goto 4, 3) := by decide +kernel
theorem dX7_isInterest_13 : decode cX7_isInterest 13 = .ok (.iconst 0, 1) := by decide +kernel
theorem dX7_isInterest_14 : decode cX7_isInterest 14 = .ok (.ireturn, 1) := by decide +kernel
theorem dX7_isAsleep_0 : decode cX7_isAsleep 0 = .ok (.aload_n 0, 1) := by decide +kernel
theorem dX7_isAsleep_1 : decode cX7_isAsleep 1 = .ok (.iload_n 1, 1) := by decide +kernel
theorem dX7_isAsleep_2 : decode cX7_isAsleep 2 = .ok (.iconst 0, 1) := by decide +kernel
theorem dX7_isAsleep_3 : decode cX7_isAsleep 3 = .ok (.invokevirtual 84, 3) := by decide +kernel
theorem dX7_isAsleep_6 : decode cX7_isAsleep 6 = .ok (.ifCond .lt 7, 3) := by decide +kernel
theorem dX7_isAsleep_9 : decode cX7_isAsleep 9 = .ok (.iconst 1, 1) := by decide +kernel
theorem dX7_isAsleep_10 : decode cX7_isAsleep 10 = .ok (.goto 4, 3) := by decide +kernel
theorem dX7_isAsleep_13 : decode cX7_isAsleep 13 = .ok (.iconst 0, 1) := by decide +kernel
theorem dX7_isAsleep_14 : decode cX7_isAsleep 14 = .ok (.ireturn, 1) := by decide +kernel
theorem dX7_stamp_0 : decode cX7_stamp 0 = .ok (.aload_n 0, 1) := by decide +kernel
theorem dX7_stamp_1 : decode cX7_stamp 1 = .ok (.getfield 7, 3) := by decide +kernel
theorem dX7_stamp_4 : decode cX7_stamp 4 = .ok (.sipush 795, 3) := by decide +kernel
theorem dX7_stamp_7 : decode cX7_stamp 7 = .ok (.dup2, 1) := by decide +kernel
theorem dX7_stamp_8 : decode cX7_stamp 8 = .ok (.iaload, 1) := by decide +kernel
theorem dX7_stamp_9 : decode cX7_stamp 9 = .ok (.iconst 1, 1) := by decide +kernel
theorem dX7_stamp_10 : decode cX7_stamp 10 = .ok (.iadd, 1) := by decide +kernel
theorem dX7_stamp_11 : decode cX7_stamp 11 = .ok (.iastore, 1) := by decide +kernel
theorem dX7_stamp_12 : decode cX7_stamp 12 = .ok (.aload_n 0, 1) := by decide +kernel
theorem dX7_stamp_13 : decode cX7_stamp 13 = .ok (.getfield 7, 3) := by decide +kernel
theorem dX7_stamp_16 : decode cX7_stamp 16 = .ok (.sipush 795, 3) := by decide +kernel
theorem dX7_stamp_19 : decode cX7_stamp 19 = .ok (.iaload, 1) := by decide +kernel
theorem dX7_stamp_20 : decode cX7_stamp 20 = .ok (.ireturn, 1) := by decide +kernel
theorem dX7_freeHandle_0 : decode cX7_freeHandle 0 = .ok (.iconst 0, 1) := by decide +kernel
theorem dX7_freeHandle_1 : decode cX7_freeHandle 1 = .ok (.istore_n 1, 1) := by decide +kernel
theorem dX7_freeHandle_2 : decode cX7_freeHandle 2 = .ok (.iload_n 1, 1) := by decide +kernel
theorem dX7_freeHandle_3 : decode cX7_freeHandle 3 = .ok (.bipush 16, 2) := by decide +kernel
theorem dX7_freeHandle_5 : decode cX7_freeHandle 5 = .ok (.if_icmp .ge 20, 3) := by decide +kernel
theorem dX7_freeHandle_8 : decode cX7_freeHandle 8 = .ok (.aload_n 0, 1) := by decide +kernel
theorem dX7_freeHandle_9 : decode cX7_freeHandle 9 = .ok (.getfield 7, 3) := by decide +kernel
theorem dX7_freeHandle_12 : decode cX7_freeHandle 12 = .ok (.iload_n 1, 1) := by decide +kernel
theorem dX7_freeHandle_13 : decode cX7_freeHandle 13 = .ok (.iaload, 1) := by decide +kernel
theorem dX7_freeHandle_14 : decode cX7_freeHandle 14 = .ok (.ifCond .ge 5, 3) := by decide +kernel
theorem dX7_freeHandle_17 : decode cX7_freeHandle 17 = .ok (.iload_n 1, 1) := by decide +kernel
theorem dX7_freeHandle_18 : decode cX7_freeHandle 18 = .ok (.ireturn, 1) := by decide +kernel
theorem dX7_freeHandle_19 : decode cX7_freeHandle 19 = .ok (.iinc 1 1, 3) := by decide +kernel
theorem dX7_freeHandle_22 : decode cX7_freeHandle 22 = .ok (.goto (-20), 3) := by decide +kernel
theorem dX7_freeHandle_25 : decode cX7_freeHandle 25 = .ok (.iconst (-1), 1) := by decide +kernel
theorem dX7_freeHandle_26 : decode cX7_freeHandle 26 = .ok (.ireturn, 1) := by decide +kernel
theorem dX7_freeHandles_0 : decode cX7_freeHandles 0 = .ok (.iconst 0, 1) := by decide +kernel
theorem dX7_freeHandles_1 : decode cX7_freeHandles 1 = .ok (.istore_n 1, 1) := by decide +kernel
theorem dX7_freeHandles_2 : decode cX7_freeHandles 2 = .ok (.iconst 0, 1) := by decide +kernel
theorem dX7_freeHandles_3 : decode cX7_freeHandles 3 = .ok (.istore_n 2, 1) := by decide +kernel
theorem dX7_freeHandles_4 : decode cX7_freeHandles 4 = .ok (.iload_n 2, 1) := by decide +kernel
theorem dX7_freeHandles_5 : decode cX7_freeHandles 5 = .ok (.bipush 16, 2) := by decide +kernel
theorem dX7_freeHandles_7 : decode cX7_freeHandles 7 = .ok (.if_icmp .ge 26, 3) := by decide +kernel
theorem dX7_freeHandles_10 : decode cX7_freeHandles 10 = .ok (.iload_n 1, 1) := by decide +kernel
theorem dX7_freeHandles_11 : decode cX7_freeHandles 11 = .ok (.aload_n 0, 1) := by decide +kernel
theorem dX7_freeHandles_12 : decode cX7_freeHandles 12 = .ok (.getfield 7, 3) := by decide +kernel
theorem dX7_freeHandles_15 : decode cX7_freeHandles 15 = .ok (.iload_n 2, 1) := by decide +kernel
theorem dX7_freeHandles_16 : decode cX7_freeHandles 16 = .ok (.iaload, 1) := by decide +kernel
theorem dX7_freeHandles_17 : decode cX7_freeHandles 17 = .ok (.ifCond .ge 7, 3) := by decide +kernel
theorem dX7_freeHandles_20 : decode cX7_freeHandles 20 = .ok (.iconst 1, 1) := by decide +kernel
theorem dX7_freeHandles_21 : decode cX7_freeHandles 21 = .ok (.goto 4, 3) := by decide +kernel
theorem dX7_freeHandles_24 : decode cX7_freeHandles 24 = .ok (.iconst 0, 1) := by decide +kernel
theorem dX7_freeHandles_25 : decode cX7_freeHandles 25 = .ok (.iadd, 1) := by decide +kernel
theorem dX7_freeHandles_26 : decode cX7_freeHandles 26 = .ok (.istore_n 1, 1) := by decide +kernel
theorem dX7_freeHandles_27 : decode cX7_freeHandles 27 = .ok (.iinc 2 1, 3) := by decide +kernel
theorem dX7_freeHandles_30 : decode cX7_freeHandles 30 = .ok (.goto (-26), 3) := by decide +kernel
theorem dX7_freeHandles_33 : decode cX7_freeHandles 33 = .ok (.iload_n 1, 1) := by decide +kernel
theorem dX7_freeHandles_34 : decode cX7_freeHandles 34 = .ok (.ireturn, 1) := by decide +kernel
theorem dX7_lowestOf_0 : decode cX7_lowestOf 0 = .ok (.iconst 0, 1) := by decide +kernel
theorem dX7_lowestOf_1 : decode cX7_lowestOf 1 = .ok (.istore_n 2, 1) := by decide +kernel
theorem dX7_lowestOf_2 : decode cX7_lowestOf 2 = .ok (.iload_n 2, 1) := by decide +kernel
theorem dX7_lowestOf_3 : decode cX7_lowestOf 3 = .ok (.bipush 16, 2) := by decide +kernel
theorem dX7_lowestOf_5 : decode cX7_lowestOf 5 = .ok (.if_icmp .ge 25, 3) := by decide +kernel
theorem dX7_lowestOf_8 : decode cX7_lowestOf 8 = .ok (.aload_n 0, 1) := by decide +kernel
theorem dX7_lowestOf_9 : decode cX7_lowestOf 9 = .ok (.getfield 7, 3) := by decide +kernel
theorem dX7_lowestOf_12 : decode cX7_lowestOf 12 = .ok (.iload_n 2, 1) := by decide +kernel
theorem dX7_lowestOf_13 : decode cX7_lowestOf 13 = .ok (.iaload, 1) := by decide +kernel
theorem dX7_lowestOf_14 : decode cX7_lowestOf 14 = .ok (.iload_n 1, 1) := by decide +kernel
theorem dX7_lowestOf_15 : decode cX7_lowestOf 15 = .ok (.if_icmp .ne 9, 3) := by decide +kernel
theorem dX7_lowestOf_18 : decode cX7_lowestOf 18 = .ok (.iload_n 1, 1) := by decide +kernel
theorem dX7_lowestOf_19 : decode cX7_lowestOf 19 = .ok (.ifCond .lt 5, 3) := by decide +kernel
theorem dX7_lowestOf_22 : decode cX7_lowestOf 22 = .ok (.iload_n 2, 1) := by decide +kernel
theorem dX7_lowestOf_23 : decode cX7_lowestOf 23 = .ok (.ireturn, 1) := by decide +kernel
theorem dX7_lowestOf_24 : decode cX7_lowestOf 24 = .ok (.iinc 2 1, 3) := by decide +kernel
theorem dX7_lowestOf_27 : decode cX7_lowestOf 27 = .ok (.goto (-25), 3) := by decide +kernel
theorem dX7_lowestOf_30 : decode cX7_lowestOf 30 = .ok (.iconst (-1), 1) := by decide +kernel
theorem dX7_lowestOf_31 : decode cX7_lowestOf 31 = .ok (.ireturn, 1) := by decide +kernel
theorem dX7_handlesOf_0 : decode cX7_handlesOf 0 = .ok (.iconst 0, 1) := by decide +kernel
theorem dX7_handlesOf_1 : decode cX7_handlesOf 1 = .ok (.istore_n 2, 1) := by decide +kernel
theorem dX7_handlesOf_2 : decode cX7_handlesOf 2 = .ok (.iconst 0, 1) := by decide +kernel
theorem dX7_handlesOf_3 : decode cX7_handlesOf 3 = .ok (.istore_n 3, 1) := by decide +kernel
theorem dX7_handlesOf_4 : decode cX7_handlesOf 4 = .ok (.iload_n 3, 1) := by decide +kernel
theorem dX7_handlesOf_5 : decode cX7_handlesOf 5 = .ok (.bipush 16, 2) := by decide +kernel
theorem dX7_handlesOf_7 : decode cX7_handlesOf 7 = .ok (.if_icmp .ge 27, 3) := by decide +kernel
theorem dX7_handlesOf_10 : decode cX7_handlesOf 10 = .ok (.iload_n 2, 1) := by decide +kernel
theorem dX7_handlesOf_11 : decode cX7_handlesOf 11 = .ok (.aload_n 0, 1) := by decide +kernel
theorem dX7_handlesOf_12 : decode cX7_handlesOf 12 = .ok (.getfield 7, 3) := by decide +kernel
theorem dX7_handlesOf_15 : decode cX7_handlesOf 15 = .ok (.iload_n 3, 1) := by decide +kernel
theorem dX7_handlesOf_16 : decode cX7_handlesOf 16 = .ok (.iaload, 1) := by decide +kernel
theorem dX7_handlesOf_17 : decode cX7_handlesOf 17 = .ok (.iload_n 1, 1) := by decide +kernel
theorem dX7_handlesOf_18 : decode cX7_handlesOf 18 = .ok (.if_icmp .ne 7, 3) := by decide +kernel
theorem dX7_handlesOf_21 : decode cX7_handlesOf 21 = .ok (.iconst 1, 1) := by decide +kernel
theorem dX7_handlesOf_22 : decode cX7_handlesOf 22 = .ok (.goto 4, 3) := by decide +kernel
theorem dX7_handlesOf_25 : decode cX7_handlesOf 25 = .ok (.iconst 0, 1) := by decide +kernel
theorem dX7_handlesOf_26 : decode cX7_handlesOf 26 = .ok (.iadd, 1) := by decide +kernel
theorem dX7_handlesOf_27 : decode cX7_handlesOf 27 = .ok (.istore_n 2, 1) := by decide +kernel
theorem dX7_handlesOf_28 : decode cX7_handlesOf 28 = .ok (.iinc 3 1, 3) := by decide +kernel
theorem dX7_handlesOf_31 : decode cX7_handlesOf 31 = .ok (.goto (-27), 3) := by decide +kernel
theorem dX7_handlesOf_34 : decode cX7_handlesOf 34 = .ok (.iload_n 2, 1) := by decide +kernel
theorem dX7_handlesOf_35 : decode cX7_handlesOf 35 = .ok (.ireturn, 1) := by decide +kernel
theorem dX7_newObject_0 : decode cX7_newObject 0 = .ok (.iconst 0, 1) := by decide +kernel
theorem dX7_newObject_1 : decode cX7_newObject 1 = .ok (.istore 5, 2) := by decide +kernel
theorem dX7_newObject_3 : decode cX7_newObject 3 = .ok (.aload_n 0, 1) := by decide +kernel
theorem dX7_newObject_4 : decode cX7_newObject 4 = .ok (.iload 5, 2) := by decide +kernel
theorem dX7_newObject_6 : decode cX7_newObject 6 = .ok (.invokevirtual 77, 3) := by decide +kernel
theorem dX7_newObject_9 : decode cX7_newObject 9 = .ok (.ifCond .lt 9, 3) := by decide +kernel
theorem dX7_newObject_12 : decode cX7_newObject 12 = .ok (.iinc 5 1, 3) := by decide +kernel
theorem dX7_newObject_15 : decode cX7_newObject 15 = .ok (.goto (-12), 3) := by decide +kernel
theorem dX7_newObject_18 : decode cX7_newObject 18 = .ok (.aload_n 0, 1) := by decide +kernel
theorem dX7_newObject_19 : decode cX7_newObject 19 = .ok (.getfield 7, 3) := by decide +kernel
theorem dX7_newObject_22 : decode cX7_newObject 22 = .ok (.iload 5, 2) := by decide +kernel
theorem dX7_newObject_24 : decode cX7_newObject 24 = .ok (.iconst 0, 1) := by decide +kernel
theorem dX7_newObject_25 : decode cX7_newObject 25 = .ok (.invokestatic 53, 3) := by decide +kernel
theorem dX7_newObject_28 : decode cX7_newObject 28 = .ok (.iload_n 1, 1) := by decide +kernel
theorem dX7_newObject_29 : decode cX7_newObject 29 = .ok (.iastore, 1) := by decide +kernel
theorem dX7_newObject_30 : decode cX7_newObject 30 = .ok (.aload_n 0, 1) := by decide +kernel
theorem dX7_newObject_31 : decode cX7_newObject 31 = .ok (.getfield 7, 3) := by decide +kernel
theorem dX7_newObject_34 : decode cX7_newObject 34 = .ok (.iload 5, 2) := by decide +kernel
theorem dX7_newObject_36 : decode cX7_newObject 36 = .ok (.iconst 1, 1) := by decide +kernel
theorem dX7_newObject_37 : decode cX7_newObject 37 = .ok (.invokestatic 53, 3) := by decide +kernel
theorem dX7_newObject_40 : decode cX7_newObject 40 = .ok (.iload_n 2, 1) := by decide +kernel
theorem dX7_newObject_41 : decode cX7_newObject 41 = .ok (.iastore, 1) := by decide +kernel
theorem dX7_newObject_42 : decode cX7_newObject 42 = .ok (.aload_n 0, 1) := by decide +kernel
theorem dX7_newObject_43 : decode cX7_newObject 43 = .ok (.getfield 7, 3) := by decide +kernel
theorem dX7_newObject_46 : decode cX7_newObject 46 = .ok (.iload 5, 2) := by decide +kernel
theorem dX7_newObject_48 : decode cX7_newObject 48 = .ok (.iconst 2, 1) := by decide +kernel
theorem dX7_newObject_49 : decode cX7_newObject 49 = .ok (.invokestatic 53, 3) := by decide +kernel
theorem dX7_newObject_52 : decode cX7_newObject 52 = .ok (.iload_n 3, 1) := by decide +kernel
theorem dX7_newObject_53 : decode cX7_newObject 53 = .ok (.iastore, 1) := by decide +kernel
theorem dX7_newObject_54 : decode cX7_newObject 54 = .ok (.aload_n 0, 1) := by decide +kernel
theorem dX7_newObject_55 : decode cX7_newObject 55 = .ok (.getfield 7, 3) := by decide +kernel
theorem dX7_newObject_58 : decode cX7_newObject 58 = .ok (.iload 5, 2) := by decide +kernel
theorem dX7_newObject_60 : decode cX7_newObject 60 = .ok (.iconst 3, 1) := by decide +kernel
theorem dX7_newObject_61 : decode cX7_newObject 61 = .ok (.invokestatic 53, 3) := by decide +kernel
theorem dX7_newObject_64 : decode cX7_newObject 64 = .ok (.iload 4, 2) := by decide +kernel
theorem dX7_newObject_66 : decode cX7_newObject 66 = .ok (.iastore, 1) := by decide +kernel
theorem dX7_newObject_67 : decode cX7_newObject 67 = .ok (.aload_n 0, 1) := by decide +kernel
theorem dX7_newObject_68 : decode cX7_newObject 68 = .ok (.getfield 7, 3) := by decide +kernel
theorem dX7_newObject_71 : decode cX7_newObject 71 = .ok (.iload 5, 2) := by decide +kernel
theorem dX7_newObject_73 : decode cX7_newObject 73 = .ok (.iconst 4, 1) := by decide +kernel
theorem dX7_newObject_74 : decode cX7_newObject 74 = .ok (.invokestatic 53, 3) := by decide +kernel
theorem dX7_newObject_77 : decode cX7_newObject 77 = .ok (.iconst (-1), 1) := by decide +kernel
theorem dX7_newObject_78 : decode cX7_newObject 78 = .ok (.iastore, 1) := by decide +kernel
theorem dX7_newObject_79 : decode cX7_newObject 79 = .ok (.aload_n 0, 1) := by decide +kernel
theorem dX7_newObject_80 : decode cX7_newObject 80 = .ok (.getfield 7, 3) := by decide +kernel
theorem dX7_newObject_83 : decode cX7_newObject 83 = .ok (.iload 5, 2) := by decide +kernel
theorem dX7_newObject_85 : decode cX7_newObject 85 = .ok (.iconst 5, 1) := by decide +kernel
theorem dX7_newObject_86 : decode cX7_newObject 86 = .ok (.invokestatic 53, 3) := by decide +kernel
theorem dX7_newObject_89 : decode cX7_newObject 89 = .ok (.iconst 0, 1) := by decide +kernel
theorem dX7_newObject_90 : decode cX7_newObject 90 = .ok (.iastore, 1) := by decide +kernel
theorem dX7_newObject_91 : decode cX7_newObject 91 = .ok (.iload 5, 2) := by decide +kernel
theorem dX7_newObject_93 : decode cX7_newObject 93 = .ok (.ireturn, 1) := by decide +kernel
theorem dX7_newHandle_0 : decode cX7_newHandle 0 = .ok (.aload_n 0, 1) := by decide +kernel
theorem dX7_newHandle_1 : decode cX7_newHandle 1 = .ok (.invokevirtual 87, 3) := by decide +kernel
theorem dX7_newHandle_4 : decode cX7_newHandle 4 = .ok (.istore_n 2, 1) := by decide +kernel
theorem dX7_newHandle_5 : decode cX7_newHandle 5 = .ok (.aload_n 0, 1) := by decide +kernel
theorem dX7_newHandle_6 : decode cX7_newHandle 6 = .ok (.getfield 7, 3) := by decide +kernel
theorem dX7_newHandle_9 : decode cX7_newHandle 9 = .ok (.iload_n 2, 1) := by decide +kernel
theorem dX7_newHandle_10 : decode cX7_newHandle 10 = .ok (.iload_n 1, 1) := by decide +kernel
theorem dX7_newHandle_11 : decode cX7_newHandle 11 = .ok (.iastore, 1) := by decide +kernel
theorem dX7_newHandle_12 : decode cX7_newHandle 12 = .ok (.iload_n 2, 1) := by decide +kernel
theorem dX7_newHandle_13 : decode cX7_newHandle 13 = .ok (.ireturn, 1) := by decide +kernel
theorem dX7_newPipe_0 : decode cX7_newPipe 0 = .ok (.iconst 0, 1) := by decide +kernel
theorem dX7_newPipe_1 : decode cX7_newPipe 1 = .ok (.istore_n 2, 1) := by decide +kernel
theorem dX7_newPipe_2 : decode cX7_newPipe 2 = .ok (.aload_n 0, 1) := by decide +kernel
theorem dX7_newPipe_3 : decode cX7_newPipe 3 = .ok (.iload_n 2, 1) := by decide +kernel
theorem dX7_newPipe_4 : decode cX7_newPipe 4 = .ok (.iconst 2, 1) := by decide +kernel
theorem dX7_newPipe_5 : decode cX7_newPipe 5 = .ok (.invokevirtual 91, 3) := by decide +kernel
theorem dX7_newPipe_8 : decode cX7_newPipe 8 = .ok (.ifCond .ge 12, 3) := by decide +kernel
theorem dX7_newPipe_11 : decode cX7_newPipe 11 = .ok (.aload_n 0, 1) := by decide +kernel
theorem dX7_newPipe_12 : decode cX7_newPipe 12 = .ok (.iload_n 2, 1) := by decide +kernel
theorem dX7_newPipe_13 : decode cX7_newPipe 13 = .ok (.iconst 3, 1) := by decide +kernel
theorem dX7_newPipe_14 : decode cX7_newPipe 14 = .ok (.invokevirtual 91, 3) := by decide +kernel
theorem dX7_newPipe_17 : decode cX7_newPipe 17 = .ok (.ifCond .lt 9, 3) := by decide +kernel
theorem dX7_newPipe_20 : decode cX7_newPipe 20 = .ok (.iinc 2 1, 3) := by decide +kernel
theorem dX7_newPipe_23 : decode cX7_newPipe 23 = .ok (.goto (-21), 3) := by decide +kernel
theorem dX7_newPipe_26 : decode cX7_newPipe 26 = .ok (.aload_n 0, 1) := by decide +kernel
theorem dX7_newPipe_27 : decode cX7_newPipe 27 = .ok (.getfield 7, 3) := by decide +kernel
theorem dX7_newPipe_30 : decode cX7_newPipe 30 = .ok (.iload_n 2, 1) := by decide +kernel
theorem dX7_newPipe_31 : decode cX7_newPipe 31 = .ok (.iconst 0, 1) := by decide +kernel
theorem dX7_newPipe_32 : decode cX7_newPipe 32 = .ok (.invokestatic 57, 3) := by decide +kernel
theorem dX7_newPipe_35 : decode cX7_newPipe 35 = .ok (.iload_n 1, 1) := by decide +kernel
theorem dX7_newPipe_36 : decode cX7_newPipe 36 = .ok (.iastore, 1) := by decide +kernel
theorem dX7_newPipe_37 : decode cX7_newPipe 37 = .ok (.aload_n 0, 1) := by decide +kernel
theorem dX7_newPipe_38 : decode cX7_newPipe 38 = .ok (.getfield 7, 3) := by decide +kernel
theorem dX7_newPipe_41 : decode cX7_newPipe 41 = .ok (.iload_n 2, 1) := by decide +kernel
theorem dX7_newPipe_42 : decode cX7_newPipe 42 = .ok (.iconst 1, 1) := by decide +kernel
theorem dX7_newPipe_43 : decode cX7_newPipe 43 = .ok (.invokestatic 57, 3) := by decide +kernel
theorem dX7_newPipe_46 : decode cX7_newPipe 46 = .ok (.iconst 0, 1) := by decide +kernel
theorem dX7_newPipe_47 : decode cX7_newPipe 47 = .ok (.iastore, 1) := by decide +kernel
theorem dX7_newPipe_48 : decode cX7_newPipe 48 = .ok (.aload_n 0, 1) := by decide +kernel
theorem dX7_newPipe_49 : decode cX7_newPipe 49 = .ok (.getfield 7, 3) := by decide +kernel
theorem dX7_newPipe_52 : decode cX7_newPipe 52 = .ok (.iload_n 2, 1) := by decide +kernel
theorem dX7_newPipe_53 : decode cX7_newPipe 53 = .ok (.iconst 2, 1) := by decide +kernel
theorem dX7_newPipe_54 : decode cX7_newPipe 54 = .ok (.invokestatic 57, 3) := by decide +kernel
theorem dX7_newPipe_57 : decode cX7_newPipe 57 = .ok (.aload_n 0, 1) := by decide +kernel
theorem dX7_newPipe_58 : decode cX7_newPipe 58 = .ok (.iconst 0, 1) := by decide +kernel
theorem dX7_newPipe_59 : decode cX7_newPipe 59 = .ok (.iload_n 2, 1) := by decide +kernel
theorem dX7_newPipe_60 : decode cX7_newPipe 60 = .ok (.iconst 0, 1) := by decide +kernel
theorem dX7_newPipe_61 : decode cX7_newPipe 61 = .ok (.iconst 0, 1) := by decide +kernel
theorem dX7_newPipe_62 : decode cX7_newPipe 62 = .ok (.invokevirtual 94, 3) := by decide +kernel
theorem dX7_newPipe_65 : decode cX7_newPipe 65 = .ok (.iastore, 1) := by decide +kernel
theorem dX7_newPipe_66 : decode cX7_newPipe 66 = .ok (.aload_n 0, 1) := by decide +kernel
theorem dX7_newPipe_67 : decode cX7_newPipe 67 = .ok (.getfield 7, 3) := by decide +kernel
theorem dX7_newPipe_70 : decode cX7_newPipe 70 = .ok (.iload_n 2, 1) := by decide +kernel
theorem dX7_newPipe_71 : decode cX7_newPipe 71 = .ok (.iconst 3, 1) := by decide +kernel
theorem dX7_newPipe_72 : decode cX7_newPipe 72 = .ok (.invokestatic 57, 3) := by decide +kernel
theorem dX7_newPipe_75 : decode cX7_newPipe 75 = .ok (.aload_n 0, 1) := by decide +kernel
theorem dX7_newPipe_76 : decode cX7_newPipe 76 = .ok (.iconst 1, 1) := by decide +kernel
theorem dX7_newPipe_77 : decode cX7_newPipe 77 = .ok (.iload_n 2, 1) := by decide +kernel
theorem dX7_newPipe_78 : decode cX7_newPipe 78 = .ok (.iconst 0, 1) := by decide +kernel
theorem dX7_newPipe_79 : decode cX7_newPipe 79 = .ok (.iconst 0, 1) := by decide +kernel
theorem dX7_newPipe_80 : decode cX7_newPipe 80 = .ok (.invokevirtual 94, 3) := by decide +kernel
theorem dX7_newPipe_83 : decode cX7_newPipe 83 = .ok (.iastore, 1) := by decide +kernel
theorem dX7_newPipe_84 : decode cX7_newPipe 84 = .ok (.iload_n 2, 1) := by decide +kernel
theorem dX7_newPipe_85 : decode cX7_newPipe 85 = .ok (.ireturn, 1) := by decide +kernel
theorem dX7_isEnd_0 : decode cX7_isEnd 0 = .ok (.aload_n 0, 1) := by decide +kernel
theorem dX7_isEnd_1 : decode cX7_isEnd 1 = .ok (.iload_n 1, 1) := by decide +kernel
theorem dX7_isEnd_2 : decode cX7_isEnd 2 = .ok (.invokevirtual 77, 3) := by decide +kernel
theorem dX7_isEnd_5 : decode cX7_isEnd 5 = .ok (.ifCond .eq 12, 3) := by decide +kernel
theorem dX7_isEnd_8 : decode cX7_isEnd 8 = .ok (.aload_n 0, 1) := by decide +kernel
theorem dX7_isEnd_9 : decode cX7_isEnd 9 = .ok (.iload_n 1, 1) := by decide +kernel
theorem dX7_isEnd_10 : decode cX7_isEnd 10 = .ok (.invokevirtual 77, 3) := by decide +kernel
theorem dX7_isEnd_13 : decode cX7_isEnd 13 = .ok (.iconst 1, 1) := by decide +kernel
theorem dX7_isEnd_14 : decode cX7_isEnd 14 = .ok (.if_icmp .ne 7, 3) := by decide +kernel
theorem dX7_isEnd_17 : decode cX7_isEnd 17 = .ok (.iconst 1, 1) := by decide +kernel
theorem dX7_isEnd_18 : decode cX7_isEnd 18 = .ok (.goto 4, 3) := by decide +kernel
theorem dX7_isEnd_21 : decode cX7_isEnd 21 = .ok (.iconst 0, 1) := by decide +kernel
theorem dX7_isEnd_22 : decode cX7_isEnd 22 = .ok (.ireturn, 1) := by decide +kernel
theorem dX7_otherEnd_0 : decode cX7_otherEnd 0 = .ok (.aload_n 0, 1) := by decide +kernel
theorem dX7_otherEnd_1 : decode cX7_otherEnd 1 = .ok (.aload_n 0, 1) := by decide +kernel
theorem dX7_otherEnd_2 : decode cX7_otherEnd 2 = .ok (.iload_n 1, 1) := by decide +kernel
theorem dX7_otherEnd_3 : decode cX7_otherEnd 3 = .ok (.iconst 1, 1) := by decide +kernel
theorem dX7_otherEnd_4 : decode cX7_otherEnd 4 = .ok (.invokevirtual 66, 3) := by decide +kernel
theorem dX7_otherEnd_7 : decode cX7_otherEnd 7 = .ok (.iconst 3, 1) := by decide +kernel
theorem dX7_otherEnd_8 : decode cX7_otherEnd 8 = .ok (.aload_n 0, 1) := by decide +kernel
theorem dX7_otherEnd_9 : decode cX7_otherEnd 9 = .ok (.iload_n 1, 1) := by decide +kernel
theorem dX7_otherEnd_10 : decode cX7_otherEnd 10 = .ok (.invokevirtual 77, 3) := by decide +kernel
theorem dX7_otherEnd_13 : decode cX7_otherEnd 13 = .ok (.isub, 1) := by decide +kernel
theorem dX7_otherEnd_14 : decode cX7_otherEnd 14 = .ok (.invokevirtual 91, 3) := by decide +kernel
theorem dX7_otherEnd_17 : decode cX7_otherEnd 17 = .ok (.ireturn, 1) := by decide +kernel
theorem dX7_pipe_0 : decode cX7_pipe 0 = .ok (.iload_n 1, 1) := by decide +kernel
theorem dX7_pipe_1 : decode cX7_pipe 1 = .ok (.iconst 1, 1) := by decide +kernel
theorem dX7_pipe_2 : decode cX7_pipe 2 = .ok (.bipush 100, 2) := by decide +kernel
theorem dX7_pipe_4 : decode cX7_pipe 4 = .ok (.invokestatic 69, 3) := by decide +kernel
theorem dX7_pipe_7 : decode cX7_pipe 7 = .ok (.ifCond .eq 11, 3) := by decide +kernel
theorem dX7_pipe_10 : decode cX7_pipe 10 = .ok (.aload_n 0, 1) := by decide +kernel
theorem dX7_pipe_11 : decode cX7_pipe 11 = .ok (.invokevirtual 98, 3) := by decide +kernel
theorem dX7_pipe_14 : decode cX7_pipe 14 = .ok (.iconst 2, 1) := by decide +kernel
theorem dX7_pipe_15 : decode cX7_pipe 15 = .ok (.if_icmp .ge 5, 3) := by decide +kernel
theorem dX7_pipe_18 : decode cX7_pipe 18 = .ok (.iconst (-1), 1) := by decide +kernel
theorem dX7_pipe_19 : decode cX7_pipe 19 = .ok (.ireturn, 1) := by decide +kernel
theorem dX7_pipe_20 : decode cX7_pipe 20 = .ok (.aload_n 0, 1) := by decide +kernel
theorem dX7_pipe_21 : decode cX7_pipe 21 = .ok (.invokevirtual 101, 3) := by decide +kernel
theorem dX7_pipe_24 : decode cX7_pipe 24 = .ok (.aload_n 0, 1) := by decide +kernel
theorem dX7_pipe_25 : decode cX7_pipe 25 = .ok (.iload_n 1, 1) := by decide +kernel
theorem dX7_pipe_26 : decode cX7_pipe 26 = .ok (.invokevirtual 104, 3) := by decide +kernel
theorem dX7_pipe_29 : decode cX7_pipe 29 = .ok (.istore_n 2, 1) := by decide +kernel
theorem dX7_pipe_30 : decode cX7_pipe 30 = .ok (.aload_n 0, 1) := by decide +kernel
theorem dX7_pipe_31 : decode cX7_pipe 31 = .ok (.aload_n 0, 1) := by decide +kernel
theorem dX7_pipe_32 : decode cX7_pipe 32 = .ok (.iload_n 2, 1) := by decide +kernel
theorem dX7_pipe_33 : decode cX7_pipe 33 = .ok (.iconst 2, 1) := by decide +kernel
theorem dX7_pipe_34 : decode cX7_pipe 34 = .ok (.invokevirtual 91, 3) := by decide +kernel
theorem dX7_pipe_37 : decode cX7_pipe 37 = .ok (.invokevirtual 107, 3) := by decide +kernel
theorem dX7_pipe_40 : decode cX7_pipe 40 = .ok (.istore_n 3, 1) := by decide +kernel
theorem dX7_pipe_41 : decode cX7_pipe 41 = .ok (.aload_n 0, 1) := by decide +kernel
theorem dX7_pipe_42 : decode cX7_pipe 42 = .ok (.aload_n 0, 1) := by decide +kernel
theorem dX7_pipe_43 : decode cX7_pipe 43 = .ok (.iload_n 2, 1) := by decide +kernel
theorem dX7_pipe_44 : decode cX7_pipe 44 = .ok (.iconst 3, 1) := by decide +kernel
theorem dX7_pipe_45 : decode cX7_pipe 45 = .ok (.invokevirtual 91, 3) := by decide +kernel
theorem dX7_pipe_48 : decode cX7_pipe 48 = .ok (.invokevirtual 107, 3) := by decide +kernel
theorem dX7_pipe_51 : decode cX7_pipe 51 = .ok (.istore 4, 2) := by decide +kernel
theorem dX7_pipe_53 : decode cX7_pipe 53 = .ok (.iload_n 3, 1) := by decide +kernel
theorem dX7_pipe_54 : decode cX7_pipe 54 = .ok (.iload 4, 2) := by decide +kernel
theorem dX7_pipe_56 : decode cX7_pipe 56 = .ok (.if_icmp .ge 7, 3) := by decide +kernel
theorem dX7_pipe_59 : decode cX7_pipe 59 = .ok (.iload_n 3, 1) := by decide +kernel
theorem dX7_pipe_60 : decode cX7_pipe 60 = .ok (.goto 5, 3) := by decide +kernel
theorem dX7_pipe_63 : decode cX7_pipe 63 = .ok (.iload 4, 2) := by decide +kernel
theorem dX7_pipe_65 : decode cX7_pipe 65 = .ok (.ireturn, 1) := by decide +kernel
theorem dX7_counter_0 : decode cX7_counter 0 = .ok (.iload_n 1, 1) := by decide +kernel
theorem dX7_counter_1 : decode cX7_counter 1 = .ok (.iconst 0, 1) := by decide +kernel
theorem dX7_counter_2 : decode cX7_counter 2 = .ok (.sipush 1000, 3) := by decide +kernel
theorem dX7_counter_5 : decode cX7_counter 5 = .ok (.invokestatic 69, 3) := by decide +kernel
theorem dX7_counter_8 : decode cX7_counter 8 = .ok (.ifCond .eq 10, 3) := by decide +kernel
theorem dX7_counter_11 : decode cX7_counter 11 = .ok (.aload_n 0, 1) := by decide +kernel
theorem dX7_counter_12 : decode cX7_counter 12 = .ok (.invokevirtual 87, 3) := by decide +kernel
theorem dX7_counter_15 : decode cX7_counter 15 = .ok (.ifCond .ge 5, 3) := by decide +kernel
theorem dX7_counter_18 : decode cX7_counter 18 = .ok (.iconst (-1), 1) := by decide +kernel
theorem dX7_counter_19 : decode cX7_counter 19 = .ok (.ireturn, 1) := by decide +kernel
theorem dX7_counter_20 : decode cX7_counter 20 = .ok (.aload_n 0, 1) := by decide +kernel
theorem dX7_counter_21 : decode cX7_counter 21 = .ok (.invokevirtual 101, 3) := by decide +kernel
theorem dX7_counter_24 : decode cX7_counter 24 = .ok (.aload_n 0, 1) := by decide +kernel
theorem dX7_counter_25 : decode cX7_counter 25 = .ok (.aload_n 0, 1) := by decide +kernel
theorem dX7_counter_26 : decode cX7_counter 26 = .ok (.iconst 2, 1) := by decide +kernel
theorem dX7_counter_27 : decode cX7_counter 27 = .ok (.iload_n 1, 1) := by decide +kernel
theorem dX7_counter_28 : decode cX7_counter 28 = .ok (.iload_n 2, 1) := by decide +kernel
theorem dX7_counter_29 : decode cX7_counter 29 = .ok (.ifCond .eq 7, 3) := by decide +kernel
theorem dX7_counter_32 : decode cX7_counter 32 = .ok (.iconst 1, 1) := by decide +kernel
theorem dX7_counter_33 : decode cX7_counter 33 = .ok (.goto 4, 3) := by decide +kernel
theorem dX7_counter_36 : decode cX7_counter 36 = .ok (.iconst 0, 1) := by decide +kernel
theorem dX7_counter_37 : decode cX7_counter 37 = .ok (.iconst 0, 1) := by decide +kernel
theorem dX7_counter_38 : decode cX7_counter 38 = .ok (.invokevirtual 94, 3) := by decide +kernel
theorem dX7_counter_41 : decode cX7_counter 41 = .ok (.invokevirtual 107, 3) := by decide +kernel
theorem dX7_counter_44 : decode cX7_counter 44 = .ok (.ireturn, 1) := by decide +kernel
theorem dX7_timer_0 : decode cX7_timer 0 = .ok (.aload_n 0, 1) := by decide +kernel
theorem dX7_timer_1 : decode cX7_timer 1 = .ok (.invokevirtual 87, 3) := by decide +kernel
theorem dX7_timer_4 : decode cX7_timer 4 = .ok (.ifCond .ge 5, 3) := by decide +kernel
theorem dX7_timer_7 : decode cX7_timer 7 = .ok (.iconst (-1), 1) := by decide +kernel
theorem dX7_timer_8 : decode cX7_timer 8 = .ok (.ireturn, 1) := by decide +kernel
theorem dX7_timer_9 : decode cX7_timer 9 = .ok (.aload_n 0, 1) := by decide +kernel
theorem dX7_timer_10 : decode cX7_timer 10 = .ok (.invokevirtual 101, 3) := by decide +kernel
theorem dX7_timer_13 : decode cX7_timer 13 = .ok (.aload_n 0, 1) := by decide +kernel
theorem dX7_timer_14 : decode cX7_timer 14 = .ok (.aload_n 0, 1) := by decide +kernel
theorem dX7_timer_15 : decode cX7_timer 15 = .ok (.iconst 3, 1) := by decide +kernel
theorem dX7_timer_16 : decode cX7_timer 16 = .ok (.iconst 0, 1) := by decide +kernel
theorem dX7_timer_17 : decode cX7_timer 17 = .ok (.iconst (-1), 1) := by decide +kernel
theorem dX7_timer_18 : decode cX7_timer 18 = .ok (.iconst 0, 1) := by decide +kernel
theorem dX7_timer_19 : decode cX7_timer 19 = .ok (.invokevirtual 94, 3) := by decide +kernel
theorem dX7_timer_22 : decode cX7_timer 22 = .ok (.invokevirtual 107, 3) := by decide +kernel
theorem dX7_timer_25 : decode cX7_timer 25 = .ok (.ireturn, 1) := by decide +kernel
theorem dX7_set_0 : decode cX7_set 0 = .ok (.aload_n 0, 1) := by decide +kernel
theorem dX7_set_1 : decode cX7_set 1 = .ok (.invokevirtual 87, 3) := by decide +kernel
theorem dX7_set_4 : decode cX7_set 4 = .ok (.ifCond .ge 5, 3) := by decide +kernel
theorem dX7_set_7 : decode cX7_set 7 = .ok (.iconst (-1), 1) := by decide +kernel
theorem dX7_set_8 : decode cX7_set 8 = .ok (.ireturn, 1) := by decide +kernel
theorem dX7_set_9 : decode cX7_set 9 = .ok (.aload_n 0, 1) := by decide +kernel
theorem dX7_set_10 : decode cX7_set 10 = .ok (.invokevirtual 101, 3) := by decide +kernel
theorem dX7_set_13 : decode cX7_set 13 = .ok (.aload_n 0, 1) := by decide +kernel
theorem dX7_set_14 : decode cX7_set 14 = .ok (.aload_n 0, 1) := by decide +kernel
theorem dX7_set_15 : decode cX7_set 15 = .ok (.iconst 4, 1) := by decide +kernel
theorem dX7_set_16 : decode cX7_set 16 = .ok (.iconst 0, 1) := by decide +kernel
theorem dX7_set_17 : decode cX7_set 17 = .ok (.iconst 0, 1) := by decide +kernel
theorem dX7_set_18 : decode cX7_set 18 = .ok (.iconst 0, 1) := by decide +kernel
theorem dX7_set_19 : decode cX7_set 19 = .ok (.invokevirtual 94, 3) := by decide +kernel
theorem dX7_set_22 : decode cX7_set 22 = .ok (.invokevirtual 107, 3) := by decide +kernel
theorem dX7_set_25 : decode cX7_set 25 = .ok (.ireturn, 1) := by decide +kernel
theorem dX7_listener_0 : decode cX7_listener 0 = .ok (.iload_n 1, 1) := by decide +kernel
theorem dX7_listener_1 : decode cX7_listener 1 = .ok (.iconst 1, 1) := by decide +kernel
theorem dX7_listener_2 : decode cX7_listener 2 = .ok (.bipush 12, 2) := by decide +kernel
theorem dX7_listener_4 : decode cX7_listener 4 = .ok (.invokestatic 69, 3) := by decide +kernel
theorem dX7_listener_7 : decode cX7_listener 7 = .ok (.ifCond .eq 20, 3) := by decide +kernel
theorem dX7_listener_10 : decode cX7_listener 10 = .ok (.iload_n 2, 1) := by decide +kernel
theorem dX7_listener_11 : decode cX7_listener 11 = .ok (.iconst 1, 1) := by decide +kernel
theorem dX7_listener_12 : decode cX7_listener 12 = .ok (.bipush 100, 2) := by decide +kernel
theorem dX7_listener_14 : decode cX7_listener 14 = .ok (.invokestatic 69, 3) := by decide +kernel
theorem dX7_listener_17 : decode cX7_listener 17 = .ok (.ifCond .eq 10, 3) := by decide +kernel
theorem dX7_listener_20 : decode cX7_listener 20 = .ok (.aload_n 0, 1) := by decide +kernel
theorem dX7_listener_21 : decode cX7_listener 21 = .ok (.invokevirtual 87, 3) := by decide +kernel
theorem dX7_listener_24 : decode cX7_listener 24 = .ok (.ifCond .ge 5, 3) := by decide +kernel
theorem dX7_listener_27 : decode cX7_listener 27 = .ok (.iconst (-1), 1) := by decide +kernel
theorem dX7_listener_28 : decode cX7_listener 28 = .ok (.ireturn, 1) := by decide +kernel
theorem dX7_listener_29 : decode cX7_listener 29 = .ok (.aload_n 0, 1) := by decide +kernel
theorem dX7_listener_30 : decode cX7_listener 30 = .ok (.invokevirtual 101, 3) := by decide +kernel
theorem dX7_listener_33 : decode cX7_listener 33 = .ok (.aload_n 0, 1) := by decide +kernel
theorem dX7_listener_34 : decode cX7_listener 34 = .ok (.aload_n 0, 1) := by decide +kernel
theorem dX7_listener_35 : decode cX7_listener 35 = .ok (.iconst 5, 1) := by decide +kernel
theorem dX7_listener_36 : decode cX7_listener 36 = .ok (.iconst 0, 1) := by decide +kernel
theorem dX7_listener_37 : decode cX7_listener 37 = .ok (.iload_n 1, 1) := by decide +kernel
theorem dX7_listener_38 : decode cX7_listener 38 = .ok (.iload_n 2, 1) := by decide +kernel
theorem dX7_listener_39 : decode cX7_listener 39 = .ok (.invokevirtual 94, 3) := by decide +kernel
theorem dX7_listener_42 : decode cX7_listener 42 = .ok (.invokevirtual 107, 3) := by decide +kernel
theorem dX7_listener_45 : decode cX7_listener 45 = .ok (.ireturn, 1) := by decide +kernel
theorem dX7_twin_0 : decode cX7_twin 0 = .ok (.aload_n 0, 1) := by decide +kernel
theorem dX7_twin_1 : decode cX7_twin 1 = .ok (.iload_n 1, 1) := by decide +kernel
theorem dX7_twin_2 : decode cX7_twin 2 = .ok (.invokevirtual 73, 3) := by decide +kernel
theorem dX7_twin_5 : decode cX7_twin 5 = .ok (.ifCond .eq 10, 3) := by decide +kernel
theorem dX7_twin_8 : decode cX7_twin 8 = .ok (.aload_n 0, 1) := by decide +kernel
theorem dX7_twin_9 : decode cX7_twin 9 = .ok (.invokevirtual 87, 3) := by decide +kernel
theorem dX7_twin_12 : decode cX7_twin 12 = .ok (.ifCond .ge 5, 3) := by decide +kernel
theorem dX7_twin_15 : decode cX7_twin 15 = .ok (.iconst (-1), 1) := by decide +kernel
theorem dX7_twin_16 : decode cX7_twin 16 = .ok (.ireturn, 1) := by decide +kernel
theorem dX7_twin_17 : decode cX7_twin 17 = .ok (.aload_n 0, 1) := by decide +kernel
theorem dX7_twin_18 : decode cX7_twin 18 = .ok (.invokevirtual 101, 3) := by decide +kernel
theorem dX7_twin_21 : decode cX7_twin 21 = .ok (.aload_n 0, 1) := by decide +kernel
theorem dX7_twin_22 : decode cX7_twin 22 = .ok (.aload_n 0, 1) := by decide +kernel
theorem dX7_twin_23 : decode cX7_twin 23 = .ok (.getfield 7, 3) := by decide +kernel
theorem dX7_twin_26 : decode cX7_twin 26 = .ok (.iload_n 1, 1) := by decide +kernel
theorem dX7_twin_27 : decode cX7_twin 27 = .ok (.iaload, 1) := by decide +kernel
theorem dX7_twin_28 : decode cX7_twin 28 = .ok (.invokevirtual 107, 3) := by decide +kernel
theorem dX7_twin_31 : decode cX7_twin 31 = .ok (.ireturn, 1) := by decide +kernel
theorem dX7_waitingAt_0 : decode cX7_waitingAt 0 = .ok (.iconst 0, 1) := by decide +kernel
theorem dX7_waitingAt_1 : decode cX7_waitingAt 1 = .ok (.istore_n 2, 1) := by decide +kernel
theorem dX7_waitingAt_2 : decode cX7_waitingAt 2 = .ok (.iconst 0, 1) := by decide +kernel
theorem dX7_waitingAt_3 : decode cX7_waitingAt 3 = .ok (.istore_n 3, 1) := by decide +kernel
theorem dX7_waitingAt_4 : decode cX7_waitingAt 4 = .ok (.iload_n 3, 1) := by decide +kernel
theorem dX7_waitingAt_5 : decode cX7_waitingAt 5 = .ok (.bipush 28, 2) := by decide +kernel
theorem dX7_waitingAt_7 : decode cX7_waitingAt 7 = .ok (.if_icmp .ge 43, 3) := by decide +kernel
theorem dX7_waitingAt_10 : decode cX7_waitingAt 10 = .ok (.aload_n 0, 1) := by decide +kernel
theorem dX7_waitingAt_11 : decode cX7_waitingAt 11 = .ok (.iload_n 3, 1) := by decide +kernel
theorem dX7_waitingAt_12 : decode cX7_waitingAt 12 = .ok (.invokevirtual 77, 3) := by decide +kernel
theorem dX7_waitingAt_15 : decode cX7_waitingAt 15 = .ok (.ifCond .lt 29, 3) := by decide +kernel
theorem dX7_waitingAt_18 : decode cX7_waitingAt 18 = .ok (.aload_n 0, 1) := by decide +kernel
theorem dX7_waitingAt_19 : decode cX7_waitingAt 19 = .ok (.iload_n 3, 1) := by decide +kernel
theorem dX7_waitingAt_20 : decode cX7_waitingAt 20 = .ok (.iconst 4, 1) := by decide +kernel
theorem dX7_waitingAt_21 : decode cX7_waitingAt 21 = .ok (.invokevirtual 66, 3) := by decide +kernel
theorem dX7_waitingAt_24 : decode cX7_waitingAt 24 = .ok (.ifCond .lt 20, 3) := by decide +kernel
theorem dX7_waitingAt_27 : decode cX7_waitingAt 27 = .ok (.iload_n 1, 1) := by decide +kernel
theorem dX7_waitingAt_28 : decode cX7_waitingAt 28 = .ok (.ifCond .lt 13, 3) := by decide +kernel
theorem dX7_waitingAt_31 : decode cX7_waitingAt 31 = .ok (.aload_n 0, 1) := by decide +kernel
theorem dX7_waitingAt_32 : decode cX7_waitingAt 32 = .ok (.iload_n 3, 1) := by decide +kernel
theorem dX7_waitingAt_33 : decode cX7_waitingAt 33 = .ok (.iconst 4, 1) := by decide +kernel
theorem dX7_waitingAt_34 : decode cX7_waitingAt 34 = .ok (.invokevirtual 66, 3) := by decide +kernel
theorem dX7_waitingAt_37 : decode cX7_waitingAt 37 = .ok (.iload_n 1, 1) := by decide +kernel
theorem dX7_waitingAt_38 : decode cX7_waitingAt 38 = .ok (.if_icmp .ne 6, 3) := by decide +kernel
theorem dX7_waitingAt_41 : decode cX7_waitingAt 41 = .ok (.iinc 2 1, 3) := by decide +kernel
theorem dX7_waitingAt_44 : decode cX7_waitingAt 44 = .ok (.iinc 3 1, 3) := by decide +kernel
theorem dX7_waitingAt_47 : decode cX7_waitingAt 47 = .ok (.goto (-43), 3) := by decide +kernel
theorem dX7_waitingAt_50 : decode cX7_waitingAt 50 = .ok (.iload_n 2, 1) := by decide +kernel
theorem dX7_waitingAt_51 : decode cX7_waitingAt 51 = .ok (.ireturn, 1) := by decide +kernel
theorem dX7_longestWaiting_0 : decode cX7_longestWaiting 0 = .ok (.iconst (-1), 1) := by decide +kernel
theorem dX7_longestWaiting_1 : decode cX7_longestWaiting 1 = .ok (.istore_n 2, 1) := by decide +kernel
theorem dX7_longestWaiting_2 : decode cX7_longestWaiting 2 = .ok (.iconst 0, 1) := by decide +kernel
theorem dX7_longestWaiting_3 : decode cX7_longestWaiting 3 = .ok (.istore_n 3, 1) := by decide +kernel
theorem dX7_longestWaiting_4 : decode cX7_longestWaiting 4 = .ok (.iload_n 3, 1) := by decide +kernel
theorem dX7_longestWaiting_5 : decode cX7_longestWaiting 5 = .ok (.bipush 28, 2) := by decide +kernel
theorem dX7_longestWaiting_7 : decode cX7_longestWaiting 7 = .ok (.if_icmp .ge 51, 3) := by decide +kernel
theorem dX7_longestWaiting_10 : decode cX7_longestWaiting 10 = .ok (.aload_n 0, 1) := by decide +kernel
theorem dX7_longestWaiting_11 : decode cX7_longestWaiting 11 = .ok (.iload_n 3, 1) := by decide +kernel
theorem dX7_longestWaiting_12 : decode cX7_longestWaiting 12 = .ok (.invokevirtual 77, 3) := by decide +kernel
theorem dX7_longestWaiting_15 : decode cX7_longestWaiting 15 = .ok (.ifCond .lt 37, 3) := by decide +kernel
theorem dX7_longestWaiting_18 : decode cX7_longestWaiting 18 = .ok (.aload_n 0, 1) := by decide +kernel
theorem dX7_longestWaiting_19 : decode cX7_longestWaiting 19 = .ok (.iload_n 3, 1) := by decide +kernel
theorem dX7_longestWaiting_20 : decode cX7_longestWaiting 20 = .ok (.iconst 4, 1) := by decide +kernel
theorem dX7_longestWaiting_21 : decode cX7_longestWaiting 21 = .ok (.invokevirtual 66, 3) := by decide +kernel
theorem dX7_longestWaiting_24 : decode cX7_longestWaiting 24 = .ok (.iload_n 1, 1) := by decide +kernel
theorem dX7_longestWaiting_25 : decode cX7_longestWaiting 25 = .ok (.if_icmp .eq 6, 3) := by decide +kernel
theorem dX7_longestWaiting_28 : decode cX7_longestWaiting 28 = .ok (.goto 24, 3) := by decide +kernel
theorem dX7_longestWaiting_31 : decode cX7_longestWaiting 31 = .ok (.iload_n 2, 1) := by decide +kernel
theorem dX7_longestWaiting_32 : decode cX7_longestWaiting 32 = .ok (.ifCond .lt 18, 3) := by decide +kernel
theorem dX7_longestWaiting_35 : decode cX7_longestWaiting 35 = .ok (.aload_n 0, 1) := by decide +kernel
theorem dX7_longestWaiting_36 : decode cX7_longestWaiting 36 = .ok (.iload_n 3, 1) := by decide +kernel
theorem dX7_longestWaiting_37 : decode cX7_longestWaiting 37 = .ok (.iconst 5, 1) := by decide +kernel
theorem dX7_longestWaiting_38 : decode cX7_longestWaiting 38 = .ok (.invokevirtual 66, 3) := by decide +kernel
theorem dX7_longestWaiting_41 : decode cX7_longestWaiting 41 = .ok (.aload_n 0, 1) := by decide +kernel
theorem dX7_longestWaiting_42 : decode cX7_longestWaiting 42 = .ok (.iload_n 2, 1) := by decide +kernel
theorem dX7_longestWaiting_43 : decode cX7_longestWaiting 43 = .ok (.iconst 5, 1) := by decide +kernel
theorem dX7_longestWaiting_44 : decode cX7_longestWaiting 44 = .ok (.invokevirtual 66, 3) := by decide +kernel
theorem dX7_longestWaiting_47 : decode cX7_longestWaiting 47 = .ok (.if_icmp .ge 5, 3) := by decide +kernel
theorem dX7_longestWaiting_50 : decode cX7_longestWaiting 50 = .ok (.iload_n 3, 1) := by decide +kernel
theorem dX7_longestWaiting_51 : decode cX7_longestWaiting 51 = .ok (.istore_n 2, 1) := by decide +kernel
theorem dX7_longestWaiting_52 : decode cX7_longestWaiting 52 = .ok (.iinc 3 1, 3) := by decide +kernel
theorem dX7_longestWaiting_55 : decode cX7_longestWaiting 55 = .ok (.goto (-51), 3) := by decide +kernel
theorem dX7_longestWaiting_58 : decode cX7_longestWaiting 58 = .ok (.iload_n 2, 1) := by decide +kernel
theorem dX7_longestWaiting_59 : decode cX7_longestWaiting 59 = .ok (.ireturn, 1) := by decide +kernel
theorem dX7_goConnect_0 : decode cX7_goConnect 0 = .ok (.aload_n 0, 1) := by decide +kernel
theorem dX7_goConnect_1 : decode cX7_goConnect 1 = .ok (.iload_n 1, 1) := by decide +kernel
theorem dX7_goConnect_2 : decode cX7_goConnect 2 = .ok (.iconst 5, 1) := by decide +kernel
theorem dX7_goConnect_3 : decode cX7_goConnect 3 = .ok (.invokevirtual 110, 3) := by decide +kernel
theorem dX7_goConnect_6 : decode cX7_goConnect 6 = .ok (.ifCond .eq 10, 3) := by decide +kernel
theorem dX7_goConnect_9 : decode cX7_goConnect 9 = .ok (.aload_n 0, 1) := by decide +kernel
theorem dX7_goConnect_10 : decode cX7_goConnect 10 = .ok (.invokevirtual 87, 3) := by decide +kernel
theorem dX7_goConnect_13 : decode cX7_goConnect 13 = .ok (.ifCond .ge 5, 3) := by decide +kernel
theorem dX7_goConnect_16 : decode cX7_goConnect 16 = .ok (.iconst (-1), 1) := by decide +kernel
theorem dX7_goConnect_17 : decode cX7_goConnect 17 = .ok (.ireturn, 1) := by decide +kernel
theorem dX7_goConnect_18 : decode cX7_goConnect 18 = .ok (.aload_n 0, 1) := by decide +kernel
theorem dX7_goConnect_19 : decode cX7_goConnect 19 = .ok (.getfield 7, 3) := by decide +kernel
theorem dX7_goConnect_22 : decode cX7_goConnect 22 = .ok (.iload_n 1, 1) := by decide +kernel
theorem dX7_goConnect_23 : decode cX7_goConnect 23 = .ok (.iaload, 1) := by decide +kernel
theorem dX7_goConnect_24 : decode cX7_goConnect 24 = .ok (.istore_n 3, 1) := by decide +kernel
theorem dX7_goConnect_25 : decode cX7_goConnect 25 = .ok (.aload_n 0, 1) := by decide +kernel
theorem dX7_goConnect_26 : decode cX7_goConnect 26 = .ok (.iload_n 3, 1) := by decide +kernel
theorem dX7_goConnect_27 : decode cX7_goConnect 27 = .ok (.invokevirtual 114, 3) := by decide +kernel
theorem dX7_goConnect_30 : decode cX7_goConnect 30 = .ok (.aload_n 0, 1) := by decide +kernel
theorem dX7_goConnect_31 : decode cX7_goConnect 31 = .ok (.iload_n 3, 1) := by decide +kernel
theorem dX7_goConnect_32 : decode cX7_goConnect 32 = .ok (.iconst 2, 1) := by decide +kernel
theorem dX7_goConnect_33 : decode cX7_goConnect 33 = .ok (.invokevirtual 66, 3) := by decide +kernel
theorem dX7_goConnect_36 : decode cX7_goConnect 36 = .ok (.if_icmp .eq 13, 3) := by decide +kernel
theorem dX7_goConnect_39 : decode cX7_goConnect 39 = .ok (.aload_n 0, 1) := by decide +kernel
theorem dX7_goConnect_40 : decode cX7_goConnect 40 = .ok (.iconst (-1), 1) := by decide +kernel
theorem dX7_goConnect_41 : decode cX7_goConnect 41 = .ok (.invokevirtual 114, 3) := by decide +kernel
theorem dX7_goConnect_44 : decode cX7_goConnect 44 = .ok (.bipush 12, 2) := by decide +kernel
theorem dX7_goConnect_46 : decode cX7_goConnect 46 = .ok (.if_icmp .ne 6, 3) := by decide +kernel
theorem dX7_goConnect_49 : decode cX7_goConnect 49 = .ok (.bipush (-2), 2) := by decide +kernel
theorem dX7_goConnect_51 : decode cX7_goConnect 51 = .ok (.ireturn, 1) := by decide +kernel
theorem dX7_goConnect_52 : decode cX7_goConnect 52 = .ok (.iload_n 2, 1) := by decide +kernel
theorem dX7_goConnect_53 : decode cX7_goConnect 53 = .ok (.ifCond .eq 7, 3) := by decide +kernel
theorem dX7_goConnect_56 : decode cX7_goConnect 56 = .ok (.aload_n 0, 1) := by decide +kernel
theorem dX7_goConnect_57 : decode cX7_goConnect 57 = .ok (.invokevirtual 101, 3) := by decide +kernel
theorem dX7_goConnect_60 : decode cX7_goConnect 60 = .ok (.aload_n 0, 1) := by decide +kernel
theorem dX7_goConnect_61 : decode cX7_goConnect 61 = .ok (.aload_n 0, 1) := by decide +kernel
theorem dX7_goConnect_62 : decode cX7_goConnect 62 = .ok (.iload_n 3, 1) := by decide +kernel
theorem dX7_goConnect_63 : decode cX7_goConnect 63 = .ok (.iconst 3, 1) := by decide +kernel
theorem dX7_goConnect_64 : decode cX7_goConnect 64 = .ok (.invokevirtual 66, 3) := by decide +kernel
theorem dX7_goConnect_67 : decode cX7_goConnect 67 = .ok (.invokevirtual 104, 3) := by decide +kernel
theorem dX7_goConnect_70 : decode cX7_goConnect 70 = .ok (.istore 4, 2) := by decide +kernel
theorem dX7_goConnect_72 : decode cX7_goConnect 72 = .ok (.aload_n 0, 1) := by decide +kernel
theorem dX7_goConnect_73 : decode cX7_goConnect 73 = .ok (.getfield 7, 3) := by decide +kernel
theorem dX7_goConnect_76 : decode cX7_goConnect 76 = .ok (.aload_n 0, 1) := by decide +kernel
theorem dX7_goConnect_77 : decode cX7_goConnect 77 = .ok (.iload 4, 2) := by decide +kernel
theorem dX7_goConnect_79 : decode cX7_goConnect 79 = .ok (.iconst 2, 1) := by decide +kernel
theorem dX7_goConnect_80 : decode cX7_goConnect 80 = .ok (.invokevirtual 91, 3) := by decide +kernel
theorem dX7_goConnect_83 : decode cX7_goConnect 83 = .ok (.iconst 4, 1) := by decide +kernel
theorem dX7_goConnect_84 : decode cX7_goConnect 84 = .ok (.invokestatic 53, 3) := by decide +kernel
theorem dX7_goConnect_87 : decode cX7_goConnect 87 = .ok (.iload_n 3, 1) := by decide +kernel
theorem dX7_goConnect_88 : decode cX7_goConnect 88 = .ok (.iastore, 1) := by decide +kernel
theorem dX7_goConnect_89 : decode cX7_goConnect 89 = .ok (.aload_n 0, 1) := by decide +kernel
theorem dX7_goConnect_90 : decode cX7_goConnect 90 = .ok (.getfield 7, 3) := by decide +kernel
theorem dX7_goConnect_93 : decode cX7_goConnect 93 = .ok (.aload_n 0, 1) := by decide +kernel
theorem dX7_goConnect_94 : decode cX7_goConnect 94 = .ok (.iload 4, 2) := by decide +kernel
theorem dX7_goConnect_96 : decode cX7_goConnect 96 = .ok (.iconst 2, 1) := by decide +kernel
theorem dX7_goConnect_97 : decode cX7_goConnect 97 = .ok (.invokevirtual 91, 3) := by decide +kernel
theorem dX7_goConnect_100 : decode cX7_goConnect 100 = .ok (.iconst 5, 1) := by decide +kernel
theorem dX7_goConnect_101 : decode cX7_goConnect 101 = .ok (.invokestatic 53, 3) := by decide +kernel
theorem dX7_goConnect_104 : decode cX7_goConnect 104 = .ok (.aload_n 0, 1) := by decide +kernel
theorem dX7_goConnect_105 : decode cX7_goConnect 105 = .ok (.invokevirtual 117, 3) := by decide +kernel
theorem dX7_goConnect_108 : decode cX7_goConnect 108 = .ok (.iastore, 1) := by decide +kernel
theorem dX7_goConnect_109 : decode cX7_goConnect 109 = .ok (.aload_n 0, 1) := by decide +kernel
theorem dX7_goConnect_110 : decode cX7_goConnect 110 = .ok (.aload_n 0, 1) := by decide +kernel
theorem dX7_goConnect_111 : decode cX7_goConnect 111 = .ok (.iload 4, 2) := by decide +kernel
theorem dX7_goConnect_113 : decode cX7_goConnect 113 = .ok (.iconst 3, 1) := by decide +kernel
theorem dX7_goConnect_114 : decode cX7_goConnect 114 = .ok (.invokevirtual 91, 3) := by decide +kernel
theorem dX7_goConnect_117 : decode cX7_goConnect 117 = .ok (.invokevirtual 107, 3) := by decide +kernel
theorem dX7_goConnect_120 : decode cX7_goConnect 120 = .ok (.istore 5, 2) := by decide +kernel
theorem dX7_goConnect_122 : decode cX7_goConnect 122 = .ok (.aload_n 0, 1) := by decide +kernel
theorem dX7_goConnect_123 : decode cX7_goConnect 123 = .ok (.iload_n 3, 1) := by decide +kernel
theorem dX7_goConnect_124 : decode cX7_goConnect 124 = .ok (.iconst 1, 1) := by decide +kernel
theorem dX7_goConnect_125 : decode cX7_goConnect 125 = .ok (.invokevirtual 120, 3) := by decide +kernel
theorem dX7_goConnect_128 : decode cX7_goConnect 128 = .ok (.iload 5, 2) := by decide +kernel
theorem dX7_goConnect_130 : decode cX7_goConnect 130 = .ok (.ireturn, 1) := by decide +kernel
theorem dX7_goAccept_0 : decode cX7_goAccept 0 = .ok (.aload_n 0, 1) := by decide +kernel
theorem dX7_goAccept_1 : decode cX7_goAccept 1 = .ok (.iload_n 1, 1) := by decide +kernel
theorem dX7_goAccept_2 : decode cX7_goAccept 2 = .ok (.iconst 5, 1) := by decide +kernel
theorem dX7_goAccept_3 : decode cX7_goAccept 3 = .ok (.invokevirtual 110, 3) := by decide +kernel
theorem dX7_goAccept_6 : decode cX7_goAccept 6 = .ok (.ifCond .eq 10, 3) := by decide +kernel
theorem dX7_goAccept_9 : decode cX7_goAccept 9 = .ok (.aload_n 0, 1) := by decide +kernel
theorem dX7_goAccept_10 : decode cX7_goAccept 10 = .ok (.invokevirtual 87, 3) := by decide +kernel
theorem dX7_goAccept_13 : decode cX7_goAccept 13 = .ok (.ifCond .ge 5, 3) := by decide +kernel
theorem dX7_goAccept_16 : decode cX7_goAccept 16 = .ok (.iconst (-1), 1) := by decide +kernel
theorem dX7_goAccept_17 : decode cX7_goAccept 17 = .ok (.ireturn, 1) := by decide +kernel
theorem dX7_goAccept_18 : decode cX7_goAccept 18 = .ok (.aload_n 0, 1) := by decide +kernel
theorem dX7_goAccept_19 : decode cX7_goAccept 19 = .ok (.aload_n 0, 1) := by decide +kernel
theorem dX7_goAccept_20 : decode cX7_goAccept 20 = .ok (.getfield 7, 3) := by decide +kernel
theorem dX7_goAccept_23 : decode cX7_goAccept 23 = .ok (.iload_n 1, 1) := by decide +kernel
theorem dX7_goAccept_24 : decode cX7_goAccept 24 = .ok (.iaload, 1) := by decide +kernel
theorem dX7_goAccept_25 : decode cX7_goAccept 25 = .ok (.invokevirtual 124, 3) := by decide +kernel
theorem dX7_goAccept_28 : decode cX7_goAccept 28 = .ok (.istore_n 3, 1) := by decide +kernel
theorem dX7_goAccept_29 : decode cX7_goAccept 29 = .ok (.iload_n 3, 1) := by decide +kernel
theorem dX7_goAccept_30 : decode cX7_goAccept 30 = .ok (.ifCond .ge 6, 3) := by decide +kernel
theorem dX7_goAccept_33 : decode cX7_goAccept 33 = .ok (.bipush (-2), 2) := by decide +kernel
theorem dX7_goAccept_35 : decode cX7_goAccept 35 = .ok (.ireturn, 1) := by decide +kernel
theorem dX7_goAccept_36 : decode cX7_goAccept 36 = .ok (.iload_n 2, 1) := by decide +kernel
theorem dX7_goAccept_37 : decode cX7_goAccept 37 = .ok (.ifCond .eq 7, 3) := by decide +kernel
theorem dX7_goAccept_40 : decode cX7_goAccept 40 = .ok (.aload_n 0, 1) := by decide +kernel
theorem dX7_goAccept_41 : decode cX7_goAccept 41 = .ok (.invokevirtual 101, 3) := by decide +kernel
theorem dX7_goAccept_44 : decode cX7_goAccept 44 = .ok (.aload_n 0, 1) := by decide +kernel
theorem dX7_goAccept_45 : decode cX7_goAccept 45 = .ok (.getfield 7, 3) := by decide +kernel
theorem dX7_goAccept_48 : decode cX7_goAccept 48 = .ok (.iload_n 3, 1) := by decide +kernel
theorem dX7_goAccept_49 : decode cX7_goAccept 49 = .ok (.iconst 4, 1) := by decide +kernel
theorem dX7_goAccept_50 : decode cX7_goAccept 50 = .ok (.invokestatic 53, 3) := by decide +kernel
theorem dX7_goAccept_53 : decode cX7_goAccept 53 = .ok (.iconst (-1), 1) := by decide +kernel
theorem dX7_goAccept_54 : decode cX7_goAccept 54 = .ok (.iastore, 1) := by decide +kernel
theorem dX7_goAccept_55 : decode cX7_goAccept 55 = .ok (.aload_n 0, 1) := by decide +kernel
theorem dX7_goAccept_56 : decode cX7_goAccept 56 = .ok (.iload_n 3, 1) := by decide +kernel
theorem dX7_goAccept_57 : decode cX7_goAccept 57 = .ok (.invokevirtual 107, 3) := by decide +kernel
theorem dX7_goAccept_60 : decode cX7_goAccept 60 = .ok (.ireturn, 1) := by decide +kernel
theorem dX7_connect_0 : decode cX7_connect 0 = .ok (.aload_n 0, 1) := by decide +kernel
theorem dX7_connect_1 : decode cX7_connect 1 = .ok (.iload_n 1, 1) := by decide +kernel
theorem dX7_connect_2 : decode cX7_connect 2 = .ok (.iconst 1, 1) := by decide +kernel
theorem dX7_connect_3 : decode cX7_connect 3 = .ok (.invokevirtual 127, 3) := by decide +kernel
theorem dX7_connect_6 : decode cX7_connect 6 = .ok (.ireturn, 1) := by decide +kernel
theorem dX7_accept_0 : decode cX7_accept 0 = .ok (.aload_n 0, 1) := by decide +kernel
theorem dX7_accept_1 : decode cX7_accept 1 = .ok (.iload_n 1, 1) := by decide +kernel
theorem dX7_accept_2 : decode cX7_accept 2 = .ok (.iconst 1, 1) := by decide +kernel
theorem dX7_accept_3 : decode cX7_accept 3 = .ok (.invokevirtual 131, 3) := by decide +kernel
theorem dX7_accept_6 : decode cX7_accept 6 = .ok (.ireturn, 1) := by decide +kernel
theorem dX7_readyPlain_0 : decode cX7_readyPlain 0 = .ok (.aload_n 0, 1) := by decide +kernel
theorem dX7_readyPlain_1 : decode cX7_readyPlain 1 = .ok (.iload_n 1, 1) := by decide +kernel
theorem dX7_readyPlain_2 : decode cX7_readyPlain 2 = .ok (.iconst 1, 1) := by decide +kernel
theorem dX7_readyPlain_3 : decode cX7_readyPlain 3 = .ok (.invokevirtual 66, 3) := by decide +kernel
theorem dX7_readyPlain_6 : decode cX7_readyPlain 6 = .ok (.istore_n 2, 1) := by decide +kernel
theorem dX7_readyPlain_7 : decode cX7_readyPlain 7 = .ok (.aload_n 0, 1) := by decide +kernel
theorem dX7_readyPlain_8 : decode cX7_readyPlain 8 = .ok (.iload_n 1, 1) := by decide +kernel
theorem dX7_readyPlain_9 : decode cX7_readyPlain 9 = .ok (.invokevirtual 77, 3) := by decide +kernel
theorem dX7_readyPlain_12 : decode cX7_readyPlain 12 = .ok (.tableswitch 150 0 5 #[40, 69, 103, 126, 150, 136], 40) := by decide +kernel
theorem dX7_readyPlain_52 : decode cX7_readyPlain 52 = .ok (.aload_n 0, 1) := by decide +kernel
theorem dX7_readyPlain_53 : decode cX7_readyPlain 53 = .ok (.iload_n 2, 1) := by decide +kernel
theorem dX7_readyPlain_54 : decode cX7_readyPlain 54 = .ok (.iconst 1, 1) := by decide +kernel
theorem dX7_readyPlain_55 : decode cX7_readyPlain 55 = .ok (.invokevirtual 91, 3) := by decide +kernel
theorem dX7_readyPlain_58 : decode cX7_readyPlain 58 = .ok (.ifCond .le 7, 3) := by decide +kernel
theorem dX7_readyPlain_61 : decode cX7_readyPlain 61 = .ok (.iconst 1, 1) := by decide +kernel
theorem dX7_readyPlain_62 : decode cX7_readyPlain 62 = .ok (.goto 4, 3) := by decide +kernel
theorem dX7_readyPlain_65 : decode cX7_readyPlain 65 = .ok (.iconst 0, 1) := by decide +kernel
theorem dX7_readyPlain_66 : decode cX7_readyPlain 66 = .ok (.aload_n 0, 1) := by decide +kernel
theorem dX7_readyPlain_67 : decode cX7_readyPlain 67 = .ok (.iload_n 1, 1) := by decide +kernel
theorem dX7_readyPlain_68 : decode cX7_readyPlain 68 = .ok (.invokevirtual 134, 3) := by decide +kernel
theorem dX7_readyPlain_71 : decode cX7_readyPlain 71 = .ok (.ifCond .ge 7, 3) := by decide +kernel
theorem dX7_readyPlain_74 : decode cX7_readyPlain 74 = .ok (.iconst 4, 1) := by decide +kernel
theorem dX7_readyPlain_75 : decode cX7_readyPlain 75 = .ok (.goto 4, 3) := by decide +kernel
theorem dX7_readyPlain_78 : decode cX7_readyPlain 78 = .ok (.iconst 0, 1) := by decide +kernel
theorem dX7_readyPlain_79 : decode cX7_readyPlain 79 = .ok (.ior, 1) := by decide +kernel
theorem dX7_readyPlain_80 : decode cX7_readyPlain 80 = .ok (.ireturn, 1) := by decide +kernel
theorem dX7_readyPlain_81 : decode cX7_readyPlain 81 = .ok (.aload_n 0, 1) := by decide +kernel
theorem dX7_readyPlain_82 : decode cX7_readyPlain 82 = .ok (.iload_n 1, 1) := by decide +kernel
theorem dX7_readyPlain_83 : decode cX7_readyPlain 83 = .ok (.invokevirtual 134, 3) := by decide +kernel
theorem dX7_readyPlain_86 : decode cX7_readyPlain 86 = .ok (.ifCond .ge 8, 3) := by decide +kernel
theorem dX7_readyPlain_89 : decode cX7_readyPlain 89 = .ok (.bipush 8, 2) := by decide +kernel
theorem dX7_readyPlain_91 : decode cX7_readyPlain 91 = .ok (.goto 23, 3) := by decide +kernel
theorem dX7_readyPlain_94 : decode cX7_readyPlain 94 = .ok (.aload_n 0, 1) := by decide +kernel
theorem dX7_readyPlain_95 : decode cX7_readyPlain 95 = .ok (.iload_n 2, 1) := by decide +kernel
theorem dX7_readyPlain_96 : decode cX7_readyPlain 96 = .ok (.iconst 1, 1) := by decide +kernel
theorem dX7_readyPlain_97 : decode cX7_readyPlain 97 = .ok (.invokevirtual 91, 3) := by decide +kernel
theorem dX7_readyPlain_100 : decode cX7_readyPlain 100 = .ok (.aload_n 0, 1) := by decide +kernel
theorem dX7_readyPlain_101 : decode cX7_readyPlain 101 = .ok (.iload_n 2, 1) := by decide +kernel
theorem dX7_readyPlain_102 : decode cX7_readyPlain 102 = .ok (.iconst 0, 1) := by decide +kernel
theorem dX7_readyPlain_103 : decode cX7_readyPlain 103 = .ok (.invokevirtual 91, 3) := by decide +kernel
theorem dX7_readyPlain_106 : decode cX7_readyPlain 106 = .ok (.if_icmp .ge 7, 3) := by decide +kernel
theorem dX7_readyPlain_109 : decode cX7_readyPlain 109 = .ok (.iconst 2, 1) := by decide +kernel
theorem dX7_readyPlain_110 : decode cX7_readyPlain 110 = .ok (.goto 4, 3) := by decide +kernel
theorem dX7_readyPlain_113 : decode cX7_readyPlain 113 = .ok (.iconst 0, 1) := by decide +kernel
theorem dX7_readyPlain_114 : decode cX7_readyPlain 114 = .ok (.ireturn, 1) := by decide +kernel
theorem dX7_readyPlain_115 : decode cX7_readyPlain 115 = .ok (.iload_n 2, 1) := by decide +kernel
theorem dX7_readyPlain_116 : decode cX7_readyPlain 116 = .ok (.ifCond .le 7, 3) := by decide +kernel
theorem dX7_readyPlain_119 : decode cX7_readyPlain 119 = .ok (.iconst 1, 1) := by decide +kernel
theorem dX7_readyPlain_120 : decode cX7_readyPlain 120 = .ok (.goto 4, 3) := by decide +kernel
theorem dX7_readyPlain_123 : decode cX7_readyPlain 123 = .ok (.iconst 0, 1) := by decide +kernel
theorem dX7_readyPlain_124 : decode cX7_readyPlain 124 = .ok (.iload_n 2, 1) := by decide +kernel
theorem dX7_readyPlain_125 : decode cX7_readyPlain 125 = .ok (.sipush 1000, 3) := by decide +kernel
theorem dX7_readyPlain_128 : decode cX7_readyPlain 128 = .ok (.if_icmp .ge 7, 3) := by decide +kernel
theorem dX7_readyPlain_131 : decode cX7_readyPlain 131 = .ok (.iconst 2, 1) := by decide +kernel
theorem dX7_readyPlain_132 : decode cX7_readyPlain 132 = .ok (.goto 4, 3) := by decide +kernel
theorem dX7_readyPlain_135 : decode cX7_readyPlain 135 = .ok (.iconst 0, 1) := by decide +kernel
theorem dX7_readyPlain_136 : decode cX7_readyPlain 136 = .ok (.ior, 1) := by decide +kernel
theorem dX7_readyPlain_137 : decode cX7_readyPlain 137 = .ok (.ireturn, 1) := by decide +kernel
theorem dX7_readyPlain_138 : decode cX7_readyPlain 138 = .ok (.iload_n 2, 1) := by decide +kernel
theorem dX7_readyPlain_139 : decode cX7_readyPlain 139 = .ok (.ifCond .le 7, 3) := by decide +kernel
theorem dX7_readyPlain_142 : decode cX7_readyPlain 142 = .ok (.iconst 1, 1) := by decide +kernel
theorem dX7_readyPlain_143 : decode cX7_readyPlain 143 = .ok (.goto 4, 3) := by decide +kernel
theorem dX7_readyPlain_146 : decode cX7_readyPlain 146 = .ok (.iconst 0, 1) := by decide +kernel
theorem dX7_readyPlain_147 : decode cX7_readyPlain 147 = .ok (.ireturn, 1) := by decide +kernel
theorem dX7_readyPlain_148 : decode cX7_readyPlain 148 = .ok (.aload_n 0, 1) := by decide +kernel
theorem dX7_readyPlain_149 : decode cX7_readyPlain 149 = .ok (.iload_n 1, 1) := by decide +kernel
theorem dX7_readyPlain_150 : decode cX7_readyPlain 150 = .ok (.invokevirtual 114, 3) := by decide +kernel
theorem dX7_readyPlain_153 : decode cX7_readyPlain 153 = .ok (.ifCond .le 7, 3) := by decide +kernel
theorem dX7_readyPlain_156 : decode cX7_readyPlain 156 = .ok (.iconst 1, 1) := by decide +kernel
theorem dX7_readyPlain_157 : decode cX7_readyPlain 157 = .ok (.goto 4, 3) := by decide +kernel
theorem dX7_readyPlain_160 : decode cX7_readyPlain 160 = .ok (.iconst 0, 1) := by decide +kernel
theorem dX7_readyPlain_161 : decode cX7_readyPlain 161 = .ok (.ireturn, 1) := by decide +kernel
theorem dX7_readyPlain_162 : decode cX7_readyPlain 162 = .ok (.iconst 0, 1) := by decide +kernel
theorem dX7_readyPlain_163 : decode cX7_readyPlain 163 = .ok (.ireturn, 1) := by decide +kernel
theorem dX7_bitsOf_0 : decode cX7_bitsOf 0 = .ok (.aload_n 0, 1) := by decide +kernel
theorem dX7_bitsOf_1 : decode cX7_bitsOf 1 = .ok (.iload_n 1, 1) := by decide +kernel
theorem dX7_bitsOf_2 : decode cX7_bitsOf 2 = .ok (.iconst 3, 1) := by decide +kernel
theorem dX7_bitsOf_3 : decode cX7_bitsOf 3 = .ok (.invokevirtual 81, 3) := by decide +kernel
theorem dX7_bitsOf_6 : decode cX7_bitsOf 6 = .ok (.iconst 4, 1) := by decide +kernel
theorem dX7_bitsOf_7 : decode cX7_bitsOf 7 = .ok (.ior, 1) := by decide +kernel
theorem dX7_bitsOf_8 : decode cX7_bitsOf 8 = .ok (.bipush 8, 2) := by decide +kernel
theorem dX7_bitsOf_10 : decode cX7_bitsOf 10 = .ok (.ior, 1) := by decide +kernel
theorem dX7_bitsOf_11 : decode cX7_bitsOf 11 = .ok (.ireturn, 1) := by decide +kernel
theorem dX7_isTrue_0 : decode cX7_isTrue 0 = .ok (.aload_n 0, 1) := by decide +kernel
theorem dX7_isTrue_1 : decode cX7_isTrue 1 = .ok (.iload_n 1, 1) := by decide +kernel
theorem dX7_isTrue_2 : decode cX7_isTrue 2 = .ok (.iconst 5, 1) := by decide +kernel
theorem dX7_isTrue_3 : decode cX7_isTrue 3 = .ok (.invokevirtual 81, 3) := by decide +kernel
theorem dX7_isTrue_6 : decode cX7_isTrue 6 = .ok (.iconst 1, 1) := by decide +kernel
theorem dX7_isTrue_7 : decode cX7_isTrue 7 = .ok (.if_icmp .ne 27, 3) := by decide +kernel
theorem dX7_isTrue_10 : decode cX7_isTrue 10 = .ok (.aload_n 0, 1) := by decide +kernel
theorem dX7_isTrue_11 : decode cX7_isTrue 11 = .ok (.getfield 13, 3) := by decide +kernel
theorem dX7_isTrue_14 : decode cX7_isTrue 14 = .ok (.aload_n 0, 1) := by decide +kernel
theorem dX7_isTrue_15 : decode cX7_isTrue 15 = .ok (.iload_n 1, 1) := by decide +kernel
theorem dX7_isTrue_16 : decode cX7_isTrue 16 = .ok (.iconst 1, 1) := by decide +kernel
theorem dX7_isTrue_17 : decode cX7_isTrue 17 = .ok (.invokevirtual 81, 3) := by decide +kernel
theorem dX7_isTrue_20 : decode cX7_isTrue 20 = .ok (.iaload, 1) := by decide +kernel
theorem dX7_isTrue_21 : decode cX7_isTrue 21 = .ok (.aload_n 0, 1) := by decide +kernel
theorem dX7_isTrue_22 : decode cX7_isTrue 22 = .ok (.iload_n 1, 1) := by decide +kernel
theorem dX7_isTrue_23 : decode cX7_isTrue 23 = .ok (.invokevirtual 137, 3) := by decide +kernel
theorem dX7_isTrue_26 : decode cX7_isTrue 26 = .ok (.iand, 1) := by decide +kernel
theorem dX7_isTrue_27 : decode cX7_isTrue 27 = .ok (.ifCond .eq 7, 3) := by decide +kernel
theorem dX7_isTrue_30 : decode cX7_isTrue 30 = .ok (.iconst 1, 1) := by decide +kernel
theorem dX7_isTrue_31 : decode cX7_isTrue 31 = .ok (.goto 4, 3) := by decide +kernel
theorem dX7_isTrue_34 : decode cX7_isTrue 34 = .ok (.iconst 0, 1) := by decide +kernel
theorem dX7_isTrue_35 : decode cX7_isTrue 35 = .ok (.ireturn, 1) := by decide +kernel
theorem dX7_showsOf_0 : decode cX7_showsOf 0 = .ok (.iconst 0, 1) := by decide +kernel
theorem dX7_showsOf_1 : decode cX7_showsOf 1 = .ok (.istore_n 2, 1) := by decide +kernel
theorem dX7_showsOf_2 : decode cX7_showsOf 2 = .ok (.iconst 0, 1) := by decide +kernel
theorem dX7_showsOf_3 : decode cX7_showsOf 3 = .ok (.istore_n 3, 1) := by decide +kernel
theorem dX7_showsOf_4 : decode cX7_showsOf 4 = .ok (.iload_n 3, 1) := by decide +kernel
theorem dX7_showsOf_5 : decode cX7_showsOf 5 = .ok (.bipush 24, 2) := by decide +kernel
theorem dX7_showsOf_7 : decode cX7_showsOf 7 = .ok (.if_icmp .ge 40, 3) := by decide +kernel
theorem dX7_showsOf_10 : decode cX7_showsOf 10 = .ok (.aload_n 0, 1) := by decide +kernel
theorem dX7_showsOf_11 : decode cX7_showsOf 11 = .ok (.iload_n 3, 1) := by decide +kernel
theorem dX7_showsOf_12 : decode cX7_showsOf 12 = .ok (.iconst 0, 1) := by decide +kernel
theorem dX7_showsOf_13 : decode cX7_showsOf 13 = .ok (.invokevirtual 81, 3) := by decide +kernel
theorem dX7_showsOf_16 : decode cX7_showsOf 16 = .ok (.iload_n 1, 1) := by decide +kernel
theorem dX7_showsOf_17 : decode cX7_showsOf 17 = .ok (.if_icmp .ne 24, 3) := by decide +kernel
theorem dX7_showsOf_20 : decode cX7_showsOf 20 = .ok (.aload_n 0, 1) := by decide +kernel
theorem dX7_showsOf_21 : decode cX7_showsOf 21 = .ok (.iload_n 3, 1) := by decide +kernel
theorem dX7_showsOf_22 : decode cX7_showsOf 22 = .ok (.bipush 7, 2) := by decide +kernel
theorem dX7_showsOf_24 : decode cX7_showsOf 24 = .ok (.invokevirtual 81, 3) := by decide +kernel
theorem dX7_showsOf_27 : decode cX7_showsOf 27 = .ok (.ifCond .le 14, 3) := by decide +kernel
theorem dX7_showsOf_30 : decode cX7_showsOf 30 = .ok (.aload_n 0, 1) := by decide +kernel
theorem dX7_showsOf_31 : decode cX7_showsOf 31 = .ok (.iload_n 3, 1) := by decide +kernel
theorem dX7_showsOf_32 : decode cX7_showsOf 32 = .ok (.invokevirtual 140, 3) := by decide +kernel
theorem dX7_showsOf_35 : decode cX7_showsOf 35 = .ok (.ifCond .eq 6, 3) := by decide +kernel
theorem dX7_showsOf_38 : decode cX7_showsOf 38 = .ok (.iinc 2 1, 3) := by decide +kernel
theorem dX7_showsOf_41 : decode cX7_showsOf 41 = .ok (.iinc 3 1, 3) := by decide +kernel
theorem dX7_showsOf_44 : decode cX7_showsOf 44 = .ok (.goto (-40), 3) := by decide +kernel
theorem dX7_showsOf_47 : decode cX7_showsOf 47 = .ok (.iload_n 2, 1) := by decide +kernel
theorem dX7_showsOf_48 : decode cX7_showsOf 48 = .ok (.ireturn, 1) := by decide +kernel
theorem dX7_layReady_0 : decode cX7_layReady 0 = .ok (.iconst 0, 1) := by decide +kernel
theorem dX7_layReady_1 : decode cX7_layReady 1 = .ok (.istore_n 1, 1) := by decide +kernel
theorem dX7_layReady_2 : decode cX7_layReady 2 = .ok (.iload_n 1, 1) := by decide +kernel
theorem dX7_layReady_3 : decode cX7_layReady 3 = .ok (.bipush 28, 2) := by decide +kernel
theorem dX7_layReady_5 : decode cX7_layReady 5 = .ok (.if_icmp .ge 32, 3) := by decide +kernel
theorem dX7_layReady_8 : decode cX7_layReady 8 = .ok (.aload_n 0, 1) := by decide +kernel
theorem dX7_layReady_9 : decode cX7_layReady 9 = .ok (.getfield 13, 3) := by decide +kernel
theorem dX7_layReady_12 : decode cX7_layReady 12 = .ok (.iload_n 1, 1) := by decide +kernel
theorem dX7_layReady_13 : decode cX7_layReady 13 = .ok (.aload_n 0, 1) := by decide +kernel
theorem dX7_layReady_14 : decode cX7_layReady 14 = .ok (.iload_n 1, 1) := by decide +kernel
theorem dX7_layReady_15 : decode cX7_layReady 15 = .ok (.invokevirtual 77, 3) := by decide +kernel
theorem dX7_layReady_18 : decode cX7_layReady 18 = .ok (.ifCond .ge 7, 3) := by decide +kernel
theorem dX7_layReady_21 : decode cX7_layReady 21 = .ok (.iconst 0, 1) := by decide +kernel
theorem dX7_layReady_22 : decode cX7_layReady 22 = .ok (.goto 8, 3) := by decide +kernel
theorem dX7_layReady_25 : decode cX7_layReady 25 = .ok (.aload_n 0, 1) := by decide +kernel
theorem dX7_layReady_26 : decode cX7_layReady 26 = .ok (.iload_n 1, 1) := by decide +kernel
theorem dX7_layReady_27 : decode cX7_layReady 27 = .ok (.invokevirtual 143, 3) := by decide +kernel
theorem dX7_layReady_30 : decode cX7_layReady 30 = .ok (.iastore, 1) := by decide +kernel
theorem dX7_layReady_31 : decode cX7_layReady 31 = .ok (.iinc 1 1, 3) := by decide +kernel
theorem dX7_layReady_34 : decode cX7_layReady 34 = .ok (.goto (-32), 3) := by decide +kernel
theorem dX7_layReady_37 : decode cX7_layReady 37 = .ok (.iconst 0, 1) := by decide +kernel
theorem dX7_layReady_38 : decode cX7_layReady 38 = .ok (.istore_n 1, 1) := by decide +kernel
theorem dX7_layReady_39 : decode cX7_layReady 39 = .ok (.iload_n 1, 1) := by decide +kernel
theorem dX7_layReady_40 : decode cX7_layReady 40 = .ok (.iconst 3, 1) := by decide +kernel
theorem dX7_layReady_41 : decode cX7_layReady 41 = .ok (.if_icmp .ge 51, 3) := by decide +kernel
theorem dX7_layReady_44 : decode cX7_layReady 44 = .ok (.iconst 0, 1) := by decide +kernel
theorem dX7_layReady_45 : decode cX7_layReady 45 = .ok (.istore_n 2, 1) := by decide +kernel
theorem dX7_layReady_46 : decode cX7_layReady 46 = .ok (.iload_n 2, 1) := by decide +kernel
theorem dX7_layReady_47 : decode cX7_layReady 47 = .ok (.bipush 28, 2) := by decide +kernel
theorem dX7_layReady_49 : decode cX7_layReady 49 = .ok (.if_icmp .ge 37, 3) := by decide +kernel
theorem dX7_layReady_52 : decode cX7_layReady 52 = .ok (.aload_n 0, 1) := by decide +kernel
theorem dX7_layReady_53 : decode cX7_layReady 53 = .ok (.iload_n 2, 1) := by decide +kernel
theorem dX7_layReady_54 : decode cX7_layReady 54 = .ok (.invokevirtual 77, 3) := by decide +kernel
theorem dX7_layReady_57 : decode cX7_layReady 57 = .ok (.iconst 4, 1) := by decide +kernel
theorem dX7_layReady_58 : decode cX7_layReady 58 = .ok (.if_icmp .ne 22, 3) := by decide +kernel
theorem dX7_layReady_61 : decode cX7_layReady 61 = .ok (.aload_n 0, 1) := by decide +kernel
theorem dX7_layReady_62 : decode cX7_layReady 62 = .ok (.getfield 13, 3) := by decide +kernel
theorem dX7_layReady_65 : decode cX7_layReady 65 = .ok (.iload_n 2, 1) := by decide +kernel
theorem dX7_layReady_66 : decode cX7_layReady 66 = .ok (.aload_n 0, 1) := by decide +kernel
theorem dX7_layReady_67 : decode cX7_layReady 67 = .ok (.iload_n 2, 1) := by decide +kernel
theorem dX7_layReady_68 : decode cX7_layReady 68 = .ok (.invokevirtual 146, 3) := by decide +kernel
theorem dX7_layReady_71 : decode cX7_layReady 71 = .ok (.ifCond .le 7, 3) := by decide +kernel
theorem dX7_layReady_74 : decode cX7_layReady 74 = .ok (.iconst 1, 1) := by decide +kernel
theorem dX7_layReady_75 : decode cX7_layReady 75 = .ok (.goto 4, 3) := by decide +kernel
theorem dX7_layReady_78 : decode cX7_layReady 78 = .ok (.iconst 0, 1) := by decide +kernel
theorem dX7_layReady_79 : decode cX7_layReady 79 = .ok (.iastore, 1) := by decide +kernel
theorem dX7_layReady_80 : decode cX7_layReady 80 = .ok (.iinc 2 1, 3) := by decide +kernel
theorem dX7_layReady_83 : decode cX7_layReady 83 = .ok (.goto (-37), 3) := by decide +kernel
theorem dX7_layReady_86 : decode cX7_layReady 86 = .ok (.iinc 1 1, 3) := by decide +kernel
theorem dX7_layReady_89 : decode cX7_layReady 89 = .ok (.goto (-50), 3) := by decide +kernel
theorem dX7_layReady_92 : decode cX7_layReady 92 = .ok (.return_, 1) := by decide +kernel
theorem dX7_list_0 : decode cX7_list 0 = .ok (.aload_n 0, 1) := by decide +kernel
theorem dX7_list_1 : decode cX7_list 1 = .ok (.iload_n 1, 1) := by decide +kernel
theorem dX7_list_2 : decode cX7_list 2 = .ok (.bipush 7, 2) := by decide +kernel
theorem dX7_list_4 : decode cX7_list 4 = .ok (.invokevirtual 81, 3) := by decide +kernel
theorem dX7_list_7 : decode cX7_list 7 = .ok (.ifCond .le 4, 3) := by decide +kernel
theorem dX7_list_10 : decode cX7_list 10 = .ok (.return_, 1) := by decide +kernel
theorem dX7_list_11 : decode cX7_list 11 = .ok (.aload_n 0, 1) := by decide +kernel
theorem dX7_list_12 : decode cX7_list 12 = .ok (.getfield 7, 3) := by decide +kernel
theorem dX7_list_15 : decode cX7_list 15 = .ok (.iload_n 1, 1) := by decide +kernel
theorem dX7_list_16 : decode cX7_list 16 = .ok (.bipush 7, 2) := by decide +kernel
theorem dX7_list_18 : decode cX7_list 18 = .ok (.invokestatic 60, 3) := by decide +kernel
theorem dX7_list_21 : decode cX7_list 21 = .ok (.aload_n 0, 1) := by decide +kernel
theorem dX7_list_22 : decode cX7_list 22 = .ok (.invokevirtual 117, 3) := by decide +kernel
theorem dX7_list_25 : decode cX7_list 25 = .ok (.iastore, 1) := by decide +kernel
theorem dX7_list_26 : decode cX7_list 26 = .ok (.aload_n 0, 1) := by decide +kernel
theorem dX7_list_27 : decode cX7_list 27 = .ok (.getfield 7, 3) := by decide +kernel
theorem dX7_list_30 : decode cX7_list 30 = .ok (.iload_n 1, 1) := by decide +kernel
theorem dX7_list_31 : decode cX7_list 31 = .ok (.bipush 10, 2) := by decide +kernel
theorem dX7_list_33 : decode cX7_list 33 = .ok (.invokestatic 60, 3) := by decide +kernel
theorem dX7_list_36 : decode cX7_list 36 = .ok (.iconst 0, 1) := by decide +kernel
theorem dX7_list_37 : decode cX7_list 37 = .ok (.iastore, 1) := by decide +kernel
theorem dX7_list_38 : decode cX7_list 38 = .ok (.return_, 1) := by decide +kernel
theorem dX7_listedBehind_0 : decode cX7_listedBehind 0 = .ok (.iconst (-1), 1) := by decide +kernel
theorem dX7_listedBehind_1 : decode cX7_listedBehind 1 = .ok (.istore_n 3, 1) := by decide +kernel
theorem dX7_listedBehind_2 : decode cX7_listedBehind 2 = .ok (.iconst 0, 1) := by decide +kernel
theorem dX7_listedBehind_3 : decode cX7_listedBehind 3 = .ok (.istore 4, 2) := by decide +kernel
theorem dX7_listedBehind_5 : decode cX7_listedBehind 5 = .ok (.iload 4, 2) := by decide +kernel
theorem dX7_listedBehind_7 : decode cX7_listedBehind 7 = .ok (.bipush 24, 2) := by decide +kernel
theorem dX7_listedBehind_9 : decode cX7_listedBehind 9 = .ok (.if_icmp .ge 60, 3) := by decide +kernel
theorem dX7_listedBehind_12 : decode cX7_listedBehind 12 = .ok (.aload_n 0, 1) := by decide +kernel
theorem dX7_listedBehind_13 : decode cX7_listedBehind 13 = .ok (.iload 4, 2) := by decide +kernel
theorem dX7_listedBehind_15 : decode cX7_listedBehind 15 = .ok (.iconst 0, 1) := by decide +kernel
theorem dX7_listedBehind_16 : decode cX7_listedBehind 16 = .ok (.invokevirtual 81, 3) := by decide +kernel
theorem dX7_listedBehind_19 : decode cX7_listedBehind 19 = .ok (.iload_n 1, 1) := by decide +kernel
theorem dX7_listedBehind_20 : decode cX7_listedBehind 20 = .ok (.if_icmp .ne 43, 3) := by decide +kernel
theorem dX7_listedBehind_23 : decode cX7_listedBehind 23 = .ok (.aload_n 0, 1) := by decide +kernel
theorem dX7_listedBehind_24 : decode cX7_listedBehind 24 = .ok (.iload 4, 2) := by decide +kernel
theorem dX7_listedBehind_26 : decode cX7_listedBehind 26 = .ok (.bipush 7, 2) := by decide +kernel
theorem dX7_listedBehind_28 : decode cX7_listedBehind 28 = .ok (.invokevirtual 81, 3) := by decide +kernel
theorem dX7_listedBehind_31 : decode cX7_listedBehind 31 = .ok (.iload_n 2, 1) := by decide +kernel
theorem dX7_listedBehind_32 : decode cX7_listedBehind 32 = .ok (.if_icmp .gt 6, 3) := by decide +kernel
theorem dX7_listedBehind_35 : decode cX7_listedBehind 35 = .ok (.goto 28, 3) := by decide +kernel
theorem dX7_listedBehind_38 : decode cX7_listedBehind 38 = .ok (.iload_n 3, 1) := by decide +kernel
theorem dX7_listedBehind_39 : decode cX7_listedBehind 39 = .ok (.ifCond .lt 21, 3) := by decide +kernel
theorem dX7_listedBehind_42 : decode cX7_listedBehind 42 = .ok (.aload_n 0, 1) := by decide +kernel
theorem dX7_listedBehind_43 : decode cX7_listedBehind 43 = .ok (.iload 4, 2) := by decide +kernel
theorem dX7_listedBehind_45 : decode cX7_listedBehind 45 = .ok (.bipush 7, 2) := by decide +kernel
theorem dX7_listedBehind_47 : decode cX7_listedBehind 47 = .ok (.invokevirtual 81, 3) := by decide +kernel
theorem dX7_listedBehind_50 : decode cX7_listedBehind 50 = .ok (.aload_n 0, 1) := by decide +kernel
theorem dX7_listedBehind_51 : decode cX7_listedBehind 51 = .ok (.iload_n 3, 1) := by decide +kernel
theorem dX7_listedBehind_52 : decode cX7_listedBehind 52 = .ok (.bipush 7, 2) := by decide +kernel
theorem dX7_listedBehind_54 : decode cX7_listedBehind 54 = .ok (.invokevirtual 81, 3) := by decide +kernel
theorem dX7_listedBehind_57 : decode cX7_listedBehind 57 = .ok (.if_icmp .ge 6, 3) := by decide +kernel
theorem dX7_listedBehind_60 : decode cX7_listedBehind 60 = .ok (.iload 4, 2) := by decide +kernel
theorem dX7_listedBehind_62 : decode cX7_listedBehind 62 = .ok (.istore_n 3, 1) := by decide +kernel
theorem dX7_listedBehind_63 : decode cX7_listedBehind 63 = .ok (.iinc 4 1, 3) := by decide +kernel
theorem dX7_listedBehind_66 : decode cX7_listedBehind 66 = .ok (.goto (-61), 3) := by decide +kernel
theorem dX7_listedBehind_69 : decode cX7_listedBehind 69 = .ok (.iload_n 3, 1) := by decide +kernel
theorem dX7_listedBehind_70 : decode cX7_listedBehind 70 = .ok (.ireturn, 1) := by decide +kernel
theorem dX7_addedBehind_0 : decode cX7_addedBehind 0 = .ok (.iconst (-1), 1) := by decide +kernel
theorem dX7_addedBehind_1 : decode cX7_addedBehind 1 = .ok (.istore 4, 2) := by decide +kernel
theorem dX7_addedBehind_3 : decode cX7_addedBehind 3 = .ok (.iconst 0, 1) := by decide +kernel
theorem dX7_addedBehind_4 : decode cX7_addedBehind 4 = .ok (.istore 5, 2) := by decide +kernel
theorem dX7_addedBehind_6 : decode cX7_addedBehind 6 = .ok (.iload 5, 2) := by decide +kernel
theorem dX7_addedBehind_8 : decode cX7_addedBehind 8 = .ok (.bipush 24, 2) := by decide +kernel
theorem dX7_addedBehind_10 : decode cX7_addedBehind 10 = .ok (.if_icmp .ge 80, 3) := by decide +kernel
theorem dX7_addedBehind_13 : decode cX7_addedBehind 13 = .ok (.aload_n 0, 1) := by decide +kernel
theorem dX7_addedBehind_14 : decode cX7_addedBehind 14 = .ok (.iload 5, 2) := by decide +kernel
theorem dX7_addedBehind_16 : decode cX7_addedBehind 16 = .ok (.invokevirtual 149, 3) := by decide +kernel
theorem dX7_addedBehind_19 : decode cX7_addedBehind 19 = .ok (.ifCond .eq 65, 3) := by decide +kernel
theorem dX7_addedBehind_22 : decode cX7_addedBehind 22 = .ok (.aload_n 0, 1) := by decide +kernel
theorem dX7_addedBehind_23 : decode cX7_addedBehind 23 = .ok (.iload 5, 2) := by decide +kernel
theorem dX7_addedBehind_25 : decode cX7_addedBehind 25 = .ok (.iload_n 2, 1) := by decide +kernel
theorem dX7_addedBehind_26 : decode cX7_addedBehind 26 = .ok (.ifCond .eq 7, 3) := by decide +kernel
theorem dX7_addedBehind_29 : decode cX7_addedBehind 29 = .ok (.iconst 0, 1) := by decide +kernel
theorem dX7_addedBehind_30 : decode cX7_addedBehind 30 = .ok (.goto 4, 3) := by decide +kernel
theorem dX7_addedBehind_33 : decode cX7_addedBehind 33 = .ok (.iconst 1, 1) := by decide +kernel
theorem dX7_addedBehind_34 : decode cX7_addedBehind 34 = .ok (.invokevirtual 81, 3) := by decide +kernel
theorem dX7_addedBehind_37 : decode cX7_addedBehind 37 = .ok (.iload_n 1, 1) := by decide +kernel
theorem dX7_addedBehind_38 : decode cX7_addedBehind 38 = .ok (.if_icmp .ne 46, 3) := by decide +kernel
theorem dX7_addedBehind_41 : decode cX7_addedBehind 41 = .ok (.aload_n 0, 1) := by decide +kernel
theorem dX7_addedBehind_42 : decode cX7_addedBehind 42 = .ok (.iload 5, 2) := by decide +kernel
theorem dX7_addedBehind_44 : decode cX7_addedBehind 44 = .ok (.bipush 6, 2) := by decide +kernel
theorem dX7_addedBehind_46 : decode cX7_addedBehind 46 = .ok (.invokevirtual 81, 3) := by decide +kernel
theorem dX7_addedBehind_49 : decode cX7_addedBehind 49 = .ok (.iload_n 3, 1) := by decide +kernel
theorem dX7_addedBehind_50 : decode cX7_addedBehind 50 = .ok (.if_icmp .gt 6, 3) := by decide +kernel
theorem dX7_addedBehind_53 : decode cX7_addedBehind 53 = .ok (.goto 31, 3) := by decide +kernel
theorem dX7_addedBehind_56 : decode cX7_addedBehind 56 = .ok (.iload 4, 2) := by decide +kernel
theorem dX7_addedBehind_58 : decode cX7_addedBehind 58 = .ok (.ifCond .lt 22, 3) := by decide +kernel
theorem dX7_addedBehind_61 : decode cX7_addedBehind 61 = .ok (.aload_n 0, 1) := by decide +kernel
theorem dX7_addedBehind_62 : decode cX7_addedBehind 62 = .ok (.iload 5, 2) := by decide +kernel
theorem dX7_addedBehind_64 : decode cX7_addedBehind 64 = .ok (.bipush 6, 2) := by decide +kernel
theorem dX7_addedBehind_66 : decode cX7_addedBehind 66 = .ok (.invokevirtual 81, 3) := by decide +kernel
theorem dX7_addedBehind_69 : decode cX7_addedBehind 69 = .ok (.aload_n 0, 1) := by decide +kernel
theorem dX7_addedBehind_70 : decode cX7_addedBehind 70 = .ok (.iload 4, 2) := by decide +kernel
theorem dX7_addedBehind_72 : decode cX7_addedBehind 72 = .ok (.bipush 6, 2) := by decide +kernel
theorem dX7_addedBehind_74 : decode cX7_addedBehind 74 = .ok (.invokevirtual 81, 3) := by decide +kernel
theorem dX7_addedBehind_77 : decode cX7_addedBehind 77 = .ok (.if_icmp .ge 7, 3) := by decide +kernel
theorem dX7_addedBehind_80 : decode cX7_addedBehind 80 = .ok (.iload 5, 2) := by decide +kernel
theorem dX7_addedBehind_82 : decode cX7_addedBehind 82 = .ok (.istore 4, 2) := by decide +kernel
theorem dX7_addedBehind_84 : decode cX7_addedBehind 84 = .ok (.iinc 5 1, 3) := by decide +kernel
theorem dX7_addedBehind_87 : decode cX7_addedBehind 87 = .ok (.goto (-81), 3) := by decide +kernel
theorem dX7_addedBehind_90 : decode cX7_addedBehind 90 = .ok (.iload 4, 2) := by decide +kernel
theorem dX7_addedBehind_92 : decode cX7_addedBehind 92 = .ok (.ireturn, 1) := by decide +kernel
theorem dX7_wasAgain_0 : decode cX7_wasAgain 0 = .ok (.iconst 0, 1) := by decide +kernel
theorem dX7_wasAgain_1 : decode cX7_wasAgain 1 = .ok (.istore_n 2, 1) := by decide +kernel
theorem dX7_wasAgain_2 : decode cX7_wasAgain 2 = .ok (.iload_n 2, 1) := by decide +kernel
theorem dX7_wasAgain_3 : decode cX7_wasAgain 3 = .ok (.aload_n 0, 1) := by decide +kernel
theorem dX7_wasAgain_4 : decode cX7_wasAgain 4 = .ok (.getfield 152, 3) := by decide +kernel
theorem dX7_wasAgain_7 : decode cX7_wasAgain 7 = .ok (.if_icmp .ge 21, 3) := by decide +kernel
theorem dX7_wasAgain_10 : decode cX7_wasAgain 10 = .ok (.aload_n 0, 1) := by decide +kernel
theorem dX7_wasAgain_11 : decode cX7_wasAgain 11 = .ok (.getfield 16, 3) := by decide +kernel
theorem dX7_wasAgain_14 : decode cX7_wasAgain 14 = .ok (.iload_n 2, 1) := by decide +kernel
theorem dX7_wasAgain_15 : decode cX7_wasAgain 15 = .ok (.iaload, 1) := by decide +kernel
theorem dX7_wasAgain_16 : decode cX7_wasAgain 16 = .ok (.iload_n 1, 1) := by decide +kernel
theorem dX7_wasAgain_17 : decode cX7_wasAgain 17 = .ok (.if_icmp .ne 5, 3) := by decide +kernel
theorem dX7_wasAgain_20 : decode cX7_wasAgain 20 = .ok (.iconst 1, 1) := by decide +kernel
theorem dX7_wasAgain_21 : decode cX7_wasAgain 21 = .ok (.ireturn, 1) := by decide +kernel
theorem dX7_wasAgain_22 : decode cX7_wasAgain 22 = .ok (.iinc 2 1, 3) := by decide +kernel
theorem dX7_wasAgain_25 : decode cX7_wasAgain 25 = .ok (.goto (-23), 3) := by decide +kernel
theorem dX7_wasAgain_28 : decode cX7_wasAgain 28 = .ok (.iconst 0, 1) := by decide +kernel
theorem dX7_wasAgain_29 : decode cX7_wasAgain 29 = .ok (.ireturn, 1) := by decide +kernel
theorem dX7_goCollect_0 : decode cX7_goCollect 0 = .ok (.aload_n 0, 1) := by decide +kernel
theorem dX7_goCollect_1 : decode cX7_goCollect 1 = .ok (.invokevirtual 156, 3) := by decide +kernel
theorem dX7_goCollect_4 : decode cX7_goCollect 4 = .ok (.aload_n 0, 1) := by decide +kernel
theorem dX7_goCollect_5 : decode cX7_goCollect 5 = .ok (.iconst 0, 1) := by decide +kernel
theorem dX7_goCollect_6 : decode cX7_goCollect 6 = .ok (.putfield 152, 3) := by decide +kernel
theorem dX7_goCollect_9 : decode cX7_goCollect 9 = .ok (.iconst 0, 1) := by decide +kernel
theorem dX7_goCollect_10 : decode cX7_goCollect 10 = .ok (.istore 4, 2) := by decide +kernel
theorem dX7_goCollect_12 : decode cX7_goCollect 12 = .ok (.aload_n 0, 1) := by decide +kernel
theorem dX7_goCollect_13 : decode cX7_goCollect 13 = .ok (.iload_n 2, 1) := by decide +kernel
theorem dX7_goCollect_14 : decode cX7_goCollect 14 = .ok (.iconst 0, 1) := by decide +kernel
theorem dX7_goCollect_15 : decode cX7_goCollect 15 = .ok (.invokevirtual 159, 3) := by decide +kernel
theorem dX7_goCollect_18 : decode cX7_goCollect 18 = .ok (.istore 5, 2) := by decide +kernel
theorem dX7_goCollect_20 : decode cX7_goCollect 20 = .ok (.iload 4, 2) := by decide +kernel
theorem dX7_goCollect_22 : decode cX7_goCollect 22 = .ok (.iload_n 3, 1) := by decide +kernel
theorem dX7_goCollect_23 : decode cX7_goCollect 23 = .ok (.if_icmp .ge 53, 3) := by decide +kernel
theorem dX7_goCollect_26 : decode cX7_goCollect 26 = .ok (.iload 5, 2) := by decide +kernel
theorem dX7_goCollect_28 : decode cX7_goCollect 28 = .ok (.ifCond .lt 48, 3) := by decide +kernel
theorem dX7_goCollect_31 : decode cX7_goCollect 31 = .ok (.aload_n 0, 1) := by decide +kernel
theorem dX7_goCollect_32 : decode cX7_goCollect 32 = .ok (.getfield 7, 3) := by decide +kernel
theorem dX7_goCollect_35 : decode cX7_goCollect 35 = .ok (.iload 5, 2) := by decide +kernel
theorem dX7_goCollect_37 : decode cX7_goCollect 37 = .ok (.bipush 7, 2) := by decide +kernel
theorem dX7_goCollect_39 : decode cX7_goCollect 39 = .ok (.invokestatic 60, 3) := by decide +kernel
theorem dX7_goCollect_42 : decode cX7_goCollect 42 = .ok (.iconst 0, 1) := by decide +kernel
theorem dX7_goCollect_43 : decode cX7_goCollect 43 = .ok (.iastore, 1) := by decide +kernel
theorem dX7_goCollect_44 : decode cX7_goCollect 44 = .ok (.aload_n 0, 1) := by decide +kernel
theorem dX7_goCollect_45 : decode cX7_goCollect 45 = .ok (.iload 5, 2) := by decide +kernel
theorem dX7_goCollect_47 : decode cX7_goCollect 47 = .ok (.invokevirtual 140, 3) := by decide +kernel
theorem dX7_goCollect_50 : decode cX7_goCollect 50 = .ok (.ifCond .eq 15, 3) := by decide +kernel
theorem dX7_goCollect_53 : decode cX7_goCollect 53 = .ok (.aload_n 0, 1) := by decide +kernel
theorem dX7_goCollect_54 : decode cX7_goCollect 54 = .ok (.iload_n 1, 1) := by decide +kernel
theorem dX7_goCollect_55 : decode cX7_goCollect 55 = .ok (.iload 5, 2) := by decide +kernel
theorem dX7_goCollect_57 : decode cX7_goCollect 57 = .ok (.iload 4, 2) := by decide +kernel
theorem dX7_goCollect_59 : decode cX7_goCollect 59 = .ok (.invokevirtual 162, 3) := by decide +kernel
theorem dX7_goCollect_62 : decode cX7_goCollect 62 = .ok (.iinc 4 1, 3) := by decide +kernel
theorem dX7_goCollect_65 : decode cX7_goCollect 65 = .ok (.aload_n 0, 1) := by decide +kernel
theorem dX7_goCollect_66 : decode cX7_goCollect 66 = .ok (.iload_n 2, 1) := by decide +kernel
theorem dX7_goCollect_67 : decode cX7_goCollect 67 = .ok (.iconst 0, 1) := by decide +kernel
theorem dX7_goCollect_68 : decode cX7_goCollect 68 = .ok (.invokevirtual 159, 3) := by decide +kernel
theorem dX7_goCollect_71 : decode cX7_goCollect 71 = .ok (.istore 5, 2) := by decide +kernel
theorem dX7_goCollect_73 : decode cX7_goCollect 73 = .ok (.goto (-53), 3) := by decide +kernel
theorem dX7_goCollect_76 : decode cX7_goCollect 76 = .ok (.iconst 0, 1) := by decide +kernel
theorem dX7_goCollect_77 : decode cX7_goCollect 77 = .ok (.istore 6, 2) := by decide +kernel
theorem dX7_goCollect_79 : decode cX7_goCollect 79 = .ok (.iload 6, 2) := by decide +kernel
theorem dX7_goCollect_81 : decode cX7_goCollect 81 = .ok (.bipush 24, 2) := by decide +kernel
theorem dX7_goCollect_83 : decode cX7_goCollect 83 = .ok (.if_icmp .ge 47, 3) := by decide +kernel
theorem dX7_goCollect_86 : decode cX7_goCollect 86 = .ok (.aload_n 0, 1) := by decide +kernel
theorem dX7_goCollect_87 : decode cX7_goCollect 87 = .ok (.iload 6, 2) := by decide +kernel
theorem dX7_goCollect_89 : decode cX7_goCollect 89 = .ok (.iconst 0, 1) := by decide +kernel
theorem dX7_goCollect_90 : decode cX7_goCollect 90 = .ok (.invokevirtual 81, 3) := by decide +kernel
theorem dX7_goCollect_93 : decode cX7_goCollect 93 = .ok (.iload_n 2, 1) := by decide +kernel
theorem dX7_goCollect_94 : decode cX7_goCollect 94 = .ok (.if_icmp .ne 30, 3) := by decide +kernel
theorem dX7_goCollect_97 : decode cX7_goCollect 97 = .ok (.aload_n 0, 1) := by decide +kernel
theorem dX7_goCollect_98 : decode cX7_goCollect 98 = .ok (.iload 6, 2) := by decide +kernel
theorem dX7_goCollect_100 : decode cX7_goCollect 100 = .ok (.bipush 7, 2) := by decide +kernel
theorem dX7_goCollect_102 : decode cX7_goCollect 102 = .ok (.invokevirtual 81, 3) := by decide +kernel
theorem dX7_goCollect_105 : decode cX7_goCollect 105 = .ok (.ifCond .le 19, 3) := by decide +kernel
theorem dX7_goCollect_108 : decode cX7_goCollect 108 = .ok (.aload_n 0, 1) := by decide +kernel
theorem dX7_goCollect_109 : decode cX7_goCollect 109 = .ok (.getfield 7, 3) := by decide +kernel
theorem dX7_goCollect_112 : decode cX7_goCollect 112 = .ok (.iload 6, 2) := by decide +kernel
theorem dX7_goCollect_114 : decode cX7_goCollect 114 = .ok (.bipush 10, 2) := by decide +kernel
theorem dX7_goCollect_116 : decode cX7_goCollect 116 = .ok (.invokestatic 60, 3) := by decide +kernel
theorem dX7_goCollect_119 : decode cX7_goCollect 119 = .ok (.dup2, 1) := by decide +kernel
theorem dX7_goCollect_120 : decode cX7_goCollect 120 = .ok (.iaload, 1) := by decide +kernel
theorem dX7_goCollect_121 : decode cX7_goCollect 121 = .ok (.iconst 1, 1) := by decide +kernel
theorem dX7_goCollect_122 : decode cX7_goCollect 122 = .ok (.iadd, 1) := by decide +kernel
theorem dX7_goCollect_123 : decode cX7_goCollect 123 = .ok (.iastore, 1) := by decide +kernel
theorem dX7_goCollect_124 : decode cX7_goCollect 124 = .ok (.iinc 6 1, 3) := by decide +kernel
theorem dX7_goCollect_127 : decode cX7_goCollect 127 = .ok (.goto (-48), 3) := by decide +kernel
theorem dX7_goCollect_130 : decode cX7_goCollect 130 = .ok (.iconst 0, 1) := by decide +kernel
theorem dX7_goCollect_131 : decode cX7_goCollect 131 = .ok (.istore 6, 2) := by decide +kernel
theorem dX7_goCollect_133 : decode cX7_goCollect 133 = .ok (.iload 6, 2) := by decide +kernel
theorem dX7_goCollect_135 : decode cX7_goCollect 135 = .ok (.aload_n 0, 1) := by decide +kernel
theorem dX7_goCollect_136 : decode cX7_goCollect 136 = .ok (.getfield 152, 3) := by decide +kernel
theorem dX7_goCollect_139 : decode cX7_goCollect 139 = .ok (.if_icmp .ge 20, 3) := by decide +kernel
theorem dX7_goCollect_142 : decode cX7_goCollect 142 = .ok (.aload_n 0, 1) := by decide +kernel
theorem dX7_goCollect_143 : decode cX7_goCollect 143 = .ok (.aload_n 0, 1) := by decide +kernel
theorem dX7_goCollect_144 : decode cX7_goCollect 144 = .ok (.getfield 16, 3) := by decide +kernel
theorem dX7_goCollect_147 : decode cX7_goCollect 147 = .ok (.iload 6, 2) := by decide +kernel
theorem dX7_goCollect_149 : decode cX7_goCollect 149 = .ok (.iaload, 1) := by decide +kernel
theorem dX7_goCollect_150 : decode cX7_goCollect 150 = .ok (.invokevirtual 166, 3) := by decide +kernel
theorem dX7_goCollect_153 : decode cX7_goCollect 153 = .ok (.iinc 6 1, 3) := by decide +kernel
theorem dX7_goCollect_156 : decode cX7_goCollect 156 = .ok (.goto (-23), 3) := by decide +kernel
theorem dX7_goCollect_159 : decode cX7_goCollect 159 = .ok (.aload_n 0, 1) := by decide +kernel
theorem dX7_goCollect_160 : decode cX7_goCollect 160 = .ok (.getfield 7, 3) := by decide +kernel
theorem dX7_goCollect_163 : decode cX7_goCollect 163 = .ok (.iload_n 1, 1) := by decide +kernel
theorem dX7_goCollect_164 : decode cX7_goCollect 164 = .ok (.iconst 4, 1) := by decide +kernel
theorem dX7_goCollect_165 : decode cX7_goCollect 165 = .ok (.invokestatic 63, 3) := by decide +kernel
theorem dX7_goCollect_168 : decode cX7_goCollect 168 = .ok (.iload 4, 2) := by decide +kernel
theorem dX7_goCollect_170 : decode cX7_goCollect 170 = .ok (.iastore, 1) := by decide +kernel
theorem dX7_goCollect_171 : decode cX7_goCollect 171 = .ok (.aload_n 0, 1) := by decide +kernel
theorem dX7_goCollect_172 : decode cX7_goCollect 172 = .ok (.getfield 7, 3) := by decide +kernel
theorem dX7_goCollect_175 : decode cX7_goCollect 175 = .ok (.iload_n 1, 1) := by decide +kernel
theorem dX7_goCollect_176 : decode cX7_goCollect 176 = .ok (.iconst 5, 1) := by decide +kernel
theorem dX7_goCollect_177 : decode cX7_goCollect 177 = .ok (.invokestatic 63, 3) := by decide +kernel
theorem dX7_goCollect_180 : decode cX7_goCollect 180 = .ok (.dup2, 1) := by decide +kernel
theorem dX7_goCollect_181 : decode cX7_goCollect 181 = .ok (.iaload, 1) := by decide +kernel
theorem dX7_goCollect_182 : decode cX7_goCollect 182 = .ok (.iload 4, 2) := by decide +kernel
theorem dX7_goCollect_184 : decode cX7_goCollect 184 = .ok (.iadd, 1) := by decide +kernel
theorem dX7_goCollect_185 : decode cX7_goCollect 185 = .ok (.iastore, 1) := by decide +kernel
theorem dX7_goCollect_186 : decode cX7_goCollect 186 = .ok (.iload 4, 2) := by decide +kernel
theorem dX7_goCollect_188 : decode cX7_goCollect 188 = .ok (.ireturn, 1) := by decide +kernel
theorem dX7_take_0 : decode cX7_take 0 = .ok (.aload_n 0, 1) := by decide +kernel
theorem dX7_take_1 : decode cX7_take 1 = .ok (.getfield 7, 3) := by decide +kernel
theorem dX7_take_4 : decode cX7_take 4 = .ok (.iload_n 1, 1) := by decide +kernel
theorem dX7_take_5 : decode cX7_take 5 = .ok (.bipush 22, 2) := by decide +kernel
theorem dX7_take_7 : decode cX7_take 7 = .ok (.iconst 2, 1) := by decide +kernel
theorem dX7_take_8 : decode cX7_take 8 = .ok (.iload_n 3, 1) := by decide +kernel
theorem dX7_take_9 : decode cX7_take 9 = .ok (.imul, 1) := by decide +kernel
theorem dX7_take_10 : decode cX7_take 10 = .ok (.iadd, 1) := by decide +kernel
theorem dX7_take_11 : decode cX7_take 11 = .ok (.invokestatic 63, 3) := by decide +kernel
theorem dX7_take_14 : decode cX7_take 14 = .ok (.aload_n 0, 1) := by decide +kernel
theorem dX7_take_15 : decode cX7_take 15 = .ok (.iload_n 2, 1) := by decide +kernel
theorem dX7_take_16 : decode cX7_take 16 = .ok (.iconst 2, 1) := by decide +kernel
theorem dX7_take_17 : decode cX7_take 17 = .ok (.invokevirtual 81, 3) := by decide +kernel
theorem dX7_take_20 : decode cX7_take 20 = .ok (.iastore, 1) := by decide +kernel
theorem dX7_take_21 : decode cX7_take 21 = .ok (.aload_n 0, 1) := by decide +kernel
theorem dX7_take_22 : decode cX7_take 22 = .ok (.getfield 7, 3) := by decide +kernel
theorem dX7_take_25 : decode cX7_take 25 = .ok (.iload_n 1, 1) := by decide +kernel
theorem dX7_take_26 : decode cX7_take 26 = .ok (.bipush 22, 2) := by decide +kernel
theorem dX7_take_28 : decode cX7_take 28 = .ok (.iconst 2, 1) := by decide +kernel
theorem dX7_take_29 : decode cX7_take 29 = .ok (.iload_n 3, 1) := by decide +kernel
theorem dX7_take_30 : decode cX7_take 30 = .ok (.imul, 1) := by decide +kernel
theorem dX7_take_31 : decode cX7_take 31 = .ok (.iadd, 1) := by decide +kernel
theorem dX7_take_32 : decode cX7_take 32 = .ok (.iconst 1, 1) := by decide +kernel
theorem dX7_take_33 : decode cX7_take 33 = .ok (.iadd, 1) := by decide +kernel
theorem dX7_take_34 : decode cX7_take 34 = .ok (.invokestatic 63, 3) := by decide +kernel
theorem dX7_take_37 : decode cX7_take 37 = .ok (.aload_n 0, 1) := by decide +kernel
theorem dX7_take_38 : decode cX7_take 38 = .ok (.getfield 13, 3) := by decide +kernel
theorem dX7_take_41 : decode cX7_take 41 = .ok (.aload_n 0, 1) := by decide +kernel
theorem dX7_take_42 : decode cX7_take 42 = .ok (.iload_n 2, 1) := by decide +kernel
theorem dX7_take_43 : decode cX7_take 43 = .ok (.iconst 1, 1) := by decide +kernel
theorem dX7_take_44 : decode cX7_take 44 = .ok (.invokevirtual 81, 3) := by decide +kernel
theorem dX7_take_47 : decode cX7_take 47 = .ok (.iaload, 1) := by decide +kernel
theorem dX7_take_48 : decode cX7_take 48 = .ok (.aload_n 0, 1) := by decide +kernel
theorem dX7_take_49 : decode cX7_take 49 = .ok (.iload_n 2, 1) := by decide +kernel
theorem dX7_take_50 : decode cX7_take 50 = .ok (.invokevirtual 137, 3) := by decide +kernel
theorem dX7_take_53 : decode cX7_take 53 = .ok (.iand, 1) := by decide +kernel
theorem dX7_take_54 : decode cX7_take 54 = .ok (.iastore, 1) := by decide +kernel
theorem dX7_take_55 : decode cX7_take 55 = .ok (.aload_n 0, 1) := by decide +kernel
theorem dX7_take_56 : decode cX7_take 56 = .ok (.getfield 7, 3) := by decide +kernel
theorem dX7_take_59 : decode cX7_take 59 = .ok (.iload_n 2, 1) := by decide +kernel
theorem dX7_take_60 : decode cX7_take 60 = .ok (.bipush 9, 2) := by decide +kernel
theorem dX7_take_62 : decode cX7_take 62 = .ok (.invokestatic 60, 3) := by decide +kernel
theorem dX7_take_65 : decode cX7_take 65 = .ok (.dup2, 1) := by decide +kernel
theorem dX7_take_66 : decode cX7_take 66 = .ok (.iaload, 1) := by decide +kernel
theorem dX7_take_67 : decode cX7_take 67 = .ok (.iconst 1, 1) := by decide +kernel
theorem dX7_take_68 : decode cX7_take 68 = .ok (.iadd, 1) := by decide +kernel
theorem dX7_take_69 : decode cX7_take 69 = .ok (.iastore, 1) := by decide +kernel
theorem dX7_take_70 : decode cX7_take 70 = .ok (.aload_n 0, 1) := by decide +kernel
theorem dX7_take_71 : decode cX7_take 71 = .ok (.iload_n 2, 1) := by decide +kernel
theorem dX7_take_72 : decode cX7_take 72 = .ok (.iconst 4, 1) := by decide +kernel
theorem dX7_take_73 : decode cX7_take 73 = .ok (.invokevirtual 81, 3) := by decide +kernel
theorem dX7_take_76 : decode cX7_take 76 = .ok (.iconst 2, 1) := by decide +kernel
theorem dX7_take_77 : decode cX7_take 77 = .ok (.iand, 1) := by decide +kernel
theorem dX7_take_78 : decode cX7_take 78 = .ok (.ifCond .eq 14, 3) := by decide +kernel
theorem dX7_take_81 : decode cX7_take 81 = .ok (.aload_n 0, 1) := by decide +kernel
theorem dX7_take_82 : decode cX7_take 82 = .ok (.getfield 7, 3) := by decide +kernel
theorem dX7_take_85 : decode cX7_take 85 = .ok (.iload_n 2, 1) := by decide +kernel
theorem dX7_take_86 : decode cX7_take 86 = .ok (.iconst 5, 1) := by decide +kernel
theorem dX7_take_87 : decode cX7_take 87 = .ok (.invokestatic 60, 3) := by decide +kernel
theorem dX7_take_90 : decode cX7_take 90 = .ok (.iconst 0, 1) := by decide +kernel
theorem dX7_take_91 : decode cX7_take 91 = .ok (.iastore, 1) := by decide +kernel
theorem dX7_take_92 : decode cX7_take 92 = .ok (.aload_n 0, 1) := by decide +kernel
theorem dX7_take_93 : decode cX7_take 93 = .ok (.iload_n 2, 1) := by decide +kernel
theorem dX7_take_94 : decode cX7_take 94 = .ok (.iconst 4, 1) := by decide +kernel
theorem dX7_take_95 : decode cX7_take 95 = .ok (.invokevirtual 81, 3) := by decide +kernel
theorem dX7_take_98 : decode cX7_take 98 = .ok (.iconst 3, 1) := by decide +kernel
theorem dX7_take_99 : decode cX7_take 99 = .ok (.iand, 1) := by decide +kernel
theorem dX7_take_100 : decode cX7_take 100 = .ok (.ifCond .eq 4, 3) := by decide +kernel
theorem dX7_take_103 : decode cX7_take 103 = .ok (.return_, 1) := by decide +kernel
theorem dX7_take_104 : decode cX7_take 104 = .ok (.aload_n 0, 1) := by decide +kernel
theorem dX7_take_105 : decode cX7_take 105 = .ok (.getfield 16, 3) := by decide +kernel
theorem dX7_take_108 : decode cX7_take 108 = .ok (.aload_n 0, 1) := by decide +kernel
theorem dX7_take_109 : decode cX7_take 109 = .ok (.getfield 152, 3) := by decide +kernel
theorem dX7_take_112 : decode cX7_take 112 = .ok (.iload_n 2, 1) := by decide +kernel
theorem dX7_take_113 : decode cX7_take 113 = .ok (.iastore, 1) := by decide +kernel
theorem dX7_take_114 : decode cX7_take 114 = .ok (.aload_n 0, 1) := by decide +kernel
theorem dX7_take_115 : decode cX7_take 115 = .ok (.dup, 1) := by decide +kernel
theorem dX7_take_116 : decode cX7_take 116 = .ok (.getfield 152, 3) := by decide +kernel
theorem dX7_take_119 : decode cX7_take 119 = .ok (.iconst 1, 1) := by decide +kernel
theorem dX7_take_120 : decode cX7_take 120 = .ok (.iadd, 1) := by decide +kernel
theorem dX7_take_121 : decode cX7_take 121 = .ok (.putfield 152, 3) := by decide +kernel
theorem dX7_take_124 : decode cX7_take 124 = .ok (.return_, 1) := by decide +kernel
theorem dX7_sleeperBehind_0 : decode cX7_sleeperBehind 0 = .ok (.iconst (-1), 1) := by decide +kernel
theorem dX7_sleeperBehind_1 : decode cX7_sleeperBehind 1 = .ok (.istore_n 3, 1) := by decide +kernel
theorem dX7_sleeperBehind_2 : decode cX7_sleeperBehind 2 = .ok (.iconst 0, 1) := by decide +kernel
theorem dX7_sleeperBehind_3 : decode cX7_sleeperBehind 3 = .ok (.istore 4, 2) := by decide +kernel
theorem dX7_sleeperBehind_5 : decode cX7_sleeperBehind 5 = .ok (.iload 4, 2) := by decide +kernel
theorem dX7_sleeperBehind_7 : decode cX7_sleeperBehind 7 = .ok (.bipush 6, 2) := by decide +kernel
theorem dX7_sleeperBehind_9 : decode cX7_sleeperBehind 9 = .ok (.if_icmp .ge 57, 3) := by decide +kernel
theorem dX7_sleeperBehind_12 : decode cX7_sleeperBehind 12 = .ok (.aload_n 0, 1) := by decide +kernel
theorem dX7_sleeperBehind_13 : decode cX7_sleeperBehind 13 = .ok (.iload 4, 2) := by decide +kernel
theorem dX7_sleeperBehind_15 : decode cX7_sleeperBehind 15 = .ok (.iconst 0, 1) := by decide +kernel
theorem dX7_sleeperBehind_16 : decode cX7_sleeperBehind 16 = .ok (.invokevirtual 84, 3) := by decide +kernel
theorem dX7_sleeperBehind_19 : decode cX7_sleeperBehind 19 = .ok (.iload_n 1, 1) := by decide +kernel
theorem dX7_sleeperBehind_20 : decode cX7_sleeperBehind 20 = .ok (.if_icmp .ne 40, 3) := by decide +kernel
theorem dX7_sleeperBehind_23 : decode cX7_sleeperBehind 23 = .ok (.aload_n 0, 1) := by decide +kernel
theorem dX7_sleeperBehind_24 : decode cX7_sleeperBehind 24 = .ok (.iload 4, 2) := by decide +kernel
theorem dX7_sleeperBehind_26 : decode cX7_sleeperBehind 26 = .ok (.iconst 1, 1) := by decide +kernel
theorem dX7_sleeperBehind_27 : decode cX7_sleeperBehind 27 = .ok (.invokevirtual 84, 3) := by decide +kernel
theorem dX7_sleeperBehind_30 : decode cX7_sleeperBehind 30 = .ok (.iload_n 2, 1) := by decide +kernel
theorem dX7_sleeperBehind_31 : decode cX7_sleeperBehind 31 = .ok (.if_icmp .gt 6, 3) := by decide +kernel
theorem dX7_sleeperBehind_34 : decode cX7_sleeperBehind 34 = .ok (.goto 26, 3) := by decide +kernel
theorem dX7_sleeperBehind_37 : decode cX7_sleeperBehind 37 = .ok (.iload_n 3, 1) := by decide +kernel
theorem dX7_sleeperBehind_38 : decode cX7_sleeperBehind 38 = .ok (.ifCond .lt 19, 3) := by decide +kernel
theorem dX7_sleeperBehind_41 : decode cX7_sleeperBehind 41 = .ok (.aload_n 0, 1) := by decide +kernel
theorem dX7_sleeperBehind_42 : decode cX7_sleeperBehind 42 = .ok (.iload 4, 2) := by decide +kernel
theorem dX7_sleeperBehind_44 : decode cX7_sleeperBehind 44 = .ok (.iconst 1, 1) := by decide +kernel
theorem dX7_sleeperBehind_45 : decode cX7_sleeperBehind 45 = .ok (.invokevirtual 84, 3) := by decide +kernel
theorem dX7_sleeperBehind_48 : decode cX7_sleeperBehind 48 = .ok (.aload_n 0, 1) := by decide +kernel
theorem dX7_sleeperBehind_49 : decode cX7_sleeperBehind 49 = .ok (.iload_n 3, 1) := by decide +kernel
theorem dX7_sleeperBehind_50 : decode cX7_sleeperBehind 50 = .ok (.iconst 1, 1) := by decide +kernel
theorem dX7_sleeperBehind_51 : decode cX7_sleeperBehind 51 = .ok (.invokevirtual 84, 3) := by decide +kernel
theorem dX7_sleeperBehind_54 : decode cX7_sleeperBehind 54 = .ok (.if_icmp .ge 6, 3) := by decide +kernel
theorem dX7_sleeperBehind_57 : decode cX7_sleeperBehind 57 = .ok (.iload 4, 2) := by decide +kernel
theorem dX7_sleeperBehind_59 : decode cX7_sleeperBehind 59 = .ok (.istore_n 3, 1) := by decide +kernel
theorem dX7_sleeperBehind_60 : decode cX7_sleeperBehind 60 = .ok (.iinc 4 1, 3) := by decide +kernel
theorem dX7_sleeperBehind_63 : decode cX7_sleeperBehind 63 = .ok (.goto (-58), 3) := by decide +kernel
theorem dX7_sleeperBehind_66 : decode cX7_sleeperBehind 66 = .ok (.iload_n 3, 1) := by decide +kernel
theorem dX7_sleeperBehind_67 : decode cX7_sleeperBehind 67 = .ok (.ireturn, 1) := by decide +kernel
theorem dX7_sleepNoMore_0 : decode cX7_sleepNoMore 0 = .ok (.aload_n 0, 1) := by decide +kernel
theorem dX7_sleepNoMore_1 : decode cX7_sleepNoMore 1 = .ok (.getfield 7, 3) := by decide +kernel
theorem dX7_sleepNoMore_4 : decode cX7_sleepNoMore 4 = .ok (.iload_n 1, 1) := by decide +kernel
theorem dX7_sleepNoMore_5 : decode cX7_sleepNoMore 5 = .ok (.iconst 0, 1) := by decide +kernel
theorem dX7_sleepNoMore_6 : decode cX7_sleepNoMore 6 = .ok (.invokestatic 63, 3) := by decide +kernel
theorem dX7_sleepNoMore_9 : decode cX7_sleepNoMore 9 = .ok (.iconst (-1), 1) := by decide +kernel
theorem dX7_sleepNoMore_10 : decode cX7_sleepNoMore 10 = .ok (.iastore, 1) := by decide +kernel
theorem dX7_sleepNoMore_11 : decode cX7_sleepNoMore 11 = .ok (.aload_n 0, 1) := by decide +kernel
theorem dX7_sleepNoMore_12 : decode cX7_sleepNoMore 12 = .ok (.getfield 7, 3) := by decide +kernel
theorem dX7_sleepNoMore_15 : decode cX7_sleepNoMore 15 = .ok (.iload_n 1, 1) := by decide +kernel
theorem dX7_sleepNoMore_16 : decode cX7_sleepNoMore 16 = .ok (.iconst 3, 1) := by decide +kernel
theorem dX7_sleepNoMore_17 : decode cX7_sleepNoMore 17 = .ok (.invokestatic 63, 3) := by decide +kernel
theorem dX7_sleepNoMore_20 : decode cX7_sleepNoMore 20 = .ok (.iconst (-1), 1) := by decide +kernel
theorem dX7_sleepNoMore_21 : decode cX7_sleepNoMore 21 = .ok (.iastore, 1) := by decide +kernel
theorem dX7_sleepNoMore_22 : decode cX7_sleepNoMore 22 = .ok (.return_, 1) := by decide +kernel
theorem dX7_isSomeLeft_0 : decode cX7_isSomeLeft 0 = .ok (.aload_n 0, 1) := by decide +kernel
theorem dX7_isSomeLeft_1 : decode cX7_isSomeLeft 1 = .ok (.invokevirtual 156, 3) := by decide +kernel
theorem dX7_isSomeLeft_4 : decode cX7_isSomeLeft 4 = .ok (.iconst 0, 1) := by decide +kernel
theorem dX7_isSomeLeft_5 : decode cX7_isSomeLeft 5 = .ok (.istore_n 2, 1) := by decide +kernel
theorem dX7_isSomeLeft_6 : decode cX7_isSomeLeft 6 = .ok (.iload_n 2, 1) := by decide +kernel
theorem dX7_isSomeLeft_7 : decode cX7_isSomeLeft 7 = .ok (.bipush 24, 2) := by decide +kernel
theorem dX7_isSomeLeft_9 : decode cX7_isSomeLeft 9 = .ok (.if_icmp .ge 47, 3) := by decide +kernel
theorem dX7_isSomeLeft_12 : decode cX7_isSomeLeft 12 = .ok (.aload_n 0, 1) := by decide +kernel
theorem dX7_isSomeLeft_13 : decode cX7_isSomeLeft 13 = .ok (.iload_n 2, 1) := by decide +kernel
theorem dX7_isSomeLeft_14 : decode cX7_isSomeLeft 14 = .ok (.iconst 0, 1) := by decide +kernel
theorem dX7_isSomeLeft_15 : decode cX7_isSomeLeft 15 = .ok (.invokevirtual 81, 3) := by decide +kernel
theorem dX7_isSomeLeft_18 : decode cX7_isSomeLeft 18 = .ok (.iload_n 1, 1) := by decide +kernel
theorem dX7_isSomeLeft_19 : decode cX7_isSomeLeft 19 = .ok (.if_icmp .ne 31, 3) := by decide +kernel
theorem dX7_isSomeLeft_22 : decode cX7_isSomeLeft 22 = .ok (.aload_n 0, 1) := by decide +kernel
theorem dX7_isSomeLeft_23 : decode cX7_isSomeLeft 23 = .ok (.iload_n 2, 1) := by decide +kernel
theorem dX7_isSomeLeft_24 : decode cX7_isSomeLeft 24 = .ok (.bipush 7, 2) := by decide +kernel
theorem dX7_isSomeLeft_26 : decode cX7_isSomeLeft 26 = .ok (.invokevirtual 81, 3) := by decide +kernel
theorem dX7_isSomeLeft_29 : decode cX7_isSomeLeft 29 = .ok (.ifCond .le 21, 3) := by decide +kernel
theorem dX7_isSomeLeft_32 : decode cX7_isSomeLeft 32 = .ok (.aload_n 0, 1) := by decide +kernel
theorem dX7_isSomeLeft_33 : decode cX7_isSomeLeft 33 = .ok (.iload_n 2, 1) := by decide +kernel
theorem dX7_isSomeLeft_34 : decode cX7_isSomeLeft 34 = .ok (.invokevirtual 140, 3) := by decide +kernel
theorem dX7_isSomeLeft_37 : decode cX7_isSomeLeft 37 = .ok (.ifCond .eq 13, 3) := by decide +kernel
theorem dX7_isSomeLeft_40 : decode cX7_isSomeLeft 40 = .ok (.aload_n 0, 1) := by decide +kernel
theorem dX7_isSomeLeft_41 : decode cX7_isSomeLeft 41 = .ok (.iload_n 2, 1) := by decide +kernel
theorem dX7_isSomeLeft_42 : decode cX7_isSomeLeft 42 = .ok (.invokevirtual 170, 3) := by decide +kernel
theorem dX7_isSomeLeft_45 : decode cX7_isSomeLeft 45 = .ok (.ifCond .ne 5, 3) := by decide +kernel
theorem dX7_isSomeLeft_48 : decode cX7_isSomeLeft 48 = .ok (.iconst 1, 1) := by decide +kernel
theorem dX7_isSomeLeft_49 : decode cX7_isSomeLeft 49 = .ok (.ireturn, 1) := by decide +kernel
theorem dX7_isSomeLeft_50 : decode cX7_isSomeLeft 50 = .ok (.iinc 2 1, 3) := by decide +kernel
theorem dX7_isSomeLeft_53 : decode cX7_isSomeLeft 53 = .ok (.goto (-47), 3) := by decide +kernel
theorem dX7_isSomeLeft_56 : decode cX7_isSomeLeft 56 = .ok (.iconst 0, 1) := by decide +kernel
theorem dX7_isSomeLeft_57 : decode cX7_isSomeLeft 57 = .ok (.ireturn, 1) := by decide +kernel
theorem dX7_wake_0 : decode cX7_wake 0 = .ok (.iconst 0, 1) := by decide +kernel
theorem dX7_wake_1 : decode cX7_wake 1 = .ok (.istore_n 2, 1) := by decide +kernel
theorem dX7_wake_2 : decode cX7_wake 2 = .ok (.iconst 1, 1) := by decide +kernel
theorem dX7_wake_3 : decode cX7_wake 3 = .ok (.istore_n 3, 1) := by decide +kernel
theorem dX7_wake_4 : decode cX7_wake 4 = .ok (.iconst 0, 1) := by decide +kernel
theorem dX7_wake_5 : decode cX7_wake 5 = .ok (.istore 4, 2) := by decide +kernel
theorem dX7_wake_7 : decode cX7_wake 7 = .ok (.iload 4, 2) := by decide +kernel
theorem dX7_wake_9 : decode cX7_wake 9 = .ok (.bipush 6, 2) := by decide +kernel
theorem dX7_wake_11 : decode cX7_wake 11 = .ok (.if_icmp .ge 93, 3) := by decide +kernel
theorem dX7_wake_14 : decode cX7_wake 14 = .ok (.iload_n 3, 1) := by decide +kernel
theorem dX7_wake_15 : decode cX7_wake 15 = .ok (.ifCond .eq 89, 3) := by decide +kernel
theorem dX7_wake_18 : decode cX7_wake 18 = .ok (.aload_n 0, 1) := by decide +kernel
theorem dX7_wake_19 : decode cX7_wake 19 = .ok (.iload_n 1, 1) := by decide +kernel
theorem dX7_wake_20 : decode cX7_wake 20 = .ok (.iconst 0, 1) := by decide +kernel
theorem dX7_wake_21 : decode cX7_wake 21 = .ok (.invokevirtual 173, 3) := by decide +kernel
theorem dX7_wake_24 : decode cX7_wake 24 = .ok (.istore 5, 2) := by decide +kernel
theorem dX7_wake_26 : decode cX7_wake 26 = .ok (.iload 5, 2) := by decide +kernel
theorem dX7_wake_28 : decode cX7_wake 28 = .ok (.ifCond .ge 5, 3) := by decide +kernel
theorem dX7_wake_31 : decode cX7_wake 31 = .ok (.iload_n 2, 1) := by decide +kernel
theorem dX7_wake_32 : decode cX7_wake 32 = .ok (.ireturn, 1) := by decide +kernel
theorem dX7_wake_33 : decode cX7_wake 33 = .ok (.aload_n 0, 1) := by decide +kernel
theorem dX7_wake_34 : decode cX7_wake 34 = .ok (.iload 5, 2) := by decide +kernel
theorem dX7_wake_36 : decode cX7_wake 36 = .ok (.iload_n 1, 1) := by decide +kernel
theorem dX7_wake_37 : decode cX7_wake 37 = .ok (.aload_n 0, 1) := by decide +kernel
theorem dX7_wake_38 : decode cX7_wake 38 = .ok (.iload 5, 2) := by decide +kernel
theorem dX7_wake_40 : decode cX7_wake 40 = .ok (.iconst 2, 1) := by decide +kernel
theorem dX7_wake_41 : decode cX7_wake 41 = .ok (.invokevirtual 84, 3) := by decide +kernel
theorem dX7_wake_44 : decode cX7_wake 44 = .ok (.invokevirtual 176, 3) := by decide +kernel
theorem dX7_wake_47 : decode cX7_wake 47 = .ok (.ifCond .ne 21, 3) := by decide +kernel
theorem dX7_wake_50 : decode cX7_wake 50 = .ok (.aload_n 0, 1) := by decide +kernel
theorem dX7_wake_51 : decode cX7_wake 51 = .ok (.getfield 7, 3) := by decide +kernel
theorem dX7_wake_54 : decode cX7_wake 54 = .ok (.iload 5, 2) := by decide +kernel
theorem dX7_wake_56 : decode cX7_wake 56 = .ok (.bipush 7, 2) := by decide +kernel
theorem dX7_wake_58 : decode cX7_wake 58 = .ok (.invokestatic 63, 3) := by decide +kernel
theorem dX7_wake_61 : decode cX7_wake 61 = .ok (.dup2, 1) := by decide +kernel
theorem dX7_wake_62 : decode cX7_wake 62 = .ok (.iaload, 1) := by decide +kernel
theorem dX7_wake_63 : decode cX7_wake 63 = .ok (.iconst 1, 1) := by decide +kernel
theorem dX7_wake_64 : decode cX7_wake 64 = .ok (.iadd, 1) := by decide +kernel
theorem dX7_wake_65 : decode cX7_wake 65 = .ok (.iastore, 1) := by decide +kernel
theorem dX7_wake_66 : decode cX7_wake 66 = .ok (.iload_n 2, 1) := by decide +kernel
theorem dX7_wake_67 : decode cX7_wake 67 = .ok (.ireturn, 1) := by decide +kernel
theorem dX7_wake_68 : decode cX7_wake 68 = .ok (.iconst 1, 1) := by decide +kernel
theorem dX7_wake_69 : decode cX7_wake 69 = .ok (.istore_n 2, 1) := by decide +kernel
theorem dX7_wake_70 : decode cX7_wake 70 = .ok (.aload_n 0, 1) := by decide +kernel
theorem dX7_wake_71 : decode cX7_wake 71 = .ok (.getfield 7, 3) := by decide +kernel
theorem dX7_wake_74 : decode cX7_wake 74 = .ok (.iload 5, 2) := by decide +kernel
theorem dX7_wake_76 : decode cX7_wake 76 = .ok (.bipush 6, 2) := by decide +kernel
theorem dX7_wake_78 : decode cX7_wake 78 = .ok (.invokestatic 63, 3) := by decide +kernel
theorem dX7_wake_81 : decode cX7_wake 81 = .ok (.dup2, 1) := by decide +kernel
theorem dX7_wake_82 : decode cX7_wake 82 = .ok (.iaload, 1) := by decide +kernel
theorem dX7_wake_83 : decode cX7_wake 83 = .ok (.iconst 1, 1) := by decide +kernel
theorem dX7_wake_84 : decode cX7_wake 84 = .ok (.iadd, 1) := by decide +kernel
theorem dX7_wake_85 : decode cX7_wake 85 = .ok (.iastore, 1) := by decide +kernel
theorem dX7_wake_86 : decode cX7_wake 86 = .ok (.aload_n 0, 1) := by decide +kernel
theorem dX7_wake_87 : decode cX7_wake 87 = .ok (.iload 5, 2) := by decide +kernel
theorem dX7_wake_89 : decode cX7_wake 89 = .ok (.invokevirtual 180, 3) := by decide +kernel
theorem dX7_wake_92 : decode cX7_wake 92 = .ok (.aload_n 0, 1) := by decide +kernel
theorem dX7_wake_93 : decode cX7_wake 93 = .ok (.iload_n 1, 1) := by decide +kernel
theorem dX7_wake_94 : decode cX7_wake 94 = .ok (.invokevirtual 183, 3) := by decide +kernel
theorem dX7_wake_97 : decode cX7_wake 97 = .ok (.istore_n 3, 1) := by decide +kernel
theorem dX7_wake_98 : decode cX7_wake 98 = .ok (.iinc 4 1, 3) := by decide +kernel
theorem dX7_wake_101 : decode cX7_wake 101 = .ok (.goto (-94), 3) := by decide +kernel
theorem dX7_wake_104 : decode cX7_wake 104 = .ok (.iload_n 2, 1) := by decide +kernel
theorem dX7_wake_105 : decode cX7_wake 105 = .ok (.ireturn, 1) := by decide +kernel
theorem dX7_beginNotice_0 : decode cX7_beginNotice 0 = .ok (.aload_n 0, 1) := by decide +kernel
theorem dX7_beginNotice_1 : decode cX7_beginNotice 1 = .ok (.getfield 19, 3) := by decide +kernel
theorem dX7_beginNotice_4 : decode cX7_beginNotice 4 = .ok (.iload_n 1, 1) := by decide +kernel
theorem dX7_beginNotice_5 : decode cX7_beginNotice 5 = .ok (.iload_n 2, 1) := by decide +kernel
theorem dX7_beginNotice_6 : decode cX7_beginNotice 6 = .ok (.iastore, 1) := by decide +kernel
theorem dX7_beginNotice_7 : decode cX7_beginNotice 7 = .ok (.aload_n 0, 1) := by decide +kernel
theorem dX7_beginNotice_8 : decode cX7_beginNotice 8 = .ok (.getfield 22, 3) := by decide +kernel
theorem dX7_beginNotice_11 : decode cX7_beginNotice 11 = .ok (.iload_n 1, 1) := by decide +kernel
theorem dX7_beginNotice_12 : decode cX7_beginNotice 12 = .ok (.iload_n 3, 1) := by decide +kernel
theorem dX7_beginNotice_13 : decode cX7_beginNotice 13 = .ok (.iastore, 1) := by decide +kernel
theorem dX7_beginNotice_14 : decode cX7_beginNotice 14 = .ok (.aload_n 0, 1) := by decide +kernel
theorem dX7_beginNotice_15 : decode cX7_beginNotice 15 = .ok (.getfield 25, 3) := by decide +kernel
theorem dX7_beginNotice_18 : decode cX7_beginNotice 18 = .ok (.iload_n 1, 1) := by decide +kernel
theorem dX7_beginNotice_19 : decode cX7_beginNotice 19 = .ok (.iconst 0, 1) := by decide +kernel
theorem dX7_beginNotice_20 : decode cX7_beginNotice 20 = .ok (.iastore, 1) := by decide +kernel
theorem dX7_beginNotice_21 : decode cX7_beginNotice 21 = .ok (.aload_n 0, 1) := by decide +kernel
theorem dX7_beginNotice_22 : decode cX7_beginNotice 22 = .ok (.getfield 28, 3) := by decide +kernel
theorem dX7_beginNotice_25 : decode cX7_beginNotice 25 = .ok (.iload_n 1, 1) := by decide +kernel
theorem dX7_beginNotice_26 : decode cX7_beginNotice 26 = .ok (.iconst 0, 1) := by decide +kernel
theorem dX7_beginNotice_27 : decode cX7_beginNotice 27 = .ok (.bastore, 1) := by decide +kernel
theorem dX7_beginNotice_28 : decode cX7_beginNotice 28 = .ok (.return_, 1) := by decide +kernel
theorem dX7_notice_0 : decode cX7_notice 0 = .ok (.aload_n 0, 1) := by decide +kernel
theorem dX7_notice_1 : decode cX7_notice 1 = .ok (.iconst 0, 1) := by decide +kernel
theorem dX7_notice_2 : decode cX7_notice 2 = .ok (.iload_n 1, 1) := by decide +kernel
theorem dX7_notice_3 : decode cX7_notice 3 = .ok (.iload_n 2, 1) := by decide +kernel
theorem dX7_notice_4 : decode cX7_notice 4 = .ok (.invokevirtual 186, 3) := by decide +kernel
theorem dX7_notice_7 : decode cX7_notice 7 = .ok (.aload_n 0, 1) := by decide +kernel
theorem dX7_notice_8 : decode cX7_notice 8 = .ok (.iconst 0, 1) := by decide +kernel
theorem dX7_notice_9 : decode cX7_notice 9 = .ok (.invokevirtual 189, 3) := by decide +kernel
theorem dX7_notice_12 : decode cX7_notice 12 = .ok (.return_, 1) := by decide +kernel
theorem dX7_goOnWith_0 : decode cX7_goOnWith 0 = .ok (.iload_n 1, 1) := by decide +kernel
theorem dX7_goOnWith_1 : decode cX7_goOnWith 1 = .ok (.istore_n 2, 1) := by decide +kernel
theorem dX7_goOnWith_2 : decode cX7_goOnWith 2 = .ok (.iload_n 2, 1) := by decide +kernel
theorem dX7_goOnWith_3 : decode cX7_goOnWith 3 = .ok (.iload_n 1, 1) := by decide +kernel
theorem dX7_goOnWith_4 : decode cX7_goOnWith 4 = .ok (.if_icmp .lt 187, 3) := by decide +kernel
theorem dX7_goOnWith_7 : decode cX7_goOnWith 7 = .ok (.aload_n 0, 1) := by decide +kernel
theorem dX7_goOnWith_8 : decode cX7_goOnWith 8 = .ok (.aload_n 0, 1) := by decide +kernel
theorem dX7_goOnWith_9 : decode cX7_goOnWith 9 = .ok (.getfield 19, 3) := by decide +kernel
theorem dX7_goOnWith_12 : decode cX7_goOnWith 12 = .ok (.iload_n 2, 1) := by decide +kernel
theorem dX7_goOnWith_13 : decode cX7_goOnWith 13 = .ok (.iaload, 1) := by decide +kernel
theorem dX7_goOnWith_14 : decode cX7_goOnWith 14 = .ok (.iconst 0, 1) := by decide +kernel
theorem dX7_goOnWith_15 : decode cX7_goOnWith 15 = .ok (.aload_n 0, 1) := by decide +kernel
theorem dX7_goOnWith_16 : decode cX7_goOnWith 16 = .ok (.getfield 25, 3) := by decide +kernel
theorem dX7_goOnWith_19 : decode cX7_goOnWith 19 = .ok (.iload_n 2, 1) := by decide +kernel
theorem dX7_goOnWith_20 : decode cX7_goOnWith 20 = .ok (.iaload, 1) := by decide +kernel
theorem dX7_goOnWith_21 : decode cX7_goOnWith 21 = .ok (.invokevirtual 192, 3) := by decide +kernel
theorem dX7_goOnWith_24 : decode cX7_goOnWith 24 = .ok (.istore_n 3, 1) := by decide +kernel
theorem dX7_goOnWith_25 : decode cX7_goOnWith 25 = .ok (.iload_n 3, 1) := by decide +kernel
theorem dX7_goOnWith_26 : decode cX7_goOnWith 26 = .ok (.ifCond .ge 9, 3) := by decide +kernel
theorem dX7_goOnWith_29 : decode cX7_goOnWith 29 = .ok (.iinc 2 (-1), 3) := by decide +kernel
theorem dX7_goOnWith_32 : decode cX7_goOnWith 32 = .ok (.goto (-30), 3) := by decide +kernel
theorem dX7_goOnWith_35 : decode cX7_goOnWith 35 = .ok (.aload_n 0, 1) := by decide +kernel
theorem dX7_goOnWith_36 : decode cX7_goOnWith 36 = .ok (.getfield 25, 3) := by decide +kernel
theorem dX7_goOnWith_39 : decode cX7_goOnWith 39 = .ok (.iload_n 2, 1) := by decide +kernel
theorem dX7_goOnWith_40 : decode cX7_goOnWith 40 = .ok (.aload_n 0, 1) := by decide +kernel
theorem dX7_goOnWith_41 : decode cX7_goOnWith 41 = .ok (.iload_n 3, 1) := by decide +kernel
theorem dX7_goOnWith_42 : decode cX7_goOnWith 42 = .ok (.bipush 6, 2) := by decide +kernel
theorem dX7_goOnWith_44 : decode cX7_goOnWith 44 = .ok (.invokevirtual 81, 3) := by decide +kernel
theorem dX7_goOnWith_47 : decode cX7_goOnWith 47 = .ok (.iastore, 1) := by decide +kernel
theorem dX7_goOnWith_48 : decode cX7_goOnWith 48 = .ok (.aload_n 0, 1) := by decide +kernel
theorem dX7_goOnWith_49 : decode cX7_goOnWith 49 = .ok (.iload_n 3, 1) := by decide +kernel
theorem dX7_goOnWith_50 : decode cX7_goOnWith 50 = .ok (.iconst 4, 1) := by decide +kernel
theorem dX7_goOnWith_51 : decode cX7_goOnWith 51 = .ok (.invokevirtual 81, 3) := by decide +kernel
theorem dX7_goOnWith_54 : decode cX7_goOnWith 54 = .ok (.iconst 4, 1) := by decide +kernel
theorem dX7_goOnWith_55 : decode cX7_goOnWith 55 = .ok (.iand, 1) := by decide +kernel
theorem dX7_goOnWith_56 : decode cX7_goOnWith 56 = .ok (.ifCond .eq 7, 3) := by decide +kernel
theorem dX7_goOnWith_59 : decode cX7_goOnWith 59 = .ok (.iconst 1, 1) := by decide +kernel
theorem dX7_goOnWith_60 : decode cX7_goOnWith 60 = .ok (.goto 4, 3) := by decide +kernel
theorem dX7_goOnWith_63 : decode cX7_goOnWith 63 = .ok (.iconst 0, 1) := by decide +kernel
theorem dX7_goOnWith_64 : decode cX7_goOnWith 64 = .ok (.istore 4, 2) := by decide +kernel
theorem dX7_goOnWith_66 : decode cX7_goOnWith 66 = .ok (.aload_n 0, 1) := by decide +kernel
theorem dX7_goOnWith_67 : decode cX7_goOnWith 67 = .ok (.iload_n 3, 1) := by decide +kernel
theorem dX7_goOnWith_68 : decode cX7_goOnWith 68 = .ok (.iconst 5, 1) := by decide +kernel
theorem dX7_goOnWith_69 : decode cX7_goOnWith 69 = .ok (.invokevirtual 81, 3) := by decide +kernel
theorem dX7_goOnWith_72 : decode cX7_goOnWith 72 = .ok (.ifCond .eq (-70), 3) := by decide +kernel
theorem dX7_goOnWith_75 : decode cX7_goOnWith 75 = .ok (.aload_n 0, 1) := by decide +kernel
theorem dX7_goOnWith_76 : decode cX7_goOnWith 76 = .ok (.iload_n 3, 1) := by decide +kernel
theorem dX7_goOnWith_77 : decode cX7_goOnWith 77 = .ok (.invokevirtual 137, 3) := by decide +kernel
theorem dX7_goOnWith_80 : decode cX7_goOnWith 80 = .ok (.aload_n 0, 1) := by decide +kernel
theorem dX7_goOnWith_81 : decode cX7_goOnWith 81 = .ok (.getfield 22, 3) := by decide +kernel
theorem dX7_goOnWith_84 : decode cX7_goOnWith 84 = .ok (.iload_n 2, 1) := by decide +kernel
theorem dX7_goOnWith_85 : decode cX7_goOnWith 85 = .ok (.iaload, 1) := by decide +kernel
theorem dX7_goOnWith_86 : decode cX7_goOnWith 86 = .ok (.iand, 1) := by decide +kernel
theorem dX7_goOnWith_87 : decode cX7_goOnWith 87 = .ok (.ifCond .eq (-85), 3) := by decide +kernel
theorem dX7_goOnWith_90 : decode cX7_goOnWith 90 = .ok (.iload 4, 2) := by decide +kernel
theorem dX7_goOnWith_92 : decode cX7_goOnWith 92 = .ok (.ifCond .eq 15, 3) := by decide +kernel
theorem dX7_goOnWith_95 : decode cX7_goOnWith 95 = .ok (.aload_n 0, 1) := by decide +kernel
theorem dX7_goOnWith_96 : decode cX7_goOnWith 96 = .ok (.getfield 28, 3) := by decide +kernel
theorem dX7_goOnWith_99 : decode cX7_goOnWith 99 = .ok (.iload_n 2, 1) := by decide +kernel
theorem dX7_goOnWith_100 : decode cX7_goOnWith 100 = .ok (.baload, 1) := by decide +kernel
theorem dX7_goOnWith_101 : decode cX7_goOnWith 101 = .ok (.ifCond .eq 6, 3) := by decide +kernel
theorem dX7_goOnWith_104 : decode cX7_goOnWith 104 = .ok (.goto (-102), 3) := by decide +kernel
theorem dX7_goOnWith_107 : decode cX7_goOnWith 107 = .ok (.aload_n 0, 1) := by decide +kernel
theorem dX7_goOnWith_108 : decode cX7_goOnWith 108 = .ok (.iload_n 3, 1) := by decide +kernel
theorem dX7_goOnWith_109 : decode cX7_goOnWith 109 = .ok (.invokevirtual 166, 3) := by decide +kernel
theorem dX7_goOnWith_112 : decode cX7_goOnWith 112 = .ok (.aload_n 0, 1) := by decide +kernel
theorem dX7_goOnWith_113 : decode cX7_goOnWith 113 = .ok (.getfield 7, 3) := by decide +kernel
theorem dX7_goOnWith_116 : decode cX7_goOnWith 116 = .ok (.iload_n 3, 1) := by decide +kernel
theorem dX7_goOnWith_117 : decode cX7_goOnWith 117 = .ok (.bipush 8, 2) := by decide +kernel
theorem dX7_goOnWith_119 : decode cX7_goOnWith 119 = .ok (.invokestatic 60, 3) := by decide +kernel
theorem dX7_goOnWith_122 : decode cX7_goOnWith 122 = .ok (.dup2, 1) := by decide +kernel
theorem dX7_goOnWith_123 : decode cX7_goOnWith 123 = .ok (.iaload, 1) := by decide +kernel
theorem dX7_goOnWith_124 : decode cX7_goOnWith 124 = .ok (.iconst 1, 1) := by decide +kernel
theorem dX7_goOnWith_125 : decode cX7_goOnWith 125 = .ok (.iadd, 1) := by decide +kernel
theorem dX7_goOnWith_126 : decode cX7_goOnWith 126 = .ok (.iastore, 1) := by decide +kernel
theorem dX7_goOnWith_127 : decode cX7_goOnWith 127 = .ok (.aload_n 0, 1) := by decide +kernel
theorem dX7_goOnWith_128 : decode cX7_goOnWith 128 = .ok (.iload_n 3, 1) := by decide +kernel
theorem dX7_goOnWith_129 : decode cX7_goOnWith 129 = .ok (.iconst 0, 1) := by decide +kernel
theorem dX7_goOnWith_130 : decode cX7_goOnWith 130 = .ok (.invokevirtual 81, 3) := by decide +kernel
theorem dX7_goOnWith_133 : decode cX7_goOnWith 133 = .ok (.istore 5, 2) := by decide +kernel
theorem dX7_goOnWith_135 : decode cX7_goOnWith 135 = .ok (.aload_n 0, 1) := by decide +kernel
theorem dX7_goOnWith_136 : decode cX7_goOnWith 136 = .ok (.dup, 1) := by decide +kernel
theorem dX7_goOnWith_137 : decode cX7_goOnWith 137 = .ok (.getfield 196, 3) := by decide +kernel
theorem dX7_goOnWith_140 : decode cX7_goOnWith 140 = .ok (.iconst 1, 1) := by decide +kernel
theorem dX7_goOnWith_141 : decode cX7_goOnWith 141 = .ok (.aload_n 0, 1) := by decide +kernel
theorem dX7_goOnWith_142 : decode cX7_goOnWith 142 = .ok (.iload 5, 2) := by decide +kernel
theorem dX7_goOnWith_144 : decode cX7_goOnWith 144 = .ok (.invokevirtual 199, 3) := by decide +kernel
theorem dX7_goOnWith_147 : decode cX7_goOnWith 147 = .ok (.ishl, 1) := by decide +kernel
theorem dX7_goOnWith_148 : decode cX7_goOnWith 148 = .ok (.ior, 1) := by decide +kernel
theorem dX7_goOnWith_149 : decode cX7_goOnWith 149 = .ok (.putfield 196, 3) := by decide +kernel
theorem dX7_goOnWith_152 : decode cX7_goOnWith 152 = .ok (.aload_n 0, 1) := by decide +kernel
theorem dX7_goOnWith_153 : decode cX7_goOnWith 153 = .ok (.iload 5, 2) := by decide +kernel
theorem dX7_goOnWith_155 : decode cX7_goOnWith 155 = .ok (.invokevirtual 202, 3) := by decide +kernel
theorem dX7_goOnWith_158 : decode cX7_goOnWith 158 = .ok (.istore 6, 2) := by decide +kernel
theorem dX7_goOnWith_160 : decode cX7_goOnWith 160 = .ok (.iload 4, 2) := by decide +kernel
theorem dX7_goOnWith_162 : decode cX7_goOnWith 162 = .ok (.ifCond .eq 15, 3) := by decide +kernel
theorem dX7_goOnWith_165 : decode cX7_goOnWith 165 = .ok (.iload 6, 2) := by decide +kernel
theorem dX7_goOnWith_167 : decode cX7_goOnWith 167 = .ok (.ifCond .eq 10, 3) := by decide +kernel
theorem dX7_goOnWith_170 : decode cX7_goOnWith 170 = .ok (.aload_n 0, 1) := by decide +kernel
theorem dX7_goOnWith_171 : decode cX7_goOnWith 171 = .ok (.getfield 28, 3) := by decide +kernel
theorem dX7_goOnWith_174 : decode cX7_goOnWith 174 = .ok (.iload_n 2, 1) := by decide +kernel
theorem dX7_goOnWith_175 : decode cX7_goOnWith 175 = .ok (.iconst 1, 1) := by decide +kernel
theorem dX7_goOnWith_176 : decode cX7_goOnWith 176 = .ok (.bastore, 1) := by decide +kernel
theorem dX7_goOnWith_177 : decode cX7_goOnWith 177 = .ok (.iinc 2 1, 3) := by decide +kernel
theorem dX7_goOnWith_180 : decode cX7_goOnWith 180 = .ok (.aload_n 0, 1) := by decide +kernel
theorem dX7_goOnWith_181 : decode cX7_goOnWith 181 = .ok (.iload_n 2, 1) := by decide +kernel
theorem dX7_goOnWith_182 : decode cX7_goOnWith 182 = .ok (.iload 5, 2) := by decide +kernel
theorem dX7_goOnWith_184 : decode cX7_goOnWith 184 = .ok (.iconst 1, 1) := by decide +kernel
theorem dX7_goOnWith_185 : decode cX7_goOnWith 185 = .ok (.invokevirtual 186, 3) := by decide +kernel
theorem dX7_goOnWith_188 : decode cX7_goOnWith 188 = .ok (.goto (-186), 3) := by decide +kernel
theorem dX7_goOnWith_191 : decode cX7_goOnWith 191 = .ok (.return_, 1) := by decide +kernel
theorem dX7_call_0 : decode cX7_call 0 = .ok (.aload_n 0, 1) := by decide +kernel
theorem dX7_call_1 : decode cX7_call 1 = .ok (.iload_n 1, 1) := by decide +kernel
theorem dX7_call_2 : decode cX7_call 2 = .ok (.invokevirtual 202, 3) := by decide +kernel
theorem dX7_call_5 : decode cX7_call 5 = .ok (.pop, 1) := by decide +kernel
theorem dX7_call_6 : decode cX7_call 6 = .ok (.aload_n 0, 1) := by decide +kernel
theorem dX7_call_7 : decode cX7_call 7 = .ok (.iload_n 1, 1) := by decide +kernel
theorem dX7_call_8 : decode cX7_call 8 = .ok (.iconst 1, 1) := by decide +kernel
theorem dX7_call_9 : decode cX7_call 9 = .ok (.invokevirtual 120, 3) := by decide +kernel
theorem dX7_call_12 : decode cX7_call 12 = .ok (.return_, 1) := by decide +kernel
theorem dX7_dropInterest_0 : decode cX7_dropInterest 0 = .ok (.aload_n 0, 1) := by decide +kernel
theorem dX7_dropInterest_1 : decode cX7_dropInterest 1 = .ok (.getfield 7, 3) := by decide +kernel
theorem dX7_dropInterest_4 : decode cX7_dropInterest 4 = .ok (.iload_n 1, 1) := by decide +kernel
theorem dX7_dropInterest_5 : decode cX7_dropInterest 5 = .ok (.iconst 0, 1) := by decide +kernel
theorem dX7_dropInterest_6 : decode cX7_dropInterest 6 = .ok (.invokestatic 60, 3) := by decide +kernel
theorem dX7_dropInterest_9 : decode cX7_dropInterest 9 = .ok (.iconst (-1), 1) := by decide +kernel
theorem dX7_dropInterest_10 : decode cX7_dropInterest 10 = .ok (.iastore, 1) := by decide +kernel
theorem dX7_dropInterest_11 : decode cX7_dropInterest 11 = .ok (.return_, 1) := by decide +kernel
theorem dX7_goClose_0 : decode cX7_goClose 0 = .ok (.aload_n 0, 1) := by decide +kernel
theorem dX7_goClose_1 : decode cX7_goClose 1 = .ok (.iload_n 1, 1) := by decide +kernel
theorem dX7_goClose_2 : decode cX7_goClose 2 = .ok (.invokevirtual 73, 3) := by decide +kernel
theorem dX7_goClose_5 : decode cX7_goClose 5 = .ok (.ifCond .ne 5, 3) := by decide +kernel
theorem dX7_goClose_8 : decode cX7_goClose 8 = .ok (.iconst 0, 1) := by decide +kernel
theorem dX7_goClose_9 : decode cX7_goClose 9 = .ok (.ireturn, 1) := by decide +kernel
theorem dX7_goClose_10 : decode cX7_goClose 10 = .ok (.iload_n 2, 1) := by decide +kernel
theorem dX7_goClose_11 : decode cX7_goClose 11 = .ok (.ifCond .eq 7, 3) := by decide +kernel
theorem dX7_goClose_14 : decode cX7_goClose 14 = .ok (.aload_n 0, 1) := by decide +kernel
theorem dX7_goClose_15 : decode cX7_goClose 15 = .ok (.invokevirtual 101, 3) := by decide +kernel
theorem dX7_goClose_18 : decode cX7_goClose 18 = .ok (.aload_n 0, 1) := by decide +kernel
theorem dX7_goClose_19 : decode cX7_goClose 19 = .ok (.getfield 7, 3) := by decide +kernel
theorem dX7_goClose_22 : decode cX7_goClose 22 = .ok (.iload_n 1, 1) := by decide +kernel
theorem dX7_goClose_23 : decode cX7_goClose 23 = .ok (.iaload, 1) := by decide +kernel
theorem dX7_goClose_24 : decode cX7_goClose 24 = .ok (.istore_n 3, 1) := by decide +kernel
theorem dX7_goClose_25 : decode cX7_goClose 25 = .ok (.aload_n 0, 1) := by decide +kernel
theorem dX7_goClose_26 : decode cX7_goClose 26 = .ok (.getfield 7, 3) := by decide +kernel
theorem dX7_goClose_29 : decode cX7_goClose 29 = .ok (.iload_n 1, 1) := by decide +kernel
theorem dX7_goClose_30 : decode cX7_goClose 30 = .ok (.iconst (-1), 1) := by decide +kernel
theorem dX7_goClose_31 : decode cX7_goClose 31 = .ok (.iastore, 1) := by decide +kernel
theorem dX7_goClose_32 : decode cX7_goClose 32 = .ok (.aload_n 0, 1) := by decide +kernel
theorem dX7_goClose_33 : decode cX7_goClose 33 = .ok (.iload_n 3, 1) := by decide +kernel
theorem dX7_goClose_34 : decode cX7_goClose 34 = .ok (.invokevirtual 205, 3) := by decide +kernel
theorem dX7_goClose_37 : decode cX7_goClose 37 = .ok (.ifCond .ne 8, 3) := by decide +kernel
theorem dX7_goClose_40 : decode cX7_goClose 40 = .ok (.aload_n 0, 1) := by decide +kernel
theorem dX7_goClose_41 : decode cX7_goClose 41 = .ok (.iload_n 3, 1) := by decide +kernel
theorem dX7_goClose_42 : decode cX7_goClose 42 = .ok (.invokevirtual 208, 3) := by decide +kernel
theorem dX7_goClose_45 : decode cX7_goClose 45 = .ok (.iconst 1, 1) := by decide +kernel
theorem dX7_goClose_46 : decode cX7_goClose 46 = .ok (.ireturn, 1) := by decide +kernel
theorem dX7_gone_0 : decode cX7_gone 0 = .ok (.aload_n 0, 1) := by decide +kernel
theorem dX7_gone_1 : decode cX7_gone 1 = .ok (.iload_n 1, 1) := by decide +kernel
theorem dX7_gone_2 : decode cX7_gone 2 = .ok (.invokevirtual 77, 3) := by decide +kernel
theorem dX7_gone_5 : decode cX7_gone 5 = .ok (.istore_n 2, 1) := by decide +kernel
theorem dX7_gone_6 : decode cX7_gone 6 = .ok (.iconst 0, 1) := by decide +kernel
theorem dX7_gone_7 : decode cX7_gone 7 = .ok (.istore_n 3, 1) := by decide +kernel
theorem dX7_gone_8 : decode cX7_gone 8 = .ok (.iload_n 3, 1) := by decide +kernel
theorem dX7_gone_9 : decode cX7_gone 9 = .ok (.bipush 24, 2) := by decide +kernel
theorem dX7_gone_11 : decode cX7_gone 11 = .ok (.if_icmp .ge 42, 3) := by decide +kernel
theorem dX7_gone_14 : decode cX7_gone 14 = .ok (.aload_n 0, 1) := by decide +kernel
theorem dX7_gone_15 : decode cX7_gone 15 = .ok (.iload_n 3, 1) := by decide +kernel
theorem dX7_gone_16 : decode cX7_gone 16 = .ok (.invokevirtual 149, 3) := by decide +kernel
theorem dX7_gone_19 : decode cX7_gone 19 = .ok (.ifCond .eq 28, 3) := by decide +kernel
theorem dX7_gone_22 : decode cX7_gone 22 = .ok (.aload_n 0, 1) := by decide +kernel
theorem dX7_gone_23 : decode cX7_gone 23 = .ok (.iload_n 3, 1) := by decide +kernel
theorem dX7_gone_24 : decode cX7_gone 24 = .ok (.iconst 1, 1) := by decide +kernel
theorem dX7_gone_25 : decode cX7_gone 25 = .ok (.invokevirtual 81, 3) := by decide +kernel
theorem dX7_gone_28 : decode cX7_gone 28 = .ok (.iload_n 1, 1) := by decide +kernel
theorem dX7_gone_29 : decode cX7_gone 29 = .ok (.if_icmp .eq 13, 3) := by decide +kernel
theorem dX7_gone_32 : decode cX7_gone 32 = .ok (.aload_n 0, 1) := by decide +kernel
theorem dX7_gone_33 : decode cX7_gone 33 = .ok (.iload_n 3, 1) := by decide +kernel
theorem dX7_gone_34 : decode cX7_gone 34 = .ok (.iconst 0, 1) := by decide +kernel
theorem dX7_gone_35 : decode cX7_gone 35 = .ok (.invokevirtual 81, 3) := by decide +kernel
theorem dX7_gone_38 : decode cX7_gone 38 = .ok (.iload_n 1, 1) := by decide +kernel
theorem dX7_gone_39 : decode cX7_gone 39 = .ok (.if_icmp .ne 8, 3) := by decide +kernel
theorem dX7_gone_42 : decode cX7_gone 42 = .ok (.aload_n 0, 1) := by decide +kernel
theorem dX7_gone_43 : decode cX7_gone 43 = .ok (.iload_n 3, 1) := by decide +kernel
theorem dX7_gone_44 : decode cX7_gone 44 = .ok (.invokevirtual 211, 3) := by decide +kernel
theorem dX7_gone_47 : decode cX7_gone 47 = .ok (.iinc 3 1, 3) := by decide +kernel
theorem dX7_gone_50 : decode cX7_gone 50 = .ok (.goto (-42), 3) := by decide +kernel
theorem dX7_gone_53 : decode cX7_gone 53 = .ok (.iconst 0, 1) := by decide +kernel
theorem dX7_gone_54 : decode cX7_gone 54 = .ok (.istore_n 3, 1) := by decide +kernel
theorem dX7_gone_55 : decode cX7_gone 55 = .ok (.iload_n 3, 1) := by decide +kernel
theorem dX7_gone_56 : decode cX7_gone 56 = .ok (.bipush 6, 2) := by decide +kernel
theorem dX7_gone_58 : decode cX7_gone 58 = .ok (.if_icmp .ge 24, 3) := by decide +kernel
theorem dX7_gone_61 : decode cX7_gone 61 = .ok (.aload_n 0, 1) := by decide +kernel
theorem dX7_gone_62 : decode cX7_gone 62 = .ok (.iload_n 3, 1) := by decide +kernel
theorem dX7_gone_63 : decode cX7_gone 63 = .ok (.iconst 0, 1) := by decide +kernel
theorem dX7_gone_64 : decode cX7_gone 64 = .ok (.invokevirtual 84, 3) := by decide +kernel
theorem dX7_gone_67 : decode cX7_gone 67 = .ok (.iload_n 1, 1) := by decide +kernel
theorem dX7_gone_68 : decode cX7_gone 68 = .ok (.if_icmp .ne 8, 3) := by decide +kernel
theorem dX7_gone_71 : decode cX7_gone 71 = .ok (.aload_n 0, 1) := by decide +kernel
theorem dX7_gone_72 : decode cX7_gone 72 = .ok (.iload_n 3, 1) := by decide +kernel
theorem dX7_gone_73 : decode cX7_gone 73 = .ok (.invokevirtual 214, 3) := by decide +kernel
theorem dX7_gone_76 : decode cX7_gone 76 = .ok (.iinc 3 1, 3) := by decide +kernel
theorem dX7_gone_79 : decode cX7_gone 79 = .ok (.goto (-24), 3) := by decide +kernel
theorem dX7_gone_82 : decode cX7_gone 82 = .ok (.iload_n 2, 1) := by decide +kernel
theorem dX7_gone_83 : decode cX7_gone 83 = .ok (.iconst 5, 1) := by decide +kernel
theorem dX7_gone_84 : decode cX7_gone 84 = .ok (.if_icmp .ne 8, 3) := by decide +kernel
theorem dX7_gone_87 : decode cX7_gone 87 = .ok (.aload_n 0, 1) := by decide +kernel
theorem dX7_gone_88 : decode cX7_gone 88 = .ok (.iload_n 1, 1) := by decide +kernel
theorem dX7_gone_89 : decode cX7_gone 89 = .ok (.invokevirtual 217, 3) := by decide +kernel
theorem dX7_gone_92 : decode cX7_gone 92 = .ok (.aload_n 0, 1) := by decide +kernel
theorem dX7_gone_93 : decode cX7_gone 93 = .ok (.iload_n 1, 1) := by decide +kernel
theorem dX7_gone_94 : decode cX7_gone 94 = .ok (.invokevirtual 220, 3) := by decide +kernel
theorem dX7_gone_97 : decode cX7_gone 97 = .ok (.ifCond .eq 11, 3) := by decide +kernel
theorem dX7_gone_100 : decode cX7_gone 100 = .ok (.aload_n 0, 1) := by decide +kernel
theorem dX7_gone_101 : decode cX7_gone 101 = .ok (.iload_n 1, 1) := by decide +kernel
theorem dX7_gone_102 : decode cX7_gone 102 = .ok (.invokevirtual 223, 3) := by decide +kernel
theorem dX7_gone_105 : decode cX7_gone 105 = .ok (.goto 14, 3) := by decide +kernel
theorem dX7_gone_108 : decode cX7_gone 108 = .ok (.aload_n 0, 1) := by decide +kernel
theorem dX7_gone_109 : decode cX7_gone 109 = .ok (.getfield 7, 3) := by decide +kernel
theorem dX7_gone_112 : decode cX7_gone 112 = .ok (.iload_n 1, 1) := by decide +kernel
theorem dX7_gone_113 : decode cX7_gone 113 = .ok (.iconst 0, 1) := by decide +kernel
theorem dX7_gone_114 : decode cX7_gone 114 = .ok (.invokestatic 53, 3) := by decide +kernel
theorem dX7_gone_117 : decode cX7_gone 117 = .ok (.iconst (-1), 1) := by decide +kernel
theorem dX7_gone_118 : decode cX7_gone 118 = .ok (.iastore, 1) := by decide +kernel
theorem dX7_gone_119 : decode cX7_gone 119 = .ok (.return_, 1) := by decide +kernel
theorem dX7_gotNothing_0 : decode cX7_gotNothing 0 = .ok (.aload_n 0, 1) := by decide +kernel
theorem dX7_gotNothing_1 : decode cX7_gotNothing 1 = .ok (.iload_n 1, 1) := by decide +kernel
theorem dX7_gotNothing_2 : decode cX7_gotNothing 2 = .ok (.invokevirtual 180, 3) := by decide +kernel
theorem dX7_gotNothing_5 : decode cX7_gotNothing 5 = .ok (.aload_n 0, 1) := by decide +kernel
theorem dX7_gotNothing_6 : decode cX7_gotNothing 6 = .ok (.getfield 7, 3) := by decide +kernel
theorem dX7_gotNothing_9 : decode cX7_gotNothing 9 = .ok (.iload_n 1, 1) := by decide +kernel
theorem dX7_gotNothing_10 : decode cX7_gotNothing 10 = .ok (.bipush 8, 2) := by decide +kernel
theorem dX7_gotNothing_12 : decode cX7_gotNothing 12 = .ok (.invokestatic 63, 3) := by decide +kernel
theorem dX7_gotNothing_15 : decode cX7_gotNothing 15 = .ok (.dup2, 1) := by decide +kernel
theorem dX7_gotNothing_16 : decode cX7_gotNothing 16 = .ok (.iaload, 1) := by decide +kernel
theorem dX7_gotNothing_17 : decode cX7_gotNothing 17 = .ok (.iconst 1, 1) := by decide +kernel
theorem dX7_gotNothing_18 : decode cX7_gotNothing 18 = .ok (.iadd, 1) := by decide +kernel
theorem dX7_gotNothing_19 : decode cX7_gotNothing 19 = .ok (.iastore, 1) := by decide +kernel
theorem dX7_gotNothing_20 : decode cX7_gotNothing 20 = .ok (.return_, 1) := by decide +kernel
theorem dX7_turnAway_0 : decode cX7_turnAway 0 = .ok (.aload_n 0, 1) := by decide +kernel
theorem dX7_turnAway_1 : decode cX7_turnAway 1 = .ok (.iload_n 1, 1) := by decide +kernel
theorem dX7_turnAway_2 : decode cX7_turnAway 2 = .ok (.invokevirtual 124, 3) := by decide +kernel
theorem dX7_turnAway_5 : decode cX7_turnAway 5 = .ok (.istore_n 2, 1) := by decide +kernel
theorem dX7_turnAway_6 : decode cX7_turnAway 6 = .ok (.iload_n 2, 1) := by decide +kernel
theorem dX7_turnAway_7 : decode cX7_turnAway 7 = .ok (.ifCond .lt 17, 3) := by decide +kernel
theorem dX7_turnAway_10 : decode cX7_turnAway 10 = .ok (.aload_n 0, 1) := by decide +kernel
theorem dX7_turnAway_11 : decode cX7_turnAway 11 = .ok (.iload_n 2, 1) := by decide +kernel
theorem dX7_turnAway_12 : decode cX7_turnAway 12 = .ok (.invokevirtual 223, 3) := by decide +kernel
theorem dX7_turnAway_15 : decode cX7_turnAway 15 = .ok (.aload_n 0, 1) := by decide +kernel
theorem dX7_turnAway_16 : decode cX7_turnAway 16 = .ok (.iload_n 1, 1) := by decide +kernel
theorem dX7_turnAway_17 : decode cX7_turnAway 17 = .ok (.invokevirtual 124, 3) := by decide +kernel
theorem dX7_turnAway_20 : decode cX7_turnAway 20 = .ok (.istore_n 2, 1) := by decide +kernel
theorem dX7_turnAway_21 : decode cX7_turnAway 21 = .ok (.goto (-15), 3) := by decide +kernel
theorem dX7_turnAway_24 : decode cX7_turnAway 24 = .ok (.return_, 1) := by decide +kernel
theorem dX7_endGone_0 : decode cX7_endGone 0 = .ok (.aload_n 0, 1) := by decide +kernel
theorem dX7_endGone_1 : decode cX7_endGone 1 = .ok (.iload_n 1, 1) := by decide +kernel
theorem dX7_endGone_2 : decode cX7_endGone 2 = .ok (.invokevirtual 77, 3) := by decide +kernel
theorem dX7_endGone_5 : decode cX7_endGone 5 = .ok (.istore_n 2, 1) := by decide +kernel
theorem dX7_endGone_6 : decode cX7_endGone 6 = .ok (.aload_n 0, 1) := by decide +kernel
theorem dX7_endGone_7 : decode cX7_endGone 7 = .ok (.iload_n 1, 1) := by decide +kernel
theorem dX7_endGone_8 : decode cX7_endGone 8 = .ok (.invokevirtual 134, 3) := by decide +kernel
theorem dX7_endGone_11 : decode cX7_endGone 11 = .ok (.istore_n 3, 1) := by decide +kernel
theorem dX7_endGone_12 : decode cX7_endGone 12 = .ok (.aload_n 0, 1) := by decide +kernel
theorem dX7_endGone_13 : decode cX7_endGone 13 = .ok (.getfield 7, 3) := by decide +kernel
theorem dX7_endGone_16 : decode cX7_endGone 16 = .ok (.aload_n 0, 1) := by decide +kernel
theorem dX7_endGone_17 : decode cX7_endGone 17 = .ok (.iload_n 1, 1) := by decide +kernel
theorem dX7_endGone_18 : decode cX7_endGone 18 = .ok (.iconst 1, 1) := by decide +kernel
theorem dX7_endGone_19 : decode cX7_endGone 19 = .ok (.invokevirtual 66, 3) := by decide +kernel
theorem dX7_endGone_22 : decode cX7_endGone 22 = .ok (.iconst 2, 1) := by decide +kernel
theorem dX7_endGone_23 : decode cX7_endGone 23 = .ok (.iload_n 2, 1) := by decide +kernel
theorem dX7_endGone_24 : decode cX7_endGone 24 = .ok (.iadd, 1) := by decide +kernel
theorem dX7_endGone_25 : decode cX7_endGone 25 = .ok (.invokestatic 57, 3) := by decide +kernel
theorem dX7_endGone_28 : decode cX7_endGone 28 = .ok (.iconst (-1), 1) := by decide +kernel
theorem dX7_endGone_29 : decode cX7_endGone 29 = .ok (.iastore, 1) := by decide +kernel
theorem dX7_endGone_30 : decode cX7_endGone 30 = .ok (.aload_n 0, 1) := by decide +kernel
theorem dX7_endGone_31 : decode cX7_endGone 31 = .ok (.getfield 7, 3) := by decide +kernel
theorem dX7_endGone_34 : decode cX7_endGone 34 = .ok (.iload_n 1, 1) := by decide +kernel
theorem dX7_endGone_35 : decode cX7_endGone 35 = .ok (.iconst 0, 1) := by decide +kernel
theorem dX7_endGone_36 : decode cX7_endGone 36 = .ok (.invokestatic 53, 3) := by decide +kernel
theorem dX7_endGone_39 : decode cX7_endGone 39 = .ok (.iconst (-1), 1) := by decide +kernel
theorem dX7_endGone_40 : decode cX7_endGone 40 = .ok (.iastore, 1) := by decide +kernel
theorem dX7_endGone_41 : decode cX7_endGone 41 = .ok (.aload_n 0, 1) := by decide +kernel
theorem dX7_endGone_42 : decode cX7_endGone 42 = .ok (.getfield 7, 3) := by decide +kernel
theorem dX7_endGone_45 : decode cX7_endGone 45 = .ok (.iload_n 1, 1) := by decide +kernel
theorem dX7_endGone_46 : decode cX7_endGone 46 = .ok (.iconst 4, 1) := by decide +kernel
theorem dX7_endGone_47 : decode cX7_endGone 47 = .ok (.invokestatic 53, 3) := by decide +kernel
theorem dX7_endGone_50 : decode cX7_endGone 50 = .ok (.iconst (-1), 1) := by decide +kernel
theorem dX7_endGone_51 : decode cX7_endGone 51 = .ok (.iastore, 1) := by decide +kernel
theorem dX7_endGone_52 : decode cX7_endGone 52 = .ok (.iload_n 3, 1) := by decide +kernel
theorem dX7_endGone_53 : decode cX7_endGone 53 = .ok (.ifCond .lt 19, 3) := by decide +kernel
theorem dX7_endGone_56 : decode cX7_endGone 56 = .ok (.aload_n 0, 1) := by decide +kernel
theorem dX7_endGone_57 : decode cX7_endGone 57 = .ok (.iload_n 3, 1) := by decide +kernel
theorem dX7_endGone_58 : decode cX7_endGone 58 = .ok (.iload_n 2, 1) := by decide +kernel
theorem dX7_endGone_59 : decode cX7_endGone 59 = .ok (.iconst 1, 1) := by decide +kernel
theorem dX7_endGone_60 : decode cX7_endGone 60 = .ok (.if_icmp .ne 7, 3) := by decide +kernel
theorem dX7_endGone_63 : decode cX7_endGone 63 = .ok (.iconst 4, 1) := by decide +kernel
theorem dX7_endGone_64 : decode cX7_endGone 64 = .ok (.goto 5, 3) := by decide +kernel
theorem dX7_endGone_67 : decode cX7_endGone 67 = .ok (.bipush 8, 2) := by decide +kernel
theorem dX7_endGone_69 : decode cX7_endGone 69 = .ok (.invokevirtual 120, 3) := by decide +kernel
theorem dX7_endGone_72 : decode cX7_endGone 72 = .ok (.return_, 1) := by decide +kernel
theorem dX7_close_0 : decode cX7_close 0 = .ok (.aload_n 0, 1) := by decide +kernel
theorem dX7_close_1 : decode cX7_close 1 = .ok (.iload_n 1, 1) := by decide +kernel
theorem dX7_close_2 : decode cX7_close 2 = .ok (.iconst 1, 1) := by decide +kernel
theorem dX7_close_3 : decode cX7_close 3 = .ok (.invokevirtual 226, 3) := by decide +kernel
theorem dX7_close_6 : decode cX7_close 6 = .ok (.ireturn, 1) := by decide +kernel
theorem dX7_goWrite_0 : decode cX7_goWrite 0 = .ok (.iload_n 2, 1) := by decide +kernel
theorem dX7_goWrite_1 : decode cX7_goWrite 1 = .ok (.iconst 1, 1) := by decide +kernel
theorem dX7_goWrite_2 : decode cX7_goWrite 2 = .ok (.bipush 100, 2) := by decide +kernel
theorem dX7_goWrite_4 : decode cX7_goWrite 4 = .ok (.invokestatic 69, 3) := by decide +kernel
theorem dX7_goWrite_7 : decode cX7_goWrite 7 = .ok (.ifCond .eq 21, 3) := by decide +kernel
theorem dX7_goWrite_10 : decode cX7_goWrite 10 = .ok (.aload_n 0, 1) := by decide +kernel
theorem dX7_goWrite_11 : decode cX7_goWrite 11 = .ok (.iload_n 1, 1) := by decide +kernel
theorem dX7_goWrite_12 : decode cX7_goWrite 12 = .ok (.iconst 1, 1) := by decide +kernel
theorem dX7_goWrite_13 : decode cX7_goWrite 13 = .ok (.invokevirtual 110, 3) := by decide +kernel
theorem dX7_goWrite_16 : decode cX7_goWrite 16 = .ok (.ifCond .ne 14, 3) := by decide +kernel
theorem dX7_goWrite_19 : decode cX7_goWrite 19 = .ok (.aload_n 0, 1) := by decide +kernel
theorem dX7_goWrite_20 : decode cX7_goWrite 20 = .ok (.iload_n 1, 1) := by decide +kernel
theorem dX7_goWrite_21 : decode cX7_goWrite 21 = .ok (.iconst 2, 1) := by decide +kernel
theorem dX7_goWrite_22 : decode cX7_goWrite 22 = .ok (.invokevirtual 110, 3) := by decide +kernel
theorem dX7_goWrite_25 : decode cX7_goWrite 25 = .ok (.ifCond .ne 5, 3) := by decide +kernel
theorem dX7_goWrite_28 : decode cX7_goWrite 28 = .ok (.iconst (-1), 1) := by decide +kernel
theorem dX7_goWrite_29 : decode cX7_goWrite 29 = .ok (.ireturn, 1) := by decide +kernel
theorem dX7_goWrite_30 : decode cX7_goWrite 30 = .ok (.aload_n 0, 1) := by decide +kernel
theorem dX7_goWrite_31 : decode cX7_goWrite 31 = .ok (.getfield 7, 3) := by decide +kernel
theorem dX7_goWrite_34 : decode cX7_goWrite 34 = .ok (.iload_n 1, 1) := by decide +kernel
theorem dX7_goWrite_35 : decode cX7_goWrite 35 = .ok (.iaload, 1) := by decide +kernel
theorem dX7_goWrite_36 : decode cX7_goWrite 36 = .ok (.istore 4, 2) := by decide +kernel
theorem dX7_goWrite_38 : decode cX7_goWrite 38 = .ok (.aload_n 0, 1) := by decide +kernel
theorem dX7_goWrite_39 : decode cX7_goWrite 39 = .ok (.iload 4, 2) := by decide +kernel
theorem dX7_goWrite_41 : decode cX7_goWrite 41 = .ok (.invokevirtual 77, 3) := by decide +kernel
theorem dX7_goWrite_44 : decode cX7_goWrite 44 = .ok (.iconst 2, 1) := by decide +kernel
theorem dX7_goWrite_45 : decode cX7_goWrite 45 = .ok (.if_icmp .ne 12, 3) := by decide +kernel
theorem dX7_goWrite_48 : decode cX7_goWrite 48 = .ok (.aload_n 0, 1) := by decide +kernel
theorem dX7_goWrite_49 : decode cX7_goWrite 49 = .ok (.iload 4, 2) := by decide +kernel
theorem dX7_goWrite_51 : decode cX7_goWrite 51 = .ok (.iload_n 2, 1) := by decide +kernel
theorem dX7_goWrite_52 : decode cX7_goWrite 52 = .ok (.iload_n 3, 1) := by decide +kernel
theorem dX7_goWrite_53 : decode cX7_goWrite 53 = .ok (.invokevirtual 230, 3) := by decide +kernel
theorem dX7_goWrite_56 : decode cX7_goWrite 56 = .ok (.ireturn, 1) := by decide +kernel
theorem dX7_goWrite_57 : decode cX7_goWrite 57 = .ok (.aload_n 0, 1) := by decide +kernel
theorem dX7_goWrite_58 : decode cX7_goWrite 58 = .ok (.iload 4, 2) := by decide +kernel
theorem dX7_goWrite_60 : decode cX7_goWrite 60 = .ok (.invokevirtual 134, 3) := by decide +kernel
theorem dX7_goWrite_63 : decode cX7_goWrite 63 = .ok (.istore 5, 2) := by decide +kernel
theorem dX7_goWrite_65 : decode cX7_goWrite 65 = .ok (.iload 5, 2) := by decide +kernel
theorem dX7_goWrite_67 : decode cX7_goWrite 67 = .ok (.ifCond .ge 6, 3) := by decide +kernel
theorem dX7_goWrite_70 : decode cX7_goWrite 70 = .ok (.bipush (-2), 2) := by decide +kernel
theorem dX7_goWrite_72 : decode cX7_goWrite 72 = .ok (.ireturn, 1) := by decide +kernel
theorem dX7_goWrite_73 : decode cX7_goWrite 73 = .ok (.aload_n 0, 1) := by decide +kernel
theorem dX7_goWrite_74 : decode cX7_goWrite 74 = .ok (.iload 4, 2) := by decide +kernel
theorem dX7_goWrite_76 : decode cX7_goWrite 76 = .ok (.iconst 1, 1) := by decide +kernel
theorem dX7_goWrite_77 : decode cX7_goWrite 77 = .ok (.invokevirtual 66, 3) := by decide +kernel
theorem dX7_goWrite_80 : decode cX7_goWrite 80 = .ok (.istore 6, 2) := by decide +kernel
theorem dX7_goWrite_82 : decode cX7_goWrite 82 = .ok (.aload_n 0, 1) := by decide +kernel
theorem dX7_goWrite_83 : decode cX7_goWrite 83 = .ok (.iload 6, 2) := by decide +kernel
theorem dX7_goWrite_85 : decode cX7_goWrite 85 = .ok (.iconst 0, 1) := by decide +kernel
theorem dX7_goWrite_86 : decode cX7_goWrite 86 = .ok (.invokevirtual 91, 3) := by decide +kernel
theorem dX7_goWrite_89 : decode cX7_goWrite 89 = .ok (.aload_n 0, 1) := by decide +kernel
theorem dX7_goWrite_90 : decode cX7_goWrite 90 = .ok (.iload 6, 2) := by decide +kernel
theorem dX7_goWrite_92 : decode cX7_goWrite 92 = .ok (.iconst 1, 1) := by decide +kernel
theorem dX7_goWrite_93 : decode cX7_goWrite 93 = .ok (.invokevirtual 91, 3) := by decide +kernel
theorem dX7_goWrite_96 : decode cX7_goWrite 96 = .ok (.isub, 1) := by decide +kernel
theorem dX7_goWrite_97 : decode cX7_goWrite 97 = .ok (.istore 7, 2) := by decide +kernel
theorem dX7_goWrite_99 : decode cX7_goWrite 99 = .ok (.iload 7, 2) := by decide +kernel
theorem dX7_goWrite_101 : decode cX7_goWrite 101 = .ok (.ifCond .ne 5, 3) := by decide +kernel
theorem dX7_goWrite_104 : decode cX7_goWrite 104 = .ok (.iconst 0, 1) := by decide +kernel
theorem dX7_goWrite_105 : decode cX7_goWrite 105 = .ok (.ireturn, 1) := by decide +kernel
theorem dX7_goWrite_106 : decode cX7_goWrite 106 = .ok (.iload_n 3, 1) := by decide +kernel
theorem dX7_goWrite_107 : decode cX7_goWrite 107 = .ok (.ifCond .eq 7, 3) := by decide +kernel
theorem dX7_goWrite_110 : decode cX7_goWrite 110 = .ok (.aload_n 0, 1) := by decide +kernel
theorem dX7_goWrite_111 : decode cX7_goWrite 111 = .ok (.invokevirtual 101, 3) := by decide +kernel
theorem dX7_goWrite_114 : decode cX7_goWrite 114 = .ok (.iload_n 2, 1) := by decide +kernel
theorem dX7_goWrite_115 : decode cX7_goWrite 115 = .ok (.iload 7, 2) := by decide +kernel
theorem dX7_goWrite_117 : decode cX7_goWrite 117 = .ok (.if_icmp .ge 7, 3) := by decide +kernel
theorem dX7_goWrite_120 : decode cX7_goWrite 120 = .ok (.iload_n 2, 1) := by decide +kernel
theorem dX7_goWrite_121 : decode cX7_goWrite 121 = .ok (.goto 5, 3) := by decide +kernel
theorem dX7_goWrite_124 : decode cX7_goWrite 124 = .ok (.iload 7, 2) := by decide +kernel
theorem dX7_goWrite_126 : decode cX7_goWrite 126 = .ok (.istore 8, 2) := by decide +kernel
theorem dX7_goWrite_128 : decode cX7_goWrite 128 = .ok (.aload_n 0, 1) := by decide +kernel
theorem dX7_goWrite_129 : decode cX7_goWrite 129 = .ok (.getfield 7, 3) := by decide +kernel
theorem dX7_goWrite_132 : decode cX7_goWrite 132 = .ok (.iload 6, 2) := by decide +kernel
theorem dX7_goWrite_134 : decode cX7_goWrite 134 = .ok (.iconst 1, 1) := by decide +kernel
theorem dX7_goWrite_135 : decode cX7_goWrite 135 = .ok (.invokestatic 57, 3) := by decide +kernel
theorem dX7_goWrite_138 : decode cX7_goWrite 138 = .ok (.dup2, 1) := by decide +kernel
theorem dX7_goWrite_139 : decode cX7_goWrite 139 = .ok (.iaload, 1) := by decide +kernel
theorem dX7_goWrite_140 : decode cX7_goWrite 140 = .ok (.iload 8, 2) := by decide +kernel
theorem dX7_goWrite_142 : decode cX7_goWrite 142 = .ok (.iadd, 1) := by decide +kernel
theorem dX7_goWrite_143 : decode cX7_goWrite 143 = .ok (.iastore, 1) := by decide +kernel
theorem dX7_goWrite_144 : decode cX7_goWrite 144 = .ok (.aload_n 0, 1) := by decide +kernel
theorem dX7_goWrite_145 : decode cX7_goWrite 145 = .ok (.iload 5, 2) := by decide +kernel
theorem dX7_goWrite_147 : decode cX7_goWrite 147 = .ok (.iconst 1, 1) := by decide +kernel
theorem dX7_goWrite_148 : decode cX7_goWrite 148 = .ok (.invokevirtual 120, 3) := by decide +kernel
theorem dX7_goWrite_151 : decode cX7_goWrite 151 = .ok (.iload 8, 2) := by decide +kernel
theorem dX7_goWrite_153 : decode cX7_goWrite 153 = .ok (.ireturn, 1) := by decide +kernel
theorem dX7_goCount_0 : decode cX7_goCount 0 = .ok (.aload_n 0, 1) := by decide +kernel
theorem dX7_goCount_1 : decode cX7_goCount 1 = .ok (.iload_n 1, 1) := by decide +kernel
theorem dX7_goCount_2 : decode cX7_goCount 2 = .ok (.iconst 1, 1) := by decide +kernel
theorem dX7_goCount_3 : decode cX7_goCount 3 = .ok (.invokevirtual 66, 3) := by decide +kernel
theorem dX7_goCount_6 : decode cX7_goCount 6 = .ok (.iload_n 2, 1) := by decide +kernel
theorem dX7_goCount_7 : decode cX7_goCount 7 = .ok (.iadd, 1) := by decide +kernel
theorem dX7_goCount_8 : decode cX7_goCount 8 = .ok (.sipush 1000, 3) := by decide +kernel
theorem dX7_goCount_11 : decode cX7_goCount 11 = .ok (.if_icmp .le 5, 3) := by decide +kernel
theorem dX7_goCount_14 : decode cX7_goCount 14 = .ok (.iconst 0, 1) := by decide +kernel
theorem dX7_goCount_15 : decode cX7_goCount 15 = .ok (.ireturn, 1) := by decide +kernel
theorem dX7_goCount_16 : decode cX7_goCount 16 = .ok (.iload_n 3, 1) := by decide +kernel
theorem dX7_goCount_17 : decode cX7_goCount 17 = .ok (.ifCond .eq 7, 3) := by decide +kernel
theorem dX7_goCount_20 : decode cX7_goCount 20 = .ok (.aload_n 0, 1) := by decide +kernel
theorem dX7_goCount_21 : decode cX7_goCount 21 = .ok (.invokevirtual 101, 3) := by decide +kernel
theorem dX7_goCount_24 : decode cX7_goCount 24 = .ok (.aload_n 0, 1) := by decide +kernel
theorem dX7_goCount_25 : decode cX7_goCount 25 = .ok (.getfield 7, 3) := by decide +kernel
theorem dX7_goCount_28 : decode cX7_goCount 28 = .ok (.iload_n 1, 1) := by decide +kernel
theorem dX7_goCount_29 : decode cX7_goCount 29 = .ok (.iconst 1, 1) := by decide +kernel
theorem dX7_goCount_30 : decode cX7_goCount 30 = .ok (.invokestatic 53, 3) := by decide +kernel
theorem dX7_goCount_33 : decode cX7_goCount 33 = .ok (.dup2, 1) := by decide +kernel
theorem dX7_goCount_34 : decode cX7_goCount 34 = .ok (.iaload, 1) := by decide +kernel
theorem dX7_goCount_35 : decode cX7_goCount 35 = .ok (.iload_n 2, 1) := by decide +kernel
theorem dX7_goCount_36 : decode cX7_goCount 36 = .ok (.iadd, 1) := by decide +kernel
theorem dX7_goCount_37 : decode cX7_goCount 37 = .ok (.iastore, 1) := by decide +kernel
theorem dX7_goCount_38 : decode cX7_goCount 38 = .ok (.aload_n 0, 1) := by decide +kernel
theorem dX7_goCount_39 : decode cX7_goCount 39 = .ok (.iload_n 1, 1) := by decide +kernel
theorem dX7_goCount_40 : decode cX7_goCount 40 = .ok (.iconst 1, 1) := by decide +kernel
theorem dX7_goCount_41 : decode cX7_goCount 41 = .ok (.invokevirtual 120, 3) := by decide +kernel
theorem dX7_goCount_44 : decode cX7_goCount 44 = .ok (.iload_n 2, 1) := by decide +kernel
theorem dX7_goCount_45 : decode cX7_goCount 45 = .ok (.ireturn, 1) := by decide +kernel
theorem dX7_goRead_0 : decode cX7_goRead 0 = .ok (.iload_n 2, 1) := by decide +kernel
theorem dX7_goRead_1 : decode cX7_goRead 1 = .ok (.iconst 1, 1) := by decide +kernel
theorem dX7_goRead_2 : decode cX7_goRead 2 = .ok (.bipush 100, 2) := by decide +kernel
theorem dX7_goRead_4 : decode cX7_goRead 4 = .ok (.invokestatic 69, 3) := by decide +kernel
theorem dX7_goRead_7 : decode cX7_goRead 7 = .ok (.ifCond .eq 11, 3) := by decide +kernel
theorem dX7_goRead_10 : decode cX7_goRead 10 = .ok (.aload_n 0, 1) := by decide +kernel
theorem dX7_goRead_11 : decode cX7_goRead 11 = .ok (.iload_n 1, 1) := by decide +kernel
theorem dX7_goRead_12 : decode cX7_goRead 12 = .ok (.invokevirtual 73, 3) := by decide +kernel
theorem dX7_goRead_15 : decode cX7_goRead 15 = .ok (.ifCond .ne 5, 3) := by decide +kernel
theorem dX7_goRead_18 : decode cX7_goRead 18 = .ok (.iconst (-1), 1) := by decide +kernel
theorem dX7_goRead_19 : decode cX7_goRead 19 = .ok (.ireturn, 1) := by decide +kernel
theorem dX7_goRead_20 : decode cX7_goRead 20 = .ok (.aload_n 0, 1) := by decide +kernel
theorem dX7_goRead_21 : decode cX7_goRead 21 = .ok (.getfield 7, 3) := by decide +kernel
theorem dX7_goRead_24 : decode cX7_goRead 24 = .ok (.iload_n 1, 1) := by decide +kernel
theorem dX7_goRead_25 : decode cX7_goRead 25 = .ok (.iaload, 1) := by decide +kernel
theorem dX7_goRead_26 : decode cX7_goRead 26 = .ok (.istore 4, 2) := by decide +kernel
theorem dX7_goRead_28 : decode cX7_goRead 28 = .ok (.aload_n 0, 1) := by decide +kernel
theorem dX7_goRead_29 : decode cX7_goRead 29 = .ok (.iload 4, 2) := by decide +kernel
theorem dX7_goRead_31 : decode cX7_goRead 31 = .ok (.invokevirtual 77, 3) := by decide +kernel
theorem dX7_goRead_34 : decode cX7_goRead 34 = .ok (.tableswitch 72 0 3 #[30, 72, 39, 63], 30) := by decide +kernel
theorem dX7_goRead_64 : decode cX7_goRead 64 = .ok (.aload_n 0, 1) := by decide +kernel
theorem dX7_goRead_65 : decode cX7_goRead 65 = .ok (.iload 4, 2) := by decide +kernel
theorem dX7_goRead_67 : decode cX7_goRead 67 = .ok (.iload_n 2, 1) := by decide +kernel
theorem dX7_goRead_68 : decode cX7_goRead 68 = .ok (.iload_n 3, 1) := by decide +kernel
theorem dX7_goRead_69 : decode cX7_goRead 69 = .ok (.invokevirtual 234, 3) := by decide +kernel
theorem dX7_goRead_72 : decode cX7_goRead 72 = .ok (.ireturn, 1) := by decide +kernel
theorem dX7_goRead_73 : decode cX7_goRead 73 = .ok (.aload_n 0, 1) := by decide +kernel
theorem dX7_goRead_74 : decode cX7_goRead 74 = .ok (.iload 4, 2) := by decide +kernel
theorem dX7_goRead_76 : decode cX7_goRead 76 = .ok (.aload_n 0, 1) := by decide +kernel
theorem dX7_goRead_77 : decode cX7_goRead 77 = .ok (.iload 4, 2) := by decide +kernel
theorem dX7_goRead_79 : decode cX7_goRead 79 = .ok (.iconst 2, 1) := by decide +kernel
theorem dX7_goRead_80 : decode cX7_goRead 80 = .ok (.invokevirtual 66, 3) := by decide +kernel
theorem dX7_goRead_83 : decode cX7_goRead 83 = .ok (.iconst 1, 1) := by decide +kernel
theorem dX7_goRead_84 : decode cX7_goRead 84 = .ok (.if_icmp .ne 7, 3) := by decide +kernel
theorem dX7_goRead_87 : decode cX7_goRead 87 = .ok (.iconst 1, 1) := by decide +kernel
theorem dX7_goRead_88 : decode cX7_goRead 88 = .ok (.goto 4, 3) := by decide +kernel
theorem dX7_goRead_91 : decode cX7_goRead 91 = .ok (.iconst 0, 1) := by decide +kernel
theorem dX7_goRead_92 : decode cX7_goRead 92 = .ok (.iload_n 3, 1) := by decide +kernel
theorem dX7_goRead_93 : decode cX7_goRead 93 = .ok (.invokevirtual 237, 3) := by decide +kernel
theorem dX7_goRead_96 : decode cX7_goRead 96 = .ok (.ireturn, 1) := by decide +kernel
theorem dX7_goRead_97 : decode cX7_goRead 97 = .ok (.aload_n 0, 1) := by decide +kernel
theorem dX7_goRead_98 : decode cX7_goRead 98 = .ok (.iload 4, 2) := by decide +kernel
theorem dX7_goRead_100 : decode cX7_goRead 100 = .ok (.iconst 0, 1) := by decide +kernel
theorem dX7_goRead_101 : decode cX7_goRead 101 = .ok (.iload_n 3, 1) := by decide +kernel
theorem dX7_goRead_102 : decode cX7_goRead 102 = .ok (.invokevirtual 237, 3) := by decide +kernel
theorem dX7_goRead_105 : decode cX7_goRead 105 = .ok (.ireturn, 1) := by decide +kernel
theorem dX7_goRead_106 : decode cX7_goRead 106 = .ok (.iconst (-1), 1) := by decide +kernel
theorem dX7_goRead_107 : decode cX7_goRead 107 = .ok (.ireturn, 1) := by decide +kernel
theorem dX7_readBytes_0 : decode cX7_readBytes 0 = .ok (.aload_n 0, 1) := by decide +kernel
theorem dX7_readBytes_1 : decode cX7_readBytes 1 = .ok (.iload_n 1, 1) := by decide +kernel
theorem dX7_readBytes_2 : decode cX7_readBytes 2 = .ok (.iconst 1, 1) := by decide +kernel
theorem dX7_readBytes_3 : decode cX7_readBytes 3 = .ok (.invokevirtual 66, 3) := by decide +kernel
theorem dX7_readBytes_6 : decode cX7_readBytes 6 = .ok (.istore 4, 2) := by decide +kernel
theorem dX7_readBytes_8 : decode cX7_readBytes 8 = .ok (.aload_n 0, 1) := by decide +kernel
theorem dX7_readBytes_9 : decode cX7_readBytes 9 = .ok (.iload_n 1, 1) := by decide +kernel
theorem dX7_readBytes_10 : decode cX7_readBytes 10 = .ok (.invokevirtual 134, 3) := by decide +kernel
theorem dX7_readBytes_13 : decode cX7_readBytes 13 = .ok (.istore 5, 2) := by decide +kernel
theorem dX7_readBytes_15 : decode cX7_readBytes 15 = .ok (.aload_n 0, 1) := by decide +kernel
theorem dX7_readBytes_16 : decode cX7_readBytes 16 = .ok (.iload 4, 2) := by decide +kernel
theorem dX7_readBytes_18 : decode cX7_readBytes 18 = .ok (.iconst 1, 1) := by decide +kernel
theorem dX7_readBytes_19 : decode cX7_readBytes 19 = .ok (.invokevirtual 91, 3) := by decide +kernel
theorem dX7_readBytes_22 : decode cX7_readBytes 22 = .ok (.istore 6, 2) := by decide +kernel
theorem dX7_readBytes_24 : decode cX7_readBytes 24 = .ok (.iload 6, 2) := by decide +kernel
theorem dX7_readBytes_26 : decode cX7_readBytes 26 = .ok (.ifCond .ne 15, 3) := by decide +kernel
theorem dX7_readBytes_29 : decode cX7_readBytes 29 = .ok (.iload 5, 2) := by decide +kernel
theorem dX7_readBytes_31 : decode cX7_readBytes 31 = .ok (.ifCond .ge 8, 3) := by decide +kernel
theorem dX7_readBytes_34 : decode cX7_readBytes 34 = .ok (.bipush (-2), 2) := by decide +kernel
theorem dX7_readBytes_36 : decode cX7_readBytes 36 = .ok (.goto 4, 3) := by decide +kernel
theorem dX7_readBytes_39 : decode cX7_readBytes 39 = .ok (.iconst 0, 1) := by decide +kernel
theorem dX7_readBytes_40 : decode cX7_readBytes 40 = .ok (.ireturn, 1) := by decide +kernel
theorem dX7_readBytes_41 : decode cX7_readBytes 41 = .ok (.iload_n 3, 1) := by decide +kernel
theorem dX7_readBytes_42 : decode cX7_readBytes 42 = .ok (.ifCond .eq 7, 3) := by decide +kernel
theorem dX7_readBytes_45 : decode cX7_readBytes 45 = .ok (.aload_n 0, 1) := by decide +kernel
theorem dX7_readBytes_46 : decode cX7_readBytes 46 = .ok (.invokevirtual 101, 3) := by decide +kernel
theorem dX7_readBytes_49 : decode cX7_readBytes 49 = .ok (.iload_n 2, 1) := by decide +kernel
theorem dX7_readBytes_50 : decode cX7_readBytes 50 = .ok (.iload 6, 2) := by decide +kernel
theorem dX7_readBytes_52 : decode cX7_readBytes 52 = .ok (.if_icmp .ge 7, 3) := by decide +kernel
theorem dX7_readBytes_55 : decode cX7_readBytes 55 = .ok (.iload_n 2, 1) := by decide +kernel
theorem dX7_readBytes_56 : decode cX7_readBytes 56 = .ok (.goto 5, 3) := by decide +kernel
theorem dX7_readBytes_59 : decode cX7_readBytes 59 = .ok (.iload 6, 2) := by decide +kernel
theorem dX7_readBytes_61 : decode cX7_readBytes 61 = .ok (.istore 7, 2) := by decide +kernel
theorem dX7_readBytes_63 : decode cX7_readBytes 63 = .ok (.aload_n 0, 1) := by decide +kernel
theorem dX7_readBytes_64 : decode cX7_readBytes 64 = .ok (.getfield 7, 3) := by decide +kernel
theorem dX7_readBytes_67 : decode cX7_readBytes 67 = .ok (.iload 4, 2) := by decide +kernel
theorem dX7_readBytes_69 : decode cX7_readBytes 69 = .ok (.iconst 1, 1) := by decide +kernel
theorem dX7_readBytes_70 : decode cX7_readBytes 70 = .ok (.invokestatic 57, 3) := by decide +kernel
theorem dX7_readBytes_73 : decode cX7_readBytes 73 = .ok (.dup2, 1) := by decide +kernel
theorem dX7_readBytes_74 : decode cX7_readBytes 74 = .ok (.iaload, 1) := by decide +kernel
theorem dX7_readBytes_75 : decode cX7_readBytes 75 = .ok (.iload 7, 2) := by decide +kernel
theorem dX7_readBytes_77 : decode cX7_readBytes 77 = .ok (.isub, 1) := by decide +kernel
theorem dX7_readBytes_78 : decode cX7_readBytes 78 = .ok (.iastore, 1) := by decide +kernel
theorem dX7_readBytes_79 : decode cX7_readBytes 79 = .ok (.iload 5, 2) := by decide +kernel
theorem dX7_readBytes_81 : decode cX7_readBytes 81 = .ok (.ifCond .lt 10, 3) := by decide +kernel
theorem dX7_readBytes_84 : decode cX7_readBytes 84 = .ok (.aload_n 0, 1) := by decide +kernel
theorem dX7_readBytes_85 : decode cX7_readBytes 85 = .ok (.iload 5, 2) := by decide +kernel
theorem dX7_readBytes_87 : decode cX7_readBytes 87 = .ok (.iconst 2, 1) := by decide +kernel
theorem dX7_readBytes_88 : decode cX7_readBytes 88 = .ok (.invokevirtual 120, 3) := by decide +kernel
theorem dX7_readBytes_91 : decode cX7_readBytes 91 = .ok (.iload 7, 2) := by decide +kernel
theorem dX7_readBytes_93 : decode cX7_readBytes 93 = .ok (.ireturn, 1) := by decide +kernel
theorem dX7_readValue_0 : decode cX7_readValue 0 = .ok (.aload_n 0, 1) := by decide +kernel
theorem dX7_readValue_1 : decode cX7_readValue 1 = .ok (.iload_n 1, 1) := by decide +kernel
theorem dX7_readValue_2 : decode cX7_readValue 2 = .ok (.iconst 1, 1) := by decide +kernel
theorem dX7_readValue_3 : decode cX7_readValue 3 = .ok (.invokevirtual 66, 3) := by decide +kernel
theorem dX7_readValue_6 : decode cX7_readValue 6 = .ok (.istore 4, 2) := by decide +kernel
theorem dX7_readValue_8 : decode cX7_readValue 8 = .ok (.iload 4, 2) := by decide +kernel
theorem dX7_readValue_10 : decode cX7_readValue 10 = .ok (.ifCond .ne 5, 3) := by decide +kernel
theorem dX7_readValue_13 : decode cX7_readValue 13 = .ok (.iconst 0, 1) := by decide +kernel
theorem dX7_readValue_14 : decode cX7_readValue 14 = .ok (.ireturn, 1) := by decide +kernel
theorem dX7_readValue_15 : decode cX7_readValue 15 = .ok (.iload_n 3, 1) := by decide +kernel
theorem dX7_readValue_16 : decode cX7_readValue 16 = .ok (.ifCond .eq 7, 3) := by decide +kernel
theorem dX7_readValue_19 : decode cX7_readValue 19 = .ok (.aload_n 0, 1) := by decide +kernel
theorem dX7_readValue_20 : decode cX7_readValue 20 = .ok (.invokevirtual 101, 3) := by decide +kernel
theorem dX7_readValue_23 : decode cX7_readValue 23 = .ok (.iload_n 2, 1) := by decide +kernel
theorem dX7_readValue_24 : decode cX7_readValue 24 = .ok (.ifCond .eq 7, 3) := by decide +kernel
theorem dX7_readValue_27 : decode cX7_readValue 27 = .ok (.iconst 1, 1) := by decide +kernel
theorem dX7_readValue_28 : decode cX7_readValue 28 = .ok (.goto 5, 3) := by decide +kernel
theorem dX7_readValue_31 : decode cX7_readValue 31 = .ok (.iload 4, 2) := by decide +kernel
theorem dX7_readValue_33 : decode cX7_readValue 33 = .ok (.istore 5, 2) := by decide +kernel
theorem dX7_readValue_35 : decode cX7_readValue 35 = .ok (.aload_n 0, 1) := by decide +kernel
theorem dX7_readValue_36 : decode cX7_readValue 36 = .ok (.getfield 7, 3) := by decide +kernel
theorem dX7_readValue_39 : decode cX7_readValue 39 = .ok (.iload_n 1, 1) := by decide +kernel
theorem dX7_readValue_40 : decode cX7_readValue 40 = .ok (.iconst 1, 1) := by decide +kernel
theorem dX7_readValue_41 : decode cX7_readValue 41 = .ok (.invokestatic 53, 3) := by decide +kernel
theorem dX7_readValue_44 : decode cX7_readValue 44 = .ok (.dup2, 1) := by decide +kernel
theorem dX7_readValue_45 : decode cX7_readValue 45 = .ok (.iaload, 1) := by decide +kernel
theorem dX7_readValue_46 : decode cX7_readValue 46 = .ok (.iload 5, 2) := by decide +kernel
theorem dX7_readValue_48 : decode cX7_readValue 48 = .ok (.isub, 1) := by decide +kernel
theorem dX7_readValue_49 : decode cX7_readValue 49 = .ok (.iastore, 1) := by decide +kernel
theorem dX7_readValue_50 : decode cX7_readValue 50 = .ok (.aload_n 0, 1) := by decide +kernel
theorem dX7_readValue_51 : decode cX7_readValue 51 = .ok (.iload_n 1, 1) := by decide +kernel
theorem dX7_readValue_52 : decode cX7_readValue 52 = .ok (.invokevirtual 77, 3) := by decide +kernel
theorem dX7_readValue_55 : decode cX7_readValue 55 = .ok (.iconst 2, 1) := by decide +kernel
theorem dX7_readValue_56 : decode cX7_readValue 56 = .ok (.if_icmp .ne 9, 3) := by decide +kernel
theorem dX7_readValue_59 : decode cX7_readValue 59 = .ok (.aload_n 0, 1) := by decide +kernel
theorem dX7_readValue_60 : decode cX7_readValue 60 = .ok (.iload_n 1, 1) := by decide +kernel
theorem dX7_readValue_61 : decode cX7_readValue 61 = .ok (.iconst 2, 1) := by decide +kernel
theorem dX7_readValue_62 : decode cX7_readValue 62 = .ok (.invokevirtual 120, 3) := by decide +kernel
theorem dX7_readValue_65 : decode cX7_readValue 65 = .ok (.iload 5, 2) := by decide +kernel
theorem dX7_readValue_67 : decode cX7_readValue 67 = .ok (.ireturn, 1) := by decide +kernel
theorem dX7_write_0 : decode cX7_write 0 = .ok (.aload_n 0, 1) := by decide +kernel
theorem dX7_write_1 : decode cX7_write 1 = .ok (.iload_n 1, 1) := by decide +kernel
theorem dX7_write_2 : decode cX7_write 2 = .ok (.iload_n 2, 1) := by decide +kernel
theorem dX7_write_3 : decode cX7_write 3 = .ok (.iconst 1, 1) := by decide +kernel
theorem dX7_write_4 : decode cX7_write 4 = .ok (.invokevirtual 241, 3) := by decide +kernel
theorem dX7_write_7 : decode cX7_write 7 = .ok (.ireturn, 1) := by decide +kernel
theorem dX7_read_0 : decode cX7_read 0 = .ok (.aload_n 0, 1) := by decide +kernel
theorem dX7_read_1 : decode cX7_read 1 = .ok (.iload_n 1, 1) := by decide +kernel
theorem dX7_read_2 : decode cX7_read 2 = .ok (.iload_n 2, 1) := by decide +kernel
theorem dX7_read_3 : decode cX7_read 3 = .ok (.iconst 1, 1) := by decide +kernel
theorem dX7_read_4 : decode cX7_read 4 = .ok (.invokevirtual 244, 3) := by decide +kernel
theorem dX7_read_7 : decode cX7_read 7 = .ok (.ireturn, 1) := by decide +kernel
theorem dX7_arm_0 : decode cX7_arm 0 = .ok (.aload_n 0, 1) := by decide +kernel
theorem dX7_arm_1 : decode cX7_arm 1 = .ok (.iload_n 1, 1) := by decide +kernel
theorem dX7_arm_2 : decode cX7_arm 2 = .ok (.iconst 3, 1) := by decide +kernel
theorem dX7_arm_3 : decode cX7_arm 3 = .ok (.invokevirtual 110, 3) := by decide +kernel
theorem dX7_arm_6 : decode cX7_arm 6 = .ok (.ifCond .eq 25, 3) := by decide +kernel
theorem dX7_arm_9 : decode cX7_arm 9 = .ok (.iload_n 2, 1) := by decide +kernel
theorem dX7_arm_10 : decode cX7_arm 10 = .ok (.iconst 0, 1) := by decide +kernel
theorem dX7_arm_11 : decode cX7_arm 11 = .ok (.sipush 1000, 3) := by decide +kernel
theorem dX7_arm_14 : decode cX7_arm 14 = .ok (.invokestatic 69, 3) := by decide +kernel
theorem dX7_arm_17 : decode cX7_arm 17 = .ok (.ifCond .eq 14, 3) := by decide +kernel
theorem dX7_arm_20 : decode cX7_arm 20 = .ok (.iload_n 3, 1) := by decide +kernel
theorem dX7_arm_21 : decode cX7_arm 21 = .ok (.iconst 0, 1) := by decide +kernel
theorem dX7_arm_22 : decode cX7_arm 22 = .ok (.sipush 1000, 3) := by decide +kernel
theorem dX7_arm_25 : decode cX7_arm 25 = .ok (.invokestatic 69, 3) := by decide +kernel
theorem dX7_arm_28 : decode cX7_arm 28 = .ok (.ifCond .ne 5, 3) := by decide +kernel
theorem dX7_arm_31 : decode cX7_arm 31 = .ok (.iconst 0, 1) := by decide +kernel
theorem dX7_arm_32 : decode cX7_arm 32 = .ok (.ireturn, 1) := by decide +kernel
theorem dX7_arm_33 : decode cX7_arm 33 = .ok (.aload_n 0, 1) := by decide +kernel
theorem dX7_arm_34 : decode cX7_arm 34 = .ok (.invokevirtual 101, 3) := by decide +kernel
theorem dX7_arm_37 : decode cX7_arm 37 = .ok (.aload_n 0, 1) := by decide +kernel
theorem dX7_arm_38 : decode cX7_arm 38 = .ok (.getfield 7, 3) := by decide +kernel
theorem dX7_arm_41 : decode cX7_arm 41 = .ok (.iload_n 1, 1) := by decide +kernel
theorem dX7_arm_42 : decode cX7_arm 42 = .ok (.iaload, 1) := by decide +kernel
theorem dX7_arm_43 : decode cX7_arm 43 = .ok (.istore 4, 2) := by decide +kernel
theorem dX7_arm_45 : decode cX7_arm 45 = .ok (.aload_n 0, 1) := by decide +kernel
theorem dX7_arm_46 : decode cX7_arm 46 = .ok (.getfield 7, 3) := by decide +kernel
theorem dX7_arm_49 : decode cX7_arm 49 = .ok (.iload 4, 2) := by decide +kernel
theorem dX7_arm_51 : decode cX7_arm 51 = .ok (.iconst 1, 1) := by decide +kernel
theorem dX7_arm_52 : decode cX7_arm 52 = .ok (.invokestatic 53, 3) := by decide +kernel
theorem dX7_arm_55 : decode cX7_arm 55 = .ok (.iconst 0, 1) := by decide +kernel
theorem dX7_arm_56 : decode cX7_arm 56 = .ok (.iastore, 1) := by decide +kernel
theorem dX7_arm_57 : decode cX7_arm 57 = .ok (.aload_n 0, 1) := by decide +kernel
theorem dX7_arm_58 : decode cX7_arm 58 = .ok (.getfield 7, 3) := by decide +kernel
theorem dX7_arm_61 : decode cX7_arm 61 = .ok (.iload 4, 2) := by decide +kernel
theorem dX7_arm_63 : decode cX7_arm 63 = .ok (.iconst 2, 1) := by decide +kernel
theorem dX7_arm_64 : decode cX7_arm 64 = .ok (.invokestatic 53, 3) := by decide +kernel
theorem dX7_arm_67 : decode cX7_arm 67 = .ok (.iload_n 2, 1) := by decide +kernel
theorem dX7_arm_68 : decode cX7_arm 68 = .ok (.ifCond .ne 7, 3) := by decide +kernel
theorem dX7_arm_71 : decode cX7_arm 71 = .ok (.iconst (-1), 1) := by decide +kernel
theorem dX7_arm_72 : decode cX7_arm 72 = .ok (.goto 13, 3) := by decide +kernel
theorem dX7_arm_75 : decode cX7_arm 75 = .ok (.aload_n 0, 1) := by decide +kernel
theorem dX7_arm_76 : decode cX7_arm 76 = .ok (.getfield 7, 3) := by decide +kernel
theorem dX7_arm_79 : decode cX7_arm 79 = .ok (.sipush 794, 3) := by decide +kernel
theorem dX7_arm_82 : decode cX7_arm 82 = .ok (.iaload, 1) := by decide +kernel
theorem dX7_arm_83 : decode cX7_arm 83 = .ok (.iload_n 2, 1) := by decide +kernel
theorem dX7_arm_84 : decode cX7_arm 84 = .ok (.iadd, 1) := by decide +kernel
theorem dX7_arm_85 : decode cX7_arm 85 = .ok (.iastore, 1) := by decide +kernel
theorem dX7_arm_86 : decode cX7_arm 86 = .ok (.aload_n 0, 1) := by decide +kernel
theorem dX7_arm_87 : decode cX7_arm 87 = .ok (.getfield 7, 3) := by decide +kernel
theorem dX7_arm_90 : decode cX7_arm 90 = .ok (.iload 4, 2) := by decide +kernel
theorem dX7_arm_92 : decode cX7_arm 92 = .ok (.iconst 3, 1) := by decide +kernel
theorem dX7_arm_93 : decode cX7_arm 93 = .ok (.invokestatic 53, 3) := by decide +kernel
theorem dX7_arm_96 : decode cX7_arm 96 = .ok (.iload_n 2, 1) := by decide +kernel
theorem dX7_arm_97 : decode cX7_arm 97 = .ok (.ifCond .ne 7, 3) := by decide +kernel
theorem dX7_arm_100 : decode cX7_arm 100 = .ok (.iconst 0, 1) := by decide +kernel
theorem dX7_arm_101 : decode cX7_arm 101 = .ok (.goto 4, 3) := by decide +kernel
theorem dX7_arm_104 : decode cX7_arm 104 = .ok (.iload_n 3, 1) := by decide +kernel
theorem dX7_arm_105 : decode cX7_arm 105 = .ok (.iastore, 1) := by decide +kernel
theorem dX7_arm_106 : decode cX7_arm 106 = .ok (.iconst 1, 1) := by decide +kernel
theorem dX7_arm_107 : decode cX7_arm 107 = .ok (.ireturn, 1) := by decide +kernel
theorem dX7_fire_0 : decode cX7_fire 0 = .ok (.aload_n 0, 1) := by decide +kernel
theorem dX7_fire_1 : decode cX7_fire 1 = .ok (.iload_n 1, 1) := by decide +kernel
theorem dX7_fire_2 : decode cX7_fire 2 = .ok (.iconst 1, 1) := by decide +kernel
theorem dX7_fire_3 : decode cX7_fire 3 = .ok (.invokevirtual 66, 3) := by decide +kernel
theorem dX7_fire_6 : decode cX7_fire 6 = .ok (.sipush 1000, 3) := by decide +kernel
theorem dX7_fire_9 : decode cX7_fire 9 = .ok (.if_icmp .ge 17, 3) := by decide +kernel
theorem dX7_fire_12 : decode cX7_fire 12 = .ok (.aload_n 0, 1) := by decide +kernel
theorem dX7_fire_13 : decode cX7_fire 13 = .ok (.getfield 7, 3) := by decide +kernel
theorem dX7_fire_16 : decode cX7_fire 16 = .ok (.iload_n 1, 1) := by decide +kernel
theorem dX7_fire_17 : decode cX7_fire 17 = .ok (.iconst 1, 1) := by decide +kernel
theorem dX7_fire_18 : decode cX7_fire 18 = .ok (.invokestatic 53, 3) := by decide +kernel
theorem dX7_fire_21 : decode cX7_fire 21 = .ok (.dup2, 1) := by decide +kernel
theorem dX7_fire_22 : decode cX7_fire 22 = .ok (.iaload, 1) := by decide +kernel
theorem dX7_fire_23 : decode cX7_fire 23 = .ok (.iconst 1, 1) := by decide +kernel
theorem dX7_fire_24 : decode cX7_fire 24 = .ok (.iadd, 1) := by decide +kernel
theorem dX7_fire_25 : decode cX7_fire 25 = .ok (.iastore, 1) := by decide +kernel
theorem dX7_fire_26 : decode cX7_fire 26 = .ok (.aload_n 0, 1) := by decide +kernel
theorem dX7_fire_27 : decode cX7_fire 27 = .ok (.getfield 7, 3) := by decide +kernel
theorem dX7_fire_30 : decode cX7_fire 30 = .ok (.iload_n 1, 1) := by decide +kernel
theorem dX7_fire_31 : decode cX7_fire 31 = .ok (.iconst 2, 1) := by decide +kernel
theorem dX7_fire_32 : decode cX7_fire 32 = .ok (.invokestatic 53, 3) := by decide +kernel
theorem dX7_fire_35 : decode cX7_fire 35 = .ok (.aload_n 0, 1) := by decide +kernel
theorem dX7_fire_36 : decode cX7_fire 36 = .ok (.iload_n 1, 1) := by decide +kernel
theorem dX7_fire_37 : decode cX7_fire 37 = .ok (.iconst 3, 1) := by decide +kernel
theorem dX7_fire_38 : decode cX7_fire 38 = .ok (.invokevirtual 66, 3) := by decide +kernel
theorem dX7_fire_41 : decode cX7_fire 41 = .ok (.ifCond .ne 7, 3) := by decide +kernel
theorem dX7_fire_44 : decode cX7_fire 44 = .ok (.iconst (-1), 1) := by decide +kernel
theorem dX7_fire_45 : decode cX7_fire 45 = .ok (.goto 18, 3) := by decide +kernel
theorem dX7_fire_48 : decode cX7_fire 48 = .ok (.aload_n 0, 1) := by decide +kernel
theorem dX7_fire_49 : decode cX7_fire 49 = .ok (.getfield 7, 3) := by decide +kernel
theorem dX7_fire_52 : decode cX7_fire 52 = .ok (.sipush 794, 3) := by decide +kernel
theorem dX7_fire_55 : decode cX7_fire 55 = .ok (.iaload, 1) := by decide +kernel
theorem dX7_fire_56 : decode cX7_fire 56 = .ok (.aload_n 0, 1) := by decide +kernel
theorem dX7_fire_57 : decode cX7_fire 57 = .ok (.iload_n 1, 1) := by decide +kernel
theorem dX7_fire_58 : decode cX7_fire 58 = .ok (.iconst 3, 1) := by decide +kernel
theorem dX7_fire_59 : decode cX7_fire 59 = .ok (.invokevirtual 66, 3) := by decide +kernel
theorem dX7_fire_62 : decode cX7_fire 62 = .ok (.iadd, 1) := by decide +kernel
theorem dX7_fire_63 : decode cX7_fire 63 = .ok (.iastore, 1) := by decide +kernel
theorem dX7_fire_64 : decode cX7_fire 64 = .ok (.aload_n 0, 1) := by decide +kernel
theorem dX7_fire_65 : decode cX7_fire 65 = .ok (.iload_n 1, 1) := by decide +kernel
theorem dX7_fire_66 : decode cX7_fire 66 = .ok (.iconst 1, 1) := by decide +kernel
theorem dX7_fire_67 : decode cX7_fire 67 = .ok (.invokevirtual 120, 3) := by decide +kernel
theorem dX7_fire_70 : decode cX7_fire 70 = .ok (.return_, 1) := by decide +kernel
theorem dX7_tickOnce_0 : decode cX7_tickOnce 0 = .ok (.aload_n 0, 1) := by decide +kernel
theorem dX7_tickOnce_1 : decode cX7_tickOnce 1 = .ok (.getfield 7, 3) := by decide +kernel
theorem dX7_tickOnce_4 : decode cX7_tickOnce 4 = .ok (.sipush 794, 3) := by decide +kernel
theorem dX7_tickOnce_7 : decode cX7_tickOnce 7 = .ok (.dup2, 1) := by decide +kernel
theorem dX7_tickOnce_8 : decode cX7_tickOnce 8 = .ok (.iaload, 1) := by decide +kernel
theorem dX7_tickOnce_9 : decode cX7_tickOnce 9 = .ok (.iconst 1, 1) := by decide +kernel
theorem dX7_tickOnce_10 : decode cX7_tickOnce 10 = .ok (.iadd, 1) := by decide +kernel
theorem dX7_tickOnce_11 : decode cX7_tickOnce 11 = .ok (.iastore, 1) := by decide +kernel
theorem dX7_tickOnce_12 : decode cX7_tickOnce 12 = .ok (.iconst 0, 1) := by decide +kernel
theorem dX7_tickOnce_13 : decode cX7_tickOnce 13 = .ok (.istore_n 1, 1) := by decide +kernel
theorem dX7_tickOnce_14 : decode cX7_tickOnce 14 = .ok (.iload_n 1, 1) := by decide +kernel
theorem dX7_tickOnce_15 : decode cX7_tickOnce 15 = .ok (.bipush 16, 2) := by decide +kernel
theorem dX7_tickOnce_17 : decode cX7_tickOnce 17 = .ok (.if_icmp .ge 64, 3) := by decide +kernel
theorem dX7_tickOnce_20 : decode cX7_tickOnce 20 = .ok (.aload_n 0, 1) := by decide +kernel
theorem dX7_tickOnce_21 : decode cX7_tickOnce 21 = .ok (.iload_n 1, 1) := by decide +kernel
theorem dX7_tickOnce_22 : decode cX7_tickOnce 22 = .ok (.iconst 3, 1) := by decide +kernel
theorem dX7_tickOnce_23 : decode cX7_tickOnce 23 = .ok (.invokevirtual 110, 3) := by decide +kernel
theorem dX7_tickOnce_26 : decode cX7_tickOnce 26 = .ok (.ifCond .eq 49, 3) := by decide +kernel
theorem dX7_tickOnce_29 : decode cX7_tickOnce 29 = .ok (.aload_n 0, 1) := by decide +kernel
theorem dX7_tickOnce_30 : decode cX7_tickOnce 30 = .ok (.aload_n 0, 1) := by decide +kernel
theorem dX7_tickOnce_31 : decode cX7_tickOnce 31 = .ok (.getfield 7, 3) := by decide +kernel
theorem dX7_tickOnce_34 : decode cX7_tickOnce 34 = .ok (.iload_n 1, 1) := by decide +kernel
theorem dX7_tickOnce_35 : decode cX7_tickOnce 35 = .ok (.iaload, 1) := by decide +kernel
theorem dX7_tickOnce_36 : decode cX7_tickOnce 36 = .ok (.invokevirtual 199, 3) := by decide +kernel
theorem dX7_tickOnce_39 : decode cX7_tickOnce 39 = .ok (.iload_n 1, 1) := by decide +kernel
theorem dX7_tickOnce_40 : decode cX7_tickOnce 40 = .ok (.if_icmp .ne 35, 3) := by decide +kernel
theorem dX7_tickOnce_43 : decode cX7_tickOnce 43 = .ok (.aload_n 0, 1) := by decide +kernel
theorem dX7_tickOnce_44 : decode cX7_tickOnce 44 = .ok (.aload_n 0, 1) := by decide +kernel
theorem dX7_tickOnce_45 : decode cX7_tickOnce 45 = .ok (.getfield 7, 3) := by decide +kernel
theorem dX7_tickOnce_48 : decode cX7_tickOnce 48 = .ok (.iload_n 1, 1) := by decide +kernel
theorem dX7_tickOnce_49 : decode cX7_tickOnce 49 = .ok (.iaload, 1) := by decide +kernel
theorem dX7_tickOnce_50 : decode cX7_tickOnce 50 = .ok (.iconst 2, 1) := by decide +kernel
theorem dX7_tickOnce_51 : decode cX7_tickOnce 51 = .ok (.invokevirtual 66, 3) := by decide +kernel
theorem dX7_tickOnce_54 : decode cX7_tickOnce 54 = .ok (.aload_n 0, 1) := by decide +kernel
theorem dX7_tickOnce_55 : decode cX7_tickOnce 55 = .ok (.getfield 7, 3) := by decide +kernel
theorem dX7_tickOnce_58 : decode cX7_tickOnce 58 = .ok (.sipush 794, 3) := by decide +kernel
theorem dX7_tickOnce_61 : decode cX7_tickOnce 61 = .ok (.iaload, 1) := by decide +kernel
theorem dX7_tickOnce_62 : decode cX7_tickOnce 62 = .ok (.if_icmp .ne 13, 3) := by decide +kernel
theorem dX7_tickOnce_65 : decode cX7_tickOnce 65 = .ok (.aload_n 0, 1) := by decide +kernel
theorem dX7_tickOnce_66 : decode cX7_tickOnce 66 = .ok (.aload_n 0, 1) := by decide +kernel
theorem dX7_tickOnce_67 : decode cX7_tickOnce 67 = .ok (.getfield 7, 3) := by decide +kernel
theorem dX7_tickOnce_70 : decode cX7_tickOnce 70 = .ok (.iload_n 1, 1) := by decide +kernel
theorem dX7_tickOnce_71 : decode cX7_tickOnce 71 = .ok (.iaload, 1) := by decide +kernel
theorem dX7_tickOnce_72 : decode cX7_tickOnce 72 = .ok (.invokevirtual 247, 3) := by decide +kernel
theorem dX7_tickOnce_75 : decode cX7_tickOnce 75 = .ok (.iinc 1 1, 3) := by decide +kernel
theorem dX7_tickOnce_78 : decode cX7_tickOnce 78 = .ok (.goto (-64), 3) := by decide +kernel
theorem dX7_tickOnce_81 : decode cX7_tickOnce 81 = .ok (.iconst 0, 1) := by decide +kernel
theorem dX7_tickOnce_82 : decode cX7_tickOnce 82 = .ok (.istore_n 1, 1) := by decide +kernel
theorem dX7_tickOnce_83 : decode cX7_tickOnce 83 = .ok (.iload_n 1, 1) := by decide +kernel
theorem dX7_tickOnce_84 : decode cX7_tickOnce 84 = .ok (.bipush 6, 2) := by decide +kernel
theorem dX7_tickOnce_86 : decode cX7_tickOnce 86 = .ok (.if_icmp .ge 39, 3) := by decide +kernel
theorem dX7_tickOnce_89 : decode cX7_tickOnce 89 = .ok (.aload_n 0, 1) := by decide +kernel
theorem dX7_tickOnce_90 : decode cX7_tickOnce 90 = .ok (.iload_n 1, 1) := by decide +kernel
theorem dX7_tickOnce_91 : decode cX7_tickOnce 91 = .ok (.invokevirtual 250, 3) := by decide +kernel
theorem dX7_tickOnce_94 : decode cX7_tickOnce 94 = .ok (.ifCond .eq 25, 3) := by decide +kernel
theorem dX7_tickOnce_97 : decode cX7_tickOnce 97 = .ok (.aload_n 0, 1) := by decide +kernel
theorem dX7_tickOnce_98 : decode cX7_tickOnce 98 = .ok (.iload_n 1, 1) := by decide +kernel
theorem dX7_tickOnce_99 : decode cX7_tickOnce 99 = .ok (.iconst 3, 1) := by decide +kernel
theorem dX7_tickOnce_100 : decode cX7_tickOnce 100 = .ok (.invokevirtual 84, 3) := by decide +kernel
theorem dX7_tickOnce_103 : decode cX7_tickOnce 103 = .ok (.aload_n 0, 1) := by decide +kernel
theorem dX7_tickOnce_104 : decode cX7_tickOnce 104 = .ok (.getfield 7, 3) := by decide +kernel
theorem dX7_tickOnce_107 : decode cX7_tickOnce 107 = .ok (.sipush 794, 3) := by decide +kernel
theorem dX7_tickOnce_110 : decode cX7_tickOnce 110 = .ok (.iaload, 1) := by decide +kernel
theorem dX7_tickOnce_111 : decode cX7_tickOnce 111 = .ok (.if_icmp .ne 8, 3) := by decide +kernel
theorem dX7_tickOnce_114 : decode cX7_tickOnce 114 = .ok (.aload_n 0, 1) := by decide +kernel
theorem dX7_tickOnce_115 : decode cX7_tickOnce 115 = .ok (.iload_n 1, 1) := by decide +kernel
theorem dX7_tickOnce_116 : decode cX7_tickOnce 116 = .ok (.invokevirtual 214, 3) := by decide +kernel
theorem dX7_tickOnce_119 : decode cX7_tickOnce 119 = .ok (.iinc 1 1, 3) := by decide +kernel
theorem dX7_tickOnce_122 : decode cX7_tickOnce 122 = .ok (.goto (-39), 3) := by decide +kernel
theorem dX7_tickOnce_125 : decode cX7_tickOnce 125 = .ok (.return_, 1) := by decide +kernel
theorem dX7_tick_0 : decode cX7_tick 0 = .ok (.iload_n 1, 1) := by decide +kernel
theorem dX7_tick_1 : decode cX7_tick 1 = .ok (.iconst 1, 1) := by decide +kernel
theorem dX7_tick_2 : decode cX7_tick 2 = .ok (.bipush 100, 2) := by decide +kernel
theorem dX7_tick_4 : decode cX7_tick 4 = .ok (.invokestatic 69, 3) := by decide +kernel
theorem dX7_tick_7 : decode cX7_tick 7 = .ok (.ifCond .eq 18, 3) := by decide +kernel
theorem dX7_tick_10 : decode cX7_tick 10 = .ok (.aload_n 0, 1) := by decide +kernel
theorem dX7_tick_11 : decode cX7_tick 11 = .ok (.getfield 7, 3) := by decide +kernel
theorem dX7_tick_14 : decode cX7_tick 14 = .ok (.sipush 794, 3) := by decide +kernel
theorem dX7_tick_17 : decode cX7_tick 17 = .ok (.iaload, 1) := by decide +kernel
theorem dX7_tick_18 : decode cX7_tick 18 = .ok (.iload_n 1, 1) := by decide +kernel
theorem dX7_tick_19 : decode cX7_tick 19 = .ok (.iadd, 1) := by decide +kernel
theorem dX7_tick_20 : decode cX7_tick 20 = .ok (.ldc 253, 2) := by decide +kernel
theorem dX7_tick_22 : decode cX7_tick 22 = .ok (.if_icmp .le 5, 3) := by decide +kernel
theorem dX7_tick_25 : decode cX7_tick 25 = .ok (.iconst (-1), 1) := by decide +kernel
theorem dX7_tick_26 : decode cX7_tick 26 = .ok (.ireturn, 1) := by decide +kernel
theorem dX7_tick_27 : decode cX7_tick 27 = .ok (.aload_n 0, 1) := by decide +kernel
theorem dX7_tick_28 : decode cX7_tick 28 = .ok (.invokevirtual 101, 3) := by decide +kernel
theorem dX7_tick_31 : decode cX7_tick 31 = .ok (.iconst 0, 1) := by decide +kernel
theorem dX7_tick_32 : decode cX7_tick 32 = .ok (.istore_n 2, 1) := by decide +kernel
theorem dX7_tick_33 : decode cX7_tick 33 = .ok (.iload_n 2, 1) := by decide +kernel
theorem dX7_tick_34 : decode cX7_tick 34 = .ok (.iload_n 1, 1) := by decide +kernel
theorem dX7_tick_35 : decode cX7_tick 35 = .ok (.if_icmp .ge 13, 3) := by decide +kernel
theorem dX7_tick_38 : decode cX7_tick 38 = .ok (.aload_n 0, 1) := by decide +kernel
theorem dX7_tick_39 : decode cX7_tick 39 = .ok (.invokevirtual 254, 3) := by decide +kernel
theorem dX7_tick_42 : decode cX7_tick 42 = .ok (.iinc 2 1, 3) := by decide +kernel
theorem dX7_tick_45 : decode cX7_tick 45 = .ok (.goto (-12), 3) := by decide +kernel
theorem dX7_tick_48 : decode cX7_tick 48 = .ok (.aload_n 0, 1) := by decide +kernel
theorem dX7_tick_49 : decode cX7_tick 49 = .ok (.getfield 7, 3) := by decide +kernel
theorem dX7_tick_52 : decode cX7_tick 52 = .ok (.sipush 794, 3) := by decide +kernel
theorem dX7_tick_55 : decode cX7_tick 55 = .ok (.iaload, 1) := by decide +kernel
theorem dX7_tick_56 : decode cX7_tick 56 = .ok (.ireturn, 1) := by decide +kernel
theorem dX7_interestsNow_0 : decode cX7_interestsNow 0 = .ok (.iconst 0, 1) := by decide +kernel
theorem dX7_interestsNow_1 : decode cX7_interestsNow 1 = .ok (.istore_n 1, 1) := by decide +kernel
theorem dX7_interestsNow_2 : decode cX7_interestsNow 2 = .ok (.iconst 0, 1) := by decide +kernel
theorem dX7_interestsNow_3 : decode cX7_interestsNow 3 = .ok (.istore_n 2, 1) := by decide +kernel
theorem dX7_interestsNow_4 : decode cX7_interestsNow 4 = .ok (.iload_n 2, 1) := by decide +kernel
theorem dX7_interestsNow_5 : decode cX7_interestsNow 5 = .ok (.bipush 24, 2) := by decide +kernel
theorem dX7_interestsNow_7 : decode cX7_interestsNow 7 = .ok (.if_icmp .ge 25, 3) := by decide +kernel
theorem dX7_interestsNow_10 : decode cX7_interestsNow 10 = .ok (.iload_n 1, 1) := by decide +kernel
theorem dX7_interestsNow_11 : decode cX7_interestsNow 11 = .ok (.aload_n 0, 1) := by decide +kernel
theorem dX7_interestsNow_12 : decode cX7_interestsNow 12 = .ok (.iload_n 2, 1) := by decide +kernel
theorem dX7_interestsNow_13 : decode cX7_interestsNow 13 = .ok (.invokevirtual 149, 3) := by decide +kernel
theorem dX7_interestsNow_16 : decode cX7_interestsNow 16 = .ok (.ifCond .eq 7, 3) := by decide +kernel
theorem dX7_interestsNow_19 : decode cX7_interestsNow 19 = .ok (.iconst 1, 1) := by decide +kernel
theorem dX7_interestsNow_20 : decode cX7_interestsNow 20 = .ok (.goto 4, 3) := by decide +kernel
theorem dX7_interestsNow_23 : decode cX7_interestsNow 23 = .ok (.iconst 0, 1) := by decide +kernel
theorem dX7_interestsNow_24 : decode cX7_interestsNow 24 = .ok (.iadd, 1) := by decide +kernel
theorem dX7_interestsNow_25 : decode cX7_interestsNow 25 = .ok (.istore_n 1, 1) := by decide +kernel
theorem dX7_interestsNow_26 : decode cX7_interestsNow 26 = .ok (.iinc 2 1, 3) := by decide +kernel
theorem dX7_interestsNow_29 : decode cX7_interestsNow 29 = .ok (.goto (-25), 3) := by decide +kernel
theorem dX7_interestsNow_32 : decode cX7_interestsNow 32 = .ok (.iload_n 1, 1) := by decide +kernel
theorem dX7_interestsNow_33 : decode cX7_interestsNow 33 = .ok (.ireturn, 1) := by decide +kernel
theorem dX7_heldBy_0 : decode cX7_heldBy 0 = .ok (.iconst 0, 1) := by decide +kernel
theorem dX7_heldBy_1 : decode cX7_heldBy 1 = .ok (.istore_n 2, 1) := by decide +kernel
theorem dX7_heldBy_2 : decode cX7_heldBy 2 = .ok (.iconst 0, 1) := by decide +kernel
theorem dX7_heldBy_3 : decode cX7_heldBy 3 = .ok (.istore_n 3, 1) := by decide +kernel
theorem dX7_heldBy_4 : decode cX7_heldBy 4 = .ok (.iload_n 3, 1) := by decide +kernel
theorem dX7_heldBy_5 : decode cX7_heldBy 5 = .ok (.bipush 24, 2) := by decide +kernel
theorem dX7_heldBy_7 : decode cX7_heldBy 7 = .ok (.if_icmp .ge 27, 3) := by decide +kernel
theorem dX7_heldBy_10 : decode cX7_heldBy 10 = .ok (.iload_n 2, 1) := by decide +kernel
theorem dX7_heldBy_11 : decode cX7_heldBy 11 = .ok (.aload_n 0, 1) := by decide +kernel
theorem dX7_heldBy_12 : decode cX7_heldBy 12 = .ok (.iload_n 3, 1) := by decide +kernel
theorem dX7_heldBy_13 : decode cX7_heldBy 13 = .ok (.iconst 0, 1) := by decide +kernel
theorem dX7_heldBy_14 : decode cX7_heldBy 14 = .ok (.invokevirtual 81, 3) := by decide +kernel
theorem dX7_heldBy_17 : decode cX7_heldBy 17 = .ok (.iload_n 1, 1) := by decide +kernel
theorem dX7_heldBy_18 : decode cX7_heldBy 18 = .ok (.if_icmp .ne 7, 3) := by decide +kernel
theorem dX7_heldBy_21 : decode cX7_heldBy 21 = .ok (.iconst 1, 1) := by decide +kernel
theorem dX7_heldBy_22 : decode cX7_heldBy 22 = .ok (.goto 4, 3) := by decide +kernel
theorem dX7_heldBy_25 : decode cX7_heldBy 25 = .ok (.iconst 0, 1) := by decide +kernel
theorem dX7_heldBy_26 : decode cX7_heldBy 26 = .ok (.iadd, 1) := by decide +kernel
theorem dX7_heldBy_27 : decode cX7_heldBy 27 = .ok (.istore_n 2, 1) := by decide +kernel
theorem dX7_heldBy_28 : decode cX7_heldBy 28 = .ok (.iinc 3 1, 3) := by decide +kernel
theorem dX7_heldBy_31 : decode cX7_heldBy 31 = .ok (.goto (-27), 3) := by decide +kernel
theorem dX7_heldBy_34 : decode cX7_heldBy 34 = .ok (.iload_n 2, 1) := by decide +kernel
theorem dX7_heldBy_35 : decode cX7_heldBy 35 = .ok (.ireturn, 1) := by decide +kernel
theorem dX7_found_0 : decode cX7_found 0 = .ok (.aload_n 0, 1) := by decide +kernel
theorem dX7_found_1 : decode cX7_found 1 = .ok (.iload_n 1, 1) := by decide +kernel
theorem dX7_found_2 : decode cX7_found 2 = .ok (.iconst 4, 1) := by decide +kernel
theorem dX7_found_3 : decode cX7_found 3 = .ok (.invokevirtual 110, 3) := by decide +kernel
theorem dX7_found_6 : decode cX7_found 6 = .ok (.ifCond .eq 11, 3) := by decide +kernel
theorem dX7_found_9 : decode cX7_found 9 = .ok (.aload_n 0, 1) := by decide +kernel
theorem dX7_found_10 : decode cX7_found 10 = .ok (.iload_n 2, 1) := by decide +kernel
theorem dX7_found_11 : decode cX7_found 11 = .ok (.invokevirtual 73, 3) := by decide +kernel
theorem dX7_found_14 : decode cX7_found 14 = .ok (.ifCond .ne 5, 3) := by decide +kernel
theorem dX7_found_17 : decode cX7_found 17 = .ok (.iconst (-1), 1) := by decide +kernel
theorem dX7_found_18 : decode cX7_found 18 = .ok (.ireturn, 1) := by decide +kernel
theorem dX7_found_19 : decode cX7_found 19 = .ok (.iconst 0, 1) := by decide +kernel
theorem dX7_found_20 : decode cX7_found 20 = .ok (.istore_n 3, 1) := by decide +kernel
theorem dX7_found_21 : decode cX7_found 21 = .ok (.iload_n 3, 1) := by decide +kernel
theorem dX7_found_22 : decode cX7_found 22 = .ok (.bipush 24, 2) := by decide +kernel
theorem dX7_found_24 : decode cX7_found 24 = .ok (.if_icmp .ge 51, 3) := by decide +kernel
theorem dX7_found_27 : decode cX7_found 27 = .ok (.aload_n 0, 1) := by decide +kernel
theorem dX7_found_28 : decode cX7_found 28 = .ok (.iload_n 3, 1) := by decide +kernel
theorem dX7_found_29 : decode cX7_found 29 = .ok (.iconst 0, 1) := by decide +kernel
theorem dX7_found_30 : decode cX7_found 30 = .ok (.invokevirtual 81, 3) := by decide +kernel
theorem dX7_found_33 : decode cX7_found 33 = .ok (.aload_n 0, 1) := by decide +kernel
theorem dX7_found_34 : decode cX7_found 34 = .ok (.getfield 7, 3) := by decide +kernel
theorem dX7_found_37 : decode cX7_found 37 = .ok (.iload_n 1, 1) := by decide +kernel
theorem dX7_found_38 : decode cX7_found 38 = .ok (.iaload, 1) := by decide +kernel
theorem dX7_found_39 : decode cX7_found 39 = .ok (.if_icmp .ne 30, 3) := by decide +kernel
theorem dX7_found_42 : decode cX7_found 42 = .ok (.aload_n 0, 1) := by decide +kernel
theorem dX7_found_43 : decode cX7_found 43 = .ok (.iload_n 3, 1) := by decide +kernel
theorem dX7_found_44 : decode cX7_found 44 = .ok (.iconst 2, 1) := by decide +kernel
theorem dX7_found_45 : decode cX7_found 45 = .ok (.invokevirtual 81, 3) := by decide +kernel
theorem dX7_found_48 : decode cX7_found 48 = .ok (.iload_n 2, 1) := by decide +kernel
theorem dX7_found_49 : decode cX7_found 49 = .ok (.if_icmp .ne 20, 3) := by decide +kernel
theorem dX7_found_52 : decode cX7_found 52 = .ok (.aload_n 0, 1) := by decide +kernel
theorem dX7_found_53 : decode cX7_found 53 = .ok (.iload_n 3, 1) := by decide +kernel
theorem dX7_found_54 : decode cX7_found 54 = .ok (.iconst 1, 1) := by decide +kernel
theorem dX7_found_55 : decode cX7_found 55 = .ok (.invokevirtual 81, 3) := by decide +kernel
theorem dX7_found_58 : decode cX7_found 58 = .ok (.aload_n 0, 1) := by decide +kernel
theorem dX7_found_59 : decode cX7_found 59 = .ok (.getfield 7, 3) := by decide +kernel
theorem dX7_found_62 : decode cX7_found 62 = .ok (.iload_n 2, 1) := by decide +kernel
theorem dX7_found_63 : decode cX7_found 63 = .ok (.iaload, 1) := by decide +kernel
theorem dX7_found_64 : decode cX7_found 64 = .ok (.if_icmp .ne 5, 3) := by decide +kernel
theorem dX7_found_67 : decode cX7_found 67 = .ok (.iload_n 3, 1) := by decide +kernel
theorem dX7_found_68 : decode cX7_found 68 = .ok (.ireturn, 1) := by decide +kernel
theorem dX7_found_69 : decode cX7_found 69 = .ok (.iinc 3 1, 3) := by decide +kernel
theorem dX7_found_72 : decode cX7_found 72 = .ok (.goto (-51), 3) := by decide +kernel
theorem dX7_found_75 : decode cX7_found 75 = .ok (.iconst (-1), 1) := by decide +kernel
theorem dX7_found_76 : decode cX7_found 76 = .ok (.ireturn, 1) := by decide +kernel
theorem dX7_layDepths_0 : decode cX7_layDepths 0 = .ok (.iconst 0, 1) := by decide +kernel
theorem dX7_layDepths_1 : decode cX7_layDepths 1 = .ok (.istore_n 1, 1) := by decide +kernel
theorem dX7_layDepths_2 : decode cX7_layDepths 2 = .ok (.iload_n 1, 1) := by decide +kernel
theorem dX7_layDepths_3 : decode cX7_layDepths 3 = .ok (.bipush 28, 2) := by decide +kernel
theorem dX7_layDepths_5 : decode cX7_layDepths 5 = .ok (.if_icmp .ge 41, 3) := by decide +kernel
theorem dX7_layDepths_8 : decode cX7_layDepths 8 = .ok (.aload_n 0, 1) := by decide +kernel
theorem dX7_layDepths_9 : decode cX7_layDepths 9 = .ok (.getfield 32, 3) := by decide +kernel
theorem dX7_layDepths_12 : decode cX7_layDepths 12 = .ok (.iload_n 1, 1) := by decide +kernel
theorem dX7_layDepths_13 : decode cX7_layDepths 13 = .ok (.aload_n 0, 1) := by decide +kernel
theorem dX7_layDepths_14 : decode cX7_layDepths 14 = .ok (.iload_n 1, 1) := by decide +kernel
theorem dX7_layDepths_15 : decode cX7_layDepths 15 = .ok (.invokevirtual 77, 3) := by decide +kernel
theorem dX7_layDepths_18 : decode cX7_layDepths 18 = .ok (.iconst 4, 1) := by decide +kernel
theorem dX7_layDepths_19 : decode cX7_layDepths 19 = .ok (.if_icmp .ne 7, 3) := by decide +kernel
theorem dX7_layDepths_22 : decode cX7_layDepths 22 = .ok (.iconst 1, 1) := by decide +kernel
theorem dX7_layDepths_23 : decode cX7_layDepths 23 = .ok (.goto 4, 3) := by decide +kernel
theorem dX7_layDepths_26 : decode cX7_layDepths 26 = .ok (.iconst 0, 1) := by decide +kernel
theorem dX7_layDepths_27 : decode cX7_layDepths 27 = .ok (.iastore, 1) := by decide +kernel
theorem dX7_layDepths_28 : decode cX7_layDepths 28 = .ok (.aload_n 0, 1) := by decide +kernel
theorem dX7_layDepths_29 : decode cX7_layDepths 29 = .ok (.getfield 35, 3) := by decide +kernel
theorem dX7_layDepths_32 : decode cX7_layDepths 32 = .ok (.iload_n 1, 1) := by decide +kernel
theorem dX7_layDepths_33 : decode cX7_layDepths 33 = .ok (.aload_n 0, 1) := by decide +kernel
theorem dX7_layDepths_34 : decode cX7_layDepths 34 = .ok (.getfield 32, 3) := by decide +kernel
theorem dX7_layDepths_37 : decode cX7_layDepths 37 = .ok (.iload_n 1, 1) := by decide +kernel
theorem dX7_layDepths_38 : decode cX7_layDepths 38 = .ok (.iaload, 1) := by decide +kernel
theorem dX7_layDepths_39 : decode cX7_layDepths 39 = .ok (.iastore, 1) := by decide +kernel
theorem dX7_layDepths_40 : decode cX7_layDepths 40 = .ok (.iinc 1 1, 3) := by decide +kernel
theorem dX7_layDepths_43 : decode cX7_layDepths 43 = .ok (.goto (-41), 3) := by decide +kernel
theorem dX7_layDepths_46 : decode cX7_layDepths 46 = .ok (.iconst 0, 1) := by decide +kernel
theorem dX7_layDepths_47 : decode cX7_layDepths 47 = .ok (.istore_n 1, 1) := by decide +kernel
theorem dX7_layDepths_48 : decode cX7_layDepths 48 = .ok (.iload_n 1, 1) := by decide +kernel
theorem dX7_layDepths_49 : decode cX7_layDepths 49 = .ok (.iconst 3, 1) := by decide +kernel
theorem dX7_layDepths_50 : decode cX7_layDepths 50 = .ok (.if_icmp .ge 125, 3) := by decide +kernel
theorem dX7_layDepths_53 : decode cX7_layDepths 53 = .ok (.iconst 0, 1) := by decide +kernel
theorem dX7_layDepths_54 : decode cX7_layDepths 54 = .ok (.istore_n 2, 1) := by decide +kernel
theorem dX7_layDepths_55 : decode cX7_layDepths 55 = .ok (.iload_n 2, 1) := by decide +kernel
theorem dX7_layDepths_56 : decode cX7_layDepths 56 = .ok (.bipush 24, 2) := by decide +kernel
theorem dX7_layDepths_58 : decode cX7_layDepths 58 = .ok (.if_icmp .ge 111, 3) := by decide +kernel
theorem dX7_layDepths_61 : decode cX7_layDepths 61 = .ok (.aload_n 0, 1) := by decide +kernel
theorem dX7_layDepths_62 : decode cX7_layDepths 62 = .ok (.iload_n 2, 1) := by decide +kernel
theorem dX7_layDepths_63 : decode cX7_layDepths 63 = .ok (.invokevirtual 149, 3) := by decide +kernel
theorem dX7_layDepths_66 : decode cX7_layDepths 66 = .ok (.ifCond .eq 97, 3) := by decide +kernel
theorem dX7_layDepths_69 : decode cX7_layDepths 69 = .ok (.aload_n 0, 1) := by decide +kernel
theorem dX7_layDepths_70 : decode cX7_layDepths 70 = .ok (.aload_n 0, 1) := by decide +kernel
theorem dX7_layDepths_71 : decode cX7_layDepths 71 = .ok (.iload_n 2, 1) := by decide +kernel
theorem dX7_layDepths_72 : decode cX7_layDepths 72 = .ok (.iconst 1, 1) := by decide +kernel
theorem dX7_layDepths_73 : decode cX7_layDepths 73 = .ok (.invokevirtual 81, 3) := by decide +kernel
theorem dX7_layDepths_76 : decode cX7_layDepths 76 = .ok (.invokevirtual 77, 3) := by decide +kernel
theorem dX7_layDepths_79 : decode cX7_layDepths 79 = .ok (.iconst 4, 1) := by decide +kernel
theorem dX7_layDepths_80 : decode cX7_layDepths 80 = .ok (.if_icmp .eq 6, 3) := by decide +kernel
theorem dX7_layDepths_83 : decode cX7_layDepths 83 = .ok (.goto 80, 3) := by decide +kernel
theorem dX7_layDepths_86 : decode cX7_layDepths 86 = .ok (.aload_n 0, 1) := by decide +kernel
theorem dX7_layDepths_87 : decode cX7_layDepths 87 = .ok (.iload_n 2, 1) := by decide +kernel
theorem dX7_layDepths_88 : decode cX7_layDepths 88 = .ok (.iconst 0, 1) := by decide +kernel
theorem dX7_layDepths_89 : decode cX7_layDepths 89 = .ok (.invokevirtual 81, 3) := by decide +kernel
theorem dX7_layDepths_92 : decode cX7_layDepths 92 = .ok (.istore_n 3, 1) := by decide +kernel
theorem dX7_layDepths_93 : decode cX7_layDepths 93 = .ok (.aload_n 0, 1) := by decide +kernel
theorem dX7_layDepths_94 : decode cX7_layDepths 94 = .ok (.iload_n 2, 1) := by decide +kernel
theorem dX7_layDepths_95 : decode cX7_layDepths 95 = .ok (.iconst 1, 1) := by decide +kernel
theorem dX7_layDepths_96 : decode cX7_layDepths 96 = .ok (.invokevirtual 81, 3) := by decide +kernel
theorem dX7_layDepths_99 : decode cX7_layDepths 99 = .ok (.istore 4, 2) := by decide +kernel
theorem dX7_layDepths_101 : decode cX7_layDepths 101 = .ok (.aload_n 0, 1) := by decide +kernel
theorem dX7_layDepths_102 : decode cX7_layDepths 102 = .ok (.getfield 32, 3) := by decide +kernel
theorem dX7_layDepths_105 : decode cX7_layDepths 105 = .ok (.iload 4, 2) := by decide +kernel
theorem dX7_layDepths_107 : decode cX7_layDepths 107 = .ok (.iaload, 1) := by decide +kernel
theorem dX7_layDepths_108 : decode cX7_layDepths 108 = .ok (.aload_n 0, 1) := by decide +kernel
theorem dX7_layDepths_109 : decode cX7_layDepths 109 = .ok (.getfield 32, 3) := by decide +kernel
theorem dX7_layDepths_112 : decode cX7_layDepths 112 = .ok (.iload_n 3, 1) := by decide +kernel
theorem dX7_layDepths_113 : decode cX7_layDepths 113 = .ok (.iaload, 1) := by decide +kernel
theorem dX7_layDepths_114 : decode cX7_layDepths 114 = .ok (.if_icmp .lt 18, 3) := by decide +kernel
theorem dX7_layDepths_117 : decode cX7_layDepths 117 = .ok (.aload_n 0, 1) := by decide +kernel
theorem dX7_layDepths_118 : decode cX7_layDepths 118 = .ok (.getfield 32, 3) := by decide +kernel
theorem dX7_layDepths_121 : decode cX7_layDepths 121 = .ok (.iload_n 3, 1) := by decide +kernel
theorem dX7_layDepths_122 : decode cX7_layDepths 122 = .ok (.aload_n 0, 1) := by decide +kernel
theorem dX7_layDepths_123 : decode cX7_layDepths 123 = .ok (.getfield 32, 3) := by decide +kernel
theorem dX7_layDepths_126 : decode cX7_layDepths 126 = .ok (.iload 4, 2) := by decide +kernel
theorem dX7_layDepths_128 : decode cX7_layDepths 128 = .ok (.iaload, 1) := by decide +kernel
theorem dX7_layDepths_129 : decode cX7_layDepths 129 = .ok (.iconst 1, 1) := by decide +kernel
theorem dX7_layDepths_130 : decode cX7_layDepths 130 = .ok (.iadd, 1) := by decide +kernel
theorem dX7_layDepths_131 : decode cX7_layDepths 131 = .ok (.iastore, 1) := by decide +kernel
theorem dX7_layDepths_132 : decode cX7_layDepths 132 = .ok (.aload_n 0, 1) := by decide +kernel
theorem dX7_layDepths_133 : decode cX7_layDepths 133 = .ok (.getfield 35, 3) := by decide +kernel
theorem dX7_layDepths_136 : decode cX7_layDepths 136 = .ok (.iload_n 3, 1) := by decide +kernel
theorem dX7_layDepths_137 : decode cX7_layDepths 137 = .ok (.iaload, 1) := by decide +kernel
theorem dX7_layDepths_138 : decode cX7_layDepths 138 = .ok (.aload_n 0, 1) := by decide +kernel
theorem dX7_layDepths_139 : decode cX7_layDepths 139 = .ok (.getfield 35, 3) := by decide +kernel
theorem dX7_layDepths_142 : decode cX7_layDepths 142 = .ok (.iload 4, 2) := by decide +kernel
theorem dX7_layDepths_144 : decode cX7_layDepths 144 = .ok (.iaload, 1) := by decide +kernel
theorem dX7_layDepths_145 : decode cX7_layDepths 145 = .ok (.if_icmp .lt 18, 3) := by decide +kernel
theorem dX7_layDepths_148 : decode cX7_layDepths 148 = .ok (.aload_n 0, 1) := by decide +kernel
theorem dX7_layDepths_149 : decode cX7_layDepths 149 = .ok (.getfield 35, 3) := by decide +kernel
theorem dX7_layDepths_152 : decode cX7_layDepths 152 = .ok (.iload 4, 2) := by decide +kernel
theorem dX7_layDepths_154 : decode cX7_layDepths 154 = .ok (.aload_n 0, 1) := by decide +kernel
theorem dX7_layDepths_155 : decode cX7_layDepths 155 = .ok (.getfield 35, 3) := by decide +kernel
theorem dX7_layDepths_158 : decode cX7_layDepths 158 = .ok (.iload_n 3, 1) := by decide +kernel
theorem dX7_layDepths_159 : decode cX7_layDepths 159 = .ok (.iaload, 1) := by decide +kernel
theorem dX7_layDepths_160 : decode cX7_layDepths 160 = .ok (.iconst 1, 1) := by decide +kernel
theorem dX7_layDepths_161 : decode cX7_layDepths 161 = .ok (.iadd, 1) := by decide +kernel
theorem dX7_layDepths_162 : decode cX7_layDepths 162 = .ok (.iastore, 1) := by decide +kernel
theorem dX7_layDepths_163 : decode cX7_layDepths 163 = .ok (.iinc 2 1, 3) := by decide +kernel
theorem dX7_layDepths_166 : decode cX7_layDepths 166 = .ok (.goto (-111), 3) := by decide +kernel
theorem dX7_layDepths_169 : decode cX7_layDepths 169 = .ok (.iinc 1 1, 3) := by decide +kernel
theorem dX7_layDepths_172 : decode cX7_layDepths 172 = .ok (.goto (-124), 3) := by decide +kernel
theorem dX7_layDepths_175 : decode cX7_layDepths 175 = .ok (.return_, 1) := by decide +kernel
theorem dX7_standsIn_0 : decode cX7_standsIn 0 = .ok (.iconst 1, 1) := by decide +kernel
theorem dX7_standsIn_1 : decode cX7_standsIn 1 = .ok (.iload_n 2, 1) := by decide +kernel
theorem dX7_standsIn_2 : decode cX7_standsIn 2 = .ok (.ishl, 1) := by decide +kernel
theorem dX7_standsIn_3 : decode cX7_standsIn 3 = .ok (.istore_n 3, 1) := by decide +kernel
theorem dX7_standsIn_4 : decode cX7_standsIn 4 = .ok (.iconst 0, 1) := by decide +kernel
theorem dX7_standsIn_5 : decode cX7_standsIn 5 = .ok (.istore 4, 2) := by decide +kernel
theorem dX7_standsIn_7 : decode cX7_standsIn 7 = .ok (.iload 4, 2) := by decide +kernel
theorem dX7_standsIn_9 : decode cX7_standsIn 9 = .ok (.iconst 3, 1) := by decide +kernel
theorem dX7_standsIn_10 : decode cX7_standsIn 10 = .ok (.if_icmp .ge 61, 3) := by decide +kernel
theorem dX7_standsIn_13 : decode cX7_standsIn 13 = .ok (.iconst 0, 1) := by decide +kernel
theorem dX7_standsIn_14 : decode cX7_standsIn 14 = .ok (.istore 5, 2) := by decide +kernel
theorem dX7_standsIn_16 : decode cX7_standsIn 16 = .ok (.iload 5, 2) := by decide +kernel
theorem dX7_standsIn_18 : decode cX7_standsIn 18 = .ok (.bipush 24, 2) := by decide +kernel
theorem dX7_standsIn_20 : decode cX7_standsIn 20 = .ok (.if_icmp .ge 45, 3) := by decide +kernel
theorem dX7_standsIn_23 : decode cX7_standsIn 23 = .ok (.aload_n 0, 1) := by decide +kernel
theorem dX7_standsIn_24 : decode cX7_standsIn 24 = .ok (.iload 5, 2) := by decide +kernel
theorem dX7_standsIn_26 : decode cX7_standsIn 26 = .ok (.invokevirtual 149, 3) := by decide +kernel
theorem dX7_standsIn_29 : decode cX7_standsIn 29 = .ok (.ifCond .eq 30, 3) := by decide +kernel
theorem dX7_standsIn_32 : decode cX7_standsIn 32 = .ok (.iload_n 3, 1) := by decide +kernel
theorem dX7_standsIn_33 : decode cX7_standsIn 33 = .ok (.aload_n 0, 1) := by decide +kernel
theorem dX7_standsIn_34 : decode cX7_standsIn 34 = .ok (.iload 5, 2) := by decide +kernel
theorem dX7_standsIn_36 : decode cX7_standsIn 36 = .ok (.iconst 0, 1) := by decide +kernel
theorem dX7_standsIn_37 : decode cX7_standsIn 37 = .ok (.invokevirtual 81, 3) := by decide +kernel
theorem dX7_standsIn_40 : decode cX7_standsIn 40 = .ok (.ishr, 1) := by decide +kernel
theorem dX7_standsIn_41 : decode cX7_standsIn 41 = .ok (.iconst 1, 1) := by decide +kernel
theorem dX7_standsIn_42 : decode cX7_standsIn 42 = .ok (.iand, 1) := by decide +kernel
theorem dX7_standsIn_43 : decode cX7_standsIn 43 = .ok (.iconst 1, 1) := by decide +kernel
theorem dX7_standsIn_44 : decode cX7_standsIn 44 = .ok (.if_icmp .ne 15, 3) := by decide +kernel
theorem dX7_standsIn_47 : decode cX7_standsIn 47 = .ok (.iload_n 3, 1) := by decide +kernel
theorem dX7_standsIn_48 : decode cX7_standsIn 48 = .ok (.iconst 1, 1) := by decide +kernel
theorem dX7_standsIn_49 : decode cX7_standsIn 49 = .ok (.aload_n 0, 1) := by decide +kernel
theorem dX7_standsIn_50 : decode cX7_standsIn 50 = .ok (.iload 5, 2) := by decide +kernel
theorem dX7_standsIn_52 : decode cX7_standsIn 52 = .ok (.iconst 1, 1) := by decide +kernel
theorem dX7_standsIn_53 : decode cX7_standsIn 53 = .ok (.invokevirtual 81, 3) := by decide +kernel
theorem dX7_standsIn_56 : decode cX7_standsIn 56 = .ok (.ishl, 1) := by decide +kernel
theorem dX7_standsIn_57 : decode cX7_standsIn 57 = .ok (.ior, 1) := by decide +kernel
theorem dX7_standsIn_58 : decode cX7_standsIn 58 = .ok (.istore_n 3, 1) := by decide +kernel
theorem dX7_standsIn_59 : decode cX7_standsIn 59 = .ok (.iinc 5 1, 3) := by decide +kernel
theorem dX7_standsIn_62 : decode cX7_standsIn 62 = .ok (.goto (-46), 3) := by decide +kernel
theorem dX7_standsIn_65 : decode cX7_standsIn 65 = .ok (.iinc 4 1, 3) := by decide +kernel
theorem dX7_standsIn_68 : decode cX7_standsIn 68 = .ok (.goto (-61), 3) := by decide +kernel
theorem dX7_standsIn_71 : decode cX7_standsIn 71 = .ok (.iload_n 3, 1) := by decide +kernel
theorem dX7_standsIn_72 : decode cX7_standsIn 72 = .ok (.iload_n 1, 1) := by decide +kernel
theorem dX7_standsIn_73 : decode cX7_standsIn 73 = .ok (.ishr, 1) := by decide +kernel
theorem dX7_standsIn_74 : decode cX7_standsIn 74 = .ok (.iconst 1, 1) := by decide +kernel
theorem dX7_standsIn_75 : decode cX7_standsIn 75 = .ok (.iand, 1) := by decide +kernel
theorem dX7_standsIn_76 : decode cX7_standsIn 76 = .ok (.iconst 1, 1) := by decide +kernel
theorem dX7_standsIn_77 : decode cX7_standsIn 77 = .ok (.if_icmp .ne 7, 3) := by decide +kernel
theorem dX7_standsIn_80 : decode cX7_standsIn 80 = .ok (.iconst 1, 1) := by decide +kernel
theorem dX7_standsIn_81 : decode cX7_standsIn 81 = .ok (.goto 4, 3) := by decide +kernel
theorem dX7_standsIn_84 : decode cX7_standsIn 84 = .ok (.iconst 0, 1) := by decide +kernel
theorem dX7_standsIn_85 : decode cX7_standsIn 85 = .ok (.ireturn, 1) := by decide +kernel
theorem dX7_isTooDeep_0 : decode cX7_isTooDeep 0 = .ok (.aload_n 0, 1) := by decide +kernel
theorem dX7_isTooDeep_1 : decode cX7_isTooDeep 1 = .ok (.iload_n 2, 1) := by decide +kernel
theorem dX7_isTooDeep_2 : decode cX7_isTooDeep 2 = .ok (.invokevirtual 77, 3) := by decide +kernel
theorem dX7_isTooDeep_5 : decode cX7_isTooDeep 5 = .ok (.iconst 4, 1) := by decide +kernel
theorem dX7_isTooDeep_6 : decode cX7_isTooDeep 6 = .ok (.if_icmp .eq 5, 3) := by decide +kernel
theorem dX7_isTooDeep_9 : decode cX7_isTooDeep 9 = .ok (.iconst 0, 1) := by decide +kernel
theorem dX7_isTooDeep_10 : decode cX7_isTooDeep 10 = .ok (.ireturn, 1) := by decide +kernel
theorem dX7_isTooDeep_11 : decode cX7_isTooDeep 11 = .ok (.aload_n 0, 1) := by decide +kernel
theorem dX7_isTooDeep_12 : decode cX7_isTooDeep 12 = .ok (.invokevirtual 257, 3) := by decide +kernel
theorem dX7_isTooDeep_15 : decode cX7_isTooDeep 15 = .ok (.aload_n 0, 1) := by decide +kernel
theorem dX7_isTooDeep_16 : decode cX7_isTooDeep 16 = .ok (.iload_n 1, 1) := by decide +kernel
theorem dX7_isTooDeep_17 : decode cX7_isTooDeep 17 = .ok (.iload_n 2, 1) := by decide +kernel
theorem dX7_isTooDeep_18 : decode cX7_isTooDeep 18 = .ok (.invokevirtual 260, 3) := by decide +kernel
theorem dX7_isTooDeep_21 : decode cX7_isTooDeep 21 = .ok (.ifCond .ne 20, 3) := by decide +kernel
theorem dX7_isTooDeep_24 : decode cX7_isTooDeep 24 = .ok (.aload_n 0, 1) := by decide +kernel
theorem dX7_isTooDeep_25 : decode cX7_isTooDeep 25 = .ok (.getfield 35, 3) := by decide +kernel
theorem dX7_isTooDeep_28 : decode cX7_isTooDeep 28 = .ok (.iload_n 1, 1) := by decide +kernel
theorem dX7_isTooDeep_29 : decode cX7_isTooDeep 29 = .ok (.iaload, 1) := by decide +kernel
theorem dX7_isTooDeep_30 : decode cX7_isTooDeep 30 = .ok (.aload_n 0, 1) := by decide +kernel
theorem dX7_isTooDeep_31 : decode cX7_isTooDeep 31 = .ok (.getfield 32, 3) := by decide +kernel
theorem dX7_isTooDeep_34 : decode cX7_isTooDeep 34 = .ok (.iload_n 2, 1) := by decide +kernel
theorem dX7_isTooDeep_35 : decode cX7_isTooDeep 35 = .ok (.iaload, 1) := by decide +kernel
theorem dX7_isTooDeep_36 : decode cX7_isTooDeep 36 = .ok (.iadd, 1) := by decide +kernel
theorem dX7_isTooDeep_37 : decode cX7_isTooDeep 37 = .ok (.iconst 3, 1) := by decide +kernel
theorem dX7_isTooDeep_38 : decode cX7_isTooDeep 38 = .ok (.if_icmp .le 7, 3) := by decide +kernel
theorem dX7_isTooDeep_41 : decode cX7_isTooDeep 41 = .ok (.iconst 1, 1) := by decide +kernel
theorem dX7_isTooDeep_42 : decode cX7_isTooDeep 42 = .ok (.goto 4, 3) := by decide +kernel
theorem dX7_isTooDeep_45 : decode cX7_isTooDeep 45 = .ok (.iconst 0, 1) := by decide +kernel
theorem dX7_isTooDeep_46 : decode cX7_isTooDeep 46 = .ok (.ireturn, 1) := by decide +kernel
theorem dX7_isSuch_0 : decode cX7_isSuch 0 = .ok (.iload_n 0, 1) := by decide +kernel
theorem dX7_isSuch_1 : decode cX7_isSuch 1 = .ok (.iconst 0, 1) := by decide +kernel
theorem dX7_isSuch_2 : decode cX7_isSuch 2 = .ok (.iconst 3, 1) := by decide +kernel
theorem dX7_isSuch_3 : decode cX7_isSuch 3 = .ok (.invokestatic 69, 3) := by decide +kernel
theorem dX7_isSuch_6 : decode cX7_isSuch 6 = .ok (.ifCond .eq 17, 3) := by decide +kernel
theorem dX7_isSuch_9 : decode cX7_isSuch 9 = .ok (.iload_n 1, 1) := by decide +kernel
theorem dX7_isSuch_10 : decode cX7_isSuch 10 = .ok (.iconst 0, 1) := by decide +kernel
theorem dX7_isSuch_11 : decode cX7_isSuch 11 = .ok (.bipush 7, 2) := by decide +kernel
theorem dX7_isSuch_13 : decode cX7_isSuch 13 = .ok (.invokestatic 69, 3) := by decide +kernel
theorem dX7_isSuch_16 : decode cX7_isSuch 16 = .ok (.ifCond .eq 7, 3) := by decide +kernel
theorem dX7_isSuch_19 : decode cX7_isSuch 19 = .ok (.iconst 1, 1) := by decide +kernel
theorem dX7_isSuch_20 : decode cX7_isSuch 20 = .ok (.goto 4, 3) := by decide +kernel
theorem dX7_isSuch_23 : decode cX7_isSuch 23 = .ok (.iconst 0, 1) := by decide +kernel
theorem dX7_isSuch_24 : decode cX7_isSuch 24 = .ok (.ireturn, 1) := by decide +kernel
theorem dX7_add_0 : decode cX7_add 0 = .ok (.aload_n 0, 1) := by decide +kernel
theorem dX7_add_1 : decode cX7_add 1 = .ok (.iload_n 1, 1) := by decide +kernel
theorem dX7_add_2 : decode cX7_add 2 = .ok (.iconst 4, 1) := by decide +kernel
theorem dX7_add_3 : decode cX7_add 3 = .ok (.invokevirtual 110, 3) := by decide +kernel
theorem dX7_add_6 : decode cX7_add 6 = .ok (.ifCond .eq 35, 3) := by decide +kernel
theorem dX7_add_9 : decode cX7_add 9 = .ok (.aload_n 0, 1) := by decide +kernel
theorem dX7_add_10 : decode cX7_add 10 = .ok (.iload_n 2, 1) := by decide +kernel
theorem dX7_add_11 : decode cX7_add 11 = .ok (.invokevirtual 73, 3) := by decide +kernel
theorem dX7_add_14 : decode cX7_add 14 = .ok (.ifCond .eq 27, 3) := by decide +kernel
theorem dX7_add_17 : decode cX7_add 17 = .ok (.aload_n 0, 1) := by decide +kernel
theorem dX7_add_18 : decode cX7_add 18 = .ok (.getfield 7, 3) := by decide +kernel
theorem dX7_add_21 : decode cX7_add 21 = .ok (.iload_n 1, 1) := by decide +kernel
theorem dX7_add_22 : decode cX7_add 22 = .ok (.iaload, 1) := by decide +kernel
theorem dX7_add_23 : decode cX7_add 23 = .ok (.aload_n 0, 1) := by decide +kernel
theorem dX7_add_24 : decode cX7_add 24 = .ok (.getfield 7, 3) := by decide +kernel
theorem dX7_add_27 : decode cX7_add 27 = .ok (.iload_n 2, 1) := by decide +kernel
theorem dX7_add_28 : decode cX7_add 28 = .ok (.iaload, 1) := by decide +kernel
theorem dX7_add_29 : decode cX7_add 29 = .ok (.if_icmp .eq 12, 3) := by decide +kernel
theorem dX7_add_32 : decode cX7_add 32 = .ok (.iload_n 3, 1) := by decide +kernel
theorem dX7_add_33 : decode cX7_add 33 = .ok (.iload 4, 2) := by decide +kernel
theorem dX7_add_35 : decode cX7_add 35 = .ok (.invokestatic 263, 3) := by decide +kernel
theorem dX7_add_38 : decode cX7_add 38 = .ok (.ifCond .ne 5, 3) := by decide +kernel
theorem dX7_add_41 : decode cX7_add 41 = .ok (.iconst (-1), 1) := by decide +kernel
theorem dX7_add_42 : decode cX7_add 42 = .ok (.ireturn, 1) := by decide +kernel
theorem dX7_add_43 : decode cX7_add 43 = .ok (.aload_n 0, 1) := by decide +kernel
theorem dX7_add_44 : decode cX7_add 44 = .ok (.iload_n 1, 1) := by decide +kernel
theorem dX7_add_45 : decode cX7_add 45 = .ok (.iload_n 2, 1) := by decide +kernel
theorem dX7_add_46 : decode cX7_add 46 = .ok (.invokevirtual 266, 3) := by decide +kernel
theorem dX7_add_49 : decode cX7_add 49 = .ok (.ifCond .lt 6, 3) := by decide +kernel
theorem dX7_add_52 : decode cX7_add 52 = .ok (.bipush (-2), 2) := by decide +kernel
theorem dX7_add_54 : decode cX7_add 54 = .ok (.ireturn, 1) := by decide +kernel
theorem dX7_add_55 : decode cX7_add 55 = .ok (.aload_n 0, 1) := by decide +kernel
theorem dX7_add_56 : decode cX7_add 56 = .ok (.aload_n 0, 1) := by decide +kernel
theorem dX7_add_57 : decode cX7_add 57 = .ok (.getfield 7, 3) := by decide +kernel
theorem dX7_add_60 : decode cX7_add 60 = .ok (.iload_n 1, 1) := by decide +kernel
theorem dX7_add_61 : decode cX7_add 61 = .ok (.iaload, 1) := by decide +kernel
theorem dX7_add_62 : decode cX7_add 62 = .ok (.aload_n 0, 1) := by decide +kernel
theorem dX7_add_63 : decode cX7_add 63 = .ok (.getfield 7, 3) := by decide +kernel
theorem dX7_add_66 : decode cX7_add 66 = .ok (.iload_n 2, 1) := by decide +kernel
theorem dX7_add_67 : decode cX7_add 67 = .ok (.iaload, 1) := by decide +kernel
theorem dX7_add_68 : decode cX7_add 68 = .ok (.invokevirtual 269, 3) := by decide +kernel
theorem dX7_add_71 : decode cX7_add 71 = .ok (.ifCond .eq 6, 3) := by decide +kernel
theorem dX7_add_74 : decode cX7_add 74 = .ok (.bipush (-3), 2) := by decide +kernel
theorem dX7_add_76 : decode cX7_add 76 = .ok (.ireturn, 1) := by decide +kernel
theorem dX7_add_77 : decode cX7_add 77 = .ok (.aload_n 0, 1) := by decide +kernel
theorem dX7_add_78 : decode cX7_add 78 = .ok (.invokevirtual 272, 3) := by decide +kernel
theorem dX7_add_81 : decode cX7_add 81 = .ok (.bipush 24, 2) := by decide +kernel
theorem dX7_add_83 : decode cX7_add 83 = .ok (.if_icmp .ne 6, 3) := by decide +kernel
theorem dX7_add_86 : decode cX7_add 86 = .ok (.bipush (-4), 2) := by decide +kernel
theorem dX7_add_88 : decode cX7_add 88 = .ok (.ireturn, 1) := by decide +kernel
theorem dX7_add_89 : decode cX7_add 89 = .ok (.aload_n 0, 1) := by decide +kernel
theorem dX7_add_90 : decode cX7_add 90 = .ok (.invokevirtual 101, 3) := by decide +kernel
theorem dX7_add_93 : decode cX7_add 93 = .ok (.iconst 0, 1) := by decide +kernel
theorem dX7_add_94 : decode cX7_add 94 = .ok (.istore 5, 2) := by decide +kernel
theorem dX7_add_96 : decode cX7_add 96 = .ok (.aload_n 0, 1) := by decide +kernel
theorem dX7_add_97 : decode cX7_add 97 = .ok (.iload 5, 2) := by decide +kernel
theorem dX7_add_99 : decode cX7_add 99 = .ok (.invokevirtual 149, 3) := by decide +kernel
theorem dX7_add_102 : decode cX7_add 102 = .ok (.ifCond .eq 9, 3) := by decide +kernel
theorem dX7_add_105 : decode cX7_add 105 = .ok (.iinc 5 1, 3) := by decide +kernel
theorem dX7_add_108 : decode cX7_add 108 = .ok (.goto (-12), 3) := by decide +kernel
theorem dX7_add_111 : decode cX7_add 111 = .ok (.aload_n 0, 1) := by decide +kernel
theorem dX7_add_112 : decode cX7_add 112 = .ok (.getfield 7, 3) := by decide +kernel
theorem dX7_add_115 : decode cX7_add 115 = .ok (.iload 5, 2) := by decide +kernel
theorem dX7_add_117 : decode cX7_add 117 = .ok (.iconst 0, 1) := by decide +kernel
theorem dX7_add_118 : decode cX7_add 118 = .ok (.invokestatic 60, 3) := by decide +kernel
theorem dX7_add_121 : decode cX7_add 121 = .ok (.aload_n 0, 1) := by decide +kernel
theorem dX7_add_122 : decode cX7_add 122 = .ok (.getfield 7, 3) := by decide +kernel
theorem dX7_add_125 : decode cX7_add 125 = .ok (.iload_n 1, 1) := by decide +kernel
theorem dX7_add_126 : decode cX7_add 126 = .ok (.iaload, 1) := by decide +kernel
theorem dX7_add_127 : decode cX7_add 127 = .ok (.iastore, 1) := by decide +kernel
theorem dX7_add_128 : decode cX7_add 128 = .ok (.aload_n 0, 1) := by decide +kernel
theorem dX7_add_129 : decode cX7_add 129 = .ok (.getfield 7, 3) := by decide +kernel
theorem dX7_add_132 : decode cX7_add 132 = .ok (.iload 5, 2) := by decide +kernel
theorem dX7_add_134 : decode cX7_add 134 = .ok (.iconst 1, 1) := by decide +kernel
theorem dX7_add_135 : decode cX7_add 135 = .ok (.invokestatic 60, 3) := by decide +kernel
theorem dX7_add_138 : decode cX7_add 138 = .ok (.aload_n 0, 1) := by decide +kernel
theorem dX7_add_139 : decode cX7_add 139 = .ok (.getfield 7, 3) := by decide +kernel
theorem dX7_add_142 : decode cX7_add 142 = .ok (.iload_n 2, 1) := by decide +kernel
theorem dX7_add_143 : decode cX7_add 143 = .ok (.iaload, 1) := by decide +kernel
theorem dX7_add_144 : decode cX7_add 144 = .ok (.iastore, 1) := by decide +kernel
theorem dX7_add_145 : decode cX7_add 145 = .ok (.aload_n 0, 1) := by decide +kernel
theorem dX7_add_146 : decode cX7_add 146 = .ok (.getfield 7, 3) := by decide +kernel
theorem dX7_add_149 : decode cX7_add 149 = .ok (.iload 5, 2) := by decide +kernel
theorem dX7_add_151 : decode cX7_add 151 = .ok (.iconst 2, 1) := by decide +kernel
theorem dX7_add_152 : decode cX7_add 152 = .ok (.invokestatic 60, 3) := by decide +kernel
theorem dX7_add_155 : decode cX7_add 155 = .ok (.iload_n 2, 1) := by decide +kernel
theorem dX7_add_156 : decode cX7_add 156 = .ok (.iastore, 1) := by decide +kernel
theorem dX7_add_157 : decode cX7_add 157 = .ok (.aload_n 0, 1) := by decide +kernel
theorem dX7_add_158 : decode cX7_add 158 = .ok (.getfield 7, 3) := by decide +kernel
theorem dX7_add_161 : decode cX7_add 161 = .ok (.iload 5, 2) := by decide +kernel
theorem dX7_add_163 : decode cX7_add 163 = .ok (.bipush 6, 2) := by decide +kernel
theorem dX7_add_165 : decode cX7_add 165 = .ok (.invokestatic 60, 3) := by decide +kernel
theorem dX7_add_168 : decode cX7_add 168 = .ok (.aload_n 0, 1) := by decide +kernel
theorem dX7_add_169 : decode cX7_add 169 = .ok (.invokevirtual 117, 3) := by decide +kernel
theorem dX7_add_172 : decode cX7_add 172 = .ok (.iastore, 1) := by decide +kernel
theorem dX7_add_173 : decode cX7_add 173 = .ok (.aload_n 0, 1) := by decide +kernel
theorem dX7_add_174 : decode cX7_add 174 = .ok (.getfield 7, 3) := by decide +kernel
theorem dX7_add_177 : decode cX7_add 177 = .ok (.iload 5, 2) := by decide +kernel
theorem dX7_add_179 : decode cX7_add 179 = .ok (.bipush 7, 2) := by decide +kernel
theorem dX7_add_181 : decode cX7_add 181 = .ok (.invokestatic 60, 3) := by decide +kernel
theorem dX7_add_184 : decode cX7_add 184 = .ok (.iconst 0, 1) := by decide +kernel
theorem dX7_add_185 : decode cX7_add 185 = .ok (.iastore, 1) := by decide +kernel
theorem dX7_add_186 : decode cX7_add 186 = .ok (.aload_n 0, 1) := by decide +kernel
theorem dX7_add_187 : decode cX7_add 187 = .ok (.getfield 7, 3) := by decide +kernel
theorem dX7_add_190 : decode cX7_add 190 = .ok (.iload 5, 2) := by decide +kernel
theorem dX7_add_192 : decode cX7_add 192 = .ok (.bipush 8, 2) := by decide +kernel
theorem dX7_add_194 : decode cX7_add 194 = .ok (.invokestatic 60, 3) := by decide +kernel
theorem dX7_add_197 : decode cX7_add 197 = .ok (.iconst 0, 1) := by decide +kernel
theorem dX7_add_198 : decode cX7_add 198 = .ok (.iastore, 1) := by decide +kernel
theorem dX7_add_199 : decode cX7_add 199 = .ok (.aload_n 0, 1) := by decide +kernel
theorem dX7_add_200 : decode cX7_add 200 = .ok (.getfield 7, 3) := by decide +kernel
theorem dX7_add_203 : decode cX7_add 203 = .ok (.iload 5, 2) := by decide +kernel
theorem dX7_add_205 : decode cX7_add 205 = .ok (.bipush 9, 2) := by decide +kernel
theorem dX7_add_207 : decode cX7_add 207 = .ok (.invokestatic 60, 3) := by decide +kernel
theorem dX7_add_210 : decode cX7_add 210 = .ok (.iconst 0, 1) := by decide +kernel
theorem dX7_add_211 : decode cX7_add 211 = .ok (.iastore, 1) := by decide +kernel
theorem dX7_add_212 : decode cX7_add 212 = .ok (.aload_n 0, 1) := by decide +kernel
theorem dX7_add_213 : decode cX7_add 213 = .ok (.iload 5, 2) := by decide +kernel
theorem dX7_add_215 : decode cX7_add 215 = .ok (.iload_n 3, 1) := by decide +kernel
theorem dX7_add_216 : decode cX7_add 216 = .ok (.iload 4, 2) := by decide +kernel
theorem dX7_add_218 : decode cX7_add 218 = .ok (.invokevirtual 275, 3) := by decide +kernel
theorem dX7_add_221 : decode cX7_add 221 = .ok (.aload_n 0, 1) := by decide +kernel
theorem dX7_add_222 : decode cX7_add 222 = .ok (.aload_n 0, 1) := by decide +kernel
theorem dX7_add_223 : decode cX7_add 223 = .ok (.getfield 7, 3) := by decide +kernel
theorem dX7_add_226 : decode cX7_add 226 = .ok (.iload_n 1, 1) := by decide +kernel
theorem dX7_add_227 : decode cX7_add 227 = .ok (.iaload, 1) := by decide +kernel
theorem dX7_add_228 : decode cX7_add 228 = .ok (.invokevirtual 278, 3) := by decide +kernel
theorem dX7_add_231 : decode cX7_add 231 = .ok (.ireturn, 1) := by decide +kernel
theorem dX7_tell_0 : decode cX7_tell 0 = .ok (.aload_n 0, 1) := by decide +kernel
theorem dX7_tell_1 : decode cX7_tell 1 = .ok (.getfield 7, 3) := by decide +kernel
theorem dX7_tell_4 : decode cX7_tell 4 = .ok (.iload_n 1, 1) := by decide +kernel
theorem dX7_tell_5 : decode cX7_tell 5 = .ok (.iconst 3, 1) := by decide +kernel
theorem dX7_tell_6 : decode cX7_tell 6 = .ok (.invokestatic 60, 3) := by decide +kernel
theorem dX7_tell_9 : decode cX7_tell 9 = .ok (.iload_n 2, 1) := by decide +kernel
theorem dX7_tell_10 : decode cX7_tell 10 = .ok (.iastore, 1) := by decide +kernel
theorem dX7_tell_11 : decode cX7_tell 11 = .ok (.aload_n 0, 1) := by decide +kernel
theorem dX7_tell_12 : decode cX7_tell 12 = .ok (.getfield 7, 3) := by decide +kernel
theorem dX7_tell_15 : decode cX7_tell 15 = .ok (.iload_n 1, 1) := by decide +kernel
theorem dX7_tell_16 : decode cX7_tell 16 = .ok (.iconst 4, 1) := by decide +kernel
theorem dX7_tell_17 : decode cX7_tell 17 = .ok (.invokestatic 60, 3) := by decide +kernel
theorem dX7_tell_20 : decode cX7_tell 20 = .ok (.iload_n 3, 1) := by decide +kernel
theorem dX7_tell_21 : decode cX7_tell 21 = .ok (.iastore, 1) := by decide +kernel
theorem dX7_tell_22 : decode cX7_tell 22 = .ok (.aload_n 0, 1) := by decide +kernel
theorem dX7_tell_23 : decode cX7_tell 23 = .ok (.getfield 7, 3) := by decide +kernel
theorem dX7_tell_26 : decode cX7_tell 26 = .ok (.iload_n 1, 1) := by decide +kernel
theorem dX7_tell_27 : decode cX7_tell 27 = .ok (.iconst 5, 1) := by decide +kernel
theorem dX7_tell_28 : decode cX7_tell 28 = .ok (.invokestatic 60, 3) := by decide +kernel
theorem dX7_tell_31 : decode cX7_tell 31 = .ok (.iconst 1, 1) := by decide +kernel
theorem dX7_tell_32 : decode cX7_tell 32 = .ok (.iastore, 1) := by decide +kernel
theorem dX7_tell_33 : decode cX7_tell 33 = .ok (.aload_n 0, 1) := by decide +kernel
theorem dX7_tell_34 : decode cX7_tell 34 = .ok (.invokevirtual 156, 3) := by decide +kernel
theorem dX7_tell_37 : decode cX7_tell 37 = .ok (.aload_n 0, 1) := by decide +kernel
theorem dX7_tell_38 : decode cX7_tell 38 = .ok (.iload_n 1, 1) := by decide +kernel
theorem dX7_tell_39 : decode cX7_tell 39 = .ok (.invokevirtual 140, 3) := by decide +kernel
theorem dX7_tell_42 : decode cX7_tell 42 = .ok (.ifCond .ne 4, 3) := by decide +kernel
theorem dX7_tell_45 : decode cX7_tell 45 = .ok (.return_, 1) := by decide +kernel
theorem dX7_tell_46 : decode cX7_tell 46 = .ok (.aload_n 0, 1) := by decide +kernel
theorem dX7_tell_47 : decode cX7_tell 47 = .ok (.iload_n 1, 1) := by decide +kernel
theorem dX7_tell_48 : decode cX7_tell 48 = .ok (.invokevirtual 166, 3) := by decide +kernel
theorem dX7_tell_51 : decode cX7_tell 51 = .ok (.aload_n 0, 1) := by decide +kernel
theorem dX7_tell_52 : decode cX7_tell 52 = .ok (.aload_n 0, 1) := by decide +kernel
theorem dX7_tell_53 : decode cX7_tell 53 = .ok (.iload_n 1, 1) := by decide +kernel
theorem dX7_tell_54 : decode cX7_tell 54 = .ok (.iconst 0, 1) := by decide +kernel
theorem dX7_tell_55 : decode cX7_tell 55 = .ok (.invokevirtual 81, 3) := by decide +kernel
theorem dX7_tell_58 : decode cX7_tell 58 = .ok (.invokevirtual 281, 3) := by decide +kernel
theorem dX7_tell_61 : decode cX7_tell 61 = .ok (.return_, 1) := by decide +kernel
theorem dX7_change_0 : decode cX7_change 0 = .ok (.aload_n 0, 1) := by decide +kernel
theorem dX7_change_1 : decode cX7_change 1 = .ok (.iload_n 1, 1) := by decide +kernel
theorem dX7_change_2 : decode cX7_change 2 = .ok (.iload_n 2, 1) := by decide +kernel
theorem dX7_change_3 : decode cX7_change 3 = .ok (.invokevirtual 266, 3) := by decide +kernel
theorem dX7_change_6 : decode cX7_change 6 = .ok (.istore 5, 2) := by decide +kernel
theorem dX7_change_8 : decode cX7_change 8 = .ok (.iload 5, 2) := by decide +kernel
theorem dX7_change_10 : decode cX7_change 10 = .ok (.ifCond .lt 12, 3) := by decide +kernel
theorem dX7_change_13 : decode cX7_change 13 = .ok (.iload_n 3, 1) := by decide +kernel
theorem dX7_change_14 : decode cX7_change 14 = .ok (.iload 4, 2) := by decide +kernel
theorem dX7_change_16 : decode cX7_change 16 = .ok (.invokestatic 263, 3) := by decide +kernel
theorem dX7_change_19 : decode cX7_change 19 = .ok (.ifCond .ne 5, 3) := by decide +kernel
theorem dX7_change_22 : decode cX7_change 22 = .ok (.iconst 0, 1) := by decide +kernel
theorem dX7_change_23 : decode cX7_change 23 = .ok (.ireturn, 1) := by decide +kernel
theorem dX7_change_24 : decode cX7_change 24 = .ok (.aload_n 0, 1) := by decide +kernel
theorem dX7_change_25 : decode cX7_change 25 = .ok (.invokevirtual 101, 3) := by decide +kernel
theorem dX7_change_28 : decode cX7_change 28 = .ok (.aload_n 0, 1) := by decide +kernel
theorem dX7_change_29 : decode cX7_change 29 = .ok (.iload 5, 2) := by decide +kernel
theorem dX7_change_31 : decode cX7_change 31 = .ok (.iload_n 3, 1) := by decide +kernel
theorem dX7_change_32 : decode cX7_change 32 = .ok (.iload 4, 2) := by decide +kernel
theorem dX7_change_34 : decode cX7_change 34 = .ok (.invokevirtual 275, 3) := by decide +kernel
theorem dX7_change_37 : decode cX7_change 37 = .ok (.iconst 1, 1) := by decide +kernel
theorem dX7_change_38 : decode cX7_change 38 = .ok (.ireturn, 1) := by decide +kernel
theorem dX7_changeAsIs_0 : decode cX7_changeAsIs 0 = .ok (.aload_n 0, 1) := by decide +kernel
theorem dX7_changeAsIs_1 : decode cX7_changeAsIs 1 = .ok (.iload_n 1, 1) := by decide +kernel
theorem dX7_changeAsIs_2 : decode cX7_changeAsIs 2 = .ok (.iload_n 2, 1) := by decide +kernel
theorem dX7_changeAsIs_3 : decode cX7_changeAsIs 3 = .ok (.invokevirtual 266, 3) := by decide +kernel
theorem dX7_changeAsIs_6 : decode cX7_changeAsIs 6 = .ok (.istore_n 3, 1) := by decide +kernel
theorem dX7_changeAsIs_7 : decode cX7_changeAsIs 7 = .ok (.iload_n 3, 1) := by decide +kernel
theorem dX7_changeAsIs_8 : decode cX7_changeAsIs 8 = .ok (.ifCond .ge 5, 3) := by decide +kernel
theorem dX7_changeAsIs_11 : decode cX7_changeAsIs 11 = .ok (.iconst 0, 1) := by decide +kernel
theorem dX7_changeAsIs_12 : decode cX7_changeAsIs 12 = .ok (.ireturn, 1) := by decide +kernel
theorem dX7_changeAsIs_13 : decode cX7_changeAsIs 13 = .ok (.aload_n 0, 1) := by decide +kernel
theorem dX7_changeAsIs_14 : decode cX7_changeAsIs 14 = .ok (.iload_n 3, 1) := by decide +kernel
theorem dX7_changeAsIs_15 : decode cX7_changeAsIs 15 = .ok (.aload_n 0, 1) := by decide +kernel
theorem dX7_changeAsIs_16 : decode cX7_changeAsIs 16 = .ok (.iload_n 3, 1) := by decide +kernel
theorem dX7_changeAsIs_17 : decode cX7_changeAsIs 17 = .ok (.iconst 3, 1) := by decide +kernel
theorem dX7_changeAsIs_18 : decode cX7_changeAsIs 18 = .ok (.invokevirtual 81, 3) := by decide +kernel
theorem dX7_changeAsIs_21 : decode cX7_changeAsIs 21 = .ok (.aload_n 0, 1) := by decide +kernel
theorem dX7_changeAsIs_22 : decode cX7_changeAsIs 22 = .ok (.iload_n 3, 1) := by decide +kernel
theorem dX7_changeAsIs_23 : decode cX7_changeAsIs 23 = .ok (.iconst 4, 1) := by decide +kernel
theorem dX7_changeAsIs_24 : decode cX7_changeAsIs 24 = .ok (.invokevirtual 81, 3) := by decide +kernel
theorem dX7_changeAsIs_27 : decode cX7_changeAsIs 27 = .ok (.invokevirtual 275, 3) := by decide +kernel
theorem dX7_changeAsIs_30 : decode cX7_changeAsIs 30 = .ok (.iconst 1, 1) := by decide +kernel
theorem dX7_changeAsIs_31 : decode cX7_changeAsIs 31 = .ok (.ireturn, 1) := by decide +kernel
theorem dX7_drop_0 : decode cX7_drop 0 = .ok (.aload_n 0, 1) := by decide +kernel
theorem dX7_drop_1 : decode cX7_drop 1 = .ok (.iload_n 1, 1) := by decide +kernel
theorem dX7_drop_2 : decode cX7_drop 2 = .ok (.iload_n 2, 1) := by decide +kernel
theorem dX7_drop_3 : decode cX7_drop 3 = .ok (.invokevirtual 266, 3) := by decide +kernel
theorem dX7_drop_6 : decode cX7_drop 6 = .ok (.istore_n 3, 1) := by decide +kernel
theorem dX7_drop_7 : decode cX7_drop 7 = .ok (.iload_n 3, 1) := by decide +kernel
theorem dX7_drop_8 : decode cX7_drop 8 = .ok (.ifCond .ge 5, 3) := by decide +kernel
theorem dX7_drop_11 : decode cX7_drop 11 = .ok (.iconst 0, 1) := by decide +kernel
theorem dX7_drop_12 : decode cX7_drop 12 = .ok (.ireturn, 1) := by decide +kernel
theorem dX7_drop_13 : decode cX7_drop 13 = .ok (.aload_n 0, 1) := by decide +kernel
theorem dX7_drop_14 : decode cX7_drop 14 = .ok (.invokevirtual 101, 3) := by decide +kernel
theorem dX7_drop_17 : decode cX7_drop 17 = .ok (.aload_n 0, 1) := by decide +kernel
theorem dX7_drop_18 : decode cX7_drop 18 = .ok (.iload_n 3, 1) := by decide +kernel
theorem dX7_drop_19 : decode cX7_drop 19 = .ok (.invokevirtual 211, 3) := by decide +kernel
theorem dX7_drop_22 : decode cX7_drop 22 = .ok (.iconst 1, 1) := by decide +kernel
theorem dX7_drop_23 : decode cX7_drop 23 = .ok (.ireturn, 1) := by decide +kernel
theorem dX7_canCollect_0 : decode cX7_canCollect 0 = .ok (.aload_n 0, 1) := by decide +kernel
theorem dX7_canCollect_1 : decode cX7_canCollect 1 = .ok (.iload_n 1, 1) := by decide +kernel
theorem dX7_canCollect_2 : decode cX7_canCollect 2 = .ok (.invokevirtual 284, 3) := by decide +kernel
theorem dX7_canCollect_5 : decode cX7_canCollect 5 = .ok (.ifCond .eq 34, 3) := by decide +kernel
theorem dX7_canCollect_8 : decode cX7_canCollect 8 = .ok (.aload_n 0, 1) := by decide +kernel
theorem dX7_canCollect_9 : decode cX7_canCollect 9 = .ok (.iload_n 1, 1) := by decide +kernel
theorem dX7_canCollect_10 : decode cX7_canCollect 10 = .ok (.invokevirtual 250, 3) := by decide +kernel
theorem dX7_canCollect_13 : decode cX7_canCollect 13 = .ok (.ifCond .ne 26, 3) := by decide +kernel
theorem dX7_canCollect_16 : decode cX7_canCollect 16 = .ok (.aload_n 0, 1) := by decide +kernel
theorem dX7_canCollect_17 : decode cX7_canCollect 17 = .ok (.iload_n 2, 1) := by decide +kernel
theorem dX7_canCollect_18 : decode cX7_canCollect 18 = .ok (.iconst 4, 1) := by decide +kernel
theorem dX7_canCollect_19 : decode cX7_canCollect 19 = .ok (.invokevirtual 110, 3) := by decide +kernel
theorem dX7_canCollect_22 : decode cX7_canCollect 22 = .ok (.ifCond .eq 17, 3) := by decide +kernel
theorem dX7_canCollect_25 : decode cX7_canCollect 25 = .ok (.iload_n 3, 1) := by decide +kernel
theorem dX7_canCollect_26 : decode cX7_canCollect 26 = .ok (.iconst 1, 1) := by decide +kernel
theorem dX7_canCollect_27 : decode cX7_canCollect 27 = .ok (.bipush 8, 2) := by decide +kernel
theorem dX7_canCollect_29 : decode cX7_canCollect 29 = .ok (.invokestatic 69, 3) := by decide +kernel
theorem dX7_canCollect_32 : decode cX7_canCollect 32 = .ok (.ifCond .eq 7, 3) := by decide +kernel
theorem dX7_canCollect_35 : decode cX7_canCollect 35 = .ok (.iconst 1, 1) := by decide +kernel
theorem dX7_canCollect_36 : decode cX7_canCollect 36 = .ok (.goto 4, 3) := by decide +kernel
theorem dX7_canCollect_39 : decode cX7_canCollect 39 = .ok (.iconst 0, 1) := by decide +kernel
theorem dX7_canCollect_40 : decode cX7_canCollect 40 = .ok (.ireturn, 1) := by decide +kernel
theorem dX7_goCollectAt_0 : decode cX7_goCollectAt 0 = .ok (.aload_n 0, 1) := by decide +kernel
theorem dX7_goCollectAt_1 : decode cX7_goCollectAt 1 = .ok (.iload_n 1, 1) := by decide +kernel
theorem dX7_goCollectAt_2 : decode cX7_goCollectAt 2 = .ok (.iload_n 2, 1) := by decide +kernel
theorem dX7_goCollectAt_3 : decode cX7_goCollectAt 3 = .ok (.iload_n 3, 1) := by decide +kernel
theorem dX7_goCollectAt_4 : decode cX7_goCollectAt 4 = .ok (.invokevirtual 287, 3) := by decide +kernel
theorem dX7_goCollectAt_7 : decode cX7_goCollectAt 7 = .ok (.ifCond .ne 5, 3) := by decide +kernel
theorem dX7_goCollectAt_10 : decode cX7_goCollectAt 10 = .ok (.iconst (-1), 1) := by decide +kernel
theorem dX7_goCollectAt_11 : decode cX7_goCollectAt 11 = .ok (.ireturn, 1) := by decide +kernel
theorem dX7_goCollectAt_12 : decode cX7_goCollectAt 12 = .ok (.iload 4, 2) := by decide +kernel
theorem dX7_goCollectAt_14 : decode cX7_goCollectAt 14 = .ok (.ifCond .eq 7, 3) := by decide +kernel
theorem dX7_goCollectAt_17 : decode cX7_goCollectAt 17 = .ok (.aload_n 0, 1) := by decide +kernel
theorem dX7_goCollectAt_18 : decode cX7_goCollectAt 18 = .ok (.invokevirtual 101, 3) := by decide +kernel
theorem dX7_goCollectAt_21 : decode cX7_goCollectAt 21 = .ok (.aload_n 0, 1) := by decide +kernel
theorem dX7_goCollectAt_22 : decode cX7_goCollectAt 22 = .ok (.iload_n 1, 1) := by decide +kernel
theorem dX7_goCollectAt_23 : decode cX7_goCollectAt 23 = .ok (.aload_n 0, 1) := by decide +kernel
theorem dX7_goCollectAt_24 : decode cX7_goCollectAt 24 = .ok (.getfield 7, 3) := by decide +kernel
theorem dX7_goCollectAt_27 : decode cX7_goCollectAt 27 = .ok (.iload_n 2, 1) := by decide +kernel
theorem dX7_goCollectAt_28 : decode cX7_goCollectAt 28 = .ok (.iaload, 1) := by decide +kernel
theorem dX7_goCollectAt_29 : decode cX7_goCollectAt 29 = .ok (.iload_n 3, 1) := by decide +kernel
theorem dX7_goCollectAt_30 : decode cX7_goCollectAt 30 = .ok (.invokevirtual 176, 3) := by decide +kernel
theorem dX7_goCollectAt_33 : decode cX7_goCollectAt 33 = .ok (.ireturn, 1) := by decide +kernel
theorem dX7_goAwait_0 : decode cX7_goAwait 0 = .ok (.aload_n 0, 1) := by decide +kernel
theorem dX7_goAwait_1 : decode cX7_goAwait 1 = .ok (.iload_n 1, 1) := by decide +kernel
theorem dX7_goAwait_2 : decode cX7_goAwait 2 = .ok (.iload_n 2, 1) := by decide +kernel
theorem dX7_goAwait_3 : decode cX7_goAwait 3 = .ok (.iload_n 3, 1) := by decide +kernel
theorem dX7_goAwait_4 : decode cX7_goAwait 4 = .ok (.invokevirtual 287, 3) := by decide +kernel
theorem dX7_goAwait_7 : decode cX7_goAwait 7 = .ok (.ifCond .eq 15, 3) := by decide +kernel
theorem dX7_goAwait_10 : decode cX7_goAwait 10 = .ok (.iload 4, 2) := by decide +kernel
theorem dX7_goAwait_12 : decode cX7_goAwait 12 = .ok (.iconst 0, 1) := by decide +kernel
theorem dX7_goAwait_13 : decode cX7_goAwait 13 = .ok (.sipush 1000, 3) := by decide +kernel
theorem dX7_goAwait_16 : decode cX7_goAwait 16 = .ok (.invokestatic 69, 3) := by decide +kernel
theorem dX7_goAwait_19 : decode cX7_goAwait 19 = .ok (.ifCond .ne 5, 3) := by decide +kernel
theorem dX7_goAwait_22 : decode cX7_goAwait 22 = .ok (.iconst (-1), 1) := by decide +kernel
theorem dX7_goAwait_23 : decode cX7_goAwait 23 = .ok (.ireturn, 1) := by decide +kernel
theorem dX7_goAwait_24 : decode cX7_goAwait 24 = .ok (.iload 5, 2) := by decide +kernel
theorem dX7_goAwait_26 : decode cX7_goAwait 26 = .ok (.ifCond .eq 7, 3) := by decide +kernel
theorem dX7_goAwait_29 : decode cX7_goAwait 29 = .ok (.aload_n 0, 1) := by decide +kernel
theorem dX7_goAwait_30 : decode cX7_goAwait 30 = .ok (.invokevirtual 101, 3) := by decide +kernel
theorem dX7_goAwait_33 : decode cX7_goAwait 33 = .ok (.aload_n 0, 1) := by decide +kernel
theorem dX7_goAwait_34 : decode cX7_goAwait 34 = .ok (.iload_n 1, 1) := by decide +kernel
theorem dX7_goAwait_35 : decode cX7_goAwait 35 = .ok (.aload_n 0, 1) := by decide +kernel
theorem dX7_goAwait_36 : decode cX7_goAwait 36 = .ok (.getfield 7, 3) := by decide +kernel
theorem dX7_goAwait_39 : decode cX7_goAwait 39 = .ok (.iload_n 2, 1) := by decide +kernel
theorem dX7_goAwait_40 : decode cX7_goAwait 40 = .ok (.iaload, 1) := by decide +kernel
theorem dX7_goAwait_41 : decode cX7_goAwait 41 = .ok (.iload_n 3, 1) := by decide +kernel
theorem dX7_goAwait_42 : decode cX7_goAwait 42 = .ok (.invokevirtual 176, 3) := by decide +kernel
theorem dX7_goAwait_45 : decode cX7_goAwait 45 = .ok (.istore 6, 2) := by decide +kernel
theorem dX7_goAwait_47 : decode cX7_goAwait 47 = .ok (.iload 6, 2) := by decide +kernel
theorem dX7_goAwait_49 : decode cX7_goAwait 49 = .ok (.ifCond .le 6, 3) := by decide +kernel
theorem dX7_goAwait_52 : decode cX7_goAwait 52 = .ok (.iload 6, 2) := by decide +kernel
theorem dX7_goAwait_54 : decode cX7_goAwait 54 = .ok (.ireturn, 1) := by decide +kernel
theorem dX7_goAwait_55 : decode cX7_goAwait 55 = .ok (.aload_n 0, 1) := by decide +kernel
theorem dX7_goAwait_56 : decode cX7_goAwait 56 = .ok (.getfield 7, 3) := by decide +kernel
theorem dX7_goAwait_59 : decode cX7_goAwait 59 = .ok (.iload_n 1, 1) := by decide +kernel
theorem dX7_goAwait_60 : decode cX7_goAwait 60 = .ok (.iconst 0, 1) := by decide +kernel
theorem dX7_goAwait_61 : decode cX7_goAwait 61 = .ok (.invokestatic 63, 3) := by decide +kernel
theorem dX7_goAwait_64 : decode cX7_goAwait 64 = .ok (.aload_n 0, 1) := by decide +kernel
theorem dX7_goAwait_65 : decode cX7_goAwait 65 = .ok (.getfield 7, 3) := by decide +kernel
theorem dX7_goAwait_68 : decode cX7_goAwait 68 = .ok (.iload_n 2, 1) := by decide +kernel
theorem dX7_goAwait_69 : decode cX7_goAwait 69 = .ok (.iaload, 1) := by decide +kernel
theorem dX7_goAwait_70 : decode cX7_goAwait 70 = .ok (.iastore, 1) := by decide +kernel
theorem dX7_goAwait_71 : decode cX7_goAwait 71 = .ok (.aload_n 0, 1) := by decide +kernel
theorem dX7_goAwait_72 : decode cX7_goAwait 72 = .ok (.getfield 7, 3) := by decide +kernel
theorem dX7_goAwait_75 : decode cX7_goAwait 75 = .ok (.iload_n 1, 1) := by decide +kernel
theorem dX7_goAwait_76 : decode cX7_goAwait 76 = .ok (.iconst 1, 1) := by decide +kernel
theorem dX7_goAwait_77 : decode cX7_goAwait 77 = .ok (.invokestatic 63, 3) := by decide +kernel
theorem dX7_goAwait_80 : decode cX7_goAwait 80 = .ok (.aload_n 0, 1) := by decide +kernel
theorem dX7_goAwait_81 : decode cX7_goAwait 81 = .ok (.invokevirtual 117, 3) := by decide +kernel
theorem dX7_goAwait_84 : decode cX7_goAwait 84 = .ok (.iastore, 1) := by decide +kernel
theorem dX7_goAwait_85 : decode cX7_goAwait 85 = .ok (.aload_n 0, 1) := by decide +kernel
theorem dX7_goAwait_86 : decode cX7_goAwait 86 = .ok (.getfield 7, 3) := by decide +kernel
theorem dX7_goAwait_89 : decode cX7_goAwait 89 = .ok (.iload_n 1, 1) := by decide +kernel
theorem dX7_goAwait_90 : decode cX7_goAwait 90 = .ok (.iconst 2, 1) := by decide +kernel
theorem dX7_goAwait_91 : decode cX7_goAwait 91 = .ok (.invokestatic 63, 3) := by decide +kernel
theorem dX7_goAwait_94 : decode cX7_goAwait 94 = .ok (.iload_n 3, 1) := by decide +kernel
theorem dX7_goAwait_95 : decode cX7_goAwait 95 = .ok (.iastore, 1) := by decide +kernel
theorem dX7_goAwait_96 : decode cX7_goAwait 96 = .ok (.aload_n 0, 1) := by decide +kernel
theorem dX7_goAwait_97 : decode cX7_goAwait 97 = .ok (.getfield 7, 3) := by decide +kernel
theorem dX7_goAwait_100 : decode cX7_goAwait 100 = .ok (.iload_n 1, 1) := by decide +kernel
theorem dX7_goAwait_101 : decode cX7_goAwait 101 = .ok (.iconst 3, 1) := by decide +kernel
theorem dX7_goAwait_102 : decode cX7_goAwait 102 = .ok (.invokestatic 63, 3) := by decide +kernel
theorem dX7_goAwait_105 : decode cX7_goAwait 105 = .ok (.iload 4, 2) := by decide +kernel
theorem dX7_goAwait_107 : decode cX7_goAwait 107 = .ok (.ifCond .ne 7, 3) := by decide +kernel
theorem dX7_goAwait_110 : decode cX7_goAwait 110 = .ok (.iconst (-1), 1) := by decide +kernel
theorem dX7_goAwait_111 : decode cX7_goAwait 111 = .ok (.goto 14, 3) := by decide +kernel
theorem dX7_goAwait_114 : decode cX7_goAwait 114 = .ok (.aload_n 0, 1) := by decide +kernel
theorem dX7_goAwait_115 : decode cX7_goAwait 115 = .ok (.getfield 7, 3) := by decide +kernel
theorem dX7_goAwait_118 : decode cX7_goAwait 118 = .ok (.sipush 794, 3) := by decide +kernel
theorem dX7_goAwait_121 : decode cX7_goAwait 121 = .ok (.iaload, 1) := by decide +kernel
theorem dX7_goAwait_122 : decode cX7_goAwait 122 = .ok (.iload 4, 2) := by decide +kernel
theorem dX7_goAwait_124 : decode cX7_goAwait 124 = .ok (.iadd, 1) := by decide +kernel
theorem dX7_goAwait_125 : decode cX7_goAwait 125 = .ok (.iastore, 1) := by decide +kernel
theorem dX7_goAwait_126 : decode cX7_goAwait 126 = .ok (.bipush (-2), 2) := by decide +kernel
theorem dX7_goAwait_128 : decode cX7_goAwait 128 = .ok (.ireturn, 1) := by decide +kernel
theorem dX7_collect_0 : decode cX7_collect 0 = .ok (.aload_n 0, 1) := by decide +kernel
theorem dX7_collect_1 : decode cX7_collect 1 = .ok (.iload_n 1, 1) := by decide +kernel
theorem dX7_collect_2 : decode cX7_collect 2 = .ok (.iload_n 2, 1) := by decide +kernel
theorem dX7_collect_3 : decode cX7_collect 3 = .ok (.iload_n 3, 1) := by decide +kernel
theorem dX7_collect_4 : decode cX7_collect 4 = .ok (.iconst 1, 1) := by decide +kernel
theorem dX7_collect_5 : decode cX7_collect 5 = .ok (.invokevirtual 290, 3) := by decide +kernel
theorem dX7_collect_8 : decode cX7_collect 8 = .ok (.ireturn, 1) := by decide +kernel
theorem dX7_await_0 : decode cX7_await 0 = .ok (.aload_n 0, 1) := by decide +kernel
theorem dX7_await_1 : decode cX7_await 1 = .ok (.iload_n 1, 1) := by decide +kernel
theorem dX7_await_2 : decode cX7_await 2 = .ok (.iload_n 2, 1) := by decide +kernel
theorem dX7_await_3 : decode cX7_await 3 = .ok (.iload_n 3, 1) := by decide +kernel
theorem dX7_await_4 : decode cX7_await 4 = .ok (.iload 4, 2) := by decide +kernel
theorem dX7_await_6 : decode cX7_await 6 = .ok (.iconst 1, 1) := by decide +kernel
theorem dX7_await_7 : decode cX7_await 7 = .ok (.invokevirtual 294, 3) := by decide +kernel
theorem dX7_await_10 : decode cX7_await 10 = .ok (.ireturn, 1) := by decide +kernel
theorem dX7_handle_0 : decode cX7_handle 0 = .ok (.aload_n 0, 1) := by decide +kernel
theorem dX7_handle_1 : decode cX7_handle 1 = .ok (.iload_n 1, 1) := by decide +kernel
theorem dX7_handle_2 : decode cX7_handle 2 = .ok (.invokevirtual 73, 3) := by decide +kernel
theorem dX7_handle_5 : decode cX7_handle 5 = .ok (.ifCond .ne 5, 3) := by decide +kernel
theorem dX7_handle_8 : decode cX7_handle 8 = .ok (.iconst (-1), 1) := by decide +kernel
theorem dX7_handle_9 : decode cX7_handle 9 = .ok (.ireturn, 1) := by decide +kernel
theorem dX7_handle_10 : decode cX7_handle 10 = .ok (.aload_n 0, 1) := by decide +kernel
theorem dX7_handle_11 : decode cX7_handle 11 = .ok (.getfield 7, 3) := by decide +kernel
theorem dX7_handle_14 : decode cX7_handle 14 = .ok (.iload_n 1, 1) := by decide +kernel
theorem dX7_handle_15 : decode cX7_handle 15 = .ok (.iaload, 1) := by decide +kernel
theorem dX7_handle_16 : decode cX7_handle 16 = .ok (.istore_n 3, 1) := by decide +kernel
theorem dX7_handle_17 : decode cX7_handle 17 = .ok (.iload_n 2, 1) := by decide +kernel
theorem dX7_handle_18 : decode cX7_handle 18 = .ok (.tableswitch 79 0 5 #[38, 44, 50, 61, 67, 73], 38) := by decide +kernel
theorem dX7_handle_56 : decode cX7_handle 56 = .ok (.aload_n 0, 1) := by decide +kernel
theorem dX7_handle_57 : decode cX7_handle 57 = .ok (.iload_n 3, 1) := by decide +kernel
theorem dX7_handle_58 : decode cX7_handle 58 = .ok (.invokevirtual 77, 3) := by decide +kernel
theorem dX7_handle_61 : decode cX7_handle 61 = .ok (.ireturn, 1) := by decide +kernel
theorem dX7_handle_62 : decode cX7_handle 62 = .ok (.aload_n 0, 1) := by decide +kernel
theorem dX7_handle_63 : decode cX7_handle 63 = .ok (.iload_n 3, 1) := by decide +kernel
theorem dX7_handle_64 : decode cX7_handle 64 = .ok (.invokevirtual 298, 3) := by decide +kernel
theorem dX7_handle_67 : decode cX7_handle 67 = .ok (.ireturn, 1) := by decide +kernel
theorem dX7_handle_68 : decode cX7_handle 68 = .ok (.aload_n 0, 1) := by decide +kernel
theorem dX7_handle_69 : decode cX7_handle 69 = .ok (.invokevirtual 156, 3) := by decide +kernel
theorem dX7_handle_72 : decode cX7_handle 72 = .ok (.aload_n 0, 1) := by decide +kernel
theorem dX7_handle_73 : decode cX7_handle 73 = .ok (.getfield 13, 3) := by decide +kernel
theorem dX7_handle_76 : decode cX7_handle 76 = .ok (.iload_n 3, 1) := by decide +kernel
theorem dX7_handle_77 : decode cX7_handle 77 = .ok (.iaload, 1) := by decide +kernel
theorem dX7_handle_78 : decode cX7_handle 78 = .ok (.ireturn, 1) := by decide +kernel
theorem dX7_handle_79 : decode cX7_handle 79 = .ok (.aload_n 0, 1) := by decide +kernel
theorem dX7_handle_80 : decode cX7_handle 80 = .ok (.iload_n 3, 1) := by decide +kernel
theorem dX7_handle_81 : decode cX7_handle 81 = .ok (.invokevirtual 205, 3) := by decide +kernel
theorem dX7_handle_84 : decode cX7_handle 84 = .ok (.ireturn, 1) := by decide +kernel
theorem dX7_handle_85 : decode cX7_handle 85 = .ok (.aload_n 0, 1) := by decide +kernel
theorem dX7_handle_86 : decode cX7_handle 86 = .ok (.iload_n 3, 1) := by decide +kernel
theorem dX7_handle_87 : decode cX7_handle 87 = .ok (.invokevirtual 301, 3) := by decide +kernel
theorem dX7_handle_90 : decode cX7_handle 90 = .ok (.ireturn, 1) := by decide +kernel
theorem dX7_handle_91 : decode cX7_handle 91 = .ok (.aload_n 0, 1) := by decide +kernel
theorem dX7_handle_92 : decode cX7_handle 92 = .ok (.iload_n 3, 1) := by decide +kernel
theorem dX7_handle_93 : decode cX7_handle 93 = .ok (.invokevirtual 304, 3) := by decide +kernel
theorem dX7_handle_96 : decode cX7_handle 96 = .ok (.ireturn, 1) := by decide +kernel
theorem dX7_handle_97 : decode cX7_handle 97 = .ok (.iconst (-1), 1) := by decide +kernel
theorem dX7_handle_98 : decode cX7_handle 98 = .ok (.ireturn, 1) := by decide +kernel
theorem dX7_holdsOf_0 : decode cX7_holdsOf 0 = .ok (.aload_n 0, 1) := by decide +kernel
theorem dX7_holdsOf_1 : decode cX7_holdsOf 1 = .ok (.iload_n 1, 1) := by decide +kernel
theorem dX7_holdsOf_2 : decode cX7_holdsOf 2 = .ok (.invokevirtual 220, 3) := by decide +kernel
theorem dX7_holdsOf_5 : decode cX7_holdsOf 5 = .ok (.ifCond .eq 15, 3) := by decide +kernel
theorem dX7_holdsOf_8 : decode cX7_holdsOf 8 = .ok (.aload_n 0, 1) := by decide +kernel
theorem dX7_holdsOf_9 : decode cX7_holdsOf 9 = .ok (.aload_n 0, 1) := by decide +kernel
theorem dX7_holdsOf_10 : decode cX7_holdsOf 10 = .ok (.iload_n 1, 1) := by decide +kernel
theorem dX7_holdsOf_11 : decode cX7_holdsOf 11 = .ok (.iconst 1, 1) := by decide +kernel
theorem dX7_holdsOf_12 : decode cX7_holdsOf 12 = .ok (.invokevirtual 66, 3) := by decide +kernel
theorem dX7_holdsOf_15 : decode cX7_holdsOf 15 = .ok (.iconst 1, 1) := by decide +kernel
theorem dX7_holdsOf_16 : decode cX7_holdsOf 16 = .ok (.invokevirtual 91, 3) := by decide +kernel
theorem dX7_holdsOf_19 : decode cX7_holdsOf 19 = .ok (.ireturn, 1) := by decide +kernel
theorem dX7_holdsOf_20 : decode cX7_holdsOf 20 = .ok (.aload_n 0, 1) := by decide +kernel
theorem dX7_holdsOf_21 : decode cX7_holdsOf 21 = .ok (.iload_n 1, 1) := by decide +kernel
theorem dX7_holdsOf_22 : decode cX7_holdsOf 22 = .ok (.invokevirtual 77, 3) := by decide +kernel
theorem dX7_holdsOf_25 : decode cX7_holdsOf 25 = .ok (.iconst 4, 1) := by decide +kernel
theorem dX7_holdsOf_26 : decode cX7_holdsOf 26 = .ok (.if_icmp .ne 11, 3) := by decide +kernel
theorem dX7_holdsOf_29 : decode cX7_holdsOf 29 = .ok (.aload_n 0, 1) := by decide +kernel
theorem dX7_holdsOf_30 : decode cX7_holdsOf 30 = .ok (.iload_n 1, 1) := by decide +kernel
theorem dX7_holdsOf_31 : decode cX7_holdsOf 31 = .ok (.invokevirtual 278, 3) := by decide +kernel
theorem dX7_holdsOf_34 : decode cX7_holdsOf 34 = .ok (.goto 26, 3) := by decide +kernel
theorem dX7_holdsOf_37 : decode cX7_holdsOf 37 = .ok (.aload_n 0, 1) := by decide +kernel
theorem dX7_holdsOf_38 : decode cX7_holdsOf 38 = .ok (.iload_n 1, 1) := by decide +kernel
theorem dX7_holdsOf_39 : decode cX7_holdsOf 39 = .ok (.invokevirtual 77, 3) := by decide +kernel
theorem dX7_holdsOf_42 : decode cX7_holdsOf 42 = .ok (.iconst 5, 1) := by decide +kernel
theorem dX7_holdsOf_43 : decode cX7_holdsOf 43 = .ok (.if_icmp .ne 11, 3) := by decide +kernel
theorem dX7_holdsOf_46 : decode cX7_holdsOf 46 = .ok (.aload_n 0, 1) := by decide +kernel
theorem dX7_holdsOf_47 : decode cX7_holdsOf 47 = .ok (.iload_n 1, 1) := by decide +kernel
theorem dX7_holdsOf_48 : decode cX7_holdsOf 48 = .ok (.invokevirtual 114, 3) := by decide +kernel
theorem dX7_holdsOf_51 : decode cX7_holdsOf 51 = .ok (.goto 9, 3) := by decide +kernel
theorem dX7_holdsOf_54 : decode cX7_holdsOf 54 = .ok (.aload_n 0, 1) := by decide +kernel
theorem dX7_holdsOf_55 : decode cX7_holdsOf 55 = .ok (.iload_n 1, 1) := by decide +kernel
theorem dX7_holdsOf_56 : decode cX7_holdsOf 56 = .ok (.iconst 1, 1) := by decide +kernel
theorem dX7_holdsOf_57 : decode cX7_holdsOf 57 = .ok (.invokevirtual 66, 3) := by decide +kernel
theorem dX7_holdsOf_60 : decode cX7_holdsOf 60 = .ok (.ireturn, 1) := by decide +kernel
theorem dX7_interestsIn_0 : decode cX7_interestsIn 0 = .ok (.iconst 0, 1) := by decide +kernel
theorem dX7_interestsIn_1 : decode cX7_interestsIn 1 = .ok (.istore_n 2, 1) := by decide +kernel
theorem dX7_interestsIn_2 : decode cX7_interestsIn 2 = .ok (.iconst 0, 1) := by decide +kernel
theorem dX7_interestsIn_3 : decode cX7_interestsIn 3 = .ok (.istore_n 3, 1) := by decide +kernel
theorem dX7_interestsIn_4 : decode cX7_interestsIn 4 = .ok (.iload_n 3, 1) := by decide +kernel
theorem dX7_interestsIn_5 : decode cX7_interestsIn 5 = .ok (.bipush 24, 2) := by decide +kernel
theorem dX7_interestsIn_7 : decode cX7_interestsIn 7 = .ok (.if_icmp .ge 35, 3) := by decide +kernel
theorem dX7_interestsIn_10 : decode cX7_interestsIn 10 = .ok (.iload_n 2, 1) := by decide +kernel
theorem dX7_interestsIn_11 : decode cX7_interestsIn 11 = .ok (.aload_n 0, 1) := by decide +kernel
theorem dX7_interestsIn_12 : decode cX7_interestsIn 12 = .ok (.iload_n 3, 1) := by decide +kernel
theorem dX7_interestsIn_13 : decode cX7_interestsIn 13 = .ok (.invokevirtual 149, 3) := by decide +kernel
theorem dX7_interestsIn_16 : decode cX7_interestsIn 16 = .ok (.ifCond .eq 17, 3) := by decide +kernel
theorem dX7_interestsIn_19 : decode cX7_interestsIn 19 = .ok (.aload_n 0, 1) := by decide +kernel
theorem dX7_interestsIn_20 : decode cX7_interestsIn 20 = .ok (.iload_n 3, 1) := by decide +kernel
theorem dX7_interestsIn_21 : decode cX7_interestsIn 21 = .ok (.iconst 1, 1) := by decide +kernel
theorem dX7_interestsIn_22 : decode cX7_interestsIn 22 = .ok (.invokevirtual 81, 3) := by decide +kernel
theorem dX7_interestsIn_25 : decode cX7_interestsIn 25 = .ok (.iload_n 1, 1) := by decide +kernel
theorem dX7_interestsIn_26 : decode cX7_interestsIn 26 = .ok (.if_icmp .ne 7, 3) := by decide +kernel
theorem dX7_interestsIn_29 : decode cX7_interestsIn 29 = .ok (.iconst 1, 1) := by decide +kernel
theorem dX7_interestsIn_30 : decode cX7_interestsIn 30 = .ok (.goto 4, 3) := by decide +kernel
theorem dX7_interestsIn_33 : decode cX7_interestsIn 33 = .ok (.iconst 0, 1) := by decide +kernel
theorem dX7_interestsIn_34 : decode cX7_interestsIn 34 = .ok (.iadd, 1) := by decide +kernel
theorem dX7_interestsIn_35 : decode cX7_interestsIn 35 = .ok (.istore_n 2, 1) := by decide +kernel
theorem dX7_interestsIn_36 : decode cX7_interestsIn 36 = .ok (.iinc 3 1, 3) := by decide +kernel
theorem dX7_interestsIn_39 : decode cX7_interestsIn 39 = .ok (.goto (-35), 3) := by decide +kernel
theorem dX7_interestsIn_42 : decode cX7_interestsIn 42 = .ok (.iload_n 2, 1) := by decide +kernel
theorem dX7_interestsIn_43 : decode cX7_interestsIn 43 = .ok (.ireturn, 1) := by decide +kernel
theorem dX7_fifthOf_0 : decode cX7_fifthOf 0 = .ok (.aload_n 0, 1) := by decide +kernel
theorem dX7_fifthOf_1 : decode cX7_fifthOf 1 = .ok (.iload_n 1, 1) := by decide +kernel
theorem dX7_fifthOf_2 : decode cX7_fifthOf 2 = .ok (.invokevirtual 220, 3) := by decide +kernel
theorem dX7_fifthOf_5 : decode cX7_fifthOf 5 = .ok (.ifCond .eq 15, 3) := by decide +kernel
theorem dX7_fifthOf_8 : decode cX7_fifthOf 8 = .ok (.aload_n 0, 1) := by decide +kernel
theorem dX7_fifthOf_9 : decode cX7_fifthOf 9 = .ok (.aload_n 0, 1) := by decide +kernel
theorem dX7_fifthOf_10 : decode cX7_fifthOf 10 = .ok (.iload_n 1, 1) := by decide +kernel
theorem dX7_fifthOf_11 : decode cX7_fifthOf 11 = .ok (.iconst 1, 1) := by decide +kernel
theorem dX7_fifthOf_12 : decode cX7_fifthOf 12 = .ok (.invokevirtual 66, 3) := by decide +kernel
theorem dX7_fifthOf_15 : decode cX7_fifthOf 15 = .ok (.iconst 0, 1) := by decide +kernel
theorem dX7_fifthOf_16 : decode cX7_fifthOf 16 = .ok (.invokevirtual 91, 3) := by decide +kernel
theorem dX7_fifthOf_19 : decode cX7_fifthOf 19 = .ok (.ireturn, 1) := by decide +kernel
theorem dX7_fifthOf_20 : decode cX7_fifthOf 20 = .ok (.aload_n 0, 1) := by decide +kernel
theorem dX7_fifthOf_21 : decode cX7_fifthOf 21 = .ok (.iload_n 1, 1) := by decide +kernel
theorem dX7_fifthOf_22 : decode cX7_fifthOf 22 = .ok (.invokevirtual 77, 3) := by decide +kernel
theorem dX7_fifthOf_25 : decode cX7_fifthOf 25 = .ok (.iconst 4, 1) := by decide +kernel
theorem dX7_fifthOf_26 : decode cX7_fifthOf 26 = .ok (.if_icmp .ne 11, 3) := by decide +kernel
theorem dX7_fifthOf_29 : decode cX7_fifthOf 29 = .ok (.aload_n 0, 1) := by decide +kernel
theorem dX7_fifthOf_30 : decode cX7_fifthOf 30 = .ok (.iload_n 1, 1) := by decide +kernel
theorem dX7_fifthOf_31 : decode cX7_fifthOf 31 = .ok (.invokevirtual 307, 3) := by decide +kernel
theorem dX7_fifthOf_34 : decode cX7_fifthOf 34 = .ok (.goto 9, 3) := by decide +kernel
theorem dX7_fifthOf_37 : decode cX7_fifthOf 37 = .ok (.aload_n 0, 1) := by decide +kernel
theorem dX7_fifthOf_38 : decode cX7_fifthOf 38 = .ok (.iload_n 1, 1) := by decide +kernel
theorem dX7_fifthOf_39 : decode cX7_fifthOf 39 = .ok (.iconst 2, 1) := by decide +kernel
theorem dX7_fifthOf_40 : decode cX7_fifthOf 40 = .ok (.invokevirtual 66, 3) := by decide +kernel
theorem dX7_fifthOf_43 : decode cX7_fifthOf 43 = .ok (.ireturn, 1) := by decide +kernel
theorem dX7_sleepersAt_0 : decode cX7_sleepersAt 0 = .ok (.iconst 0, 1) := by decide +kernel
theorem dX7_sleepersAt_1 : decode cX7_sleepersAt 1 = .ok (.istore_n 2, 1) := by decide +kernel
theorem dX7_sleepersAt_2 : decode cX7_sleepersAt 2 = .ok (.iconst 0, 1) := by decide +kernel
theorem dX7_sleepersAt_3 : decode cX7_sleepersAt 3 = .ok (.istore_n 3, 1) := by decide +kernel
theorem dX7_sleepersAt_4 : decode cX7_sleepersAt 4 = .ok (.iload_n 3, 1) := by decide +kernel
theorem dX7_sleepersAt_5 : decode cX7_sleepersAt 5 = .ok (.bipush 6, 2) := by decide +kernel
theorem dX7_sleepersAt_7 : decode cX7_sleepersAt 7 = .ok (.if_icmp .ge 27, 3) := by decide +kernel
theorem dX7_sleepersAt_10 : decode cX7_sleepersAt 10 = .ok (.iload_n 2, 1) := by decide +kernel
theorem dX7_sleepersAt_11 : decode cX7_sleepersAt 11 = .ok (.aload_n 0, 1) := by decide +kernel
theorem dX7_sleepersAt_12 : decode cX7_sleepersAt 12 = .ok (.iload_n 3, 1) := by decide +kernel
theorem dX7_sleepersAt_13 : decode cX7_sleepersAt 13 = .ok (.iconst 0, 1) := by decide +kernel
theorem dX7_sleepersAt_14 : decode cX7_sleepersAt 14 = .ok (.invokevirtual 84, 3) := by decide +kernel
theorem dX7_sleepersAt_17 : decode cX7_sleepersAt 17 = .ok (.iload_n 1, 1) := by decide +kernel
theorem dX7_sleepersAt_18 : decode cX7_sleepersAt 18 = .ok (.if_icmp .ne 7, 3) := by decide +kernel
theorem dX7_sleepersAt_21 : decode cX7_sleepersAt 21 = .ok (.iconst 1, 1) := by decide +kernel
theorem dX7_sleepersAt_22 : decode cX7_sleepersAt 22 = .ok (.goto 4, 3) := by decide +kernel
theorem dX7_sleepersAt_25 : decode cX7_sleepersAt 25 = .ok (.iconst 0, 1) := by decide +kernel
theorem dX7_sleepersAt_26 : decode cX7_sleepersAt 26 = .ok (.iadd, 1) := by decide +kernel
theorem dX7_sleepersAt_27 : decode cX7_sleepersAt 27 = .ok (.istore_n 2, 1) := by decide +kernel
theorem dX7_sleepersAt_28 : decode cX7_sleepersAt 28 = .ok (.iinc 3 1, 3) := by decide +kernel
theorem dX7_sleepersAt_31 : decode cX7_sleepersAt 31 = .ok (.goto (-27), 3) := by decide +kernel
theorem dX7_sleepersAt_34 : decode cX7_sleepersAt 34 = .ok (.iload_n 2, 1) := by decide +kernel
theorem dX7_sleepersAt_35 : decode cX7_sleepersAt 35 = .ok (.ireturn, 1) := by decide +kernel
theorem dX7_other_0 : decode cX7_other 0 = .ok (.aload_n 0, 1) := by decide +kernel
theorem dX7_other_1 : decode cX7_other 1 = .ok (.iload_n 1, 1) := by decide +kernel
theorem dX7_other_2 : decode cX7_other 2 = .ok (.invokevirtual 73, 3) := by decide +kernel
theorem dX7_other_5 : decode cX7_other 5 = .ok (.ifCond .eq 33, 3) := by decide +kernel
theorem dX7_other_8 : decode cX7_other 8 = .ok (.aload_n 0, 1) := by decide +kernel
theorem dX7_other_9 : decode cX7_other 9 = .ok (.aload_n 0, 1) := by decide +kernel
theorem dX7_other_10 : decode cX7_other 10 = .ok (.getfield 7, 3) := by decide +kernel
theorem dX7_other_13 : decode cX7_other 13 = .ok (.iload_n 1, 1) := by decide +kernel
theorem dX7_other_14 : decode cX7_other 14 = .ok (.iaload, 1) := by decide +kernel
theorem dX7_other_15 : decode cX7_other 15 = .ok (.invokevirtual 220, 3) := by decide +kernel
theorem dX7_other_18 : decode cX7_other 18 = .ok (.ifCond .eq 20, 3) := by decide +kernel
theorem dX7_other_21 : decode cX7_other 21 = .ok (.aload_n 0, 1) := by decide +kernel
theorem dX7_other_22 : decode cX7_other 22 = .ok (.aload_n 0, 1) := by decide +kernel
theorem dX7_other_23 : decode cX7_other 23 = .ok (.aload_n 0, 1) := by decide +kernel
theorem dX7_other_24 : decode cX7_other 24 = .ok (.getfield 7, 3) := by decide +kernel
theorem dX7_other_27 : decode cX7_other 27 = .ok (.iload_n 1, 1) := by decide +kernel
theorem dX7_other_28 : decode cX7_other 28 = .ok (.iaload, 1) := by decide +kernel
theorem dX7_other_29 : decode cX7_other 29 = .ok (.invokevirtual 134, 3) := by decide +kernel
theorem dX7_other_32 : decode cX7_other 32 = .ok (.invokevirtual 199, 3) := by decide +kernel
theorem dX7_other_35 : decode cX7_other 35 = .ok (.goto 4, 3) := by decide +kernel
theorem dX7_other_38 : decode cX7_other 38 = .ok (.iconst (-1), 1) := by decide +kernel
theorem dX7_other_39 : decode cX7_other 39 = .ok (.ireturn, 1) := by decide +kernel
theorem dX7_interest_0 : decode cX7_interest 0 = .ok (.aload_n 0, 1) := by decide +kernel
theorem dX7_interest_1 : decode cX7_interest 1 = .ok (.iload_n 1, 1) := by decide +kernel
theorem dX7_interest_2 : decode cX7_interest 2 = .ok (.iconst 4, 1) := by decide +kernel
theorem dX7_interest_3 : decode cX7_interest 3 = .ok (.invokevirtual 110, 3) := by decide +kernel
theorem dX7_interest_6 : decode cX7_interest 6 = .ok (.ifCond .eq 23, 3) := by decide +kernel
theorem dX7_interest_9 : decode cX7_interest 9 = .ok (.iload_n 2, 1) := by decide +kernel
theorem dX7_interest_10 : decode cX7_interest 10 = .ok (.iconst 0, 1) := by decide +kernel
theorem dX7_interest_11 : decode cX7_interest 11 = .ok (.aload_n 0, 1) := by decide +kernel
theorem dX7_interest_12 : decode cX7_interest 12 = .ok (.aload_n 0, 1) := by decide +kernel
theorem dX7_interest_13 : decode cX7_interest 13 = .ok (.getfield 7, 3) := by decide +kernel
theorem dX7_interest_16 : decode cX7_interest 16 = .ok (.iload_n 1, 1) := by decide +kernel
theorem dX7_interest_17 : decode cX7_interest 17 = .ok (.iaload, 1) := by decide +kernel
theorem dX7_interest_18 : decode cX7_interest 18 = .ok (.invokevirtual 278, 3) := by decide +kernel
theorem dX7_interest_21 : decode cX7_interest 21 = .ok (.iconst 1, 1) := by decide +kernel
theorem dX7_interest_22 : decode cX7_interest 22 = .ok (.isub, 1) := by decide +kernel
theorem dX7_interest_23 : decode cX7_interest 23 = .ok (.invokestatic 69, 3) := by decide +kernel
theorem dX7_interest_26 : decode cX7_interest 26 = .ok (.ifCond .ne 5, 3) := by decide +kernel
theorem dX7_interest_29 : decode cX7_interest 29 = .ok (.iconst (-1), 1) := by decide +kernel
theorem dX7_interest_30 : decode cX7_interest 30 = .ok (.ireturn, 1) := by decide +kernel
theorem dX7_interest_31 : decode cX7_interest 31 = .ok (.aload_n 0, 1) := by decide +kernel
theorem dX7_interest_32 : decode cX7_interest 32 = .ok (.aload_n 0, 1) := by decide +kernel
theorem dX7_interest_33 : decode cX7_interest 33 = .ok (.getfield 7, 3) := by decide +kernel
theorem dX7_interest_36 : decode cX7_interest 36 = .ok (.iload_n 1, 1) := by decide +kernel
theorem dX7_interest_37 : decode cX7_interest 37 = .ok (.iaload, 1) := by decide +kernel
theorem dX7_interest_38 : decode cX7_interest 38 = .ok (.iconst 1, 1) := by decide +kernel
theorem dX7_interest_39 : decode cX7_interest 39 = .ok (.iconst 0, 1) := by decide +kernel
theorem dX7_interest_40 : decode cX7_interest 40 = .ok (.invokevirtual 192, 3) := by decide +kernel
theorem dX7_interest_43 : decode cX7_interest 43 = .ok (.istore 4, 2) := by decide +kernel
theorem dX7_interest_45 : decode cX7_interest 45 = .ok (.iconst 0, 1) := by decide +kernel
theorem dX7_interest_46 : decode cX7_interest 46 = .ok (.istore 5, 2) := by decide +kernel
theorem dX7_interest_48 : decode cX7_interest 48 = .ok (.iload 5, 2) := by decide +kernel
theorem dX7_interest_50 : decode cX7_interest 50 = .ok (.iload_n 2, 1) := by decide +kernel
theorem dX7_interest_51 : decode cX7_interest 51 = .ok (.if_icmp .ge 30, 3) := by decide +kernel
theorem dX7_interest_54 : decode cX7_interest 54 = .ok (.aload_n 0, 1) := by decide +kernel
theorem dX7_interest_55 : decode cX7_interest 55 = .ok (.aload_n 0, 1) := by decide +kernel
theorem dX7_interest_56 : decode cX7_interest 56 = .ok (.getfield 7, 3) := by decide +kernel
theorem dX7_interest_59 : decode cX7_interest 59 = .ok (.iload_n 1, 1) := by decide +kernel
theorem dX7_interest_60 : decode cX7_interest 60 = .ok (.iaload, 1) := by decide +kernel
theorem dX7_interest_61 : decode cX7_interest 61 = .ok (.iconst 1, 1) := by decide +kernel
theorem dX7_interest_62 : decode cX7_interest 62 = .ok (.aload_n 0, 1) := by decide +kernel
theorem dX7_interest_63 : decode cX7_interest 63 = .ok (.iload 4, 2) := by decide +kernel
theorem dX7_interest_65 : decode cX7_interest 65 = .ok (.bipush 6, 2) := by decide +kernel
theorem dX7_interest_67 : decode cX7_interest 67 = .ok (.invokevirtual 81, 3) := by decide +kernel
theorem dX7_interest_70 : decode cX7_interest 70 = .ok (.invokevirtual 192, 3) := by decide +kernel
theorem dX7_interest_73 : decode cX7_interest 73 = .ok (.istore 4, 2) := by decide +kernel
theorem dX7_interest_75 : decode cX7_interest 75 = .ok (.iinc 5 1, 3) := by decide +kernel
theorem dX7_interest_78 : decode cX7_interest 78 = .ok (.goto (-30), 3) := by decide +kernel
theorem dX7_interest_81 : decode cX7_interest 81 = .ok (.iload_n 3, 1) := by decide +kernel
theorem dX7_interest_82 : decode cX7_interest 82 = .ok (.tableswitch 182 0 9 #[54, 62, 70, 78, 86, 93, 112, 140, 149, 158], 54) := by decide +kernel
theorem dX7_interest_136 : decode cX7_interest 136 = .ok (.aload_n 0, 1) := by decide +kernel
theorem dX7_interest_137 : decode cX7_interest 137 = .ok (.iload 4, 2) := by decide +kernel
theorem dX7_interest_139 : decode cX7_interest 139 = .ok (.iconst 2, 1) := by decide +kernel
theorem dX7_interest_140 : decode cX7_interest 140 = .ok (.invokevirtual 81, 3) := by decide +kernel
theorem dX7_interest_143 : decode cX7_interest 143 = .ok (.ireturn, 1) := by decide +kernel
theorem dX7_interest_144 : decode cX7_interest 144 = .ok (.aload_n 0, 1) := by decide +kernel
theorem dX7_interest_145 : decode cX7_interest 145 = .ok (.iload 4, 2) := by decide +kernel
theorem dX7_interest_147 : decode cX7_interest 147 = .ok (.iconst 3, 1) := by decide +kernel
theorem dX7_interest_148 : decode cX7_interest 148 = .ok (.invokevirtual 81, 3) := by decide +kernel
theorem dX7_interest_151 : decode cX7_interest 151 = .ok (.ireturn, 1) := by decide +kernel
theorem dX7_interest_152 : decode cX7_interest 152 = .ok (.aload_n 0, 1) := by decide +kernel
theorem dX7_interest_153 : decode cX7_interest 153 = .ok (.iload 4, 2) := by decide +kernel
theorem dX7_interest_155 : decode cX7_interest 155 = .ok (.iconst 4, 1) := by decide +kernel
theorem dX7_interest_156 : decode cX7_interest 156 = .ok (.invokevirtual 81, 3) := by decide +kernel
theorem dX7_interest_159 : decode cX7_interest 159 = .ok (.ireturn, 1) := by decide +kernel
theorem dX7_interest_160 : decode cX7_interest 160 = .ok (.aload_n 0, 1) := by decide +kernel
theorem dX7_interest_161 : decode cX7_interest 161 = .ok (.iload 4, 2) := by decide +kernel
theorem dX7_interest_163 : decode cX7_interest 163 = .ok (.iconst 5, 1) := by decide +kernel
theorem dX7_interest_164 : decode cX7_interest 164 = .ok (.invokevirtual 81, 3) := by decide +kernel
theorem dX7_interest_167 : decode cX7_interest 167 = .ok (.ireturn, 1) := by decide +kernel
theorem dX7_interest_168 : decode cX7_interest 168 = .ok (.aload_n 0, 1) := by decide +kernel
theorem dX7_interest_169 : decode cX7_interest 169 = .ok (.iload 4, 2) := by decide +kernel
theorem dX7_interest_171 : decode cX7_interest 171 = .ok (.invokevirtual 310, 3) := by decide +kernel
theorem dX7_interest_174 : decode cX7_interest 174 = .ok (.ireturn, 1) := by decide +kernel
theorem dX7_interest_175 : decode cX7_interest 175 = .ok (.aload_n 0, 1) := by decide +kernel
theorem dX7_interest_176 : decode cX7_interest 176 = .ok (.invokevirtual 156, 3) := by decide +kernel
theorem dX7_interest_179 : decode cX7_interest 179 = .ok (.aload_n 0, 1) := by decide +kernel
theorem dX7_interest_180 : decode cX7_interest 180 = .ok (.iload 4, 2) := by decide +kernel
theorem dX7_interest_182 : decode cX7_interest 182 = .ok (.invokevirtual 140, 3) := by decide +kernel
theorem dX7_interest_185 : decode cX7_interest 185 = .ok (.ifCond .eq 7, 3) := by decide +kernel
theorem dX7_interest_188 : decode cX7_interest 188 = .ok (.iconst 1, 1) := by decide +kernel
theorem dX7_interest_189 : decode cX7_interest 189 = .ok (.goto 4, 3) := by decide +kernel
theorem dX7_interest_192 : decode cX7_interest 192 = .ok (.iconst 0, 1) := by decide +kernel
theorem dX7_interest_193 : decode cX7_interest 193 = .ok (.ireturn, 1) := by decide +kernel
theorem dX7_interest_194 : decode cX7_interest 194 = .ok (.aload_n 0, 1) := by decide +kernel
theorem dX7_interest_195 : decode cX7_interest 195 = .ok (.getfield 7, 3) := by decide +kernel
theorem dX7_interest_198 : decode cX7_interest 198 = .ok (.aload_n 0, 1) := by decide +kernel
theorem dX7_interest_199 : decode cX7_interest 199 = .ok (.iload 4, 2) := by decide +kernel
theorem dX7_interest_201 : decode cX7_interest 201 = .ok (.iconst 2, 1) := by decide +kernel
theorem dX7_interest_202 : decode cX7_interest 202 = .ok (.invokevirtual 81, 3) := by decide +kernel
theorem dX7_interest_205 : decode cX7_interest 205 = .ok (.iaload, 1) := by decide +kernel
theorem dX7_interest_206 : decode cX7_interest 206 = .ok (.aload_n 0, 1) := by decide +kernel
theorem dX7_interest_207 : decode cX7_interest 207 = .ok (.iload 4, 2) := by decide +kernel
theorem dX7_interest_209 : decode cX7_interest 209 = .ok (.iconst 1, 1) := by decide +kernel
theorem dX7_interest_210 : decode cX7_interest 210 = .ok (.invokevirtual 81, 3) := by decide +kernel
theorem dX7_interest_213 : decode cX7_interest 213 = .ok (.if_icmp .ne 7, 3) := by decide +kernel
theorem dX7_interest_216 : decode cX7_interest 216 = .ok (.iconst 1, 1) := by decide +kernel
theorem dX7_interest_217 : decode cX7_interest 217 = .ok (.goto 4, 3) := by decide +kernel
theorem dX7_interest_220 : decode cX7_interest 220 = .ok (.iconst 0, 1) := by decide +kernel
theorem dX7_interest_221 : decode cX7_interest 221 = .ok (.ireturn, 1) := by decide +kernel
theorem dX7_interest_222 : decode cX7_interest 222 = .ok (.aload_n 0, 1) := by decide +kernel
theorem dX7_interest_223 : decode cX7_interest 223 = .ok (.iload 4, 2) := by decide +kernel
theorem dX7_interest_225 : decode cX7_interest 225 = .ok (.bipush 8, 2) := by decide +kernel
theorem dX7_interest_227 : decode cX7_interest 227 = .ok (.invokevirtual 81, 3) := by decide +kernel
theorem dX7_interest_230 : decode cX7_interest 230 = .ok (.ireturn, 1) := by decide +kernel
theorem dX7_interest_231 : decode cX7_interest 231 = .ok (.aload_n 0, 1) := by decide +kernel
theorem dX7_interest_232 : decode cX7_interest 232 = .ok (.iload 4, 2) := by decide +kernel
theorem dX7_interest_234 : decode cX7_interest 234 = .ok (.bipush 9, 2) := by decide +kernel
theorem dX7_interest_236 : decode cX7_interest 236 = .ok (.invokevirtual 81, 3) := by decide +kernel
theorem dX7_interest_239 : decode cX7_interest 239 = .ok (.ireturn, 1) := by decide +kernel
theorem dX7_interest_240 : decode cX7_interest 240 = .ok (.aload_n 0, 1) := by decide +kernel
theorem dX7_interest_241 : decode cX7_interest 241 = .ok (.iload 4, 2) := by decide +kernel
theorem dX7_interest_243 : decode cX7_interest 243 = .ok (.bipush 7, 2) := by decide +kernel
theorem dX7_interest_245 : decode cX7_interest 245 = .ok (.invokevirtual 81, 3) := by decide +kernel
theorem dX7_interest_248 : decode cX7_interest 248 = .ok (.ifCond .le 14, 3) := by decide +kernel
theorem dX7_interest_251 : decode cX7_interest 251 = .ok (.aload_n 0, 1) := by decide +kernel
theorem dX7_interest_252 : decode cX7_interest 252 = .ok (.iload 4, 2) := by decide +kernel
theorem dX7_interest_254 : decode cX7_interest 254 = .ok (.bipush 10, 2) := by decide +kernel
theorem dX7_interest_256 : decode cX7_interest 256 = .ok (.invokevirtual 81, 3) := by decide +kernel
theorem dX7_interest_259 : decode cX7_interest 259 = .ok (.goto 4, 3) := by decide +kernel
theorem dX7_interest_262 : decode cX7_interest 262 = .ok (.iconst 0, 1) := by decide +kernel
theorem dX7_interest_263 : decode cX7_interest 263 = .ok (.ireturn, 1) := by decide +kernel
theorem dX7_interest_264 : decode cX7_interest 264 = .ok (.iconst (-1), 1) := by decide +kernel
theorem dX7_interest_265 : decode cX7_interest 265 = .ok (.ireturn, 1) := by decide +kernel
theorem dX7_placeOf_0 : decode cX7_placeOf 0 = .ok (.aload_n 0, 1) := by decide +kernel
theorem dX7_placeOf_1 : decode cX7_placeOf 1 = .ok (.iload_n 1, 1) := by decide +kernel
theorem dX7_placeOf_2 : decode cX7_placeOf 2 = .ok (.bipush 7, 2) := by decide +kernel
theorem dX7_placeOf_4 : decode cX7_placeOf 4 = .ok (.invokevirtual 81, 3) := by decide +kernel
theorem dX7_placeOf_7 : decode cX7_placeOf 7 = .ok (.ifCond .ne 5, 3) := by decide +kernel
theorem dX7_placeOf_10 : decode cX7_placeOf 10 = .ok (.iconst (-1), 1) := by decide +kernel
theorem dX7_placeOf_11 : decode cX7_placeOf 11 = .ok (.ireturn, 1) := by decide +kernel
theorem dX7_placeOf_12 : decode cX7_placeOf 12 = .ok (.iconst 0, 1) := by decide +kernel
theorem dX7_placeOf_13 : decode cX7_placeOf 13 = .ok (.istore_n 2, 1) := by decide +kernel
theorem dX7_placeOf_14 : decode cX7_placeOf 14 = .ok (.iconst 0, 1) := by decide +kernel
theorem dX7_placeOf_15 : decode cX7_placeOf 15 = .ok (.istore_n 3, 1) := by decide +kernel
theorem dX7_placeOf_16 : decode cX7_placeOf 16 = .ok (.iload_n 3, 1) := by decide +kernel
theorem dX7_placeOf_17 : decode cX7_placeOf 17 = .ok (.bipush 24, 2) := by decide +kernel
theorem dX7_placeOf_19 : decode cX7_placeOf 19 = .ok (.if_icmp .ge 54, 3) := by decide +kernel
theorem dX7_placeOf_22 : decode cX7_placeOf 22 = .ok (.aload_n 0, 1) := by decide +kernel
theorem dX7_placeOf_23 : decode cX7_placeOf 23 = .ok (.iload_n 3, 1) := by decide +kernel
theorem dX7_placeOf_24 : decode cX7_placeOf 24 = .ok (.iconst 0, 1) := by decide +kernel
theorem dX7_placeOf_25 : decode cX7_placeOf 25 = .ok (.invokevirtual 81, 3) := by decide +kernel
theorem dX7_placeOf_28 : decode cX7_placeOf 28 = .ok (.aload_n 0, 1) := by decide +kernel
theorem dX7_placeOf_29 : decode cX7_placeOf 29 = .ok (.iload_n 1, 1) := by decide +kernel
theorem dX7_placeOf_30 : decode cX7_placeOf 30 = .ok (.iconst 0, 1) := by decide +kernel
theorem dX7_placeOf_31 : decode cX7_placeOf 31 = .ok (.invokevirtual 81, 3) := by decide +kernel
theorem dX7_placeOf_34 : decode cX7_placeOf 34 = .ok (.if_icmp .ne 33, 3) := by decide +kernel
theorem dX7_placeOf_37 : decode cX7_placeOf 37 = .ok (.aload_n 0, 1) := by decide +kernel
theorem dX7_placeOf_38 : decode cX7_placeOf 38 = .ok (.iload_n 3, 1) := by decide +kernel
theorem dX7_placeOf_39 : decode cX7_placeOf 39 = .ok (.bipush 7, 2) := by decide +kernel
theorem dX7_placeOf_41 : decode cX7_placeOf 41 = .ok (.invokevirtual 81, 3) := by decide +kernel
theorem dX7_placeOf_44 : decode cX7_placeOf 44 = .ok (.ifCond .le 23, 3) := by decide +kernel
theorem dX7_placeOf_47 : decode cX7_placeOf 47 = .ok (.aload_n 0, 1) := by decide +kernel
theorem dX7_placeOf_48 : decode cX7_placeOf 48 = .ok (.iload_n 3, 1) := by decide +kernel
theorem dX7_placeOf_49 : decode cX7_placeOf 49 = .ok (.bipush 7, 2) := by decide +kernel
theorem dX7_placeOf_51 : decode cX7_placeOf 51 = .ok (.invokevirtual 81, 3) := by decide +kernel
theorem dX7_placeOf_54 : decode cX7_placeOf 54 = .ok (.aload_n 0, 1) := by decide +kernel
theorem dX7_placeOf_55 : decode cX7_placeOf 55 = .ok (.iload_n 1, 1) := by decide +kernel
theorem dX7_placeOf_56 : decode cX7_placeOf 56 = .ok (.bipush 7, 2) := by decide +kernel
theorem dX7_placeOf_58 : decode cX7_placeOf 58 = .ok (.invokevirtual 81, 3) := by decide +kernel
theorem dX7_placeOf_61 : decode cX7_placeOf 61 = .ok (.if_icmp .ge 6, 3) := by decide +kernel
theorem dX7_placeOf_64 : decode cX7_placeOf 64 = .ok (.iinc 2 1, 3) := by decide +kernel
theorem dX7_placeOf_67 : decode cX7_placeOf 67 = .ok (.iinc 3 1, 3) := by decide +kernel
theorem dX7_placeOf_70 : decode cX7_placeOf 70 = .ok (.goto (-54), 3) := by decide +kernel
theorem dX7_placeOf_73 : decode cX7_placeOf 73 = .ok (.iload_n 2, 1) := by decide +kernel
theorem dX7_placeOf_74 : decode cX7_placeOf 74 = .ok (.ireturn, 1) := by decide +kernel
theorem dX7_listed_0 : decode cX7_listed 0 = .ok (.aload_n 0, 1) := by decide +kernel
theorem dX7_listed_1 : decode cX7_listed 1 = .ok (.iload_n 1, 1) := by decide +kernel
theorem dX7_listed_2 : decode cX7_listed 2 = .ok (.iconst 4, 1) := by decide +kernel
theorem dX7_listed_3 : decode cX7_listed 3 = .ok (.invokevirtual 110, 3) := by decide +kernel
theorem dX7_listed_6 : decode cX7_listed 6 = .ok (.ifCond .ne 5, 3) := by decide +kernel
theorem dX7_listed_9 : decode cX7_listed 9 = .ok (.iconst (-1), 1) := by decide +kernel
theorem dX7_listed_10 : decode cX7_listed 10 = .ok (.ireturn, 1) := by decide +kernel
theorem dX7_listed_11 : decode cX7_listed 11 = .ok (.iconst 0, 1) := by decide +kernel
theorem dX7_listed_12 : decode cX7_listed 12 = .ok (.istore_n 2, 1) := by decide +kernel
theorem dX7_listed_13 : decode cX7_listed 13 = .ok (.iconst 0, 1) := by decide +kernel
theorem dX7_listed_14 : decode cX7_listed 14 = .ok (.istore_n 3, 1) := by decide +kernel
theorem dX7_listed_15 : decode cX7_listed 15 = .ok (.iload_n 3, 1) := by decide +kernel
theorem dX7_listed_16 : decode cX7_listed 16 = .ok (.bipush 24, 2) := by decide +kernel
theorem dX7_listed_18 : decode cX7_listed 18 = .ok (.if_icmp .ge 42, 3) := by decide +kernel
theorem dX7_listed_21 : decode cX7_listed 21 = .ok (.iload_n 2, 1) := by decide +kernel
theorem dX7_listed_22 : decode cX7_listed 22 = .ok (.aload_n 0, 1) := by decide +kernel
theorem dX7_listed_23 : decode cX7_listed 23 = .ok (.iload_n 3, 1) := by decide +kernel
theorem dX7_listed_24 : decode cX7_listed 24 = .ok (.iconst 0, 1) := by decide +kernel
theorem dX7_listed_25 : decode cX7_listed 25 = .ok (.invokevirtual 81, 3) := by decide +kernel
theorem dX7_listed_28 : decode cX7_listed 28 = .ok (.aload_n 0, 1) := by decide +kernel
theorem dX7_listed_29 : decode cX7_listed 29 = .ok (.getfield 7, 3) := by decide +kernel
theorem dX7_listed_32 : decode cX7_listed 32 = .ok (.iload_n 1, 1) := by decide +kernel
theorem dX7_listed_33 : decode cX7_listed 33 = .ok (.iaload, 1) := by decide +kernel
theorem dX7_listed_34 : decode cX7_listed 34 = .ok (.if_icmp .ne 17, 3) := by decide +kernel
theorem dX7_listed_37 : decode cX7_listed 37 = .ok (.aload_n 0, 1) := by decide +kernel
theorem dX7_listed_38 : decode cX7_listed 38 = .ok (.iload_n 3, 1) := by decide +kernel
theorem dX7_listed_39 : decode cX7_listed 39 = .ok (.bipush 7, 2) := by decide +kernel
theorem dX7_listed_41 : decode cX7_listed 41 = .ok (.invokevirtual 81, 3) := by decide +kernel
theorem dX7_listed_44 : decode cX7_listed 44 = .ok (.ifCond .le 7, 3) := by decide +kernel
theorem dX7_listed_47 : decode cX7_listed 47 = .ok (.iconst 1, 1) := by decide +kernel
theorem dX7_listed_48 : decode cX7_listed 48 = .ok (.goto 4, 3) := by decide +kernel
theorem dX7_listed_51 : decode cX7_listed 51 = .ok (.iconst 0, 1) := by decide +kernel
theorem dX7_listed_52 : decode cX7_listed 52 = .ok (.iadd, 1) := by decide +kernel
theorem dX7_listed_53 : decode cX7_listed 53 = .ok (.istore_n 2, 1) := by decide +kernel
theorem dX7_listed_54 : decode cX7_listed 54 = .ok (.iinc 3 1, 3) := by decide +kernel
theorem dX7_listed_57 : decode cX7_listed 57 = .ok (.goto (-42), 3) := by decide +kernel
theorem dX7_listed_60 : decode cX7_listed 60 = .ok (.iload_n 2, 1) := by decide +kernel
theorem dX7_listed_61 : decode cX7_listed 61 = .ok (.ireturn, 1) := by decide +kernel
theorem dX7_shows_0 : decode cX7_shows 0 = .ok (.aload_n 0, 1) := by decide +kernel
theorem dX7_shows_1 : decode cX7_shows 1 = .ok (.iload_n 1, 1) := by decide +kernel
theorem dX7_shows_2 : decode cX7_shows 2 = .ok (.iconst 4, 1) := by decide +kernel
theorem dX7_shows_3 : decode cX7_shows 3 = .ok (.invokevirtual 110, 3) := by decide +kernel
theorem dX7_shows_6 : decode cX7_shows 6 = .ok (.ifCond .ne 5, 3) := by decide +kernel
theorem dX7_shows_9 : decode cX7_shows 9 = .ok (.iconst (-1), 1) := by decide +kernel
theorem dX7_shows_10 : decode cX7_shows 10 = .ok (.ireturn, 1) := by decide +kernel
theorem dX7_shows_11 : decode cX7_shows 11 = .ok (.aload_n 0, 1) := by decide +kernel
theorem dX7_shows_12 : decode cX7_shows 12 = .ok (.invokevirtual 156, 3) := by decide +kernel
theorem dX7_shows_15 : decode cX7_shows 15 = .ok (.aload_n 0, 1) := by decide +kernel
theorem dX7_shows_16 : decode cX7_shows 16 = .ok (.aload_n 0, 1) := by decide +kernel
theorem dX7_shows_17 : decode cX7_shows 17 = .ok (.getfield 7, 3) := by decide +kernel
theorem dX7_shows_20 : decode cX7_shows 20 = .ok (.iload_n 1, 1) := by decide +kernel
theorem dX7_shows_21 : decode cX7_shows 21 = .ok (.iaload, 1) := by decide +kernel
theorem dX7_shows_22 : decode cX7_shows 22 = .ok (.invokevirtual 146, 3) := by decide +kernel
theorem dX7_shows_25 : decode cX7_shows 25 = .ok (.ireturn, 1) := by decide +kernel
theorem dX7_shown_0 : decode cX7_shown 0 = .ok (.aload_n 0, 1) := by decide +kernel
theorem dX7_shown_1 : decode cX7_shown 1 = .ok (.iload_n 1, 1) := by decide +kernel
theorem dX7_shown_2 : decode cX7_shown 2 = .ok (.iconst 4, 1) := by decide +kernel
theorem dX7_shown_3 : decode cX7_shown 3 = .ok (.invokevirtual 110, 3) := by decide +kernel
theorem dX7_shown_6 : decode cX7_shown 6 = .ok (.ifCond .eq 7, 3) := by decide +kernel
theorem dX7_shown_9 : decode cX7_shown 9 = .ok (.iload_n 2, 1) := by decide +kernel
theorem dX7_shown_10 : decode cX7_shown 10 = .ok (.ifCond .ge 5, 3) := by decide +kernel
theorem dX7_shown_13 : decode cX7_shown 13 = .ok (.iconst (-1), 1) := by decide +kernel
theorem dX7_shown_14 : decode cX7_shown 14 = .ok (.ireturn, 1) := by decide +kernel
theorem dX7_shown_15 : decode cX7_shown 15 = .ok (.aload_n 0, 1) := by decide +kernel
theorem dX7_shown_16 : decode cX7_shown 16 = .ok (.invokevirtual 156, 3) := by decide +kernel
theorem dX7_shown_19 : decode cX7_shown 19 = .ok (.iload_n 2, 1) := by decide +kernel
theorem dX7_shown_20 : decode cX7_shown 20 = .ok (.istore_n 3, 1) := by decide +kernel
theorem dX7_shown_21 : decode cX7_shown 21 = .ok (.aload_n 0, 1) := by decide +kernel
theorem dX7_shown_22 : decode cX7_shown 22 = .ok (.aload_n 0, 1) := by decide +kernel
theorem dX7_shown_23 : decode cX7_shown 23 = .ok (.getfield 7, 3) := by decide +kernel
theorem dX7_shown_26 : decode cX7_shown 26 = .ok (.iload_n 1, 1) := by decide +kernel
theorem dX7_shown_27 : decode cX7_shown 27 = .ok (.iaload, 1) := by decide +kernel
theorem dX7_shown_28 : decode cX7_shown 28 = .ok (.iconst 0, 1) := by decide +kernel
theorem dX7_shown_29 : decode cX7_shown 29 = .ok (.invokevirtual 159, 3) := by decide +kernel
theorem dX7_shown_32 : decode cX7_shown 32 = .ok (.istore 4, 2) := by decide +kernel
theorem dX7_shown_34 : decode cX7_shown 34 = .ok (.iload 4, 2) := by decide +kernel
theorem dX7_shown_36 : decode cX7_shown 36 = .ok (.ifCond .lt 53, 3) := by decide +kernel
theorem dX7_shown_39 : decode cX7_shown 39 = .ok (.aload_n 0, 1) := by decide +kernel
theorem dX7_shown_40 : decode cX7_shown 40 = .ok (.iload 4, 2) := by decide +kernel
theorem dX7_shown_42 : decode cX7_shown 42 = .ok (.invokevirtual 140, 3) := by decide +kernel
theorem dX7_shown_45 : decode cX7_shown 45 = .ok (.ifCond .ne 6, 3) := by decide +kernel
theorem dX7_shown_48 : decode cX7_shown 48 = .ok (.goto 18, 3) := by decide +kernel
theorem dX7_shown_51 : decode cX7_shown 51 = .ok (.iload_n 3, 1) := by decide +kernel
theorem dX7_shown_52 : decode cX7_shown 52 = .ok (.ifCond .ne 11, 3) := by decide +kernel
theorem dX7_shown_55 : decode cX7_shown 55 = .ok (.aload_n 0, 1) := by decide +kernel
theorem dX7_shown_56 : decode cX7_shown 56 = .ok (.iload 4, 2) := by decide +kernel
theorem dX7_shown_58 : decode cX7_shown 58 = .ok (.iconst 2, 1) := by decide +kernel
theorem dX7_shown_59 : decode cX7_shown 59 = .ok (.invokevirtual 81, 3) := by decide +kernel
theorem dX7_shown_62 : decode cX7_shown 62 = .ok (.ireturn, 1) := by decide +kernel
theorem dX7_shown_63 : decode cX7_shown 63 = .ok (.iinc 3 (-1), 3) := by decide +kernel
theorem dX7_shown_66 : decode cX7_shown 66 = .ok (.aload_n 0, 1) := by decide +kernel
theorem dX7_shown_67 : decode cX7_shown 67 = .ok (.aload_n 0, 1) := by decide +kernel
theorem dX7_shown_68 : decode cX7_shown 68 = .ok (.getfield 7, 3) := by decide +kernel
theorem dX7_shown_71 : decode cX7_shown 71 = .ok (.iload_n 1, 1) := by decide +kernel
theorem dX7_shown_72 : decode cX7_shown 72 = .ok (.iaload, 1) := by decide +kernel
theorem dX7_shown_73 : decode cX7_shown 73 = .ok (.aload_n 0, 1) := by decide +kernel
theorem dX7_shown_74 : decode cX7_shown 74 = .ok (.iload 4, 2) := by decide +kernel
theorem dX7_shown_76 : decode cX7_shown 76 = .ok (.bipush 7, 2) := by decide +kernel
theorem dX7_shown_78 : decode cX7_shown 78 = .ok (.invokevirtual 81, 3) := by decide +kernel
theorem dX7_shown_81 : decode cX7_shown 81 = .ok (.invokevirtual 159, 3) := by decide +kernel
theorem dX7_shown_84 : decode cX7_shown 84 = .ok (.istore 4, 2) := by decide +kernel
theorem dX7_shown_86 : decode cX7_shown 86 = .ok (.goto (-52), 3) := by decide +kernel
theorem dX7_shown_89 : decode cX7_shown 89 = .ok (.iconst (-1), 1) := by decide +kernel
theorem dX7_shown_90 : decode cX7_shown 90 = .ok (.ireturn, 1) := by decide +kernel
theorem dX7_depth_0 : decode cX7_depth 0 = .ok (.aload_n 0, 1) := by decide +kernel
theorem dX7_depth_1 : decode cX7_depth 1 = .ok (.iload_n 1, 1) := by decide +kernel
theorem dX7_depth_2 : decode cX7_depth 2 = .ok (.iconst 4, 1) := by decide +kernel
theorem dX7_depth_3 : decode cX7_depth 3 = .ok (.invokevirtual 110, 3) := by decide +kernel
theorem dX7_depth_6 : decode cX7_depth 6 = .ok (.ifCond .ne 5, 3) := by decide +kernel
theorem dX7_depth_9 : decode cX7_depth 9 = .ok (.iconst (-1), 1) := by decide +kernel
theorem dX7_depth_10 : decode cX7_depth 10 = .ok (.ireturn, 1) := by decide +kernel
theorem dX7_depth_11 : decode cX7_depth 11 = .ok (.aload_n 0, 1) := by decide +kernel
theorem dX7_depth_12 : decode cX7_depth 12 = .ok (.invokevirtual 257, 3) := by decide +kernel
theorem dX7_depth_15 : decode cX7_depth 15 = .ok (.aload_n 0, 1) := by decide +kernel
theorem dX7_depth_16 : decode cX7_depth 16 = .ok (.getfield 32, 3) := by decide +kernel
theorem dX7_depth_19 : decode cX7_depth 19 = .ok (.aload_n 0, 1) := by decide +kernel
theorem dX7_depth_20 : decode cX7_depth 20 = .ok (.getfield 7, 3) := by decide +kernel
theorem dX7_depth_23 : decode cX7_depth 23 = .ok (.iload_n 1, 1) := by decide +kernel
theorem dX7_depth_24 : decode cX7_depth 24 = .ok (.iaload, 1) := by decide +kernel
theorem dX7_depth_25 : decode cX7_depth 25 = .ok (.iaload, 1) := by decide +kernel
theorem dX7_depth_26 : decode cX7_depth 26 = .ok (.ireturn, 1) := by decide +kernel
theorem dX7_sleeper_0 : decode cX7_sleeper 0 = .ok (.aload_n 0, 1) := by decide +kernel
theorem dX7_sleeper_1 : decode cX7_sleeper 1 = .ok (.iload_n 1, 1) := by decide +kernel
theorem dX7_sleeper_2 : decode cX7_sleeper 2 = .ok (.iconst 4, 1) := by decide +kernel
theorem dX7_sleeper_3 : decode cX7_sleeper 3 = .ok (.invokevirtual 110, 3) := by decide +kernel
theorem dX7_sleeper_6 : decode cX7_sleeper 6 = .ok (.ifCond .eq 7, 3) := by decide +kernel
theorem dX7_sleeper_9 : decode cX7_sleeper 9 = .ok (.iload_n 2, 1) := by decide +kernel
theorem dX7_sleeper_10 : decode cX7_sleeper 10 = .ok (.ifCond .ge 5, 3) := by decide +kernel
theorem dX7_sleeper_13 : decode cX7_sleeper 13 = .ok (.iconst (-1), 1) := by decide +kernel
theorem dX7_sleeper_14 : decode cX7_sleeper 14 = .ok (.ireturn, 1) := by decide +kernel
theorem dX7_sleeper_15 : decode cX7_sleeper 15 = .ok (.aload_n 0, 1) := by decide +kernel
theorem dX7_sleeper_16 : decode cX7_sleeper 16 = .ok (.aload_n 0, 1) := by decide +kernel
theorem dX7_sleeper_17 : decode cX7_sleeper 17 = .ok (.getfield 7, 3) := by decide +kernel
theorem dX7_sleeper_20 : decode cX7_sleeper 20 = .ok (.iload_n 1, 1) := by decide +kernel
theorem dX7_sleeper_21 : decode cX7_sleeper 21 = .ok (.iaload, 1) := by decide +kernel
theorem dX7_sleeper_22 : decode cX7_sleeper 22 = .ok (.iconst 0, 1) := by decide +kernel
theorem dX7_sleeper_23 : decode cX7_sleeper 23 = .ok (.invokevirtual 173, 3) := by decide +kernel
theorem dX7_sleeper_26 : decode cX7_sleeper 26 = .ok (.istore_n 3, 1) := by decide +kernel
theorem dX7_sleeper_27 : decode cX7_sleeper 27 = .ok (.iconst 0, 1) := by decide +kernel
theorem dX7_sleeper_28 : decode cX7_sleeper 28 = .ok (.istore 4, 2) := by decide +kernel
theorem dX7_sleeper_30 : decode cX7_sleeper 30 = .ok (.iload 4, 2) := by decide +kernel
theorem dX7_sleeper_32 : decode cX7_sleeper 32 = .ok (.iload_n 2, 1) := by decide +kernel
theorem dX7_sleeper_33 : decode cX7_sleeper 33 = .ok (.if_icmp .ge 30, 3) := by decide +kernel
theorem dX7_sleeper_36 : decode cX7_sleeper 36 = .ok (.iload_n 3, 1) := by decide +kernel
theorem dX7_sleeper_37 : decode cX7_sleeper 37 = .ok (.ifCond .lt 26, 3) := by decide +kernel
theorem dX7_sleeper_40 : decode cX7_sleeper 40 = .ok (.aload_n 0, 1) := by decide +kernel
theorem dX7_sleeper_41 : decode cX7_sleeper 41 = .ok (.aload_n 0, 1) := by decide +kernel
theorem dX7_sleeper_42 : decode cX7_sleeper 42 = .ok (.getfield 7, 3) := by decide +kernel
theorem dX7_sleeper_45 : decode cX7_sleeper 45 = .ok (.iload_n 1, 1) := by decide +kernel
theorem dX7_sleeper_46 : decode cX7_sleeper 46 = .ok (.iaload, 1) := by decide +kernel
theorem dX7_sleeper_47 : decode cX7_sleeper 47 = .ok (.aload_n 0, 1) := by decide +kernel
theorem dX7_sleeper_48 : decode cX7_sleeper 48 = .ok (.iload_n 3, 1) := by decide +kernel
theorem dX7_sleeper_49 : decode cX7_sleeper 49 = .ok (.iconst 1, 1) := by decide +kernel
theorem dX7_sleeper_50 : decode cX7_sleeper 50 = .ok (.invokevirtual 84, 3) := by decide +kernel
theorem dX7_sleeper_53 : decode cX7_sleeper 53 = .ok (.invokevirtual 173, 3) := by decide +kernel
theorem dX7_sleeper_56 : decode cX7_sleeper 56 = .ok (.istore_n 3, 1) := by decide +kernel
theorem dX7_sleeper_57 : decode cX7_sleeper 57 = .ok (.iinc 4 1, 3) := by decide +kernel
theorem dX7_sleeper_60 : decode cX7_sleeper 60 = .ok (.goto (-30), 3) := by decide +kernel
theorem dX7_sleeper_63 : decode cX7_sleeper 63 = .ok (.iload_n 3, 1) := by decide +kernel
theorem dX7_sleeper_64 : decode cX7_sleeper 64 = .ok (.ireturn, 1) := by decide +kernel
theorem dX7_task_0 : decode cX7_task 0 = .ok (.aload_n 0, 1) := by decide +kernel
theorem dX7_task_1 : decode cX7_task 1 = .ok (.iload_n 1, 1) := by decide +kernel
theorem dX7_task_2 : decode cX7_task 2 = .ok (.invokevirtual 284, 3) := by decide +kernel
theorem dX7_task_5 : decode cX7_task 5 = .ok (.ifCond .ne 5, 3) := by decide +kernel
theorem dX7_task_8 : decode cX7_task 8 = .ok (.iconst (-1), 1) := by decide +kernel
theorem dX7_task_9 : decode cX7_task 9 = .ok (.ireturn, 1) := by decide +kernel
theorem dX7_task_10 : decode cX7_task 10 = .ok (.iload_n 2, 1) := by decide +kernel
theorem dX7_task_11 : decode cX7_task 11 = .ok (.tableswitch 139 0 9 #[53, 67, 78, 85, 92, 100, 108, 116, 123, 131], 53) := by decide +kernel
theorem dX7_task_64 : decode cX7_task 64 = .ok (.aload_n 0, 1) := by decide +kernel
theorem dX7_task_65 : decode cX7_task 65 = .ok (.iload_n 1, 1) := by decide +kernel
theorem dX7_task_66 : decode cX7_task 66 = .ok (.invokevirtual 250, 3) := by decide +kernel
theorem dX7_task_69 : decode cX7_task 69 = .ok (.ifCond .eq 7, 3) := by decide +kernel
theorem dX7_task_72 : decode cX7_task 72 = .ok (.iconst 1, 1) := by decide +kernel
theorem dX7_task_73 : decode cX7_task 73 = .ok (.goto 4, 3) := by decide +kernel
theorem dX7_task_76 : decode cX7_task 76 = .ok (.iconst 0, 1) := by decide +kernel
theorem dX7_task_77 : decode cX7_task 77 = .ok (.ireturn, 1) := by decide +kernel
theorem dX7_task_78 : decode cX7_task 78 = .ok (.aload_n 0, 1) := by decide +kernel
theorem dX7_task_79 : decode cX7_task 79 = .ok (.aload_n 0, 1) := by decide +kernel
theorem dX7_task_80 : decode cX7_task 80 = .ok (.iload_n 1, 1) := by decide +kernel
theorem dX7_task_81 : decode cX7_task 81 = .ok (.iconst 0, 1) := by decide +kernel
theorem dX7_task_82 : decode cX7_task 82 = .ok (.invokevirtual 84, 3) := by decide +kernel
theorem dX7_task_85 : decode cX7_task 85 = .ok (.invokevirtual 199, 3) := by decide +kernel
theorem dX7_task_88 : decode cX7_task 88 = .ok (.ireturn, 1) := by decide +kernel
theorem dX7_task_89 : decode cX7_task 89 = .ok (.aload_n 0, 1) := by decide +kernel
theorem dX7_task_90 : decode cX7_task 90 = .ok (.iload_n 1, 1) := by decide +kernel
theorem dX7_task_91 : decode cX7_task 91 = .ok (.iconst 4, 1) := by decide +kernel
theorem dX7_task_92 : decode cX7_task 92 = .ok (.invokevirtual 84, 3) := by decide +kernel
theorem dX7_task_95 : decode cX7_task 95 = .ok (.ireturn, 1) := by decide +kernel
theorem dX7_task_96 : decode cX7_task 96 = .ok (.aload_n 0, 1) := by decide +kernel
theorem dX7_task_97 : decode cX7_task 97 = .ok (.iload_n 1, 1) := by decide +kernel
theorem dX7_task_98 : decode cX7_task 98 = .ok (.iconst 5, 1) := by decide +kernel
theorem dX7_task_99 : decode cX7_task 99 = .ok (.invokevirtual 84, 3) := by decide +kernel
theorem dX7_task_102 : decode cX7_task 102 = .ok (.ireturn, 1) := by decide +kernel
theorem dX7_task_103 : decode cX7_task 103 = .ok (.aload_n 0, 1) := by decide +kernel
theorem dX7_task_104 : decode cX7_task 104 = .ok (.iload_n 1, 1) := by decide +kernel
theorem dX7_task_105 : decode cX7_task 105 = .ok (.bipush 6, 2) := by decide +kernel
theorem dX7_task_107 : decode cX7_task 107 = .ok (.invokevirtual 84, 3) := by decide +kernel
theorem dX7_task_110 : decode cX7_task 110 = .ok (.ireturn, 1) := by decide +kernel
theorem dX7_task_111 : decode cX7_task 111 = .ok (.aload_n 0, 1) := by decide +kernel
theorem dX7_task_112 : decode cX7_task 112 = .ok (.iload_n 1, 1) := by decide +kernel
theorem dX7_task_113 : decode cX7_task 113 = .ok (.bipush 7, 2) := by decide +kernel
theorem dX7_task_115 : decode cX7_task 115 = .ok (.invokevirtual 84, 3) := by decide +kernel
theorem dX7_task_118 : decode cX7_task 118 = .ok (.ireturn, 1) := by decide +kernel
theorem dX7_task_119 : decode cX7_task 119 = .ok (.aload_n 0, 1) := by decide +kernel
theorem dX7_task_120 : decode cX7_task 120 = .ok (.iload_n 1, 1) := by decide +kernel
theorem dX7_task_121 : decode cX7_task 121 = .ok (.bipush 8, 2) := by decide +kernel
theorem dX7_task_123 : decode cX7_task 123 = .ok (.invokevirtual 84, 3) := by decide +kernel
theorem dX7_task_126 : decode cX7_task 126 = .ok (.ireturn, 1) := by decide +kernel
theorem dX7_task_127 : decode cX7_task 127 = .ok (.aload_n 0, 1) := by decide +kernel
theorem dX7_task_128 : decode cX7_task 128 = .ok (.iload_n 1, 1) := by decide +kernel
theorem dX7_task_129 : decode cX7_task 129 = .ok (.iconst 3, 1) := by decide +kernel
theorem dX7_task_130 : decode cX7_task 130 = .ok (.invokevirtual 84, 3) := by decide +kernel
theorem dX7_task_133 : decode cX7_task 133 = .ok (.ireturn, 1) := by decide +kernel
theorem dX7_task_134 : decode cX7_task 134 = .ok (.aload_n 0, 1) := by decide +kernel
theorem dX7_task_135 : decode cX7_task 135 = .ok (.iload_n 1, 1) := by decide +kernel
theorem dX7_task_136 : decode cX7_task 136 = .ok (.bipush 9, 2) := by decide +kernel
theorem dX7_task_138 : decode cX7_task 138 = .ok (.invokevirtual 84, 3) := by decide +kernel
theorem dX7_task_141 : decode cX7_task 141 = .ok (.ireturn, 1) := by decide +kernel
theorem dX7_task_142 : decode cX7_task 142 = .ok (.aload_n 0, 1) := by decide +kernel
theorem dX7_task_143 : decode cX7_task 143 = .ok (.iload_n 1, 1) := by decide +kernel
theorem dX7_task_144 : decode cX7_task 144 = .ok (.bipush 38, 2) := by decide +kernel
theorem dX7_task_146 : decode cX7_task 146 = .ok (.invokevirtual 84, 3) := by decide +kernel
theorem dX7_task_149 : decode cX7_task 149 = .ok (.ireturn, 1) := by decide +kernel
theorem dX7_task_150 : decode cX7_task 150 = .ok (.iconst (-1), 1) := by decide +kernel
theorem dX7_task_151 : decode cX7_task 151 = .ok (.ireturn, 1) := by decide +kernel
theorem dX7_got_0 : decode cX7_got 0 = .ok (.aload_n 0, 1) := by decide +kernel
theorem dX7_got_1 : decode cX7_got 1 = .ok (.iload_n 1, 1) := by decide +kernel
theorem dX7_got_2 : decode cX7_got 2 = .ok (.invokevirtual 284, 3) := by decide +kernel
theorem dX7_got_5 : decode cX7_got 5 = .ok (.ifCond .eq 44, 3) := by decide +kernel
theorem dX7_got_8 : decode cX7_got 8 = .ok (.iload_n 2, 1) := by decide +kernel
theorem dX7_got_9 : decode cX7_got 9 = .ok (.iconst 0, 1) := by decide +kernel
theorem dX7_got_10 : decode cX7_got 10 = .ok (.aload_n 0, 1) := by decide +kernel
theorem dX7_got_11 : decode cX7_got 11 = .ok (.iload_n 1, 1) := by decide +kernel
theorem dX7_got_12 : decode cX7_got 12 = .ok (.iconst 4, 1) := by decide +kernel
theorem dX7_got_13 : decode cX7_got 13 = .ok (.invokevirtual 84, 3) := by decide +kernel
theorem dX7_got_16 : decode cX7_got 16 = .ok (.iconst 1, 1) := by decide +kernel
theorem dX7_got_17 : decode cX7_got 17 = .ok (.isub, 1) := by decide +kernel
theorem dX7_got_18 : decode cX7_got 18 = .ok (.invokestatic 69, 3) := by decide +kernel
theorem dX7_got_21 : decode cX7_got 21 = .ok (.ifCond .eq 28, 3) := by decide +kernel
theorem dX7_got_24 : decode cX7_got 24 = .ok (.iload_n 3, 1) := by decide +kernel
theorem dX7_got_25 : decode cX7_got 25 = .ok (.iconst 0, 1) := by decide +kernel
theorem dX7_got_26 : decode cX7_got 26 = .ok (.iconst 1, 1) := by decide +kernel
theorem dX7_got_27 : decode cX7_got 27 = .ok (.invokestatic 69, 3) := by decide +kernel
theorem dX7_got_30 : decode cX7_got 30 = .ok (.ifCond .eq 19, 3) := by decide +kernel
theorem dX7_got_33 : decode cX7_got 33 = .ok (.aload_n 0, 1) := by decide +kernel
theorem dX7_got_34 : decode cX7_got 34 = .ok (.iload_n 1, 1) := by decide +kernel
theorem dX7_got_35 : decode cX7_got 35 = .ok (.bipush 22, 2) := by decide +kernel
theorem dX7_got_37 : decode cX7_got 37 = .ok (.iconst 2, 1) := by decide +kernel
theorem dX7_got_38 : decode cX7_got 38 = .ok (.iload_n 2, 1) := by decide +kernel
theorem dX7_got_39 : decode cX7_got 39 = .ok (.imul, 1) := by decide +kernel
theorem dX7_got_40 : decode cX7_got 40 = .ok (.iadd, 1) := by decide +kernel
theorem dX7_got_41 : decode cX7_got 41 = .ok (.iload_n 3, 1) := by decide +kernel
theorem dX7_got_42 : decode cX7_got 42 = .ok (.iadd, 1) := by decide +kernel
theorem dX7_got_43 : decode cX7_got 43 = .ok (.invokevirtual 84, 3) := by decide +kernel
theorem dX7_got_46 : decode cX7_got 46 = .ok (.goto 4, 3) := by decide +kernel
theorem dX7_got_49 : decode cX7_got 49 = .ok (.iconst (-1), 1) := by decide +kernel
theorem dX7_got_50 : decode cX7_got 50 = .ok (.ireturn, 1) := by decide +kernel
theorem dX7_plan_0 : decode cX7_plan 0 = .ok (.aload_n 0, 1) := by decide +kernel
theorem dX7_plan_1 : decode cX7_plan 1 = .ok (.iload_n 1, 1) := by decide +kernel
theorem dX7_plan_2 : decode cX7_plan 2 = .ok (.invokevirtual 284, 3) := by decide +kernel
theorem dX7_plan_5 : decode cX7_plan 5 = .ok (.ifCond .eq 24, 3) := by decide +kernel
theorem dX7_plan_8 : decode cX7_plan 8 = .ok (.iload_n 2, 1) := by decide +kernel
theorem dX7_plan_9 : decode cX7_plan 9 = .ok (.iconst 0, 1) := by decide +kernel
theorem dX7_plan_10 : decode cX7_plan 10 = .ok (.bipush 7, 2) := by decide +kernel
theorem dX7_plan_12 : decode cX7_plan 12 = .ok (.invokestatic 69, 3) := by decide +kernel
theorem dX7_plan_15 : decode cX7_plan 15 = .ok (.ifCond .eq 14, 3) := by decide +kernel
theorem dX7_plan_18 : decode cX7_plan 18 = .ok (.aload_n 0, 1) := by decide +kernel
theorem dX7_plan_19 : decode cX7_plan 19 = .ok (.iload_n 1, 1) := by decide +kernel
theorem dX7_plan_20 : decode cX7_plan 20 = .ok (.bipush 9, 2) := by decide +kernel
theorem dX7_plan_22 : decode cX7_plan 22 = .ok (.invokevirtual 84, 3) := by decide +kernel
theorem dX7_plan_25 : decode cX7_plan 25 = .ok (.iconst 4, 1) := by decide +kernel
theorem dX7_plan_26 : decode cX7_plan 26 = .ok (.if_icmp .ne 5, 3) := by decide +kernel
theorem dX7_plan_29 : decode cX7_plan 29 = .ok (.iconst (-1), 1) := by decide +kernel
theorem dX7_plan_30 : decode cX7_plan 30 = .ok (.ireturn, 1) := by decide +kernel
theorem dX7_plan_31 : decode cX7_plan 31 = .ok (.aload_n 0, 1) := by decide +kernel
theorem dX7_plan_32 : decode cX7_plan 32 = .ok (.invokevirtual 101, 3) := by decide +kernel
theorem dX7_plan_35 : decode cX7_plan 35 = .ok (.aload_n 0, 1) := by decide +kernel
theorem dX7_plan_36 : decode cX7_plan 36 = .ok (.iload_n 1, 1) := by decide +kernel
theorem dX7_plan_37 : decode cX7_plan 37 = .ok (.iload_n 2, 1) := by decide +kernel
theorem dX7_plan_38 : decode cX7_plan 38 = .ok (.iload_n 3, 1) := by decide +kernel
theorem dX7_plan_39 : decode cX7_plan 39 = .ok (.iload 4, 2) := by decide +kernel
theorem dX7_plan_41 : decode cX7_plan 41 = .ok (.invokevirtual 313, 3) := by decide +kernel
theorem dX7_plan_44 : decode cX7_plan 44 = .ok (.aload_n 0, 1) := by decide +kernel
theorem dX7_plan_45 : decode cX7_plan 45 = .ok (.iload_n 1, 1) := by decide +kernel
theorem dX7_plan_46 : decode cX7_plan 46 = .ok (.bipush 9, 2) := by decide +kernel
theorem dX7_plan_48 : decode cX7_plan 48 = .ok (.invokevirtual 84, 3) := by decide +kernel
theorem dX7_plan_51 : decode cX7_plan 51 = .ok (.ireturn, 1) := by decide +kernel
theorem dX7_putStep_0 : decode cX7_putStep 0 = .ok (.iload_n 1, 1) := by decide +kernel
theorem dX7_putStep_1 : decode cX7_putStep 1 = .ok (.bipush 10, 2) := by decide +kernel
theorem dX7_putStep_3 : decode cX7_putStep 3 = .ok (.iconst 3, 1) := by decide +kernel
theorem dX7_putStep_4 : decode cX7_putStep 4 = .ok (.aload_n 0, 1) := by decide +kernel
theorem dX7_putStep_5 : decode cX7_putStep 5 = .ok (.iload_n 1, 1) := by decide +kernel
theorem dX7_putStep_6 : decode cX7_putStep 6 = .ok (.bipush 9, 2) := by decide +kernel
theorem dX7_putStep_8 : decode cX7_putStep 8 = .ok (.invokevirtual 84, 3) := by decide +kernel
theorem dX7_putStep_11 : decode cX7_putStep 11 = .ok (.imul, 1) := by decide +kernel
theorem dX7_putStep_12 : decode cX7_putStep 12 = .ok (.iadd, 1) := by decide +kernel
theorem dX7_putStep_13 : decode cX7_putStep 13 = .ok (.invokestatic 63, 3) := by decide +kernel
theorem dX7_putStep_16 : decode cX7_putStep 16 = .ok (.istore 5, 2) := by decide +kernel
theorem dX7_putStep_18 : decode cX7_putStep 18 = .ok (.aload_n 0, 1) := by decide +kernel
theorem dX7_putStep_19 : decode cX7_putStep 19 = .ok (.getfield 7, 3) := by decide +kernel
theorem dX7_putStep_22 : decode cX7_putStep 22 = .ok (.iload 5, 2) := by decide +kernel
theorem dX7_putStep_24 : decode cX7_putStep 24 = .ok (.iload_n 2, 1) := by decide +kernel
theorem dX7_putStep_25 : decode cX7_putStep 25 = .ok (.iastore, 1) := by decide +kernel
theorem dX7_putStep_26 : decode cX7_putStep 26 = .ok (.aload_n 0, 1) := by decide +kernel
theorem dX7_putStep_27 : decode cX7_putStep 27 = .ok (.getfield 7, 3) := by decide +kernel
theorem dX7_putStep_30 : decode cX7_putStep 30 = .ok (.iload 5, 2) := by decide +kernel
theorem dX7_putStep_32 : decode cX7_putStep 32 = .ok (.iconst 1, 1) := by decide +kernel
theorem dX7_putStep_33 : decode cX7_putStep 33 = .ok (.iadd, 1) := by decide +kernel
theorem dX7_putStep_34 : decode cX7_putStep 34 = .ok (.iload_n 3, 1) := by decide +kernel
theorem dX7_putStep_35 : decode cX7_putStep 35 = .ok (.iastore, 1) := by decide +kernel
theorem dX7_putStep_36 : decode cX7_putStep 36 = .ok (.aload_n 0, 1) := by decide +kernel
theorem dX7_putStep_37 : decode cX7_putStep 37 = .ok (.getfield 7, 3) := by decide +kernel
theorem dX7_putStep_40 : decode cX7_putStep 40 = .ok (.iload 5, 2) := by decide +kernel
theorem dX7_putStep_42 : decode cX7_putStep 42 = .ok (.iconst 2, 1) := by decide +kernel
theorem dX7_putStep_43 : decode cX7_putStep 43 = .ok (.iadd, 1) := by decide +kernel
theorem dX7_putStep_44 : decode cX7_putStep 44 = .ok (.iload 4, 2) := by decide +kernel
theorem dX7_putStep_46 : decode cX7_putStep 46 = .ok (.iastore, 1) := by decide +kernel
theorem dX7_putStep_47 : decode cX7_putStep 47 = .ok (.aload_n 0, 1) := by decide +kernel
theorem dX7_putStep_48 : decode cX7_putStep 48 = .ok (.getfield 7, 3) := by decide +kernel
theorem dX7_putStep_51 : decode cX7_putStep 51 = .ok (.iload_n 1, 1) := by decide +kernel
theorem dX7_putStep_52 : decode cX7_putStep 52 = .ok (.bipush 9, 2) := by decide +kernel
theorem dX7_putStep_54 : decode cX7_putStep 54 = .ok (.invokestatic 63, 3) := by decide +kernel
theorem dX7_putStep_57 : decode cX7_putStep 57 = .ok (.dup2, 1) := by decide +kernel
theorem dX7_putStep_58 : decode cX7_putStep 58 = .ok (.iaload, 1) := by decide +kernel
theorem dX7_putStep_59 : decode cX7_putStep 59 = .ok (.iconst 1, 1) := by decide +kernel
theorem dX7_putStep_60 : decode cX7_putStep 60 = .ok (.iadd, 1) := by decide +kernel
theorem dX7_putStep_61 : decode cX7_putStep 61 = .ok (.iastore, 1) := by decide +kernel
theorem dX7_putStep_62 : decode cX7_putStep 62 = .ok (.return_, 1) := by decide +kernel
theorem dX7_round_0 : decode cX7_round 0 = .ok (.aload_n 0, 1) := by decide +kernel
theorem dX7_round_1 : decode cX7_round 1 = .ok (.iload_n 1, 1) := by decide +kernel
theorem dX7_round_2 : decode cX7_round 2 = .ok (.invokevirtual 284, 3) := by decide +kernel
theorem dX7_round_5 : decode cX7_round 5 = .ok (.ifCond .eq 23, 3) := by decide +kernel
theorem dX7_round_8 : decode cX7_round 8 = .ok (.aload_n 0, 1) := by decide +kernel
theorem dX7_round_9 : decode cX7_round 9 = .ok (.iload_n 1, 1) := by decide +kernel
theorem dX7_round_10 : decode cX7_round 10 = .ok (.bipush 38, 2) := by decide +kernel
theorem dX7_round_12 : decode cX7_round 12 = .ok (.invokevirtual 84, 3) := by decide +kernel
theorem dX7_round_15 : decode cX7_round 15 = .ok (.iconst 1, 1) := by decide +kernel
theorem dX7_round_16 : decode cX7_round 16 = .ok (.if_icmp .ne 7, 3) := by decide +kernel
theorem dX7_round_19 : decode cX7_round 19 = .ok (.iconst 1, 1) := by decide +kernel
theorem dX7_round_20 : decode cX7_round 20 = .ok (.goto 4, 3) := by decide +kernel
theorem dX7_round_23 : decode cX7_round 23 = .ok (.iconst 0, 1) := by decide +kernel
theorem dX7_round_24 : decode cX7_round 24 = .ok (.iload_n 2, 1) := by decide +kernel
theorem dX7_round_25 : decode cX7_round 25 = .ok (.if_icmp .ne 5, 3) := by decide +kernel
theorem dX7_round_28 : decode cX7_round 28 = .ok (.iconst 0, 1) := by decide +kernel
theorem dX7_round_29 : decode cX7_round 29 = .ok (.ireturn, 1) := by decide +kernel
theorem dX7_round_30 : decode cX7_round 30 = .ok (.aload_n 0, 1) := by decide +kernel
theorem dX7_round_31 : decode cX7_round 31 = .ok (.invokevirtual 101, 3) := by decide +kernel
theorem dX7_round_34 : decode cX7_round 34 = .ok (.aload_n 0, 1) := by decide +kernel
theorem dX7_round_35 : decode cX7_round 35 = .ok (.getfield 7, 3) := by decide +kernel
theorem dX7_round_38 : decode cX7_round 38 = .ok (.iload_n 1, 1) := by decide +kernel
theorem dX7_round_39 : decode cX7_round 39 = .ok (.bipush 38, 2) := by decide +kernel
theorem dX7_round_41 : decode cX7_round 41 = .ok (.invokestatic 63, 3) := by decide +kernel
theorem dX7_round_44 : decode cX7_round 44 = .ok (.iload_n 2, 1) := by decide +kernel
theorem dX7_round_45 : decode cX7_round 45 = .ok (.ifCond .eq 7, 3) := by decide +kernel
theorem dX7_round_48 : decode cX7_round 48 = .ok (.iconst 1, 1) := by decide +kernel
theorem dX7_round_49 : decode cX7_round 49 = .ok (.goto 4, 3) := by decide +kernel
theorem dX7_round_52 : decode cX7_round 52 = .ok (.iconst 0, 1) := by decide +kernel
theorem dX7_round_53 : decode cX7_round 53 = .ok (.iastore, 1) := by decide +kernel
theorem dX7_round_54 : decode cX7_round 54 = .ok (.iconst 1, 1) := by decide +kernel
theorem dX7_round_55 : decode cX7_round 55 = .ok (.ireturn, 1) := by decide +kernel
theorem dX7_goRoundOnce_0 : decode cX7_goRoundOnce 0 = .ok (.iconst 0, 1) := by decide +kernel
theorem dX7_goRoundOnce_1 : decode cX7_goRoundOnce 1 = .ok (.istore_n 1, 1) := by decide +kernel
theorem dX7_goRoundOnce_2 : decode cX7_goRoundOnce 2 = .ok (.iconst 0, 1) := by decide +kernel
theorem dX7_goRoundOnce_3 : decode cX7_goRoundOnce 3 = .ok (.istore_n 2, 1) := by decide +kernel
theorem dX7_goRoundOnce_4 : decode cX7_goRoundOnce 4 = .ok (.iload_n 2, 1) := by decide +kernel
theorem dX7_goRoundOnce_5 : decode cX7_goRoundOnce 5 = .ok (.bipush 6, 2) := by decide +kernel
theorem dX7_goRoundOnce_7 : decode cX7_goRoundOnce 7 = .ok (.if_icmp .ge 32, 3) := by decide +kernel
theorem dX7_goRoundOnce_10 : decode cX7_goRoundOnce 10 = .ok (.aload_n 0, 1) := by decide +kernel
theorem dX7_goRoundOnce_11 : decode cX7_goRoundOnce 11 = .ok (.iload_n 2, 1) := by decide +kernel
theorem dX7_goRoundOnce_12 : decode cX7_goRoundOnce 12 = .ok (.invokevirtual 317, 3) := by decide +kernel
theorem dX7_goRoundOnce_15 : decode cX7_goRoundOnce 15 = .ok (.ifCond .ne 6, 3) := by decide +kernel
theorem dX7_goRoundOnce_18 : decode cX7_goRoundOnce 18 = .ok (.goto 15, 3) := by decide +kernel
theorem dX7_goRoundOnce_21 : decode cX7_goRoundOnce 21 = .ok (.aload_n 0, 1) := by decide +kernel
theorem dX7_goRoundOnce_22 : decode cX7_goRoundOnce 22 = .ok (.aload_n 0, 1) := by decide +kernel
theorem dX7_goRoundOnce_23 : decode cX7_goRoundOnce 23 = .ok (.iload_n 2, 1) := by decide +kernel
theorem dX7_goRoundOnce_24 : decode cX7_goRoundOnce 24 = .ok (.invokevirtual 320, 3) := by decide +kernel
theorem dX7_goRoundOnce_27 : decode cX7_goRoundOnce 27 = .ok (.putfield 323, 3) := by decide +kernel
theorem dX7_goRoundOnce_30 : decode cX7_goRoundOnce 30 = .ok (.iinc 1 1, 3) := by decide +kernel
theorem dX7_goRoundOnce_33 : decode cX7_goRoundOnce 33 = .ok (.iinc 2 1, 3) := by decide +kernel
theorem dX7_goRoundOnce_36 : decode cX7_goRoundOnce 36 = .ok (.goto (-32), 3) := by decide +kernel
theorem dX7_goRoundOnce_39 : decode cX7_goRoundOnce 39 = .ok (.iload_n 1, 1) := by decide +kernel
theorem dX7_goRoundOnce_40 : decode cX7_goRoundOnce 40 = .ok (.ireturn, 1) := by decide +kernel
theorem dX7_rounds_0 : decode cX7_rounds 0 = .ok (.iload_n 1, 1) := by decide +kernel
theorem dX7_rounds_1 : decode cX7_rounds 1 = .ok (.iconst 1, 1) := by decide +kernel
theorem dX7_rounds_2 : decode cX7_rounds 2 = .ok (.bipush 50, 2) := by decide +kernel
theorem dX7_rounds_4 : decode cX7_rounds 4 = .ok (.invokestatic 69, 3) := by decide +kernel
theorem dX7_rounds_7 : decode cX7_rounds 7 = .ok (.ifCond .ne 5, 3) := by decide +kernel
theorem dX7_rounds_10 : decode cX7_rounds 10 = .ok (.iconst (-1), 1) := by decide +kernel
theorem dX7_rounds_11 : decode cX7_rounds 11 = .ok (.ireturn, 1) := by decide +kernel
theorem dX7_rounds_12 : decode cX7_rounds 12 = .ok (.aload_n 0, 1) := by decide +kernel
theorem dX7_rounds_13 : decode cX7_rounds 13 = .ok (.invokevirtual 101, 3) := by decide +kernel
theorem dX7_rounds_16 : decode cX7_rounds 16 = .ok (.iconst 0, 1) := by decide +kernel
theorem dX7_rounds_17 : decode cX7_rounds 17 = .ok (.istore_n 2, 1) := by decide +kernel
theorem dX7_rounds_18 : decode cX7_rounds 18 = .ok (.iconst 0, 1) := by decide +kernel
theorem dX7_rounds_19 : decode cX7_rounds 19 = .ok (.istore_n 3, 1) := by decide +kernel
theorem dX7_rounds_20 : decode cX7_rounds 20 = .ok (.iload_n 3, 1) := by decide +kernel
theorem dX7_rounds_21 : decode cX7_rounds 21 = .ok (.iload_n 1, 1) := by decide +kernel
theorem dX7_rounds_22 : decode cX7_rounds 22 = .ok (.if_icmp .ge 16, 3) := by decide +kernel
theorem dX7_rounds_25 : decode cX7_rounds 25 = .ok (.iload_n 2, 1) := by decide +kernel
theorem dX7_rounds_26 : decode cX7_rounds 26 = .ok (.aload_n 0, 1) := by decide +kernel
theorem dX7_rounds_27 : decode cX7_rounds 27 = .ok (.invokevirtual 326, 3) := by decide +kernel
theorem dX7_rounds_30 : decode cX7_rounds 30 = .ok (.iadd, 1) := by decide +kernel
theorem dX7_rounds_31 : decode cX7_rounds 31 = .ok (.istore_n 2, 1) := by decide +kernel
theorem dX7_rounds_32 : decode cX7_rounds 32 = .ok (.iinc 3 1, 3) := by decide +kernel
theorem dX7_rounds_35 : decode cX7_rounds 35 = .ok (.goto (-15), 3) := by decide +kernel
theorem dX7_rounds_38 : decode cX7_rounds 38 = .ok (.iload_n 2, 1) := by decide +kernel
theorem dX7_rounds_39 : decode cX7_rounds 39 = .ok (.ireturn, 1) := by decide +kernel
theorem dX7_forget_0 : decode cX7_forget 0 = .ok (.aload_n 0, 1) := by decide +kernel
theorem dX7_forget_1 : decode cX7_forget 1 = .ok (.iload_n 1, 1) := by decide +kernel
theorem dX7_forget_2 : decode cX7_forget 2 = .ok (.invokevirtual 284, 3) := by decide +kernel
theorem dX7_forget_5 : decode cX7_forget 5 = .ok (.ifCond .eq 13, 3) := by decide +kernel
theorem dX7_forget_8 : decode cX7_forget 8 = .ok (.aload_n 0, 1) := by decide +kernel
theorem dX7_forget_9 : decode cX7_forget 9 = .ok (.iload_n 1, 1) := by decide +kernel
theorem dX7_forget_10 : decode cX7_forget 10 = .ok (.bipush 9, 2) := by decide +kernel
theorem dX7_forget_12 : decode cX7_forget 12 = .ok (.invokevirtual 84, 3) := by decide +kernel
theorem dX7_forget_15 : decode cX7_forget 15 = .ok (.ifCond .ne 5, 3) := by decide +kernel
theorem dX7_forget_18 : decode cX7_forget 18 = .ok (.iconst (-1), 1) := by decide +kernel
theorem dX7_forget_19 : decode cX7_forget 19 = .ok (.ireturn, 1) := by decide +kernel
theorem dX7_forget_20 : decode cX7_forget 20 = .ok (.aload_n 0, 1) := by decide +kernel
theorem dX7_forget_21 : decode cX7_forget 21 = .ok (.invokevirtual 101, 3) := by decide +kernel
theorem dX7_forget_24 : decode cX7_forget 24 = .ok (.aload_n 0, 1) := by decide +kernel
theorem dX7_forget_25 : decode cX7_forget 25 = .ok (.iload_n 1, 1) := by decide +kernel
theorem dX7_forget_26 : decode cX7_forget 26 = .ok (.bipush 9, 2) := by decide +kernel
theorem dX7_forget_28 : decode cX7_forget 28 = .ok (.invokevirtual 84, 3) := by decide +kernel
theorem dX7_forget_31 : decode cX7_forget 31 = .ok (.istore_n 2, 1) := by decide +kernel
theorem dX7_forget_32 : decode cX7_forget 32 = .ok (.aload_n 0, 1) := by decide +kernel
theorem dX7_forget_33 : decode cX7_forget 33 = .ok (.getfield 7, 3) := by decide +kernel
theorem dX7_forget_36 : decode cX7_forget 36 = .ok (.iload_n 1, 1) := by decide +kernel
theorem dX7_forget_37 : decode cX7_forget 37 = .ok (.bipush 9, 2) := by decide +kernel
theorem dX7_forget_39 : decode cX7_forget 39 = .ok (.invokestatic 63, 3) := by decide +kernel
theorem dX7_forget_42 : decode cX7_forget 42 = .ok (.iconst 0, 1) := by decide +kernel
theorem dX7_forget_43 : decode cX7_forget 43 = .ok (.iastore, 1) := by decide +kernel
theorem dX7_forget_44 : decode cX7_forget 44 = .ok (.iload_n 2, 1) := by decide +kernel
theorem dX7_forget_45 : decode cX7_forget 45 = .ok (.ireturn, 1) := by decide +kernel
theorem dX7_canStep_0 : decode cX7_canStep 0 = .ok (.aload_n 0, 1) := by decide +kernel
theorem dX7_canStep_1 : decode cX7_canStep 1 = .ok (.iload_n 1, 1) := by decide +kernel
theorem dX7_canStep_2 : decode cX7_canStep 2 = .ok (.invokevirtual 250, 3) := by decide +kernel
theorem dX7_canStep_5 : decode cX7_canStep 5 = .ok (.ifCond .ne 17, 3) := by decide +kernel
theorem dX7_canStep_8 : decode cX7_canStep 8 = .ok (.aload_n 0, 1) := by decide +kernel
theorem dX7_canStep_9 : decode cX7_canStep 9 = .ok (.iload_n 1, 1) := by decide +kernel
theorem dX7_canStep_10 : decode cX7_canStep 10 = .ok (.bipush 9, 2) := by decide +kernel
theorem dX7_canStep_12 : decode cX7_canStep 12 = .ok (.invokevirtual 84, 3) := by decide +kernel
theorem dX7_canStep_15 : decode cX7_canStep 15 = .ok (.ifCond .le 7, 3) := by decide +kernel
theorem dX7_canStep_18 : decode cX7_canStep 18 = .ok (.iconst 1, 1) := by decide +kernel
theorem dX7_canStep_19 : decode cX7_canStep 19 = .ok (.goto 4, 3) := by decide +kernel
theorem dX7_canStep_22 : decode cX7_canStep 22 = .ok (.iconst 0, 1) := by decide +kernel
theorem dX7_canStep_23 : decode cX7_canStep 23 = .ok (.ireturn, 1) := by decide +kernel
theorem dX7_goStep_0 : decode cX7_goStep 0 = .ok (.iload_n 1, 1) := by decide +kernel
theorem dX7_goStep_1 : decode cX7_goStep 1 = .ok (.bipush 10, 2) := by decide +kernel
theorem dX7_goStep_3 : decode cX7_goStep 3 = .ok (.invokestatic 63, 3) := by decide +kernel
theorem dX7_goStep_6 : decode cX7_goStep 6 = .ok (.istore_n 2, 1) := by decide +kernel
theorem dX7_goStep_7 : decode cX7_goStep 7 = .ok (.aload_n 0, 1) := by decide +kernel
theorem dX7_goStep_8 : decode cX7_goStep 8 = .ok (.getfield 7, 3) := by decide +kernel
theorem dX7_goStep_11 : decode cX7_goStep 11 = .ok (.iload_n 2, 1) := by decide +kernel
theorem dX7_goStep_12 : decode cX7_goStep 12 = .ok (.iaload, 1) := by decide +kernel
theorem dX7_goStep_13 : decode cX7_goStep 13 = .ok (.istore_n 3, 1) := by decide +kernel
theorem dX7_goStep_14 : decode cX7_goStep 14 = .ok (.aload_n 0, 1) := by decide +kernel
theorem dX7_goStep_15 : decode cX7_goStep 15 = .ok (.getfield 7, 3) := by decide +kernel
theorem dX7_goStep_18 : decode cX7_goStep 18 = .ok (.iload_n 2, 1) := by decide +kernel
theorem dX7_goStep_19 : decode cX7_goStep 19 = .ok (.iconst 1, 1) := by decide +kernel
theorem dX7_goStep_20 : decode cX7_goStep 20 = .ok (.iadd, 1) := by decide +kernel
theorem dX7_goStep_21 : decode cX7_goStep 21 = .ok (.iaload, 1) := by decide +kernel
theorem dX7_goStep_22 : decode cX7_goStep 22 = .ok (.istore 4, 2) := by decide +kernel
theorem dX7_goStep_24 : decode cX7_goStep 24 = .ok (.aload_n 0, 1) := by decide +kernel
theorem dX7_goStep_25 : decode cX7_goStep 25 = .ok (.getfield 7, 3) := by decide +kernel
theorem dX7_goStep_28 : decode cX7_goStep 28 = .ok (.iload_n 2, 1) := by decide +kernel
theorem dX7_goStep_29 : decode cX7_goStep 29 = .ok (.iconst 2, 1) := by decide +kernel
theorem dX7_goStep_30 : decode cX7_goStep 30 = .ok (.iadd, 1) := by decide +kernel
theorem dX7_goStep_31 : decode cX7_goStep 31 = .ok (.iaload, 1) := by decide +kernel
theorem dX7_goStep_32 : decode cX7_goStep 32 = .ok (.istore 5, 2) := by decide +kernel
theorem dX7_goStep_34 : decode cX7_goStep 34 = .ok (.iconst 0, 1) := by decide +kernel
theorem dX7_goStep_35 : decode cX7_goStep 35 = .ok (.istore 6, 2) := by decide +kernel
theorem dX7_goStep_37 : decode cX7_goStep 37 = .ok (.iload 6, 2) := by decide +kernel
theorem dX7_goStep_39 : decode cX7_goStep 39 = .ok (.iconst 3, 1) := by decide +kernel
theorem dX7_goStep_40 : decode cX7_goStep 40 = .ok (.iadd, 1) := by decide +kernel
theorem dX7_goStep_41 : decode cX7_goStep 41 = .ok (.bipush 12, 2) := by decide +kernel
theorem dX7_goStep_43 : decode cX7_goStep 43 = .ok (.if_icmp .ge 29, 3) := by decide +kernel
theorem dX7_goStep_46 : decode cX7_goStep 46 = .ok (.aload_n 0, 1) := by decide +kernel
theorem dX7_goStep_47 : decode cX7_goStep 47 = .ok (.getfield 7, 3) := by decide +kernel
theorem dX7_goStep_50 : decode cX7_goStep 50 = .ok (.iload_n 2, 1) := by decide +kernel
theorem dX7_goStep_51 : decode cX7_goStep 51 = .ok (.iload 6, 2) := by decide +kernel
theorem dX7_goStep_53 : decode cX7_goStep 53 = .ok (.iadd, 1) := by decide +kernel
theorem dX7_goStep_54 : decode cX7_goStep 54 = .ok (.aload_n 0, 1) := by decide +kernel
theorem dX7_goStep_55 : decode cX7_goStep 55 = .ok (.getfield 7, 3) := by decide +kernel
theorem dX7_goStep_58 : decode cX7_goStep 58 = .ok (.iload_n 2, 1) := by decide +kernel
theorem dX7_goStep_59 : decode cX7_goStep 59 = .ok (.iload 6, 2) := by decide +kernel
theorem dX7_goStep_61 : decode cX7_goStep 61 = .ok (.iadd, 1) := by decide +kernel
theorem dX7_goStep_62 : decode cX7_goStep 62 = .ok (.iconst 3, 1) := by decide +kernel
theorem dX7_goStep_63 : decode cX7_goStep 63 = .ok (.iadd, 1) := by decide +kernel
theorem dX7_goStep_64 : decode cX7_goStep 64 = .ok (.iaload, 1) := by decide +kernel
theorem dX7_goStep_65 : decode cX7_goStep 65 = .ok (.iastore, 1) := by decide +kernel
theorem dX7_goStep_66 : decode cX7_goStep 66 = .ok (.iinc 6 1, 3) := by decide +kernel
theorem dX7_goStep_69 : decode cX7_goStep 69 = .ok (.goto (-32), 3) := by decide +kernel
theorem dX7_goStep_72 : decode cX7_goStep 72 = .ok (.aload_n 0, 1) := by decide +kernel
theorem dX7_goStep_73 : decode cX7_goStep 73 = .ok (.getfield 7, 3) := by decide +kernel
theorem dX7_goStep_76 : decode cX7_goStep 76 = .ok (.iload_n 1, 1) := by decide +kernel
theorem dX7_goStep_77 : decode cX7_goStep 77 = .ok (.bipush 9, 2) := by decide +kernel
theorem dX7_goStep_79 : decode cX7_goStep 79 = .ok (.invokestatic 63, 3) := by decide +kernel
theorem dX7_goStep_82 : decode cX7_goStep 82 = .ok (.dup2, 1) := by decide +kernel
theorem dX7_goStep_83 : decode cX7_goStep 83 = .ok (.iaload, 1) := by decide +kernel
theorem dX7_goStep_84 : decode cX7_goStep 84 = .ok (.iconst 1, 1) := by decide +kernel
theorem dX7_goStep_85 : decode cX7_goStep 85 = .ok (.isub, 1) := by decide +kernel
theorem dX7_goStep_86 : decode cX7_goStep 86 = .ok (.iastore, 1) := by decide +kernel
theorem dX7_goStep_87 : decode cX7_goStep 87 = .ok (.aload_n 0, 1) := by decide +kernel
theorem dX7_goStep_88 : decode cX7_goStep 88 = .ok (.iload_n 1, 1) := by decide +kernel
theorem dX7_goStep_89 : decode cX7_goStep 89 = .ok (.bipush 38, 2) := by decide +kernel
theorem dX7_goStep_91 : decode cX7_goStep 91 = .ok (.invokevirtual 84, 3) := by decide +kernel
theorem dX7_goStep_94 : decode cX7_goStep 94 = .ok (.iconst 1, 1) := by decide +kernel
theorem dX7_goStep_95 : decode cX7_goStep 95 = .ok (.if_icmp .ne 13, 3) := by decide +kernel
theorem dX7_goStep_98 : decode cX7_goStep 98 = .ok (.aload_n 0, 1) := by decide +kernel
theorem dX7_goStep_99 : decode cX7_goStep 99 = .ok (.iload_n 1, 1) := by decide +kernel
theorem dX7_goStep_100 : decode cX7_goStep 100 = .ok (.iload_n 3, 1) := by decide +kernel
theorem dX7_goStep_101 : decode cX7_goStep 101 = .ok (.iload 4, 2) := by decide +kernel
theorem dX7_goStep_103 : decode cX7_goStep 103 = .ok (.iload 5, 2) := by decide +kernel
theorem dX7_goStep_105 : decode cX7_goStep 105 = .ok (.invokevirtual 313, 3) := by decide +kernel
theorem dX7_goStep_108 : decode cX7_goStep 108 = .ok (.iload_n 3, 1) := by decide +kernel
theorem dX7_goStep_109 : decode cX7_goStep 109 = .ok (.tableswitch 127 0 6 #[43, 53, 63, 74, 86, 102, 119], 43) := by decide +kernel
theorem dX7_goStep_152 : decode cX7_goStep 152 = .ok (.aload_n 0, 1) := by decide +kernel
theorem dX7_goStep_153 : decode cX7_goStep 153 = .ok (.iload 4, 2) := by decide +kernel
theorem dX7_goStep_155 : decode cX7_goStep 155 = .ok (.iload 5, 2) := by decide +kernel
theorem dX7_goStep_157 : decode cX7_goStep 157 = .ok (.iconst 0, 1) := by decide +kernel
theorem dX7_goStep_158 : decode cX7_goStep 158 = .ok (.invokevirtual 241, 3) := by decide +kernel
theorem dX7_goStep_161 : decode cX7_goStep 161 = .ok (.ireturn, 1) := by decide +kernel
theorem dX7_goStep_162 : decode cX7_goStep 162 = .ok (.aload_n 0, 1) := by decide +kernel
theorem dX7_goStep_163 : decode cX7_goStep 163 = .ok (.iload 4, 2) := by decide +kernel
theorem dX7_goStep_165 : decode cX7_goStep 165 = .ok (.iload 5, 2) := by decide +kernel
theorem dX7_goStep_167 : decode cX7_goStep 167 = .ok (.iconst 0, 1) := by decide +kernel
theorem dX7_goStep_168 : decode cX7_goStep 168 = .ok (.invokevirtual 244, 3) := by decide +kernel
theorem dX7_goStep_171 : decode cX7_goStep 171 = .ok (.ireturn, 1) := by decide +kernel
theorem dX7_goStep_172 : decode cX7_goStep 172 = .ok (.aload_n 0, 1) := by decide +kernel
theorem dX7_goStep_173 : decode cX7_goStep 173 = .ok (.iload_n 1, 1) := by decide +kernel
theorem dX7_goStep_174 : decode cX7_goStep 174 = .ok (.iload 4, 2) := by decide +kernel
theorem dX7_goStep_176 : decode cX7_goStep 176 = .ok (.iload 5, 2) := by decide +kernel
theorem dX7_goStep_178 : decode cX7_goStep 178 = .ok (.iconst 0, 1) := by decide +kernel
theorem dX7_goStep_179 : decode cX7_goStep 179 = .ok (.invokevirtual 290, 3) := by decide +kernel
theorem dX7_goStep_182 : decode cX7_goStep 182 = .ok (.ireturn, 1) := by decide +kernel
theorem dX7_goStep_183 : decode cX7_goStep 183 = .ok (.aload_n 0, 1) := by decide +kernel
theorem dX7_goStep_184 : decode cX7_goStep 184 = .ok (.iload_n 1, 1) := by decide +kernel
theorem dX7_goStep_185 : decode cX7_goStep 185 = .ok (.iload 4, 2) := by decide +kernel
theorem dX7_goStep_187 : decode cX7_goStep 187 = .ok (.iload 5, 2) := by decide +kernel
theorem dX7_goStep_189 : decode cX7_goStep 189 = .ok (.iconst 0, 1) := by decide +kernel
theorem dX7_goStep_190 : decode cX7_goStep 190 = .ok (.iconst 0, 1) := by decide +kernel
theorem dX7_goStep_191 : decode cX7_goStep 191 = .ok (.invokevirtual 294, 3) := by decide +kernel
theorem dX7_goStep_194 : decode cX7_goStep 194 = .ok (.ireturn, 1) := by decide +kernel
theorem dX7_goStep_195 : decode cX7_goStep 195 = .ok (.aload_n 0, 1) := by decide +kernel
theorem dX7_goStep_196 : decode cX7_goStep 196 = .ok (.iload 4, 2) := by decide +kernel
theorem dX7_goStep_198 : decode cX7_goStep 198 = .ok (.iconst 0, 1) := by decide +kernel
theorem dX7_goStep_199 : decode cX7_goStep 199 = .ok (.invokevirtual 226, 3) := by decide +kernel
theorem dX7_goStep_202 : decode cX7_goStep 202 = .ok (.ifCond .eq 7, 3) := by decide +kernel
theorem dX7_goStep_205 : decode cX7_goStep 205 = .ok (.iconst 1, 1) := by decide +kernel
theorem dX7_goStep_206 : decode cX7_goStep 206 = .ok (.goto 4, 3) := by decide +kernel
theorem dX7_goStep_209 : decode cX7_goStep 209 = .ok (.iconst 0, 1) := by decide +kernel
theorem dX7_goStep_210 : decode cX7_goStep 210 = .ok (.ireturn, 1) := by decide +kernel
theorem dX7_goStep_211 : decode cX7_goStep 211 = .ok (.aload_n 0, 1) := by decide +kernel
theorem dX7_goStep_212 : decode cX7_goStep 212 = .ok (.iload 4, 2) := by decide +kernel
theorem dX7_goStep_214 : decode cX7_goStep 214 = .ok (.iload 5, 2) := by decide +kernel
theorem dX7_goStep_216 : decode cX7_goStep 216 = .ok (.invokevirtual 329, 3) := by decide +kernel
theorem dX7_goStep_219 : decode cX7_goStep 219 = .ok (.ifCond .eq 7, 3) := by decide +kernel
theorem dX7_goStep_222 : decode cX7_goStep 222 = .ok (.iconst 1, 1) := by decide +kernel
theorem dX7_goStep_223 : decode cX7_goStep 223 = .ok (.goto 4, 3) := by decide +kernel
theorem dX7_goStep_226 : decode cX7_goStep 226 = .ok (.iconst 0, 1) := by decide +kernel
theorem dX7_goStep_227 : decode cX7_goStep 227 = .ok (.ireturn, 1) := by decide +kernel
theorem dX7_goStep_228 : decode cX7_goStep 228 = .ok (.aload_n 0, 1) := by decide +kernel
theorem dX7_goStep_229 : decode cX7_goStep 229 = .ok (.iload 4, 2) := by decide +kernel
theorem dX7_goStep_231 : decode cX7_goStep 231 = .ok (.iconst 0, 1) := by decide +kernel
theorem dX7_goStep_232 : decode cX7_goStep 232 = .ok (.invokevirtual 131, 3) := by decide +kernel
theorem dX7_goStep_235 : decode cX7_goStep 235 = .ok (.ireturn, 1) := by decide +kernel
theorem dX7_goStep_236 : decode cX7_goStep 236 = .ok (.aload_n 0, 1) := by decide +kernel
theorem dX7_goStep_237 : decode cX7_goStep 237 = .ok (.iload 4, 2) := by decide +kernel
theorem dX7_goStep_239 : decode cX7_goStep 239 = .ok (.iconst 0, 1) := by decide +kernel
theorem dX7_goStep_240 : decode cX7_goStep 240 = .ok (.invokevirtual 127, 3) := by decide +kernel
theorem dX7_goStep_243 : decode cX7_goStep 243 = .ok (.ireturn, 1) := by decide +kernel
theorem dX7_step_0 : decode cX7_step 0 = .ok (.aload_n 0, 1) := by decide +kernel
theorem dX7_step_1 : decode cX7_step 1 = .ok (.iload_n 1, 1) := by decide +kernel
theorem dX7_step_2 : decode cX7_step 2 = .ok (.invokevirtual 284, 3) := by decide +kernel
theorem dX7_step_5 : decode cX7_step 5 = .ok (.ifCond .eq 14, 3) := by decide +kernel
theorem dX7_step_8 : decode cX7_step 8 = .ok (.aload_n 0, 1) := by decide +kernel
theorem dX7_step_9 : decode cX7_step 9 = .ok (.iload_n 1, 1) := by decide +kernel
theorem dX7_step_10 : decode cX7_step 10 = .ok (.invokevirtual 250, 3) := by decide +kernel
theorem dX7_step_13 : decode cX7_step 13 = .ok (.ifCond .eq 6, 3) := by decide +kernel
theorem dX7_step_16 : decode cX7_step 16 = .ok (.bipush (-3), 2) := by decide +kernel
theorem dX7_step_18 : decode cX7_step 18 = .ok (.ireturn, 1) := by decide +kernel
theorem dX7_step_19 : decode cX7_step 19 = .ok (.aload_n 0, 1) := by decide +kernel
theorem dX7_step_20 : decode cX7_step 20 = .ok (.iload_n 1, 1) := by decide +kernel
theorem dX7_step_21 : decode cX7_step 21 = .ok (.invokevirtual 284, 3) := by decide +kernel
theorem dX7_step_24 : decode cX7_step 24 = .ok (.ifCond .eq 11, 3) := by decide +kernel
theorem dX7_step_27 : decode cX7_step 27 = .ok (.aload_n 0, 1) := by decide +kernel
theorem dX7_step_28 : decode cX7_step 28 = .ok (.iload_n 1, 1) := by decide +kernel
theorem dX7_step_29 : decode cX7_step 29 = .ok (.invokevirtual 317, 3) := by decide +kernel
theorem dX7_step_32 : decode cX7_step 32 = .ok (.ifCond .ne 6, 3) := by decide +kernel
theorem dX7_step_35 : decode cX7_step 35 = .ok (.bipush (-4), 2) := by decide +kernel
theorem dX7_step_37 : decode cX7_step 37 = .ok (.ireturn, 1) := by decide +kernel
theorem dX7_step_38 : decode cX7_step 38 = .ok (.aload_n 0, 1) := by decide +kernel
theorem dX7_step_39 : decode cX7_step 39 = .ok (.invokevirtual 101, 3) := by decide +kernel
theorem dX7_step_42 : decode cX7_step 42 = .ok (.aload_n 0, 1) := by decide +kernel
theorem dX7_step_43 : decode cX7_step 43 = .ok (.iload_n 1, 1) := by decide +kernel
theorem dX7_step_44 : decode cX7_step 44 = .ok (.invokevirtual 320, 3) := by decide +kernel
theorem dX7_step_47 : decode cX7_step 47 = .ok (.ireturn, 1) := by decide +kernel
theorem dX7_putAside_0 : decode cX7_putAside 0 = .ok (.iconst 0, 1) := by decide +kernel
theorem dX7_putAside_1 : decode cX7_putAside 1 = .ok (.istore_n 1, 1) := by decide +kernel
theorem dX7_putAside_2 : decode cX7_putAside 2 = .ok (.iload_n 1, 1) := by decide +kernel
theorem dX7_putAside_3 : decode cX7_putAside 3 = .ok (.sipush 796, 3) := by decide +kernel
theorem dX7_putAside_6 : decode cX7_putAside 6 = .ok (.if_icmp .ge 21, 3) := by decide +kernel
theorem dX7_putAside_9 : decode cX7_putAside 9 = .ok (.aload_n 0, 1) := by decide +kernel
theorem dX7_putAside_10 : decode cX7_putAside 10 = .ok (.getfield 38, 3) := by decide +kernel
theorem dX7_putAside_13 : decode cX7_putAside 13 = .ok (.iload_n 1, 1) := by decide +kernel
theorem dX7_putAside_14 : decode cX7_putAside 14 = .ok (.aload_n 0, 1) := by decide +kernel
theorem dX7_putAside_15 : decode cX7_putAside 15 = .ok (.getfield 7, 3) := by decide +kernel
theorem dX7_putAside_18 : decode cX7_putAside 18 = .ok (.iload_n 1, 1) := by decide +kernel
theorem dX7_putAside_19 : decode cX7_putAside 19 = .ok (.iaload, 1) := by decide +kernel
theorem dX7_putAside_20 : decode cX7_putAside 20 = .ok (.iastore, 1) := by decide +kernel
theorem dX7_putAside_21 : decode cX7_putAside 21 = .ok (.iinc 1 1, 3) := by decide +kernel
theorem dX7_putAside_24 : decode cX7_putAside 24 = .ok (.goto (-22), 3) := by decide +kernel
theorem dX7_putAside_27 : decode cX7_putAside 27 = .ok (.return_, 1) := by decide +kernel
theorem dX7_bringBack_0 : decode cX7_bringBack 0 = .ok (.iconst 0, 1) := by decide +kernel
theorem dX7_bringBack_1 : decode cX7_bringBack 1 = .ok (.istore_n 1, 1) := by decide +kernel
theorem dX7_bringBack_2 : decode cX7_bringBack 2 = .ok (.iload_n 1, 1) := by decide +kernel
theorem dX7_bringBack_3 : decode cX7_bringBack 3 = .ok (.sipush 796, 3) := by decide +kernel
theorem dX7_bringBack_6 : decode cX7_bringBack 6 = .ok (.if_icmp .ge 21, 3) := by decide +kernel
theorem dX7_bringBack_9 : decode cX7_bringBack 9 = .ok (.aload_n 0, 1) := by decide +kernel
theorem dX7_bringBack_10 : decode cX7_bringBack 10 = .ok (.getfield 7, 3) := by decide +kernel
theorem dX7_bringBack_13 : decode cX7_bringBack 13 = .ok (.iload_n 1, 1) := by decide +kernel
theorem dX7_bringBack_14 : decode cX7_bringBack 14 = .ok (.aload_n 0, 1) := by decide +kernel
theorem dX7_bringBack_15 : decode cX7_bringBack 15 = .ok (.getfield 38, 3) := by decide +kernel
theorem dX7_bringBack_18 : decode cX7_bringBack 18 = .ok (.iload_n 1, 1) := by decide +kernel
theorem dX7_bringBack_19 : decode cX7_bringBack 19 = .ok (.iaload, 1) := by decide +kernel
theorem dX7_bringBack_20 : decode cX7_bringBack 20 = .ok (.iastore, 1) := by decide +kernel
theorem dX7_bringBack_21 : decode cX7_bringBack 21 = .ok (.iinc 1 1, 3) := by decide +kernel
theorem dX7_bringBack_24 : decode cX7_bringBack 24 = .ok (.goto (-22), 3) := by decide +kernel
theorem dX7_bringBack_27 : decode cX7_bringBack 27 = .ok (.return_, 1) := by decide +kernel
theorem dX7_wakes_0 : decode cX7_wakes 0 = .ok (.aload_n 0, 1) := by decide +kernel
theorem dX7_wakes_1 : decode cX7_wakes 1 = .ok (.iload_n 1, 1) := by decide +kernel
theorem dX7_wakes_2 : decode cX7_wakes 2 = .ok (.invokevirtual 73, 3) := by decide +kernel
theorem dX7_wakes_5 : decode cX7_wakes 5 = .ok (.ifCond .ne 5, 3) := by decide +kernel
theorem dX7_wakes_8 : decode cX7_wakes 8 = .ok (.iconst (-1), 1) := by decide +kernel
theorem dX7_wakes_9 : decode cX7_wakes 9 = .ok (.ireturn, 1) := by decide +kernel
theorem dX7_wakes_10 : decode cX7_wakes 10 = .ok (.aload_n 0, 1) := by decide +kernel
theorem dX7_wakes_11 : decode cX7_wakes 11 = .ok (.invokevirtual 332, 3) := by decide +kernel
theorem dX7_wakes_14 : decode cX7_wakes 14 = .ok (.aload_n 0, 1) := by decide +kernel
theorem dX7_wakes_15 : decode cX7_wakes 15 = .ok (.iload_n 1, 1) := by decide +kernel
theorem dX7_wakes_16 : decode cX7_wakes 16 = .ok (.iconst 1, 1) := by decide +kernel
theorem dX7_wakes_17 : decode cX7_wakes 17 = .ok (.iconst 0, 1) := by decide +kernel
theorem dX7_wakes_18 : decode cX7_wakes 18 = .ok (.invokevirtual 241, 3) := by decide +kernel
theorem dX7_wakes_21 : decode cX7_wakes 21 = .ok (.istore_n 2, 1) := by decide +kernel
theorem dX7_wakes_22 : decode cX7_wakes 22 = .ok (.iconst 0, 1) := by decide +kernel
theorem dX7_wakes_23 : decode cX7_wakes 23 = .ok (.istore_n 3, 1) := by decide +kernel
theorem dX7_wakes_24 : decode cX7_wakes 24 = .ok (.iconst 0, 1) := by decide +kernel
theorem dX7_wakes_25 : decode cX7_wakes 25 = .ok (.istore 4, 2) := by decide +kernel
theorem dX7_wakes_27 : decode cX7_wakes 27 = .ok (.iload 4, 2) := by decide +kernel
theorem dX7_wakes_29 : decode cX7_wakes 29 = .ok (.bipush 6, 2) := by decide +kernel
theorem dX7_wakes_31 : decode cX7_wakes 31 = .ok (.if_icmp .ge 43, 3) := by decide +kernel
theorem dX7_wakes_34 : decode cX7_wakes 34 = .ok (.iload_n 2, 1) := by decide +kernel
theorem dX7_wakes_35 : decode cX7_wakes 35 = .ok (.ifCond .le 39, 3) := by decide +kernel
theorem dX7_wakes_38 : decode cX7_wakes 38 = .ok (.aload_n 0, 1) := by decide +kernel
theorem dX7_wakes_39 : decode cX7_wakes 39 = .ok (.iload 4, 2) := by decide +kernel
theorem dX7_wakes_41 : decode cX7_wakes 41 = .ok (.bipush 6, 2) := by decide +kernel
theorem dX7_wakes_43 : decode cX7_wakes 43 = .ok (.invokevirtual 84, 3) := by decide +kernel
theorem dX7_wakes_46 : decode cX7_wakes 46 = .ok (.aload_n 0, 1) := by decide +kernel
theorem dX7_wakes_47 : decode cX7_wakes 47 = .ok (.getfield 38, 3) := by decide +kernel
theorem dX7_wakes_50 : decode cX7_wakes 50 = .ok (.iload 4, 2) := by decide +kernel
theorem dX7_wakes_52 : decode cX7_wakes 52 = .ok (.bipush 6, 2) := by decide +kernel
theorem dX7_wakes_54 : decode cX7_wakes 54 = .ok (.invokestatic 63, 3) := by decide +kernel
theorem dX7_wakes_57 : decode cX7_wakes 57 = .ok (.iaload, 1) := by decide +kernel
theorem dX7_wakes_58 : decode cX7_wakes 58 = .ok (.if_icmp .le 10, 3) := by decide +kernel
theorem dX7_wakes_61 : decode cX7_wakes 61 = .ok (.iload_n 3, 1) := by decide +kernel
theorem dX7_wakes_62 : decode cX7_wakes 62 = .ok (.iconst 1, 1) := by decide +kernel
theorem dX7_wakes_63 : decode cX7_wakes 63 = .ok (.iload 4, 2) := by decide +kernel
theorem dX7_wakes_65 : decode cX7_wakes 65 = .ok (.ishl, 1) := by decide +kernel
theorem dX7_wakes_66 : decode cX7_wakes 66 = .ok (.ior, 1) := by decide +kernel
theorem dX7_wakes_67 : decode cX7_wakes 67 = .ok (.istore_n 3, 1) := by decide +kernel
theorem dX7_wakes_68 : decode cX7_wakes 68 = .ok (.iinc 4 1, 3) := by decide +kernel
theorem dX7_wakes_71 : decode cX7_wakes 71 = .ok (.goto (-44), 3) := by decide +kernel
theorem dX7_wakes_74 : decode cX7_wakes 74 = .ok (.aload_n 0, 1) := by decide +kernel
theorem dX7_wakes_75 : decode cX7_wakes 75 = .ok (.invokevirtual 335, 3) := by decide +kernel
theorem dX7_wakes_78 : decode cX7_wakes 78 = .ok (.iload_n 3, 1) := by decide +kernel
theorem dX7_wakes_79 : decode cX7_wakes 79 = .ok (.ireturn, 1) := by decide +kernel
theorem dX7_stuck_0 : decode cX7_stuck 0 = .ok (.aload_n 0, 1) := by decide +kernel
theorem dX7_stuck_1 : decode cX7_stuck 1 = .ok (.invokevirtual 332, 3) := by decide +kernel
theorem dX7_stuck_4 : decode cX7_stuck 4 = .ok (.iconst 0, 1) := by decide +kernel
theorem dX7_stuck_5 : decode cX7_stuck 5 = .ok (.istore_n 1, 1) := by decide +kernel
theorem dX7_stuck_6 : decode cX7_stuck 6 = .ok (.iconst 0, 1) := by decide +kernel
theorem dX7_stuck_7 : decode cX7_stuck 7 = .ok (.istore_n 2, 1) := by decide +kernel
theorem dX7_stuck_8 : decode cX7_stuck 8 = .ok (.iload_n 2, 1) := by decide +kernel
theorem dX7_stuck_9 : decode cX7_stuck 9 = .ok (.bipush 60, 2) := by decide +kernel
theorem dX7_stuck_11 : decode cX7_stuck 11 = .ok (.if_icmp .ge 33, 3) := by decide +kernel
theorem dX7_stuck_14 : decode cX7_stuck 14 = .ok (.iload_n 1, 1) := by decide +kernel
theorem dX7_stuck_15 : decode cX7_stuck 15 = .ok (.aload_n 0, 1) := by decide +kernel
theorem dX7_stuck_16 : decode cX7_stuck 16 = .ok (.invokevirtual 326, 3) := by decide +kernel
theorem dX7_stuck_19 : decode cX7_stuck 19 = .ok (.iadd, 1) := by decide +kernel
theorem dX7_stuck_20 : decode cX7_stuck 20 = .ok (.istore_n 1, 1) := by decide +kernel
theorem dX7_stuck_21 : decode cX7_stuck 21 = .ok (.aload_n 0, 1) := by decide +kernel
theorem dX7_stuck_22 : decode cX7_stuck 22 = .ok (.getfield 7, 3) := by decide +kernel
theorem dX7_stuck_25 : decode cX7_stuck 25 = .ok (.sipush 794, 3) := by decide +kernel
theorem dX7_stuck_28 : decode cX7_stuck 28 = .ok (.iaload, 1) := by decide +kernel
theorem dX7_stuck_29 : decode cX7_stuck 29 = .ok (.ldc 253, 2) := by decide +kernel
theorem dX7_stuck_31 : decode cX7_stuck 31 = .ok (.if_icmp .ge 7, 3) := by decide +kernel
theorem dX7_stuck_34 : decode cX7_stuck 34 = .ok (.aload_n 0, 1) := by decide +kernel
theorem dX7_stuck_35 : decode cX7_stuck 35 = .ok (.invokevirtual 254, 3) := by decide +kernel
theorem dX7_stuck_38 : decode cX7_stuck 38 = .ok (.iinc 2 1, 3) := by decide +kernel
theorem dX7_stuck_41 : decode cX7_stuck 41 = .ok (.goto (-33), 3) := by decide +kernel
theorem dX7_stuck_44 : decode cX7_stuck 44 = .ok (.iload_n 1, 1) := by decide +kernel
theorem dX7_stuck_45 : decode cX7_stuck 45 = .ok (.ifCond .ge 7, 3) := by decide +kernel
theorem dX7_stuck_48 : decode cX7_stuck 48 = .ok (.iconst 0, 1) := by decide +kernel
theorem dX7_stuck_49 : decode cX7_stuck 49 = .ok (.goto 7, 3) := by decide +kernel
theorem dX7_stuck_52 : decode cX7_stuck 52 = .ok (.aload_n 0, 1) := by decide +kernel
theorem dX7_stuck_53 : decode cX7_stuck 53 = .ok (.invokevirtual 338, 3) := by decide +kernel
theorem dX7_stuck_56 : decode cX7_stuck 56 = .ok (.istore_n 2, 1) := by decide +kernel
theorem dX7_stuck_57 : decode cX7_stuck 57 = .ok (.aload_n 0, 1) := by decide +kernel
theorem dX7_stuck_58 : decode cX7_stuck 58 = .ok (.invokevirtual 335, 3) := by decide +kernel
theorem dX7_stuck_61 : decode cX7_stuck 61 = .ok (.iload_n 2, 1) := by decide +kernel
theorem dX7_stuck_62 : decode cX7_stuck 62 = .ok (.ireturn, 1) := by decide +kernel
theorem dX7_wasWoken_0 : decode cX7_wasWoken 0 = .ok (.iconst 0, 1) := by decide +kernel
theorem dX7_wasWoken_1 : decode cX7_wasWoken 1 = .ok (.istore_n 2, 1) := by decide +kernel
theorem dX7_wasWoken_2 : decode cX7_wasWoken 2 = .ok (.iload_n 2, 1) := by decide +kernel
theorem dX7_wasWoken_3 : decode cX7_wasWoken 3 = .ok (.bipush 6, 2) := by decide +kernel
theorem dX7_wasWoken_5 : decode cX7_wasWoken 5 = .ok (.if_icmp .ge 69, 3) := by decide +kernel
theorem dX7_wasWoken_8 : decode cX7_wasWoken 8 = .ok (.aload_n 0, 1) := by decide +kernel
theorem dX7_wasWoken_9 : decode cX7_wasWoken 9 = .ok (.getfield 38, 3) := by decide +kernel
theorem dX7_wasWoken_12 : decode cX7_wasWoken 12 = .ok (.iload_n 2, 1) := by decide +kernel
theorem dX7_wasWoken_13 : decode cX7_wasWoken 13 = .ok (.iconst 0, 1) := by decide +kernel
theorem dX7_wasWoken_14 : decode cX7_wasWoken 14 = .ok (.invokestatic 63, 3) := by decide +kernel
theorem dX7_wasWoken_17 : decode cX7_wasWoken 17 = .ok (.iaload, 1) := by decide +kernel
theorem dX7_wasWoken_18 : decode cX7_wasWoken 18 = .ok (.iload_n 1, 1) := by decide +kernel
theorem dX7_wasWoken_19 : decode cX7_wasWoken 19 = .ok (.if_icmp .eq 6, 3) := by decide +kernel
theorem dX7_wasWoken_22 : decode cX7_wasWoken 22 = .ok (.goto 46, 3) := by decide +kernel
theorem dX7_wasWoken_25 : decode cX7_wasWoken 25 = .ok (.aload_n 0, 1) := by decide +kernel
theorem dX7_wasWoken_26 : decode cX7_wasWoken 26 = .ok (.iload_n 2, 1) := by decide +kernel
theorem dX7_wasWoken_27 : decode cX7_wasWoken 27 = .ok (.bipush 6, 2) := by decide +kernel
theorem dX7_wasWoken_29 : decode cX7_wasWoken 29 = .ok (.invokevirtual 84, 3) := by decide +kernel
theorem dX7_wasWoken_32 : decode cX7_wasWoken 32 = .ok (.aload_n 0, 1) := by decide +kernel
theorem dX7_wasWoken_33 : decode cX7_wasWoken 33 = .ok (.iload_n 2, 1) := by decide +kernel
theorem dX7_wasWoken_34 : decode cX7_wasWoken 34 = .ok (.bipush 7, 2) := by decide +kernel
theorem dX7_wasWoken_36 : decode cX7_wasWoken 36 = .ok (.invokevirtual 84, 3) := by decide +kernel
theorem dX7_wasWoken_39 : decode cX7_wasWoken 39 = .ok (.iadd, 1) := by decide +kernel
theorem dX7_wasWoken_40 : decode cX7_wasWoken 40 = .ok (.aload_n 0, 1) := by decide +kernel
theorem dX7_wasWoken_41 : decode cX7_wasWoken 41 = .ok (.getfield 38, 3) := by decide +kernel
theorem dX7_wasWoken_44 : decode cX7_wasWoken 44 = .ok (.iload_n 2, 1) := by decide +kernel
theorem dX7_wasWoken_45 : decode cX7_wasWoken 45 = .ok (.bipush 6, 2) := by decide +kernel
theorem dX7_wasWoken_47 : decode cX7_wasWoken 47 = .ok (.invokestatic 63, 3) := by decide +kernel
theorem dX7_wasWoken_50 : decode cX7_wasWoken 50 = .ok (.iaload, 1) := by decide +kernel
theorem dX7_wasWoken_51 : decode cX7_wasWoken 51 = .ok (.aload_n 0, 1) := by decide +kernel
theorem dX7_wasWoken_52 : decode cX7_wasWoken 52 = .ok (.getfield 38, 3) := by decide +kernel
theorem dX7_wasWoken_55 : decode cX7_wasWoken 55 = .ok (.iload_n 2, 1) := by decide +kernel
theorem dX7_wasWoken_56 : decode cX7_wasWoken 56 = .ok (.bipush 7, 2) := by decide +kernel
theorem dX7_wasWoken_58 : decode cX7_wasWoken 58 = .ok (.invokestatic 63, 3) := by decide +kernel
theorem dX7_wasWoken_61 : decode cX7_wasWoken 61 = .ok (.iaload, 1) := by decide +kernel
theorem dX7_wasWoken_62 : decode cX7_wasWoken 62 = .ok (.iadd, 1) := by decide +kernel
theorem dX7_wasWoken_63 : decode cX7_wasWoken 63 = .ok (.if_icmp .le 5, 3) := by decide +kernel
theorem dX7_wasWoken_66 : decode cX7_wasWoken 66 = .ok (.iconst 1, 1) := by decide +kernel
theorem dX7_wasWoken_67 : decode cX7_wasWoken 67 = .ok (.ireturn, 1) := by decide +kernel
theorem dX7_wasWoken_68 : decode cX7_wasWoken 68 = .ok (.iinc 2 1, 3) := by decide +kernel
theorem dX7_wasWoken_71 : decode cX7_wasWoken 71 = .ok (.goto (-69), 3) := by decide +kernel
theorem dX7_wasWoken_74 : decode cX7_wasWoken 74 = .ok (.iconst 0, 1) := by decide +kernel
theorem dX7_wasWoken_75 : decode cX7_wasWoken 75 = .ok (.ireturn, 1) := by decide +kernel
theorem dX7_soon_0 : decode cX7_soon 0 = .ok (.aload_n 0, 1) := by decide +kernel
theorem dX7_soon_1 : decode cX7_soon 1 = .ok (.iload_n 1, 1) := by decide +kernel
theorem dX7_soon_2 : decode cX7_soon 2 = .ok (.invokevirtual 341, 3) := by decide +kernel
theorem dX7_soon_5 : decode cX7_soon 5 = .ok (.istore_n 2, 1) := by decide +kernel
theorem dX7_soon_6 : decode cX7_soon 6 = .ok (.iload_n 2, 1) := by decide +kernel
theorem dX7_soon_7 : decode cX7_soon 7 = .ok (.ifCond .eq 20, 3) := by decide +kernel
theorem dX7_soon_10 : decode cX7_soon 10 = .ok (.iload_n 2, 1) := by decide +kernel
theorem dX7_soon_11 : decode cX7_soon 11 = .ok (.ifCond .ge 7, 3) := by decide +kernel
theorem dX7_soon_14 : decode cX7_soon 14 = .ok (.iconst (-1), 1) := by decide +kernel
theorem dX7_soon_15 : decode cX7_soon 15 = .ok (.goto 11, 3) := by decide +kernel
theorem dX7_soon_18 : decode cX7_soon 18 = .ok (.aload_n 0, 1) := by decide +kernel
theorem dX7_soon_19 : decode cX7_soon 19 = .ok (.getfield 7, 3) := by decide +kernel
theorem dX7_soon_22 : decode cX7_soon 22 = .ok (.sipush 794, 3) := by decide +kernel
theorem dX7_soon_25 : decode cX7_soon 25 = .ok (.iaload, 1) := by decide +kernel
theorem dX7_soon_26 : decode cX7_soon 26 = .ok (.ireturn, 1) := by decide +kernel
theorem dX7_soon_27 : decode cX7_soon 27 = .ok (.aload_n 0, 1) := by decide +kernel
theorem dX7_soon_28 : decode cX7_soon 28 = .ok (.invokevirtual 332, 3) := by decide +kernel
theorem dX7_soon_31 : decode cX7_soon 31 = .ok (.aload_n 0, 1) := by decide +kernel
theorem dX7_soon_32 : decode cX7_soon 32 = .ok (.getfield 7, 3) := by decide +kernel
theorem dX7_soon_35 : decode cX7_soon 35 = .ok (.iload_n 1, 1) := by decide +kernel
theorem dX7_soon_36 : decode cX7_soon 36 = .ok (.iaload, 1) := by decide +kernel
theorem dX7_soon_37 : decode cX7_soon 37 = .ok (.istore_n 3, 1) := by decide +kernel
theorem dX7_soon_38 : decode cX7_soon 38 = .ok (.iconst 0, 1) := by decide +kernel
theorem dX7_soon_39 : decode cX7_soon 39 = .ok (.istore 4, 2) := by decide +kernel
theorem dX7_soon_41 : decode cX7_soon 41 = .ok (.iconst 0, 1) := by decide +kernel
theorem dX7_soon_42 : decode cX7_soon 42 = .ok (.istore 5, 2) := by decide +kernel
theorem dX7_soon_44 : decode cX7_soon 44 = .ok (.iload 5, 2) := by decide +kernel
theorem dX7_soon_46 : decode cX7_soon 46 = .ok (.bipush 100, 2) := by decide +kernel
theorem dX7_soon_48 : decode cX7_soon 48 = .ok (.if_icmp .ge 54, 3) := by decide +kernel
theorem dX7_soon_51 : decode cX7_soon 51 = .ok (.iload 4, 2) := by decide +kernel
theorem dX7_soon_53 : decode cX7_soon 53 = .ok (.ifCond .ne 49, 3) := by decide +kernel
theorem dX7_soon_56 : decode cX7_soon 56 = .ok (.aload_n 0, 1) := by decide +kernel
theorem dX7_soon_57 : decode cX7_soon 57 = .ok (.getfield 7, 3) := by decide +kernel
theorem dX7_soon_60 : decode cX7_soon 60 = .ok (.sipush 794, 3) := by decide +kernel
theorem dX7_soon_63 : decode cX7_soon 63 = .ok (.iaload, 1) := by decide +kernel
theorem dX7_soon_64 : decode cX7_soon 64 = .ok (.ldc 253, 2) := by decide +kernel
theorem dX7_soon_66 : decode cX7_soon 66 = .ok (.if_icmp .ge 36, 3) := by decide +kernel
theorem dX7_soon_69 : decode cX7_soon 69 = .ok (.aload_n 0, 1) := by decide +kernel
theorem dX7_soon_70 : decode cX7_soon 70 = .ok (.invokevirtual 254, 3) := by decide +kernel
theorem dX7_soon_73 : decode cX7_soon 73 = .ok (.aload_n 0, 1) := by decide +kernel
theorem dX7_soon_74 : decode cX7_soon 74 = .ok (.iload_n 1, 1) := by decide +kernel
theorem dX7_soon_75 : decode cX7_soon 75 = .ok (.invokevirtual 341, 3) := by decide +kernel
theorem dX7_soon_78 : decode cX7_soon 78 = .ok (.ifCond .gt 11, 3) := by decide +kernel
theorem dX7_soon_81 : decode cX7_soon 81 = .ok (.aload_n 0, 1) := by decide +kernel
theorem dX7_soon_82 : decode cX7_soon 82 = .ok (.iload_n 3, 1) := by decide +kernel
theorem dX7_soon_83 : decode cX7_soon 83 = .ok (.invokevirtual 344, 3) := by decide +kernel
theorem dX7_soon_86 : decode cX7_soon 86 = .ok (.ifCond .eq 7, 3) := by decide +kernel
theorem dX7_soon_89 : decode cX7_soon 89 = .ok (.iconst 1, 1) := by decide +kernel
theorem dX7_soon_90 : decode cX7_soon 90 = .ok (.goto 4, 3) := by decide +kernel
theorem dX7_soon_93 : decode cX7_soon 93 = .ok (.iconst 0, 1) := by decide +kernel
theorem dX7_soon_94 : decode cX7_soon 94 = .ok (.istore 4, 2) := by decide +kernel
theorem dX7_soon_96 : decode cX7_soon 96 = .ok (.iinc 5 1, 3) := by decide +kernel
theorem dX7_soon_99 : decode cX7_soon 99 = .ok (.goto (-55), 3) := by decide +kernel
theorem dX7_soon_102 : decode cX7_soon 102 = .ok (.iload 4, 2) := by decide +kernel
theorem dX7_soon_104 : decode cX7_soon 104 = .ok (.ifCond .eq 14, 3) := by decide +kernel
theorem dX7_soon_107 : decode cX7_soon 107 = .ok (.aload_n 0, 1) := by decide +kernel
theorem dX7_soon_108 : decode cX7_soon 108 = .ok (.getfield 7, 3) := by decide +kernel
theorem dX7_soon_111 : decode cX7_soon 111 = .ok (.sipush 794, 3) := by decide +kernel
theorem dX7_soon_114 : decode cX7_soon 114 = .ok (.iaload, 1) := by decide +kernel
theorem dX7_soon_115 : decode cX7_soon 115 = .ok (.goto 4, 3) := by decide +kernel
theorem dX7_soon_118 : decode cX7_soon 118 = .ok (.iconst (-1), 1) := by decide +kernel
theorem dX7_soon_119 : decode cX7_soon 119 = .ok (.istore 5, 2) := by decide +kernel
theorem dX7_soon_121 : decode cX7_soon 121 = .ok (.aload_n 0, 1) := by decide +kernel
theorem dX7_soon_122 : decode cX7_soon 122 = .ok (.invokevirtual 335, 3) := by decide +kernel
theorem dX7_soon_125 : decode cX7_soon 125 = .ok (.iload 5, 2) := by decide +kernel
theorem dX7_soon_127 : decode cX7_soon 127 = .ok (.ireturn, 1) := by decide +kernel
theorem dX7_calls_0 : decode cX7_calls 0 = .ok (.aload_n 0, 1) := by decide +kernel
theorem dX7_calls_1 : decode cX7_calls 1 = .ok (.iload_n 1, 1) := by decide +kernel
theorem dX7_calls_2 : decode cX7_calls 2 = .ok (.invokevirtual 73, 3) := by decide +kernel
theorem dX7_calls_5 : decode cX7_calls 5 = .ok (.ifCond .eq 24, 3) := by decide +kernel
theorem dX7_calls_8 : decode cX7_calls 8 = .ok (.iload_n 2, 1) := by decide +kernel
theorem dX7_calls_9 : decode cX7_calls 9 = .ok (.iconst 1, 1) := by decide +kernel
theorem dX7_calls_10 : decode cX7_calls 10 = .ok (.if_icmp .eq 21, 3) := by decide +kernel
theorem dX7_calls_13 : decode cX7_calls 13 = .ok (.iload_n 2, 1) := by decide +kernel
theorem dX7_calls_14 : decode cX7_calls 14 = .ok (.iconst 2, 1) := by decide +kernel
theorem dX7_calls_15 : decode cX7_calls 15 = .ok (.if_icmp .eq 16, 3) := by decide +kernel
theorem dX7_calls_18 : decode cX7_calls 18 = .ok (.iload_n 2, 1) := by decide +kernel
theorem dX7_calls_19 : decode cX7_calls 19 = .ok (.iconst 4, 1) := by decide +kernel
theorem dX7_calls_20 : decode cX7_calls 20 = .ok (.if_icmp .eq 11, 3) := by decide +kernel
theorem dX7_calls_23 : decode cX7_calls 23 = .ok (.iload_n 2, 1) := by decide +kernel
theorem dX7_calls_24 : decode cX7_calls 24 = .ok (.bipush 8, 2) := by decide +kernel
theorem dX7_calls_26 : decode cX7_calls 26 = .ok (.if_icmp .eq 5, 3) := by decide +kernel
theorem dX7_calls_29 : decode cX7_calls 29 = .ok (.iconst (-1), 1) := by decide +kernel
theorem dX7_calls_30 : decode cX7_calls 30 = .ok (.ireturn, 1) := by decide +kernel
theorem dX7_calls_31 : decode cX7_calls 31 = .ok (.aload_n 0, 1) := by decide +kernel
theorem dX7_calls_32 : decode cX7_calls 32 = .ok (.invokevirtual 332, 3) := by decide +kernel
theorem dX7_calls_35 : decode cX7_calls 35 = .ok (.aload_n 0, 1) := by decide +kernel
theorem dX7_calls_36 : decode cX7_calls 36 = .ok (.iconst 0, 1) := by decide +kernel
theorem dX7_calls_37 : decode cX7_calls 37 = .ok (.putfield 196, 3) := by decide +kernel
theorem dX7_calls_40 : decode cX7_calls 40 = .ok (.aload_n 0, 1) := by decide +kernel
theorem dX7_calls_41 : decode cX7_calls 41 = .ok (.aload_n 0, 1) := by decide +kernel
theorem dX7_calls_42 : decode cX7_calls 42 = .ok (.getfield 7, 3) := by decide +kernel
theorem dX7_calls_45 : decode cX7_calls 45 = .ok (.iload_n 1, 1) := by decide +kernel
theorem dX7_calls_46 : decode cX7_calls 46 = .ok (.iaload, 1) := by decide +kernel
theorem dX7_calls_47 : decode cX7_calls 47 = .ok (.iload_n 2, 1) := by decide +kernel
theorem dX7_calls_48 : decode cX7_calls 48 = .ok (.invokevirtual 120, 3) := by decide +kernel
theorem dX7_calls_51 : decode cX7_calls 51 = .ok (.aload_n 0, 1) := by decide +kernel
theorem dX7_calls_52 : decode cX7_calls 52 = .ok (.invokevirtual 335, 3) := by decide +kernel
theorem dX7_calls_55 : decode cX7_calls 55 = .ok (.aload_n 0, 1) := by decide +kernel
theorem dX7_calls_56 : decode cX7_calls 56 = .ok (.getfield 196, 3) := by decide +kernel
theorem dX7_calls_59 : decode cX7_calls 59 = .ok (.ireturn, 1) := by decide +kernel
theorem dX7_tryOrder_0 : decode cX7_tryOrder 0 = .ok (.iload_n 3, 1) := by decide +kernel
theorem dX7_tryOrder_1 : decode cX7_tryOrder 1 = .ok (.istore 4, 2) := by decide +kernel
theorem dX7_tryOrder_3 : decode cX7_tryOrder 3 = .ok (.iconst 0, 1) := by decide +kernel
theorem dX7_tryOrder_4 : decode cX7_tryOrder 4 = .ok (.istore 5, 2) := by decide +kernel
theorem dX7_tryOrder_6 : decode cX7_tryOrder 6 = .ok (.iload 5, 2) := by decide +kernel
theorem dX7_tryOrder_8 : decode cX7_tryOrder 8 = .ok (.bipush 8, 2) := by decide +kernel
theorem dX7_tryOrder_10 : decode cX7_tryOrder 10 = .ok (.if_icmp .ge 109, 3) := by decide +kernel
theorem dX7_tryOrder_13 : decode cX7_tryOrder 13 = .ok (.aload_n 0, 1) := by decide +kernel
theorem dX7_tryOrder_14 : decode cX7_tryOrder 14 = .ok (.iload_n 1, 1) := by decide +kernel
theorem dX7_tryOrder_15 : decode cX7_tryOrder 15 = .ok (.invokevirtual 317, 3) := by decide +kernel
theorem dX7_tryOrder_18 : decode cX7_tryOrder 18 = .ok (.ifCond .ne 11, 3) := by decide +kernel
theorem dX7_tryOrder_21 : decode cX7_tryOrder 21 = .ok (.aload_n 0, 1) := by decide +kernel
theorem dX7_tryOrder_22 : decode cX7_tryOrder 22 = .ok (.iload_n 2, 1) := by decide +kernel
theorem dX7_tryOrder_23 : decode cX7_tryOrder 23 = .ok (.invokevirtual 317, 3) := by decide +kernel
theorem dX7_tryOrder_26 : decode cX7_tryOrder 26 = .ok (.ifCond .eq 93, 3) := by decide +kernel
theorem dX7_tryOrder_29 : decode cX7_tryOrder 29 = .ok (.aload_n 0, 1) := by decide +kernel
theorem dX7_tryOrder_30 : decode cX7_tryOrder 30 = .ok (.iload_n 1, 1) := by decide +kernel
theorem dX7_tryOrder_31 : decode cX7_tryOrder 31 = .ok (.invokevirtual 317, 3) := by decide +kernel
theorem dX7_tryOrder_34 : decode cX7_tryOrder 34 = .ok (.ifCond .eq 15, 3) := by decide +kernel
theorem dX7_tryOrder_37 : decode cX7_tryOrder 37 = .ok (.aload_n 0, 1) := by decide +kernel
theorem dX7_tryOrder_38 : decode cX7_tryOrder 38 = .ok (.iload_n 2, 1) := by decide +kernel
theorem dX7_tryOrder_39 : decode cX7_tryOrder 39 = .ok (.invokevirtual 317, 3) := by decide +kernel
theorem dX7_tryOrder_42 : decode cX7_tryOrder 42 = .ok (.ifCond .eq 7, 3) := by decide +kernel
theorem dX7_tryOrder_45 : decode cX7_tryOrder 45 = .ok (.iconst 1, 1) := by decide +kernel
theorem dX7_tryOrder_46 : decode cX7_tryOrder 46 = .ok (.goto 4, 3) := by decide +kernel
theorem dX7_tryOrder_49 : decode cX7_tryOrder 49 = .ok (.iconst 0, 1) := by decide +kernel
theorem dX7_tryOrder_50 : decode cX7_tryOrder 50 = .ok (.istore 6, 2) := by decide +kernel
theorem dX7_tryOrder_52 : decode cX7_tryOrder 52 = .ok (.iload 6, 2) := by decide +kernel
theorem dX7_tryOrder_54 : decode cX7_tryOrder 54 = .ok (.ifCond .eq 10, 3) := by decide +kernel
theorem dX7_tryOrder_57 : decode cX7_tryOrder 57 = .ok (.iload 4, 2) := by decide +kernel
theorem dX7_tryOrder_59 : decode cX7_tryOrder 59 = .ok (.iconst 1, 1) := by decide +kernel
theorem dX7_tryOrder_60 : decode cX7_tryOrder 60 = .ok (.iand, 1) := by decide +kernel
theorem dX7_tryOrder_61 : decode cX7_tryOrder 61 = .ok (.goto 16, 3) := by decide +kernel
theorem dX7_tryOrder_64 : decode cX7_tryOrder 64 = .ok (.aload_n 0, 1) := by decide +kernel
theorem dX7_tryOrder_65 : decode cX7_tryOrder 65 = .ok (.iload_n 1, 1) := by decide +kernel
theorem dX7_tryOrder_66 : decode cX7_tryOrder 66 = .ok (.invokevirtual 317, 3) := by decide +kernel
theorem dX7_tryOrder_69 : decode cX7_tryOrder 69 = .ok (.ifCond .eq 7, 3) := by decide +kernel
theorem dX7_tryOrder_72 : decode cX7_tryOrder 72 = .ok (.iconst 0, 1) := by decide +kernel
theorem dX7_tryOrder_73 : decode cX7_tryOrder 73 = .ok (.goto 4, 3) := by decide +kernel
theorem dX7_tryOrder_76 : decode cX7_tryOrder 76 = .ok (.iconst 1, 1) := by decide +kernel
theorem dX7_tryOrder_77 : decode cX7_tryOrder 77 = .ok (.istore 7, 2) := by decide +kernel
theorem dX7_tryOrder_79 : decode cX7_tryOrder 79 = .ok (.iload 6, 2) := by decide +kernel
theorem dX7_tryOrder_81 : decode cX7_tryOrder 81 = .ok (.ifCond .eq 10, 3) := by decide +kernel
theorem dX7_tryOrder_84 : decode cX7_tryOrder 84 = .ok (.iload 4, 2) := by decide +kernel
theorem dX7_tryOrder_86 : decode cX7_tryOrder 86 = .ok (.iconst 1, 1) := by decide +kernel
theorem dX7_tryOrder_87 : decode cX7_tryOrder 87 = .ok (.ishr, 1) := by decide +kernel
theorem dX7_tryOrder_88 : decode cX7_tryOrder 88 = .ok (.goto 5, 3) := by decide +kernel
theorem dX7_tryOrder_91 : decode cX7_tryOrder 91 = .ok (.iload 4, 2) := by decide +kernel
theorem dX7_tryOrder_93 : decode cX7_tryOrder 93 = .ok (.istore 4, 2) := by decide +kernel
theorem dX7_tryOrder_95 : decode cX7_tryOrder 95 = .ok (.aload_n 0, 1) := by decide +kernel
theorem dX7_tryOrder_96 : decode cX7_tryOrder 96 = .ok (.aload_n 0, 1) := by decide +kernel
theorem dX7_tryOrder_97 : decode cX7_tryOrder 97 = .ok (.iload 7, 2) := by decide +kernel
theorem dX7_tryOrder_99 : decode cX7_tryOrder 99 = .ok (.ifCond .ne 7, 3) := by decide +kernel
theorem dX7_tryOrder_102 : decode cX7_tryOrder 102 = .ok (.iload_n 1, 1) := by decide +kernel
theorem dX7_tryOrder_103 : decode cX7_tryOrder 103 = .ok (.goto 4, 3) := by decide +kernel
theorem dX7_tryOrder_106 : decode cX7_tryOrder 106 = .ok (.iload_n 2, 1) := by decide +kernel
theorem dX7_tryOrder_107 : decode cX7_tryOrder 107 = .ok (.invokevirtual 320, 3) := by decide +kernel
theorem dX7_tryOrder_110 : decode cX7_tryOrder 110 = .ok (.putfield 323, 3) := by decide +kernel
theorem dX7_tryOrder_113 : decode cX7_tryOrder 113 = .ok (.iinc 5 1, 3) := by decide +kernel
theorem dX7_tryOrder_116 : decode cX7_tryOrder 116 = .ok (.goto (-110), 3) := by decide +kernel
theorem dX7_tryOrder_119 : decode cX7_tryOrder 119 = .ok (.iload 4, 2) := by decide +kernel
theorem dX7_tryOrder_121 : decode cX7_tryOrder 121 = .ok (.ifCond .ne 23, 3) := by decide +kernel
theorem dX7_tryOrder_124 : decode cX7_tryOrder 124 = .ok (.aload_n 0, 1) := by decide +kernel
theorem dX7_tryOrder_125 : decode cX7_tryOrder 125 = .ok (.iload_n 1, 1) := by decide +kernel
theorem dX7_tryOrder_126 : decode cX7_tryOrder 126 = .ok (.invokevirtual 317, 3) := by decide +kernel
theorem dX7_tryOrder_129 : decode cX7_tryOrder 129 = .ok (.ifCond .ne 15, 3) := by decide +kernel
theorem dX7_tryOrder_132 : decode cX7_tryOrder 132 = .ok (.aload_n 0, 1) := by decide +kernel
theorem dX7_tryOrder_133 : decode cX7_tryOrder 133 = .ok (.iload_n 2, 1) := by decide +kernel
theorem dX7_tryOrder_134 : decode cX7_tryOrder 134 = .ok (.invokevirtual 317, 3) := by decide +kernel
theorem dX7_tryOrder_137 : decode cX7_tryOrder 137 = .ok (.ifCond .ne 7, 3) := by decide +kernel
theorem dX7_tryOrder_140 : decode cX7_tryOrder 140 = .ok (.iconst 1, 1) := by decide +kernel
theorem dX7_tryOrder_141 : decode cX7_tryOrder 141 = .ok (.goto 4, 3) := by decide +kernel
theorem dX7_tryOrder_144 : decode cX7_tryOrder 144 = .ok (.iconst 0, 1) := by decide +kernel
theorem dX7_tryOrder_145 : decode cX7_tryOrder 145 = .ok (.ireturn, 1) := by decide +kernel
theorem dX7_tallyNow_0 : decode cX7_tallyNow 0 = .ok (.aload_n 0, 1) := by decide +kernel
theorem dX7_tallyNow_1 : decode cX7_tallyNow 1 = .ok (.iload_n 1, 1) := by decide +kernel
theorem dX7_tallyNow_2 : decode cX7_tallyNow 2 = .ok (.iconst 5, 1) := by decide +kernel
theorem dX7_tallyNow_3 : decode cX7_tallyNow 3 = .ok (.invokevirtual 84, 3) := by decide +kernel
theorem dX7_tallyNow_6 : decode cX7_tallyNow 6 = .ok (.aload_n 0, 1) := by decide +kernel
theorem dX7_tallyNow_7 : decode cX7_tallyNow 7 = .ok (.iload_n 2, 1) := by decide +kernel
theorem dX7_tallyNow_8 : decode cX7_tallyNow 8 = .ok (.iconst 5, 1) := by decide +kernel
theorem dX7_tallyNow_9 : decode cX7_tallyNow 9 = .ok (.invokevirtual 84, 3) := by decide +kernel
theorem dX7_tallyNow_12 : decode cX7_tallyNow 12 = .ok (.iadd, 1) := by decide +kernel
theorem dX7_tallyNow_13 : decode cX7_tallyNow 13 = .ok (.aload_n 0, 1) := by decide +kernel
theorem dX7_tallyNow_14 : decode cX7_tallyNow 14 = .ok (.getfield 38, 3) := by decide +kernel
theorem dX7_tallyNow_17 : decode cX7_tallyNow 17 = .ok (.iload_n 1, 1) := by decide +kernel
theorem dX7_tallyNow_18 : decode cX7_tallyNow 18 = .ok (.iconst 5, 1) := by decide +kernel
theorem dX7_tallyNow_19 : decode cX7_tallyNow 19 = .ok (.invokestatic 63, 3) := by decide +kernel
theorem dX7_tallyNow_22 : decode cX7_tallyNow 22 = .ok (.iaload, 1) := by decide +kernel
theorem dX7_tallyNow_23 : decode cX7_tallyNow 23 = .ok (.isub, 1) := by decide +kernel
theorem dX7_tallyNow_24 : decode cX7_tallyNow 24 = .ok (.aload_n 0, 1) := by decide +kernel
theorem dX7_tallyNow_25 : decode cX7_tallyNow 25 = .ok (.getfield 38, 3) := by decide +kernel
theorem dX7_tallyNow_28 : decode cX7_tallyNow 28 = .ok (.iload_n 2, 1) := by decide +kernel
theorem dX7_tallyNow_29 : decode cX7_tallyNow 29 = .ok (.iconst 5, 1) := by decide +kernel
theorem dX7_tallyNow_30 : decode cX7_tallyNow 30 = .ok (.invokestatic 63, 3) := by decide +kernel
theorem dX7_tallyNow_33 : decode cX7_tallyNow 33 = .ok (.iaload, 1) := by decide +kernel
theorem dX7_tallyNow_34 : decode cX7_tallyNow 34 = .ok (.isub, 1) := by decide +kernel
theorem dX7_tallyNow_35 : decode cX7_tallyNow 35 = .ok (.istore_n 3, 1) := by decide +kernel
theorem dX7_tallyNow_36 : decode cX7_tallyNow 36 = .ok (.aload_n 0, 1) := by decide +kernel
theorem dX7_tallyNow_37 : decode cX7_tallyNow 37 = .ok (.invokevirtual 156, 3) := by decide +kernel
theorem dX7_tallyNow_40 : decode cX7_tallyNow 40 = .ok (.aload_n 0, 1) := by decide +kernel
theorem dX7_tallyNow_41 : decode cX7_tallyNow 41 = .ok (.getfield 41, 3) := by decide +kernel
theorem dX7_tallyNow_44 : decode cX7_tallyNow 44 = .ok (.iconst 0, 1) := by decide +kernel
theorem dX7_tallyNow_45 : decode cX7_tallyNow 45 = .ok (.dup2, 1) := by decide +kernel
theorem dX7_tallyNow_46 : decode cX7_tallyNow 46 = .ok (.iaload, 1) := by decide +kernel
theorem dX7_tallyNow_47 : decode cX7_tallyNow 47 = .ok (.iconst 1, 1) := by decide +kernel
theorem dX7_tallyNow_48 : decode cX7_tallyNow 48 = .ok (.iadd, 1) := by decide +kernel
theorem dX7_tallyNow_49 : decode cX7_tallyNow 49 = .ok (.iastore, 1) := by decide +kernel
theorem dX7_tallyNow_50 : decode cX7_tallyNow 50 = .ok (.aload_n 0, 1) := by decide +kernel
theorem dX7_tallyNow_51 : decode cX7_tallyNow 51 = .ok (.getfield 41, 3) := by decide +kernel
theorem dX7_tallyNow_54 : decode cX7_tallyNow 54 = .ok (.iconst 1, 1) := by decide +kernel
theorem dX7_tallyNow_55 : decode cX7_tallyNow 55 = .ok (.dup2, 1) := by decide +kernel
theorem dX7_tallyNow_56 : decode cX7_tallyNow 56 = .ok (.iaload, 1) := by decide +kernel
theorem dX7_tallyNow_57 : decode cX7_tallyNow 57 = .ok (.aload_n 0, 1) := by decide +kernel
theorem dX7_tallyNow_58 : decode cX7_tallyNow 58 = .ok (.iload_n 1, 1) := by decide +kernel
theorem dX7_tallyNow_59 : decode cX7_tallyNow 59 = .ok (.invokevirtual 250, 3) := by decide +kernel
theorem dX7_tallyNow_62 : decode cX7_tallyNow 62 = .ok (.ifCond .ne 11, 3) := by decide +kernel
theorem dX7_tallyNow_65 : decode cX7_tallyNow 65 = .ok (.aload_n 0, 1) := by decide +kernel
theorem dX7_tallyNow_66 : decode cX7_tallyNow 66 = .ok (.iload_n 2, 1) := by decide +kernel
theorem dX7_tallyNow_67 : decode cX7_tallyNow 67 = .ok (.invokevirtual 250, 3) := by decide +kernel
theorem dX7_tallyNow_70 : decode cX7_tallyNow 70 = .ok (.ifCond .eq 7, 3) := by decide +kernel
theorem dX7_tallyNow_73 : decode cX7_tallyNow 73 = .ok (.iconst 1, 1) := by decide +kernel
theorem dX7_tallyNow_74 : decode cX7_tallyNow 74 = .ok (.goto 4, 3) := by decide +kernel
theorem dX7_tallyNow_77 : decode cX7_tallyNow 77 = .ok (.iconst 0, 1) := by decide +kernel
theorem dX7_tallyNow_78 : decode cX7_tallyNow 78 = .ok (.iadd, 1) := by decide +kernel
theorem dX7_tallyNow_79 : decode cX7_tallyNow 79 = .ok (.iastore, 1) := by decide +kernel
theorem dX7_tallyNow_80 : decode cX7_tallyNow 80 = .ok (.aload_n 0, 1) := by decide +kernel
theorem dX7_tallyNow_81 : decode cX7_tallyNow 81 = .ok (.iload_n 1, 1) := by decide +kernel
theorem dX7_tallyNow_82 : decode cX7_tallyNow 82 = .ok (.invokevirtual 250, 3) := by decide +kernel
theorem dX7_tallyNow_85 : decode cX7_tallyNow 85 = .ok (.ifCond .eq 16, 3) := by decide +kernel
theorem dX7_tallyNow_88 : decode cX7_tallyNow 88 = .ok (.aload_n 0, 1) := by decide +kernel
theorem dX7_tallyNow_89 : decode cX7_tallyNow 89 = .ok (.aload_n 0, 1) := by decide +kernel
theorem dX7_tallyNow_90 : decode cX7_tallyNow 90 = .ok (.iload_n 1, 1) := by decide +kernel
theorem dX7_tallyNow_91 : decode cX7_tallyNow 91 = .ok (.iconst 0, 1) := by decide +kernel
theorem dX7_tallyNow_92 : decode cX7_tallyNow 92 = .ok (.invokevirtual 84, 3) := by decide +kernel
theorem dX7_tallyNow_95 : decode cX7_tallyNow 95 = .ok (.invokevirtual 146, 3) := by decide +kernel
theorem dX7_tallyNow_98 : decode cX7_tallyNow 98 = .ok (.ifCond .gt 24, 3) := by decide +kernel
theorem dX7_tallyNow_101 : decode cX7_tallyNow 101 = .ok (.aload_n 0, 1) := by decide +kernel
theorem dX7_tallyNow_102 : decode cX7_tallyNow 102 = .ok (.iload_n 2, 1) := by decide +kernel
theorem dX7_tallyNow_103 : decode cX7_tallyNow 103 = .ok (.invokevirtual 250, 3) := by decide +kernel
theorem dX7_tallyNow_106 : decode cX7_tallyNow 106 = .ok (.ifCond .eq 20, 3) := by decide +kernel
theorem dX7_tallyNow_109 : decode cX7_tallyNow 109 = .ok (.aload_n 0, 1) := by decide +kernel
theorem dX7_tallyNow_110 : decode cX7_tallyNow 110 = .ok (.aload_n 0, 1) := by decide +kernel
theorem dX7_tallyNow_111 : decode cX7_tallyNow 111 = .ok (.iload_n 2, 1) := by decide +kernel
theorem dX7_tallyNow_112 : decode cX7_tallyNow 112 = .ok (.iconst 0, 1) := by decide +kernel
theorem dX7_tallyNow_113 : decode cX7_tallyNow 113 = .ok (.invokevirtual 84, 3) := by decide +kernel
theorem dX7_tallyNow_116 : decode cX7_tallyNow 116 = .ok (.invokevirtual 146, 3) := by decide +kernel
theorem dX7_tallyNow_119 : decode cX7_tallyNow 119 = .ok (.ifCond .le 7, 3) := by decide +kernel
theorem dX7_tallyNow_122 : decode cX7_tallyNow 122 = .ok (.iconst 1, 1) := by decide +kernel
theorem dX7_tallyNow_123 : decode cX7_tallyNow 123 = .ok (.goto 4, 3) := by decide +kernel
theorem dX7_tallyNow_126 : decode cX7_tallyNow 126 = .ok (.iconst 0, 1) := by decide +kernel
theorem dX7_tallyNow_127 : decode cX7_tallyNow 127 = .ok (.istore 4, 2) := by decide +kernel
theorem dX7_tallyNow_129 : decode cX7_tallyNow 129 = .ok (.aload_n 0, 1) := by decide +kernel
theorem dX7_tallyNow_130 : decode cX7_tallyNow 130 = .ok (.getfield 41, 3) := by decide +kernel
theorem dX7_tallyNow_133 : decode cX7_tallyNow 133 = .ok (.iconst 2, 1) := by decide +kernel
theorem dX7_tallyNow_134 : decode cX7_tallyNow 134 = .ok (.dup2, 1) := by decide +kernel
theorem dX7_tallyNow_135 : decode cX7_tallyNow 135 = .ok (.iaload, 1) := by decide +kernel
theorem dX7_tallyNow_136 : decode cX7_tallyNow 136 = .ok (.iload 4, 2) := by decide +kernel
theorem dX7_tallyNow_138 : decode cX7_tallyNow 138 = .ok (.ifCond .eq 7, 3) := by decide +kernel
theorem dX7_tallyNow_141 : decode cX7_tallyNow 141 = .ok (.iconst 1, 1) := by decide +kernel
theorem dX7_tallyNow_142 : decode cX7_tallyNow 142 = .ok (.goto 4, 3) := by decide +kernel
theorem dX7_tallyNow_145 : decode cX7_tallyNow 145 = .ok (.iconst 0, 1) := by decide +kernel
theorem dX7_tallyNow_146 : decode cX7_tallyNow 146 = .ok (.iadd, 1) := by decide +kernel
theorem dX7_tallyNow_147 : decode cX7_tallyNow 147 = .ok (.iastore, 1) := by decide +kernel
theorem dX7_tallyNow_148 : decode cX7_tallyNow 148 = .ok (.aload_n 0, 1) := by decide +kernel
theorem dX7_tallyNow_149 : decode cX7_tallyNow 149 = .ok (.getfield 41, 3) := by decide +kernel
theorem dX7_tallyNow_152 : decode cX7_tallyNow 152 = .ok (.iconst 3, 1) := by decide +kernel
theorem dX7_tallyNow_153 : decode cX7_tallyNow 153 = .ok (.iaload, 1) := by decide +kernel
theorem dX7_tallyNow_154 : decode cX7_tallyNow 154 = .ok (.ifCond .lt 13, 3) := by decide +kernel
theorem dX7_tallyNow_157 : decode cX7_tallyNow 157 = .ok (.iload_n 3, 1) := by decide +kernel
theorem dX7_tallyNow_158 : decode cX7_tallyNow 158 = .ok (.aload_n 0, 1) := by decide +kernel
theorem dX7_tallyNow_159 : decode cX7_tallyNow 159 = .ok (.getfield 41, 3) := by decide +kernel
theorem dX7_tallyNow_162 : decode cX7_tallyNow 162 = .ok (.iconst 3, 1) := by decide +kernel
theorem dX7_tallyNow_163 : decode cX7_tallyNow 163 = .ok (.iaload, 1) := by decide +kernel
theorem dX7_tallyNow_164 : decode cX7_tallyNow 164 = .ok (.if_icmp .ge 10, 3) := by decide +kernel
theorem dX7_tallyNow_167 : decode cX7_tallyNow 167 = .ok (.aload_n 0, 1) := by decide +kernel
theorem dX7_tallyNow_168 : decode cX7_tallyNow 168 = .ok (.getfield 41, 3) := by decide +kernel
theorem dX7_tallyNow_171 : decode cX7_tallyNow 171 = .ok (.iconst 3, 1) := by decide +kernel
theorem dX7_tallyNow_172 : decode cX7_tallyNow 172 = .ok (.iload_n 3, 1) := by decide +kernel
theorem dX7_tallyNow_173 : decode cX7_tallyNow 173 = .ok (.iastore, 1) := by decide +kernel
theorem dX7_tallyNow_174 : decode cX7_tallyNow 174 = .ok (.iload_n 3, 1) := by decide +kernel
theorem dX7_tallyNow_175 : decode cX7_tallyNow 175 = .ok (.aload_n 0, 1) := by decide +kernel
theorem dX7_tallyNow_176 : decode cX7_tallyNow 176 = .ok (.getfield 41, 3) := by decide +kernel
theorem dX7_tallyNow_179 : decode cX7_tallyNow 179 = .ok (.iconst 4, 1) := by decide +kernel
theorem dX7_tallyNow_180 : decode cX7_tallyNow 180 = .ok (.iaload, 1) := by decide +kernel
theorem dX7_tallyNow_181 : decode cX7_tallyNow 181 = .ok (.if_icmp .le 10, 3) := by decide +kernel
theorem dX7_tallyNow_184 : decode cX7_tallyNow 184 = .ok (.aload_n 0, 1) := by decide +kernel
theorem dX7_tallyNow_185 : decode cX7_tallyNow 185 = .ok (.getfield 41, 3) := by decide +kernel
theorem dX7_tallyNow_188 : decode cX7_tallyNow 188 = .ok (.iconst 4, 1) := by decide +kernel
theorem dX7_tallyNow_189 : decode cX7_tallyNow 189 = .ok (.iload_n 3, 1) := by decide +kernel
theorem dX7_tallyNow_190 : decode cX7_tallyNow 190 = .ok (.iastore, 1) := by decide +kernel
theorem dX7_tallyNow_191 : decode cX7_tallyNow 191 = .ok (.return_, 1) := by decide +kernel
theorem dX7_orders_0 : decode cX7_orders 0 = .ok (.aload_n 0, 1) := by decide +kernel
theorem dX7_orders_1 : decode cX7_orders 1 = .ok (.iload_n 1, 1) := by decide +kernel
theorem dX7_orders_2 : decode cX7_orders 2 = .ok (.invokevirtual 284, 3) := by decide +kernel
theorem dX7_orders_5 : decode cX7_orders 5 = .ok (.ifCond .eq 43, 3) := by decide +kernel
theorem dX7_orders_8 : decode cX7_orders 8 = .ok (.aload_n 0, 1) := by decide +kernel
theorem dX7_orders_9 : decode cX7_orders 9 = .ok (.iload_n 2, 1) := by decide +kernel
theorem dX7_orders_10 : decode cX7_orders 10 = .ok (.invokevirtual 284, 3) := by decide +kernel
theorem dX7_orders_13 : decode cX7_orders 13 = .ok (.ifCond .eq 35, 3) := by decide +kernel
theorem dX7_orders_16 : decode cX7_orders 16 = .ok (.iload_n 1, 1) := by decide +kernel
theorem dX7_orders_17 : decode cX7_orders 17 = .ok (.iload_n 2, 1) := by decide +kernel
theorem dX7_orders_18 : decode cX7_orders 18 = .ok (.if_icmp .eq 30, 3) := by decide +kernel
theorem dX7_orders_21 : decode cX7_orders 21 = .ok (.iload_n 3, 1) := by decide +kernel
theorem dX7_orders_22 : decode cX7_orders 22 = .ok (.iconst 0, 1) := by decide +kernel
theorem dX7_orders_23 : decode cX7_orders 23 = .ok (.iconst 4, 1) := by decide +kernel
theorem dX7_orders_24 : decode cX7_orders 24 = .ok (.invokestatic 69, 3) := by decide +kernel
theorem dX7_orders_27 : decode cX7_orders 27 = .ok (.ifCond .eq 21, 3) := by decide +kernel
theorem dX7_orders_30 : decode cX7_orders 30 = .ok (.aload_n 0, 1) := by decide +kernel
theorem dX7_orders_31 : decode cX7_orders 31 = .ok (.iload_n 1, 1) := by decide +kernel
theorem dX7_orders_32 : decode cX7_orders 32 = .ok (.bipush 38, 2) := by decide +kernel
theorem dX7_orders_34 : decode cX7_orders 34 = .ok (.invokevirtual 84, 3) := by decide +kernel
theorem dX7_orders_37 : decode cX7_orders 37 = .ok (.aload_n 0, 1) := by decide +kernel
theorem dX7_orders_38 : decode cX7_orders 38 = .ok (.iload_n 2, 1) := by decide +kernel
theorem dX7_orders_39 : decode cX7_orders 39 = .ok (.bipush 38, 2) := by decide +kernel
theorem dX7_orders_41 : decode cX7_orders 41 = .ok (.invokevirtual 84, 3) := by decide +kernel
theorem dX7_orders_44 : decode cX7_orders 44 = .ok (.iadd, 1) := by decide +kernel
theorem dX7_orders_45 : decode cX7_orders 45 = .ok (.ifCond .le 5, 3) := by decide +kernel
theorem dX7_orders_48 : decode cX7_orders 48 = .ok (.iconst (-1), 1) := by decide +kernel
theorem dX7_orders_49 : decode cX7_orders 49 = .ok (.ireturn, 1) := by decide +kernel
theorem dX7_orders_50 : decode cX7_orders 50 = .ok (.iconst 0, 1) := by decide +kernel
theorem dX7_orders_51 : decode cX7_orders 51 = .ok (.istore 4, 2) := by decide +kernel
theorem dX7_orders_53 : decode cX7_orders 53 = .ok (.iload 4, 2) := by decide +kernel
theorem dX7_orders_55 : decode cX7_orders 55 = .ok (.iconst 5, 1) := by decide +kernel
theorem dX7_orders_56 : decode cX7_orders 56 = .ok (.if_icmp .ge 27, 3) := by decide +kernel
theorem dX7_orders_59 : decode cX7_orders 59 = .ok (.aload_n 0, 1) := by decide +kernel
theorem dX7_orders_60 : decode cX7_orders 60 = .ok (.getfield 41, 3) := by decide +kernel
theorem dX7_orders_63 : decode cX7_orders 63 = .ok (.iload 4, 2) := by decide +kernel
theorem dX7_orders_65 : decode cX7_orders 65 = .ok (.iload 4, 2) := by decide +kernel
theorem dX7_orders_67 : decode cX7_orders 67 = .ok (.iconst 3, 1) := by decide +kernel
theorem dX7_orders_68 : decode cX7_orders 68 = .ok (.if_icmp .ne 7, 3) := by decide +kernel
theorem dX7_orders_71 : decode cX7_orders 71 = .ok (.iconst (-1), 1) := by decide +kernel
theorem dX7_orders_72 : decode cX7_orders 72 = .ok (.goto 4, 3) := by decide +kernel
theorem dX7_orders_75 : decode cX7_orders 75 = .ok (.iconst 0, 1) := by decide +kernel
theorem dX7_orders_76 : decode cX7_orders 76 = .ok (.iastore, 1) := by decide +kernel
theorem dX7_orders_77 : decode cX7_orders 77 = .ok (.iinc 4 1, 3) := by decide +kernel
theorem dX7_orders_80 : decode cX7_orders 80 = .ok (.goto (-27), 3) := by decide +kernel
theorem dX7_orders_83 : decode cX7_orders 83 = .ok (.aload_n 0, 1) := by decide +kernel
theorem dX7_orders_84 : decode cX7_orders 84 = .ok (.invokevirtual 332, 3) := by decide +kernel
theorem dX7_orders_87 : decode cX7_orders 87 = .ok (.iconst 0, 1) := by decide +kernel
theorem dX7_orders_88 : decode cX7_orders 88 = .ok (.istore 4, 2) := by decide +kernel
theorem dX7_orders_90 : decode cX7_orders 90 = .ok (.iload 4, 2) := by decide +kernel
theorem dX7_orders_92 : decode cX7_orders 92 = .ok (.sipush 256, 3) := by decide +kernel
theorem dX7_orders_95 : decode cX7_orders 95 = .ok (.if_icmp .ge 30, 3) := by decide +kernel
theorem dX7_orders_98 : decode cX7_orders 98 = .ok (.aload_n 0, 1) := by decide +kernel
theorem dX7_orders_99 : decode cX7_orders 99 = .ok (.iload_n 1, 1) := by decide +kernel
theorem dX7_orders_100 : decode cX7_orders 100 = .ok (.iload_n 2, 1) := by decide +kernel
theorem dX7_orders_101 : decode cX7_orders 101 = .ok (.iload 4, 2) := by decide +kernel
theorem dX7_orders_103 : decode cX7_orders 103 = .ok (.invokevirtual 347, 3) := by decide +kernel
theorem dX7_orders_106 : decode cX7_orders 106 = .ok (.ifCond .eq 9, 3) := by decide +kernel
theorem dX7_orders_109 : decode cX7_orders 109 = .ok (.aload_n 0, 1) := by decide +kernel
theorem dX7_orders_110 : decode cX7_orders 110 = .ok (.iload_n 1, 1) := by decide +kernel
theorem dX7_orders_111 : decode cX7_orders 111 = .ok (.iload_n 2, 1) := by decide +kernel
theorem dX7_orders_112 : decode cX7_orders 112 = .ok (.invokevirtual 350, 3) := by decide +kernel
theorem dX7_orders_115 : decode cX7_orders 115 = .ok (.aload_n 0, 1) := by decide +kernel
theorem dX7_orders_116 : decode cX7_orders 116 = .ok (.invokevirtual 335, 3) := by decide +kernel
theorem dX7_orders_119 : decode cX7_orders 119 = .ok (.iinc 4 1, 3) := by decide +kernel
theorem dX7_orders_122 : decode cX7_orders 122 = .ok (.goto (-32), 3) := by decide +kernel
theorem dX7_orders_125 : decode cX7_orders 125 = .ok (.aload_n 0, 1) := by decide +kernel
theorem dX7_orders_126 : decode cX7_orders 126 = .ok (.getfield 41, 3) := by decide +kernel
theorem dX7_orders_129 : decode cX7_orders 129 = .ok (.iload_n 3, 1) := by decide +kernel
theorem dX7_orders_130 : decode cX7_orders 130 = .ok (.iaload, 1) := by decide +kernel
theorem dX7_orders_131 : decode cX7_orders 131 = .ok (.ireturn, 1) := by decide +kernel
theorem dX7_keepAct_0 : decode cX7_keepAct 0 = .ok (.aload_n 0, 1) := by decide +kernel
theorem dX7_keepAct_1 : decode cX7_keepAct 1 = .ok (.getfield 353, 3) := by decide +kernel
theorem dX7_keepAct_4 : decode cX7_keepAct 4 = .ok (.bipush 12, 2) := by decide +kernel
theorem dX7_keepAct_6 : decode cX7_keepAct 6 = .ok (.if_icmp .ne 44, 3) := by decide +kernel
theorem dX7_keepAct_9 : decode cX7_keepAct 9 = .ok (.iconst 0, 1) := by decide +kernel
theorem dX7_keepAct_10 : decode cX7_keepAct 10 = .ok (.istore_n 1, 1) := by decide +kernel
theorem dX7_keepAct_11 : decode cX7_keepAct 11 = .ok (.iload_n 1, 1) := by decide +kernel
theorem dX7_keepAct_12 : decode cX7_keepAct 12 = .ok (.sipush 9552, 3) := by decide +kernel
theorem dX7_keepAct_15 : decode cX7_keepAct 15 = .ok (.if_icmp .ge 25, 3) := by decide +kernel
theorem dX7_keepAct_18 : decode cX7_keepAct 18 = .ok (.aload_n 0, 1) := by decide +kernel
theorem dX7_keepAct_19 : decode cX7_keepAct 19 = .ok (.getfield 44, 3) := by decide +kernel
theorem dX7_keepAct_22 : decode cX7_keepAct 22 = .ok (.iload_n 1, 1) := by decide +kernel
theorem dX7_keepAct_23 : decode cX7_keepAct 23 = .ok (.aload_n 0, 1) := by decide +kernel
theorem dX7_keepAct_24 : decode cX7_keepAct 24 = .ok (.getfield 44, 3) := by decide +kernel
theorem dX7_keepAct_27 : decode cX7_keepAct 27 = .ok (.iload_n 1, 1) := by decide +kernel
theorem dX7_keepAct_28 : decode cX7_keepAct 28 = .ok (.sipush 796, 3) := by decide +kernel
theorem dX7_keepAct_31 : decode cX7_keepAct 31 = .ok (.iadd, 1) := by decide +kernel
theorem dX7_keepAct_32 : decode cX7_keepAct 32 = .ok (.iaload, 1) := by decide +kernel
theorem dX7_keepAct_33 : decode cX7_keepAct 33 = .ok (.iastore, 1) := by decide +kernel
theorem dX7_keepAct_34 : decode cX7_keepAct 34 = .ok (.iinc 1 1, 3) := by decide +kernel
theorem dX7_keepAct_37 : decode cX7_keepAct 37 = .ok (.goto (-26), 3) := by decide +kernel
theorem dX7_keepAct_40 : decode cX7_keepAct 40 = .ok (.aload_n 0, 1) := by decide +kernel
theorem dX7_keepAct_41 : decode cX7_keepAct 41 = .ok (.dup, 1) := by decide +kernel
theorem dX7_keepAct_42 : decode cX7_keepAct 42 = .ok (.getfield 353, 3) := by decide +kernel
theorem dX7_keepAct_45 : decode cX7_keepAct 45 = .ok (.iconst 1, 1) := by decide +kernel
theorem dX7_keepAct_46 : decode cX7_keepAct 46 = .ok (.isub, 1) := by decide +kernel
theorem dX7_keepAct_47 : decode cX7_keepAct 47 = .ok (.putfield 353, 3) := by decide +kernel
theorem dX7_keepAct_50 : decode cX7_keepAct 50 = .ok (.iconst 0, 1) := by decide +kernel
theorem dX7_keepAct_51 : decode cX7_keepAct 51 = .ok (.istore_n 1, 1) := by decide +kernel
theorem dX7_keepAct_52 : decode cX7_keepAct 52 = .ok (.iload_n 1, 1) := by decide +kernel
theorem dX7_keepAct_53 : decode cX7_keepAct 53 = .ok (.sipush 796, 3) := by decide +kernel
theorem dX7_keepAct_56 : decode cX7_keepAct 56 = .ok (.if_icmp .ge 30, 3) := by decide +kernel
theorem dX7_keepAct_59 : decode cX7_keepAct 59 = .ok (.aload_n 0, 1) := by decide +kernel
theorem dX7_keepAct_60 : decode cX7_keepAct 60 = .ok (.getfield 44, 3) := by decide +kernel
theorem dX7_keepAct_63 : decode cX7_keepAct 63 = .ok (.sipush 796, 3) := by decide +kernel
theorem dX7_keepAct_66 : decode cX7_keepAct 66 = .ok (.aload_n 0, 1) := by decide +kernel
theorem dX7_keepAct_67 : decode cX7_keepAct 67 = .ok (.getfield 353, 3) := by decide +kernel
theorem dX7_keepAct_70 : decode cX7_keepAct 70 = .ok (.imul, 1) := by decide +kernel
theorem dX7_keepAct_71 : decode cX7_keepAct 71 = .ok (.iload_n 1, 1) := by decide +kernel
theorem dX7_keepAct_72 : decode cX7_keepAct 72 = .ok (.iadd, 1) := by decide +kernel
theorem dX7_keepAct_73 : decode cX7_keepAct 73 = .ok (.aload_n 0, 1) := by decide +kernel
theorem dX7_keepAct_74 : decode cX7_keepAct 74 = .ok (.getfield 7, 3) := by decide +kernel
theorem dX7_keepAct_77 : decode cX7_keepAct 77 = .ok (.iload_n 1, 1) := by decide +kernel
theorem dX7_keepAct_78 : decode cX7_keepAct 78 = .ok (.iaload, 1) := by decide +kernel
theorem dX7_keepAct_79 : decode cX7_keepAct 79 = .ok (.iastore, 1) := by decide +kernel
theorem dX7_keepAct_80 : decode cX7_keepAct 80 = .ok (.iinc 1 1, 3) := by decide +kernel
theorem dX7_keepAct_83 : decode cX7_keepAct 83 = .ok (.goto (-31), 3) := by decide +kernel
theorem dX7_keepAct_86 : decode cX7_keepAct 86 = .ok (.aload_n 0, 1) := by decide +kernel
theorem dX7_keepAct_87 : decode cX7_keepAct 87 = .ok (.dup, 1) := by decide +kernel
theorem dX7_keepAct_88 : decode cX7_keepAct 88 = .ok (.getfield 353, 3) := by decide +kernel
theorem dX7_keepAct_91 : decode cX7_keepAct 91 = .ok (.iconst 1, 1) := by decide +kernel
theorem dX7_keepAct_92 : decode cX7_keepAct 92 = .ok (.iadd, 1) := by decide +kernel
theorem dX7_keepAct_93 : decode cX7_keepAct 93 = .ok (.putfield 353, 3) := by decide +kernel
theorem dX7_keepAct_96 : decode cX7_keepAct 96 = .ok (.aload_n 0, 1) := by decide +kernel
theorem dX7_keepAct_97 : decode cX7_keepAct 97 = .ok (.iconst 0, 1) := by decide +kernel
theorem dX7_keepAct_98 : decode cX7_keepAct 98 = .ok (.putfield 356, 3) := by decide +kernel
theorem dX7_keepAct_101 : decode cX7_keepAct 101 = .ok (.return_, 1) := by decide +kernel
theorem dX7_swapAll_0 : decode cX7_swapAll 0 = .ok (.iconst 0, 1) := by decide +kernel
theorem dX7_swapAll_1 : decode cX7_swapAll 1 = .ok (.istore_n 1, 1) := by decide +kernel
theorem dX7_swapAll_2 : decode cX7_swapAll 2 = .ok (.iload_n 1, 1) := by decide +kernel
theorem dX7_swapAll_3 : decode cX7_swapAll 3 = .ok (.sipush 796, 3) := by decide +kernel
theorem dX7_swapAll_6 : decode cX7_swapAll 6 = .ok (.if_icmp .ge 53, 3) := by decide +kernel
theorem dX7_swapAll_9 : decode cX7_swapAll 9 = .ok (.aload_n 0, 1) := by decide +kernel
theorem dX7_swapAll_10 : decode cX7_swapAll 10 = .ok (.getfield 44, 3) := by decide +kernel
theorem dX7_swapAll_13 : decode cX7_swapAll 13 = .ok (.sipush 796, 3) := by decide +kernel
theorem dX7_swapAll_16 : decode cX7_swapAll 16 = .ok (.aload_n 0, 1) := by decide +kernel
theorem dX7_swapAll_17 : decode cX7_swapAll 17 = .ok (.getfield 353, 3) := by decide +kernel
theorem dX7_swapAll_20 : decode cX7_swapAll 20 = .ok (.imul, 1) := by decide +kernel
theorem dX7_swapAll_21 : decode cX7_swapAll 21 = .ok (.iload_n 1, 1) := by decide +kernel
theorem dX7_swapAll_22 : decode cX7_swapAll 22 = .ok (.iadd, 1) := by decide +kernel
theorem dX7_swapAll_23 : decode cX7_swapAll 23 = .ok (.iaload, 1) := by decide +kernel
theorem dX7_swapAll_24 : decode cX7_swapAll 24 = .ok (.istore_n 2, 1) := by decide +kernel
theorem dX7_swapAll_25 : decode cX7_swapAll 25 = .ok (.aload_n 0, 1) := by decide +kernel
theorem dX7_swapAll_26 : decode cX7_swapAll 26 = .ok (.getfield 44, 3) := by decide +kernel
theorem dX7_swapAll_29 : decode cX7_swapAll 29 = .ok (.sipush 796, 3) := by decide +kernel
theorem dX7_swapAll_32 : decode cX7_swapAll 32 = .ok (.aload_n 0, 1) := by decide +kernel
theorem dX7_swapAll_33 : decode cX7_swapAll 33 = .ok (.getfield 353, 3) := by decide +kernel
theorem dX7_swapAll_36 : decode cX7_swapAll 36 = .ok (.imul, 1) := by decide +kernel
theorem dX7_swapAll_37 : decode cX7_swapAll 37 = .ok (.iload_n 1, 1) := by decide +kernel
theorem dX7_swapAll_38 : decode cX7_swapAll 38 = .ok (.iadd, 1) := by decide +kernel
theorem dX7_swapAll_39 : decode cX7_swapAll 39 = .ok (.aload_n 0, 1) := by decide +kernel
theorem dX7_swapAll_40 : decode cX7_swapAll 40 = .ok (.getfield 7, 3) := by decide +kernel
theorem dX7_swapAll_43 : decode cX7_swapAll 43 = .ok (.iload_n 1, 1) := by decide +kernel
theorem dX7_swapAll_44 : decode cX7_swapAll 44 = .ok (.iaload, 1) := by decide +kernel
theorem dX7_swapAll_45 : decode cX7_swapAll 45 = .ok (.iastore, 1) := by decide +kernel
theorem dX7_swapAll_46 : decode cX7_swapAll 46 = .ok (.aload_n 0, 1) := by decide +kernel
theorem dX7_swapAll_47 : decode cX7_swapAll 47 = .ok (.getfield 7, 3) := by decide +kernel
theorem dX7_swapAll_50 : decode cX7_swapAll 50 = .ok (.iload_n 1, 1) := by decide +kernel
theorem dX7_swapAll_51 : decode cX7_swapAll 51 = .ok (.iload_n 2, 1) := by decide +kernel
theorem dX7_swapAll_52 : decode cX7_swapAll 52 = .ok (.iastore, 1) := by decide +kernel
theorem dX7_swapAll_53 : decode cX7_swapAll 53 = .ok (.iinc 1 1, 3) := by decide +kernel
theorem dX7_swapAll_56 : decode cX7_swapAll 56 = .ok (.goto (-54), 3) := by decide +kernel
theorem dX7_swapAll_59 : decode cX7_swapAll 59 = .ok (.return_, 1) := by decide +kernel
theorem dX7_undo_0 : decode cX7_undo 0 = .ok (.aload_n 0, 1) := by decide +kernel
theorem dX7_undo_1 : decode cX7_undo 1 = .ok (.getfield 353, 3) := by decide +kernel
theorem dX7_undo_4 : decode cX7_undo 4 = .ok (.ifCond .ne 5, 3) := by decide +kernel
theorem dX7_undo_7 : decode cX7_undo 7 = .ok (.iconst 0, 1) := by decide +kernel
theorem dX7_undo_8 : decode cX7_undo 8 = .ok (.ireturn, 1) := by decide +kernel
theorem dX7_undo_9 : decode cX7_undo 9 = .ok (.aload_n 0, 1) := by decide +kernel
theorem dX7_undo_10 : decode cX7_undo 10 = .ok (.dup, 1) := by decide +kernel
theorem dX7_undo_11 : decode cX7_undo 11 = .ok (.getfield 353, 3) := by decide +kernel
theorem dX7_undo_14 : decode cX7_undo 14 = .ok (.iconst 1, 1) := by decide +kernel
theorem dX7_undo_15 : decode cX7_undo 15 = .ok (.isub, 1) := by decide +kernel
theorem dX7_undo_16 : decode cX7_undo 16 = .ok (.putfield 353, 3) := by decide +kernel
theorem dX7_undo_19 : decode cX7_undo 19 = .ok (.aload_n 0, 1) := by decide +kernel
theorem dX7_undo_20 : decode cX7_undo 20 = .ok (.dup, 1) := by decide +kernel
theorem dX7_undo_21 : decode cX7_undo 21 = .ok (.getfield 356, 3) := by decide +kernel
theorem dX7_undo_24 : decode cX7_undo 24 = .ok (.iconst 1, 1) := by decide +kernel
theorem dX7_undo_25 : decode cX7_undo 25 = .ok (.iadd, 1) := by decide +kernel
theorem dX7_undo_26 : decode cX7_undo 26 = .ok (.putfield 356, 3) := by decide +kernel
theorem dX7_undo_29 : decode cX7_undo 29 = .ok (.aload_n 0, 1) := by decide +kernel
theorem dX7_undo_30 : decode cX7_undo 30 = .ok (.invokevirtual 359, 3) := by decide +kernel
theorem dX7_undo_33 : decode cX7_undo 33 = .ok (.iconst 1, 1) := by decide +kernel
theorem dX7_undo_34 : decode cX7_undo 34 = .ok (.ireturn, 1) := by decide +kernel
theorem dX7_redo_0 : decode cX7_redo 0 = .ok (.aload_n 0, 1) := by decide +kernel
theorem dX7_redo_1 : decode cX7_redo 1 = .ok (.getfield 356, 3) := by decide +kernel
theorem dX7_redo_4 : decode cX7_redo 4 = .ok (.ifCond .ne 5, 3) := by decide +kernel
theorem dX7_redo_7 : decode cX7_redo 7 = .ok (.iconst 0, 1) := by decide +kernel
theorem dX7_redo_8 : decode cX7_redo 8 = .ok (.ireturn, 1) := by decide +kernel
theorem dX7_redo_9 : decode cX7_redo 9 = .ok (.aload_n 0, 1) := by decide +kernel
theorem dX7_redo_10 : decode cX7_redo 10 = .ok (.invokevirtual 359, 3) := by decide +kernel
theorem dX7_redo_13 : decode cX7_redo 13 = .ok (.aload_n 0, 1) := by decide +kernel
theorem dX7_redo_14 : decode cX7_redo 14 = .ok (.dup, 1) := by decide +kernel
theorem dX7_redo_15 : decode cX7_redo 15 = .ok (.getfield 353, 3) := by decide +kernel
theorem dX7_redo_18 : decode cX7_redo 18 = .ok (.iconst 1, 1) := by decide +kernel
theorem dX7_redo_19 : decode cX7_redo 19 = .ok (.iadd, 1) := by decide +kernel
theorem dX7_redo_20 : decode cX7_redo 20 = .ok (.putfield 353, 3) := by decide +kernel
theorem dX7_redo_23 : decode cX7_redo 23 = .ok (.aload_n 0, 1) := by decide +kernel
theorem dX7_redo_24 : decode cX7_redo 24 = .ok (.dup, 1) := by decide +kernel
theorem dX7_redo_25 : decode cX7_redo 25 = .ok (.getfield 356, 3) := by decide +kernel
theorem dX7_redo_28 : decode cX7_redo 28 = .ok (.iconst 1, 1) := by decide +kernel
theorem dX7_redo_29 : decode cX7_redo 29 = .ok (.isub, 1) := by decide +kernel
theorem dX7_redo_30 : decode cX7_redo 30 = .ok (.putfield 356, 3) := by decide +kernel
theorem dX7_redo_33 : decode cX7_redo 33 = .ok (.iconst 1, 1) := by decide +kernel
theorem dX7_redo_34 : decode cX7_redo 34 = .ok (.ireturn, 1) := by decide +kernel
theorem dX7_image_0 : decode cX7_image 0 = .ok (.iload_n 1, 1) := by decide +kernel
theorem dX7_image_1 : decode cX7_image 1 = .ok (.iconst 0, 1) := by decide +kernel
theorem dX7_image_2 : decode cX7_image 2 = .ok (.iconst 1, 1) := by decide +kernel
theorem dX7_image_3 : decode cX7_image 3 = .ok (.invokestatic 69, 3) := by decide +kernel
theorem dX7_image_6 : decode cX7_image 6 = .ok (.ifCond .ne 5, 3) := by decide +kernel
theorem dX7_image_9 : decode cX7_image 9 = .ok (.iconst (-1), 1) := by decide +kernel
theorem dX7_image_10 : decode cX7_image 10 = .ok (.ireturn, 1) := by decide +kernel
theorem dX7_image_11 : decode cX7_image 11 = .ok (.iconst 0, 1) := by decide +kernel
theorem dX7_image_12 : decode cX7_image 12 = .ok (.istore_n 2, 1) := by decide +kernel
theorem dX7_image_13 : decode cX7_image 13 = .ok (.iload_n 2, 1) := by decide +kernel
theorem dX7_image_14 : decode cX7_image 14 = .ok (.sipush 796, 3) := by decide +kernel
theorem dX7_image_17 : decode cX7_image 17 = .ok (.if_icmp .ge 27, 3) := by decide +kernel
theorem dX7_image_20 : decode cX7_image 20 = .ok (.aload_n 0, 1) := by decide +kernel
theorem dX7_image_21 : decode cX7_image 21 = .ok (.getfield 47, 3) := by decide +kernel
theorem dX7_image_24 : decode cX7_image 24 = .ok (.sipush 796, 3) := by decide +kernel
theorem dX7_image_27 : decode cX7_image 27 = .ok (.iload_n 1, 1) := by decide +kernel
theorem dX7_image_28 : decode cX7_image 28 = .ok (.imul, 1) := by decide +kernel
theorem dX7_image_29 : decode cX7_image 29 = .ok (.iload_n 2, 1) := by decide +kernel
theorem dX7_image_30 : decode cX7_image 30 = .ok (.iadd, 1) := by decide +kernel
theorem dX7_image_31 : decode cX7_image 31 = .ok (.aload_n 0, 1) := by decide +kernel
theorem dX7_image_32 : decode cX7_image 32 = .ok (.getfield 7, 3) := by decide +kernel
theorem dX7_image_35 : decode cX7_image 35 = .ok (.iload_n 2, 1) := by decide +kernel
theorem dX7_image_36 : decode cX7_image 36 = .ok (.iaload, 1) := by decide +kernel
theorem dX7_image_37 : decode cX7_image 37 = .ok (.iastore, 1) := by decide +kernel
theorem dX7_image_38 : decode cX7_image 38 = .ok (.iinc 2 1, 3) := by decide +kernel
theorem dX7_image_41 : decode cX7_image 41 = .ok (.goto (-28), 3) := by decide +kernel
theorem dX7_image_44 : decode cX7_image 44 = .ok (.aload_n 0, 1) := by decide +kernel
theorem dX7_image_45 : decode cX7_image 45 = .ok (.getfield 50, 3) := by decide +kernel
theorem dX7_image_48 : decode cX7_image 48 = .ok (.iload_n 1, 1) := by decide +kernel
theorem dX7_image_49 : decode cX7_image 49 = .ok (.iconst 1, 1) := by decide +kernel
theorem dX7_image_50 : decode cX7_image 50 = .ok (.bastore, 1) := by decide +kernel
theorem dX7_image_51 : decode cX7_image 51 = .ok (.aload_n 0, 1) := by decide +kernel
theorem dX7_image_52 : decode cX7_image 52 = .ok (.invokevirtual 362, 3) := by decide +kernel
theorem dX7_image_55 : decode cX7_image 55 = .ok (.ireturn, 1) := by decide +kernel
theorem dX7_back_0 : decode cX7_back 0 = .ok (.iload_n 1, 1) := by decide +kernel
theorem dX7_back_1 : decode cX7_back 1 = .ok (.iconst 0, 1) := by decide +kernel
theorem dX7_back_2 : decode cX7_back 2 = .ok (.iconst 1, 1) := by decide +kernel
theorem dX7_back_3 : decode cX7_back 3 = .ok (.invokestatic 69, 3) := by decide +kernel
theorem dX7_back_6 : decode cX7_back 6 = .ok (.ifCond .eq 12, 3) := by decide +kernel
theorem dX7_back_9 : decode cX7_back 9 = .ok (.aload_n 0, 1) := by decide +kernel
theorem dX7_back_10 : decode cX7_back 10 = .ok (.getfield 50, 3) := by decide +kernel
theorem dX7_back_13 : decode cX7_back 13 = .ok (.iload_n 1, 1) := by decide +kernel
theorem dX7_back_14 : decode cX7_back 14 = .ok (.baload, 1) := by decide +kernel
theorem dX7_back_15 : decode cX7_back 15 = .ok (.ifCond .ne 5, 3) := by decide +kernel
theorem dX7_back_18 : decode cX7_back 18 = .ok (.iconst (-1), 1) := by decide +kernel
theorem dX7_back_19 : decode cX7_back 19 = .ok (.ireturn, 1) := by decide +kernel
theorem dX7_back_20 : decode cX7_back 20 = .ok (.iconst 0, 1) := by decide +kernel
theorem dX7_back_21 : decode cX7_back 21 = .ok (.istore_n 2, 1) := by decide +kernel
theorem dX7_back_22 : decode cX7_back 22 = .ok (.iload_n 2, 1) := by decide +kernel
theorem dX7_back_23 : decode cX7_back 23 = .ok (.sipush 796, 3) := by decide +kernel
theorem dX7_back_26 : decode cX7_back 26 = .ok (.if_icmp .ge 27, 3) := by decide +kernel
theorem dX7_back_29 : decode cX7_back 29 = .ok (.aload_n 0, 1) := by decide +kernel
theorem dX7_back_30 : decode cX7_back 30 = .ok (.getfield 7, 3) := by decide +kernel
theorem dX7_back_33 : decode cX7_back 33 = .ok (.iload_n 2, 1) := by decide +kernel
theorem dX7_back_34 : decode cX7_back 34 = .ok (.aload_n 0, 1) := by decide +kernel
theorem dX7_back_35 : decode cX7_back 35 = .ok (.getfield 47, 3) := by decide +kernel
theorem dX7_back_38 : decode cX7_back 38 = .ok (.sipush 796, 3) := by decide +kernel
theorem dX7_back_41 : decode cX7_back 41 = .ok (.iload_n 1, 1) := by decide +kernel
theorem dX7_back_42 : decode cX7_back 42 = .ok (.imul, 1) := by decide +kernel
theorem dX7_back_43 : decode cX7_back 43 = .ok (.iload_n 2, 1) := by decide +kernel
theorem dX7_back_44 : decode cX7_back 44 = .ok (.iadd, 1) := by decide +kernel
theorem dX7_back_45 : decode cX7_back 45 = .ok (.iaload, 1) := by decide +kernel
theorem dX7_back_46 : decode cX7_back 46 = .ok (.iastore, 1) := by decide +kernel
theorem dX7_back_47 : decode cX7_back 47 = .ok (.iinc 2 1, 3) := by decide +kernel
theorem dX7_back_50 : decode cX7_back 50 = .ok (.goto (-28), 3) := by decide +kernel
theorem dX7_back_53 : decode cX7_back 53 = .ok (.aload_n 0, 1) := by decide +kernel
theorem dX7_back_54 : decode cX7_back 54 = .ok (.iconst 0, 1) := by decide +kernel
theorem dX7_back_55 : decode cX7_back 55 = .ok (.putfield 353, 3) := by decide +kernel
theorem dX7_back_58 : decode cX7_back 58 = .ok (.aload_n 0, 1) := by decide +kernel
theorem dX7_back_59 : decode cX7_back 59 = .ok (.iconst 0, 1) := by decide +kernel
theorem dX7_back_60 : decode cX7_back 60 = .ok (.putfield 356, 3) := by decide +kernel
theorem dX7_back_63 : decode cX7_back 63 = .ok (.aload_n 0, 1) := by decide +kernel
theorem dX7_back_64 : decode cX7_back 64 = .ok (.invokevirtual 362, 3) := by decide +kernel
theorem dX7_back_67 : decode cX7_back 67 = .ok (.ireturn, 1) := by decide +kernel
theorem dX7_handlesNow_0 : decode cX7_handlesNow 0 = .ok (.iconst 0, 1) := by decide +kernel
theorem dX7_handlesNow_1 : decode cX7_handlesNow 1 = .ok (.istore_n 1, 1) := by decide +kernel
theorem dX7_handlesNow_2 : decode cX7_handlesNow 2 = .ok (.iconst 0, 1) := by decide +kernel
theorem dX7_handlesNow_3 : decode cX7_handlesNow 3 = .ok (.istore_n 2, 1) := by decide +kernel
theorem dX7_handlesNow_4 : decode cX7_handlesNow 4 = .ok (.iload_n 2, 1) := by decide +kernel
theorem dX7_handlesNow_5 : decode cX7_handlesNow 5 = .ok (.bipush 16, 2) := by decide +kernel
theorem dX7_handlesNow_7 : decode cX7_handlesNow 7 = .ok (.if_icmp .ge 23, 3) := by decide +kernel
theorem dX7_handlesNow_10 : decode cX7_handlesNow 10 = .ok (.aload_n 0, 1) := by decide +kernel
theorem dX7_handlesNow_11 : decode cX7_handlesNow 11 = .ok (.iload_n 2, 1) := by decide +kernel
theorem dX7_handlesNow_12 : decode cX7_handlesNow 12 = .ok (.invokevirtual 73, 3) := by decide +kernel
theorem dX7_handlesNow_15 : decode cX7_handlesNow 15 = .ok (.ifCond .eq 9, 3) := by decide +kernel
theorem dX7_handlesNow_18 : decode cX7_handlesNow 18 = .ok (.iload_n 1, 1) := by decide +kernel
theorem dX7_handlesNow_19 : decode cX7_handlesNow 19 = .ok (.iconst 1, 1) := by decide +kernel
theorem dX7_handlesNow_20 : decode cX7_handlesNow 20 = .ok (.iload_n 2, 1) := by decide +kernel
theorem dX7_handlesNow_21 : decode cX7_handlesNow 21 = .ok (.ishl, 1) := by decide +kernel
theorem dX7_handlesNow_22 : decode cX7_handlesNow 22 = .ok (.ior, 1) := by decide +kernel
theorem dX7_handlesNow_23 : decode cX7_handlesNow 23 = .ok (.istore_n 1, 1) := by decide +kernel
theorem dX7_handlesNow_24 : decode cX7_handlesNow 24 = .ok (.iinc 2 1, 3) := by decide +kernel
theorem dX7_handlesNow_27 : decode cX7_handlesNow 27 = .ok (.goto (-23), 3) := by decide +kernel
theorem dX7_handlesNow_30 : decode cX7_handlesNow 30 = .ok (.iload_n 1, 1) := by decide +kernel
theorem dX7_handlesNow_31 : decode cX7_handlesNow 31 = .ok (.ireturn, 1) := by decide +kernel
theorem dX7_asleepNow_0 : decode cX7_asleepNow 0 = .ok (.iconst 0, 1) := by decide +kernel
theorem dX7_asleepNow_1 : decode cX7_asleepNow 1 = .ok (.istore_n 1, 1) := by decide +kernel
theorem dX7_asleepNow_2 : decode cX7_asleepNow 2 = .ok (.iconst 0, 1) := by decide +kernel
theorem dX7_asleepNow_3 : decode cX7_asleepNow 3 = .ok (.istore_n 2, 1) := by decide +kernel
theorem dX7_asleepNow_4 : decode cX7_asleepNow 4 = .ok (.iload_n 2, 1) := by decide +kernel
theorem dX7_asleepNow_5 : decode cX7_asleepNow 5 = .ok (.bipush 6, 2) := by decide +kernel
theorem dX7_asleepNow_7 : decode cX7_asleepNow 7 = .ok (.if_icmp .ge 23, 3) := by decide +kernel
theorem dX7_asleepNow_10 : decode cX7_asleepNow 10 = .ok (.aload_n 0, 1) := by decide +kernel
theorem dX7_asleepNow_11 : decode cX7_asleepNow 11 = .ok (.iload_n 2, 1) := by decide +kernel
theorem dX7_asleepNow_12 : decode cX7_asleepNow 12 = .ok (.invokevirtual 250, 3) := by decide +kernel
theorem dX7_asleepNow_15 : decode cX7_asleepNow 15 = .ok (.ifCond .eq 9, 3) := by decide +kernel
theorem dX7_asleepNow_18 : decode cX7_asleepNow 18 = .ok (.iload_n 1, 1) := by decide +kernel
theorem dX7_asleepNow_19 : decode cX7_asleepNow 19 = .ok (.iconst 1, 1) := by decide +kernel
theorem dX7_asleepNow_20 : decode cX7_asleepNow 20 = .ok (.iload_n 2, 1) := by decide +kernel
theorem dX7_asleepNow_21 : decode cX7_asleepNow 21 = .ok (.ishl, 1) := by decide +kernel
theorem dX7_asleepNow_22 : decode cX7_asleepNow 22 = .ok (.ior, 1) := by decide +kernel
theorem dX7_asleepNow_23 : decode cX7_asleepNow 23 = .ok (.istore_n 1, 1) := by decide +kernel
theorem dX7_asleepNow_24 : decode cX7_asleepNow 24 = .ok (.iinc 2 1, 3) := by decide +kernel
theorem dX7_asleepNow_27 : decode cX7_asleepNow 27 = .ok (.goto (-23), 3) := by decide +kernel
theorem dX7_asleepNow_30 : decode cX7_asleepNow 30 = .ok (.iload_n 1, 1) := by decide +kernel
theorem dX7_asleepNow_31 : decode cX7_asleepNow 31 = .ok (.ireturn, 1) := by decide +kernel
theorem dX7_objectsNow_0 : decode cX7_objectsNow 0 = .ok (.iconst 0, 1) := by decide +kernel
theorem dX7_objectsNow_1 : decode cX7_objectsNow 1 = .ok (.istore_n 1, 1) := by decide +kernel
theorem dX7_objectsNow_2 : decode cX7_objectsNow 2 = .ok (.iconst 0, 1) := by decide +kernel
theorem dX7_objectsNow_3 : decode cX7_objectsNow 3 = .ok (.istore_n 2, 1) := by decide +kernel
theorem dX7_objectsNow_4 : decode cX7_objectsNow 4 = .ok (.iload_n 2, 1) := by decide +kernel
theorem dX7_objectsNow_5 : decode cX7_objectsNow 5 = .ok (.bipush 28, 2) := by decide +kernel
theorem dX7_objectsNow_7 : decode cX7_objectsNow 7 = .ok (.if_icmp .ge 25, 3) := by decide +kernel
theorem dX7_objectsNow_10 : decode cX7_objectsNow 10 = .ok (.iload_n 1, 1) := by decide +kernel
theorem dX7_objectsNow_11 : decode cX7_objectsNow 11 = .ok (.aload_n 0, 1) := by decide +kernel
theorem dX7_objectsNow_12 : decode cX7_objectsNow 12 = .ok (.iload_n 2, 1) := by decide +kernel
theorem dX7_objectsNow_13 : decode cX7_objectsNow 13 = .ok (.invokevirtual 77, 3) := by decide +kernel
theorem dX7_objectsNow_16 : decode cX7_objectsNow 16 = .ok (.ifCond .lt 7, 3) := by decide +kernel
theorem dX7_objectsNow_19 : decode cX7_objectsNow 19 = .ok (.iconst 1, 1) := by decide +kernel
theorem dX7_objectsNow_20 : decode cX7_objectsNow 20 = .ok (.goto 4, 3) := by decide +kernel
theorem dX7_objectsNow_23 : decode cX7_objectsNow 23 = .ok (.iconst 0, 1) := by decide +kernel
theorem dX7_objectsNow_24 : decode cX7_objectsNow 24 = .ok (.iadd, 1) := by decide +kernel
theorem dX7_objectsNow_25 : decode cX7_objectsNow 25 = .ok (.istore_n 1, 1) := by decide +kernel
theorem dX7_objectsNow_26 : decode cX7_objectsNow 26 = .ok (.iinc 2 1, 3) := by decide +kernel
theorem dX7_objectsNow_29 : decode cX7_objectsNow 29 = .ok (.goto (-25), 3) := by decide +kernel
theorem dX7_objectsNow_32 : decode cX7_objectsNow 32 = .ok (.iload_n 1, 1) := by decide +kernel
theorem dX7_objectsNow_33 : decode cX7_objectsNow 33 = .ok (.ireturn, 1) := by decide +kernel
theorem dX7_about_0 : decode cX7_about 0 = .ok (.iload_n 1, 1) := by decide +kernel
theorem dX7_about_1 : decode cX7_about 1 = .ok (.tableswitch 82 0 6 #[43, 48, 53, 62, 67, 72, 77], 43) := by decide +kernel
theorem dX7_about_44 : decode cX7_about 44 = .ok (.aload_n 0, 1) := by decide +kernel
theorem dX7_about_45 : decode cX7_about 45 = .ok (.invokevirtual 365, 3) := by decide +kernel
theorem dX7_about_48 : decode cX7_about 48 = .ok (.ireturn, 1) := by decide +kernel
theorem dX7_about_49 : decode cX7_about 49 = .ok (.aload_n 0, 1) := by decide +kernel
theorem dX7_about_50 : decode cX7_about 50 = .ok (.invokevirtual 272, 3) := by decide +kernel
theorem dX7_about_53 : decode cX7_about 53 = .ok (.ireturn, 1) := by decide +kernel
theorem dX7_about_54 : decode cX7_about 54 = .ok (.aload_n 0, 1) := by decide +kernel
theorem dX7_about_55 : decode cX7_about 55 = .ok (.getfield 7, 3) := by decide +kernel
theorem dX7_about_58 : decode cX7_about 58 = .ok (.sipush 794, 3) := by decide +kernel
theorem dX7_about_61 : decode cX7_about 61 = .ok (.iaload, 1) := by decide +kernel
theorem dX7_about_62 : decode cX7_about 62 = .ok (.ireturn, 1) := by decide +kernel
theorem dX7_about_63 : decode cX7_about 63 = .ok (.aload_n 0, 1) := by decide +kernel
theorem dX7_about_64 : decode cX7_about 64 = .ok (.invokevirtual 338, 3) := by decide +kernel
theorem dX7_about_67 : decode cX7_about 67 = .ok (.ireturn, 1) := by decide +kernel
theorem dX7_about_68 : decode cX7_about 68 = .ok (.aload_n 0, 1) := by decide +kernel
theorem dX7_about_69 : decode cX7_about 69 = .ok (.getfield 353, 3) := by decide +kernel
theorem dX7_about_72 : decode cX7_about 72 = .ok (.ireturn, 1) := by decide +kernel
theorem dX7_about_73 : decode cX7_about 73 = .ok (.aload_n 0, 1) := by decide +kernel
theorem dX7_about_74 : decode cX7_about 74 = .ok (.getfield 356, 3) := by decide +kernel
theorem dX7_about_77 : decode cX7_about 77 = .ok (.ireturn, 1) := by decide +kernel
theorem dX7_about_78 : decode cX7_about 78 = .ok (.aload_n 0, 1) := by decide +kernel
theorem dX7_about_79 : decode cX7_about 79 = .ok (.invokevirtual 362, 3) := by decide +kernel
theorem dX7_about_82 : decode cX7_about 82 = .ok (.ireturn, 1) := by decide +kernel
theorem dX7_about_83 : decode cX7_about 83 = .ok (.iconst (-1), 1) := by decide +kernel
theorem dX7_about_84 : decode cX7_about 84 = .ok (.ireturn, 1) := by decide +kernel
