theorem dX1_breakEvenly_0 : decode cX1_breakEvenly 0 = .ok (.aload_n 0, 1) := by decide +kernel
theorem dX1_breakEvenly_1 : decode cX1_breakEvenly 1 = .ok (.invokevirtual 31, 3) := by decide +kernel
theorem dX1_breakEvenly_4 : decode cX1_breakEvenly 4 = .ok (.iconst 0, 1) := by decide +kernel
theorem dX1_breakEvenly_5 : decode cX1_breakEvenly 5 = .ok (.istore_n 2, 1) := by decide +kernel
theorem dX1_breakEvenly_6 : decode cX1_breakEvenly 6 = .ok (.iload_n 2, 1) := by decide +kernel
theorem dX1_breakEvenly_7 : decode cX1_breakEvenly 7 = .ok (.bipush 12, 2) := by decide +kernel
theorem dX1_breakEvenly_9 : decode cX1_breakEvenly 9 = .ok (.if_icmp .ge 39, 3) := by decide +kernel
theorem dX1_breakEvenly_12 : decode cX1_breakEvenly 12 = .ok (.aload_n 0, 1) := by decide +kernel
theorem dX1_breakEvenly_13 : decode cX1_breakEvenly 13 = .ok (.getfield 34, 3) := by decide +kernel
theorem dX1_breakEvenly_16 : decode cX1_breakEvenly 16 = .ok (.ifCond .le 32, 3) := by decide +kernel
theorem dX1_breakEvenly_19 : decode cX1_breakEvenly 19 = .ok (.aload_n 0, 1) := by decide +kernel
theorem dX1_breakEvenly_20 : decode cX1_breakEvenly 20 = .ok (.getfield 22, 3) := by decide +kernel
theorem dX1_breakEvenly_23 : decode cX1_breakEvenly 23 = .ok (.iload_n 1, 1) := by decide +kernel
theorem dX1_breakEvenly_24 : decode cX1_breakEvenly 24 = .ok (.aload_n 0, 1) := by decide +kernel
theorem dX1_breakEvenly_25 : decode cX1_breakEvenly 25 = .ok (.getfield 34, 3) := by decide +kernel
theorem dX1_breakEvenly_28 : decode cX1_breakEvenly 28 = .ok (.idiv, 1) := by decide +kernel
theorem dX1_breakEvenly_29 : decode cX1_breakEvenly 29 = .ok (.invokestatic 25, 3) := by decide +kernel
theorem dX1_breakEvenly_32 : decode cX1_breakEvenly 32 = .ok (.aload_n 0, 1) := by decide +kernel
theorem dX1_breakEvenly_33 : decode cX1_breakEvenly 33 = .ok (.invokevirtual 38, 3) := by decide +kernel
theorem dX1_breakEvenly_36 : decode cX1_breakEvenly 36 = .ok (.ifCond .ne 6, 3) := by decide +kernel
theorem dX1_breakEvenly_39 : decode cX1_breakEvenly 39 = .ok (.goto 9, 3) := by decide +kernel
theorem dX1_breakEvenly_42 : decode cX1_breakEvenly 42 = .ok (.iinc 2 1, 3) := by decide +kernel
theorem dX1_breakEvenly_45 : decode cX1_breakEvenly 45 = .ok (.goto (-39), 3) := by decide +kernel
theorem dX1_breakEvenly_48 : decode cX1_breakEvenly 48 = .ok (.bipush 12, 2) := by decide +kernel
theorem dX1_breakEvenly_50 : decode cX1_breakEvenly 50 = .ok (.aload_n 0, 1) := by decide +kernel
theorem dX1_breakEvenly_51 : decode cX1_breakEvenly 51 = .ok (.getfield 34, 3) := by decide +kernel
theorem dX1_breakEvenly_54 : decode cX1_breakEvenly 54 = .ok (.isub, 1) := by decide +kernel
theorem dX1_breakEvenly_55 : decode cX1_breakEvenly 55 = .ok (.ireturn, 1) := by decide +kernel
theorem dX11_load_0 : decode cX11_load 0 = .ok (.iload_n 1, 1) := by decide +kernel
theorem dX11_load_1 : decode cX11_load 1 = .ok (.iconst 0, 1) := by decide +kernel
theorem dX11_load_2 : decode cX11_load 2 = .ok (.sipush 20000, 3) := by decide +kernel
theorem dX11_load_5 : decode cX11_load 5 = .ok (.invokestatic 90, 3) := by decide +kernel
theorem dX11_load_8 : decode cX11_load 8 = .ok (.iload_n 2, 1) := by decide +kernel
theorem dX11_load_9 : decode cX11_load 9 = .ok (.ifCond .eq 14, 3) := by decide +kernel
theorem dX11_load_12 : decode cX11_load 12 = .ok (.aload_n 0, 1) := by decide +kernel
theorem dX11_load_13 : decode cX11_load 13 = .ok (.getfield 71, 3) := by decide +kernel
theorem dX11_load_16 : decode cX11_load 16 = .ok (.iload_n 1, 1) := by decide +kernel
theorem dX11_load_17 : decode cX11_load 17 = .ok (.invokevirtual 260, 3) := by decide +kernel
theorem dX11_load_20 : decode cX11_load 20 = .ok (.goto 11, 3) := by decide +kernel
theorem dX11_load_23 : decode cX11_load 23 = .ok (.aload_n 0, 1) := by decide +kernel
theorem dX11_load_24 : decode cX11_load 24 = .ok (.getfield 71, 3) := by decide +kernel
theorem dX11_load_27 : decode cX11_load 27 = .ok (.iload_n 1, 1) := by decide +kernel
theorem dX11_load_28 : decode cX11_load 28 = .ok (.invokevirtual 263, 3) := by decide +kernel
theorem dX11_load_31 : decode cX11_load 31 = .ok (.ireturn, 1) := by decide +kernel
theorem dL_broken_0 : decode cL_broken 0 = .ok (.bipush 12, 2) := by decide +kernel
theorem dL_broken_2 : decode cL_broken 2 = .ok (.newarray .int, 2) := by decide +kernel
theorem dL_broken_4 : decode cL_broken 4 = .ok (.astore_n 3, 1) := by decide +kernel
theorem dL_broken_5 : decode cL_broken 5 = .ok (.sipush 4095, 3) := by decide +kernel
theorem dL_broken_8 : decode cL_broken 8 = .ok (.istore 4, 2) := by decide +kernel
theorem dL_broken_10 : decode cL_broken 10 = .ok (.bipush 12, 2) := by decide +kernel
theorem dL_broken_12 : decode cL_broken 12 = .ok (.istore 5, 2) := by decide +kernel
theorem dL_broken_14 : decode cL_broken 14 = .ok (.iconst 0, 1) := by decide +kernel
theorem dL_broken_15 : decode cL_broken 15 = .ok (.istore 6, 2) := by decide +kernel
theorem dL_broken_17 : decode cL_broken 17 = .ok (.iload 6, 2) := by decide +kernel
theorem dL_broken_19 : decode cL_broken 19 = .ok (.bipush 12, 2) := by decide +kernel
theorem dL_broken_21 : decode cL_broken 21 = .ok (.if_icmp .ge 17, 3) := by decide +kernel
theorem dL_broken_24 : decode cL_broken 24 = .ok (.aload_n 3, 1) := by decide +kernel
theorem dL_broken_25 : decode cL_broken 25 = .ok (.iload 6, 2) := by decide +kernel
theorem dL_broken_27 : decode cL_broken 27 = .ok (.iload_n 1, 1) := by decide +kernel
theorem dL_broken_28 : decode cL_broken 28 = .ok (.bipush 12, 2) := by decide +kernel
theorem dL_broken_30 : decode cL_broken 30 = .ok (.idiv, 1) := by decide +kernel
theorem dL_broken_31 : decode cL_broken 31 = .ok (.iastore, 1) := by decide +kernel
theorem dL_broken_32 : decode cL_broken 32 = .ok (.iinc 6 1, 3) := by decide +kernel
theorem dL_broken_35 : decode cL_broken 35 = .ok (.goto (-18), 3) := by decide +kernel
theorem dL_broken_38 : decode cL_broken 38 = .ok (.iload 5, 2) := by decide +kernel
theorem dL_broken_40 : decode cL_broken 40 = .ok (.ifCond .le 242, 3) := by decide +kernel
theorem dL_broken_43 : decode cL_broken 43 = .ok (.iconst 0, 1) := by decide +kernel
theorem dL_broken_44 : decode cL_broken 44 = .ok (.istore 6, 2) := by decide +kernel
theorem dL_broken_46 : decode cL_broken 46 = .ok (.iconst 0, 1) := by decide +kernel
theorem dL_broken_47 : decode cL_broken 47 = .ok (.istore 7, 2) := by decide +kernel
theorem dL_broken_49 : decode cL_broken 49 = .ok (.iload 7, 2) := by decide +kernel
theorem dL_broken_51 : decode cL_broken 51 = .ok (.bipush 12, 2) := by decide +kernel
theorem dL_broken_53 : decode cL_broken 53 = .ok (.if_icmp .ge 51, 3) := by decide +kernel
theorem dL_broken_56 : decode cL_broken 56 = .ok (.iload 4, 2) := by decide +kernel
theorem dL_broken_58 : decode cL_broken 58 = .ok (.iload 7, 2) := by decide +kernel
theorem dL_broken_60 : decode cL_broken 60 = .ok (.ishr, 1) := by decide +kernel
theorem dL_broken_61 : decode cL_broken 61 = .ok (.iconst 1, 1) := by decide +kernel
theorem dL_broken_62 : decode cL_broken 62 = .ok (.iand, 1) := by decide +kernel
theorem dL_broken_63 : decode cL_broken 63 = .ok (.iconst 1, 1) := by decide +kernel
theorem dL_broken_64 : decode cL_broken 64 = .ok (.if_icmp .ne 34, 3) := by decide +kernel
theorem dL_broken_67 : decode cL_broken 67 = .ok (.iload_n 2, 1) := by decide +kernel
theorem dL_broken_68 : decode cL_broken 68 = .ok (.ifCond .eq 10, 3) := by decide +kernel
theorem dL_broken_71 : decode cL_broken 71 = .ok (.aload_n 3, 1) := by decide +kernel
theorem dL_broken_72 : decode cL_broken 72 = .ok (.iload 7, 2) := by decide +kernel
theorem dL_broken_74 : decode cL_broken 74 = .ok (.iaload, 1) := by decide +kernel
theorem dL_broken_75 : decode cL_broken 75 = .ok (.goto 7, 3) := by decide +kernel
theorem dL_broken_78 : decode cL_broken 78 = .ok (.iload_n 1, 1) := by decide +kernel
theorem dL_broken_79 : decode cL_broken 79 = .ok (.iload 5, 2) := by decide +kernel
theorem dL_broken_81 : decode cL_broken 81 = .ok (.idiv, 1) := by decide +kernel
theorem dL_broken_82 : decode cL_broken 82 = .ok (.aload_n 0, 1) := by decide +kernel
theorem dL_broken_83 : decode cL_broken 83 = .ok (.iload 7, 2) := by decide +kernel
theorem dL_broken_85 : decode cL_broken 85 = .ok (.iaload, 1) := by decide +kernel
theorem dL_broken_86 : decode cL_broken 86 = .ok (.if_icmp .le 12, 3) := by decide +kernel
theorem dL_broken_89 : decode cL_broken 89 = .ok (.iload 6, 2) := by decide +kernel
theorem dL_broken_91 : decode cL_broken 91 = .ok (.iconst 1, 1) := by decide +kernel
theorem dL_broken_92 : decode cL_broken 92 = .ok (.iload 7, 2) := by decide +kernel
theorem dL_broken_94 : decode cL_broken 94 = .ok (.ishl, 1) := by decide +kernel
theorem dL_broken_95 : decode cL_broken 95 = .ok (.ior, 1) := by decide +kernel
theorem dL_broken_96 : decode cL_broken 96 = .ok (.istore 6, 2) := by decide +kernel
theorem dL_broken_98 : decode cL_broken 98 = .ok (.iinc 7 1, 3) := by decide +kernel
theorem dL_broken_101 : decode cL_broken 101 = .ok (.goto (-52), 3) := by decide +kernel
theorem dL_broken_104 : decode cL_broken 104 = .ok (.iload 6, 2) := by decide +kernel
theorem dL_broken_106 : decode cL_broken 106 = .ok (.ifCond .ne 9, 3) := by decide +kernel
theorem dL_broken_109 : decode cL_broken 109 = .ok (.bipush 12, 2) := by decide +kernel
theorem dL_broken_111 : decode cL_broken 111 = .ok (.iload 5, 2) := by decide +kernel
theorem dL_broken_113 : decode cL_broken 113 = .ok (.isub, 1) := by decide +kernel
theorem dL_broken_114 : decode cL_broken 114 = .ok (.ireturn, 1) := by decide +kernel
theorem dL_broken_115 : decode cL_broken 115 = .ok (.iload 4, 2) := by decide +kernel
theorem dL_broken_117 : decode cL_broken 117 = .ok (.iload 6, 2) := by decide +kernel
theorem dL_broken_119 : decode cL_broken 119 = .ok (.iconst (-1), 1) := by decide +kernel
theorem dL_broken_120 : decode cL_broken 120 = .ok (.ixor, 1) := by decide +kernel
theorem dL_broken_121 : decode cL_broken 121 = .ok (.iand, 1) := by decide +kernel
theorem dL_broken_122 : decode cL_broken 122 = .ok (.istore 4, 2) := by decide +kernel
theorem dL_broken_124 : decode cL_broken 124 = .ok (.iconst 0, 1) := by decide +kernel
theorem dL_broken_125 : decode cL_broken 125 = .ok (.istore 5, 2) := by decide +kernel
theorem dL_broken_127 : decode cL_broken 127 = .ok (.iconst 0, 1) := by decide +kernel
theorem dL_broken_128 : decode cL_broken 128 = .ok (.istore 7, 2) := by decide +kernel
theorem dL_broken_130 : decode cL_broken 130 = .ok (.iload 7, 2) := by decide +kernel
theorem dL_broken_132 : decode cL_broken 132 = .ok (.bipush 12, 2) := by decide +kernel
theorem dL_broken_134 : decode cL_broken 134 = .ok (.if_icmp .ge 21, 3) := by decide +kernel
theorem dL_broken_137 : decode cL_broken 137 = .ok (.iload 5, 2) := by decide +kernel
theorem dL_broken_139 : decode cL_broken 139 = .ok (.iload 4, 2) := by decide +kernel
theorem dL_broken_141 : decode cL_broken 141 = .ok (.iload 7, 2) := by decide +kernel
theorem dL_broken_143 : decode cL_broken 143 = .ok (.ishr, 1) := by decide +kernel
theorem dL_broken_144 : decode cL_broken 144 = .ok (.iconst 1, 1) := by decide +kernel
theorem dL_broken_145 : decode cL_broken 145 = .ok (.iand, 1) := by decide +kernel
theorem dL_broken_146 : decode cL_broken 146 = .ok (.iadd, 1) := by decide +kernel
theorem dL_broken_147 : decode cL_broken 147 = .ok (.istore 5, 2) := by decide +kernel
theorem dL_broken_149 : decode cL_broken 149 = .ok (.iinc 7 1, 3) := by decide +kernel
theorem dL_broken_152 : decode cL_broken 152 = .ok (.goto (-22), 3) := by decide +kernel
theorem dL_broken_155 : decode cL_broken 155 = .ok (.iconst 0, 1) := by decide +kernel
theorem dL_broken_156 : decode cL_broken 156 = .ok (.istore 7, 2) := by decide +kernel
theorem dL_broken_158 : decode cL_broken 158 = .ok (.iload 7, 2) := by decide +kernel
theorem dL_broken_160 : decode cL_broken 160 = .ok (.bipush 12, 2) := by decide +kernel
theorem dL_broken_162 : decode cL_broken 162 = .ok (.if_icmp .ge 117, 3) := by decide +kernel
theorem dL_broken_165 : decode cL_broken 165 = .ok (.iload 5, 2) := by decide +kernel
theorem dL_broken_167 : decode cL_broken 167 = .ok (.ifCond .le 112, 3) := by decide +kernel
theorem dL_broken_170 : decode cL_broken 170 = .ok (.iload 6, 2) := by decide +kernel
theorem dL_broken_172 : decode cL_broken 172 = .ok (.iload 7, 2) := by decide +kernel
theorem dL_broken_174 : decode cL_broken 174 = .ok (.ishr, 1) := by decide +kernel
theorem dL_broken_175 : decode cL_broken 175 = .ok (.iconst 1, 1) := by decide +kernel
theorem dL_broken_176 : decode cL_broken 176 = .ok (.iand, 1) := by decide +kernel
theorem dL_broken_177 : decode cL_broken 177 = .ok (.iconst 1, 1) := by decide +kernel
theorem dL_broken_178 : decode cL_broken 178 = .ok (.if_icmp .ne 95, 3) := by decide +kernel
theorem dL_broken_181 : decode cL_broken 181 = .ok (.iload 7, 2) := by decide +kernel
theorem dL_broken_183 : decode cL_broken 183 = .ok (.bipush 11, 2) := by decide +kernel
theorem dL_broken_185 : decode cL_broken 185 = .ok (.iadd, 1) := by decide +kernel
theorem dL_broken_186 : decode cL_broken 186 = .ok (.bipush 12, 2) := by decide +kernel
theorem dL_broken_188 : decode cL_broken 188 = .ok (.irem, 1) := by decide +kernel
theorem dL_broken_189 : decode cL_broken 189 = .ok (.istore 8, 2) := by decide +kernel
theorem dL_broken_191 : decode cL_broken 191 = .ok (.iload 4, 2) := by decide +kernel
theorem dL_broken_193 : decode cL_broken 193 = .ok (.iload 8, 2) := by decide +kernel
theorem dL_broken_195 : decode cL_broken 195 = .ok (.ishr, 1) := by decide +kernel
theorem dL_broken_196 : decode cL_broken 196 = .ok (.iconst 1, 1) := by decide +kernel
theorem dL_broken_197 : decode cL_broken 197 = .ok (.iand, 1) := by decide +kernel
theorem dL_broken_198 : decode cL_broken 198 = .ok (.ifCond .ne 16, 3) := by decide +kernel
theorem dL_broken_201 : decode cL_broken 201 = .ok (.iload 8, 2) := by decide +kernel
theorem dL_broken_203 : decode cL_broken 203 = .ok (.bipush 11, 2) := by decide +kernel
theorem dL_broken_205 : decode cL_broken 205 = .ok (.iadd, 1) := by decide +kernel
theorem dL_broken_206 : decode cL_broken 206 = .ok (.bipush 12, 2) := by decide +kernel
theorem dL_broken_208 : decode cL_broken 208 = .ok (.irem, 1) := by decide +kernel
theorem dL_broken_209 : decode cL_broken 209 = .ok (.istore 8, 2) := by decide +kernel
theorem dL_broken_211 : decode cL_broken 211 = .ok (.goto (-20), 3) := by decide +kernel
theorem dL_broken_214 : decode cL_broken 214 = .ok (.iload 7, 2) := by decide +kernel
theorem dL_broken_216 : decode cL_broken 216 = .ok (.iconst 1, 1) := by decide +kernel
theorem dL_broken_217 : decode cL_broken 217 = .ok (.iadd, 1) := by decide +kernel
theorem dL_broken_218 : decode cL_broken 218 = .ok (.bipush 12, 2) := by decide +kernel
theorem dL_broken_220 : decode cL_broken 220 = .ok (.irem, 1) := by decide +kernel
theorem dL_broken_221 : decode cL_broken 221 = .ok (.istore 9, 2) := by decide +kernel
theorem dL_broken_223 : decode cL_broken 223 = .ok (.iload 4, 2) := by decide +kernel
theorem dL_broken_225 : decode cL_broken 225 = .ok (.iload 9, 2) := by decide +kernel
theorem dL_broken_227 : decode cL_broken 227 = .ok (.ishr, 1) := by decide +kernel
theorem dL_broken_228 : decode cL_broken 228 = .ok (.iconst 1, 1) := by decide +kernel
theorem dL_broken_229 : decode cL_broken 229 = .ok (.iand, 1) := by decide +kernel
theorem dL_broken_230 : decode cL_broken 230 = .ok (.ifCond .ne 15, 3) := by decide +kernel
theorem dL_broken_233 : decode cL_broken 233 = .ok (.iload 9, 2) := by decide +kernel
theorem dL_broken_235 : decode cL_broken 235 = .ok (.iconst 1, 1) := by decide +kernel
theorem dL_broken_236 : decode cL_broken 236 = .ok (.iadd, 1) := by decide +kernel
theorem dL_broken_237 : decode cL_broken 237 = .ok (.bipush 12, 2) := by decide +kernel
theorem dL_broken_239 : decode cL_broken 239 = .ok (.irem, 1) := by decide +kernel
theorem dL_broken_240 : decode cL_broken 240 = .ok (.istore 9, 2) := by decide +kernel
theorem dL_broken_242 : decode cL_broken 242 = .ok (.goto (-19), 3) := by decide +kernel
theorem dL_broken_245 : decode cL_broken 245 = .ok (.aload_n 3, 1) := by decide +kernel
theorem dL_broken_246 : decode cL_broken 246 = .ok (.iload 8, 2) := by decide +kernel
theorem dL_broken_248 : decode cL_broken 248 = .ok (.dup2, 1) := by decide +kernel
theorem dL_broken_249 : decode cL_broken 249 = .ok (.iaload, 1) := by decide +kernel
theorem dL_broken_250 : decode cL_broken 250 = .ok (.aload_n 3, 1) := by decide +kernel
theorem dL_broken_251 : decode cL_broken 251 = .ok (.iload 7, 2) := by decide +kernel
theorem dL_broken_253 : decode cL_broken 253 = .ok (.iaload, 1) := by decide +kernel
theorem dL_broken_254 : decode cL_broken 254 = .ok (.iconst 2, 1) := by decide +kernel
theorem dL_broken_255 : decode cL_broken 255 = .ok (.idiv, 1) := by decide +kernel
theorem dL_broken_256 : decode cL_broken 256 = .ok (.iadd, 1) := by decide +kernel
theorem dL_broken_257 : decode cL_broken 257 = .ok (.iastore, 1) := by decide +kernel
theorem dL_broken_258 : decode cL_broken 258 = .ok (.aload_n 3, 1) := by decide +kernel
theorem dL_broken_259 : decode cL_broken 259 = .ok (.iload 9, 2) := by decide +kernel
theorem dL_broken_261 : decode cL_broken 261 = .ok (.dup2, 1) := by decide +kernel
theorem dL_broken_262 : decode cL_broken 262 = .ok (.iaload, 1) := by decide +kernel
theorem dL_broken_263 : decode cL_broken 263 = .ok (.aload_n 3, 1) := by decide +kernel
theorem dL_broken_264 : decode cL_broken 264 = .ok (.iload 7, 2) := by decide +kernel
theorem dL_broken_266 : decode cL_broken 266 = .ok (.iaload, 1) := by decide +kernel
theorem dL_broken_267 : decode cL_broken 267 = .ok (.iconst 1, 1) := by decide +kernel
theorem dL_broken_268 : decode cL_broken 268 = .ok (.iadd, 1) := by decide +kernel
theorem dL_broken_269 : decode cL_broken 269 = .ok (.iconst 2, 1) := by decide +kernel
theorem dL_broken_270 : decode cL_broken 270 = .ok (.idiv, 1) := by decide +kernel
theorem dL_broken_271 : decode cL_broken 271 = .ok (.iadd, 1) := by decide +kernel
theorem dL_broken_272 : decode cL_broken 272 = .ok (.iastore, 1) := by decide +kernel
theorem dL_broken_273 : decode cL_broken 273 = .ok (.iinc 7 1, 3) := by decide +kernel
theorem dL_broken_276 : decode cL_broken 276 = .ok (.goto (-118), 3) := by decide +kernel
theorem dL_broken_279 : decode cL_broken 279 = .ok (.goto (-241), 3) := by decide +kernel
theorem dL_broken_282 : decode cL_broken 282 = .ok (.bipush 12, 2) := by decide +kernel
theorem dL_broken_284 : decode cL_broken 284 = .ok (.ireturn, 1) := by decide +kernel
theorem dX1_leastFatalByNeighbours_0 : decode cX1_leastFatalByNeighbours 0 = .ok (.iconst 0, 1) := by decide +kernel
theorem dX1_leastFatalByNeighbours_1 : decode cX1_leastFatalByNeighbours 1 = .ok (.istore_n 1, 1) := by decide +kernel
theorem dX1_leastFatalByNeighbours_2 : decode cX1_leastFatalByNeighbours 2 = .ok (.iconst 0, 1) := by decide +kernel
theorem dX1_leastFatalByNeighbours_3 : decode cX1_leastFatalByNeighbours 3 = .ok (.istore_n 2, 1) := by decide +kernel
theorem dX1_leastFatalByNeighbours_4 : decode cX1_leastFatalByNeighbours 4 = .ok (.iload_n 2, 1) := by decide +kernel
theorem dX1_leastFatalByNeighbours_5 : decode cX1_leastFatalByNeighbours 5 = .ok (.sipush 1000, 3) := by decide +kernel
theorem dX1_leastFatalByNeighbours_8 : decode cX1_leastFatalByNeighbours 8 = .ok (.if_icmp .gt 25, 3) := by decide +kernel
theorem dX1_leastFatalByNeighbours_11 : decode cX1_leastFatalByNeighbours 11 = .ok (.aload_n 0, 1) := by decide +kernel
theorem dX1_leastFatalByNeighbours_12 : decode cX1_leastFatalByNeighbours 12 = .ok (.iload_n 1, 1) := by decide +kernel
theorem dX1_leastFatalByNeighbours_13 : decode cX1_leastFatalByNeighbours 13 = .ok (.invokevirtual 54, 3) := by decide +kernel
theorem dX1_leastFatalByNeighbours_16 : decode cX1_leastFatalByNeighbours 16 = .ok (.bipush 12, 2) := by decide +kernel
theorem dX1_leastFatalByNeighbours_18 : decode cX1_leastFatalByNeighbours 18 = .ok (.if_icmp .ne 6, 3) := by decide +kernel
theorem dX1_leastFatalByNeighbours_21 : decode cX1_leastFatalByNeighbours 21 = .ok (.goto 12, 3) := by decide +kernel
theorem dX1_leastFatalByNeighbours_24 : decode cX1_leastFatalByNeighbours 24 = .ok (.iinc 1 12, 3) := by decide +kernel
theorem dX1_leastFatalByNeighbours_27 : decode cX1_leastFatalByNeighbours 27 = .ok (.iinc 2 1, 3) := by decide +kernel
theorem dX1_leastFatalByNeighbours_30 : decode cX1_leastFatalByNeighbours 30 = .ok (.goto (-26), 3) := by decide +kernel
theorem dX1_leastFatalByNeighbours_33 : decode cX1_leastFatalByNeighbours 33 = .ok (.iload_n 1, 1) := by decide +kernel
theorem dX1_leastFatalByNeighbours_34 : decode cX1_leastFatalByNeighbours 34 = .ok (.ireturn, 1) := by decide +kernel
theorem dX1_weakestWhole_0 : decode cX1_weakestWhole 0 = .ok (.iconst (-1), 1) := by decide +kernel
theorem dX1_weakestWhole_1 : decode cX1_weakestWhole 1 = .ok (.istore_n 1, 1) := by decide +kernel
theorem dX1_weakestWhole_2 : decode cX1_weakestWhole 2 = .ok (.iconst 0, 1) := by decide +kernel
theorem dX1_weakestWhole_3 : decode cX1_weakestWhole 3 = .ok (.istore_n 2, 1) := by decide +kernel
theorem dX1_weakestWhole_4 : decode cX1_weakestWhole 4 = .ok (.iload_n 2, 1) := by decide +kernel
theorem dX1_weakestWhole_5 : decode cX1_weakestWhole 5 = .ok (.bipush 12, 2) := by decide +kernel
theorem dX1_weakestWhole_7 : decode cX1_weakestWhole 7 = .ok (.if_icmp .ge 40, 3) := by decide +kernel
theorem dX1_weakestWhole_10 : decode cX1_weakestWhole 10 = .ok (.aload_n 0, 1) := by decide +kernel
theorem dX1_weakestWhole_11 : decode cX1_weakestWhole 11 = .ok (.getfield 15, 3) := by decide +kernel
theorem dX1_weakestWhole_14 : decode cX1_weakestWhole 14 = .ok (.iload_n 2, 1) := by decide +kernel
theorem dX1_weakestWhole_15 : decode cX1_weakestWhole 15 = .ok (.baload, 1) := by decide +kernel
theorem dX1_weakestWhole_16 : decode cX1_weakestWhole 16 = .ok (.ifCond .eq 25, 3) := by decide +kernel
theorem dX1_weakestWhole_19 : decode cX1_weakestWhole 19 = .ok (.iload_n 1, 1) := by decide +kernel
theorem dX1_weakestWhole_20 : decode cX1_weakestWhole 20 = .ok (.iconst (-1), 1) := by decide +kernel
theorem dX1_weakestWhole_21 : decode cX1_weakestWhole 21 = .ok (.if_icmp .eq 18, 3) := by decide +kernel
theorem dX1_weakestWhole_24 : decode cX1_weakestWhole 24 = .ok (.aload_n 0, 1) := by decide +kernel
theorem dX1_weakestWhole_25 : decode cX1_weakestWhole 25 = .ok (.getfield 9, 3) := by decide +kernel
theorem dX1_weakestWhole_28 : decode cX1_weakestWhole 28 = .ok (.iload_n 2, 1) := by decide +kernel
theorem dX1_weakestWhole_29 : decode cX1_weakestWhole 29 = .ok (.iaload, 1) := by decide +kernel
theorem dX1_weakestWhole_30 : decode cX1_weakestWhole 30 = .ok (.aload_n 0, 1) := by decide +kernel
theorem dX1_weakestWhole_31 : decode cX1_weakestWhole 31 = .ok (.getfield 9, 3) := by decide +kernel
theorem dX1_weakestWhole_34 : decode cX1_weakestWhole 34 = .ok (.iload_n 1, 1) := by decide +kernel
theorem dX1_weakestWhole_35 : decode cX1_weakestWhole 35 = .ok (.iaload, 1) := by decide +kernel
theorem dX1_weakestWhole_36 : decode cX1_weakestWhole 36 = .ok (.if_icmp .ge 5, 3) := by decide +kernel
theorem dX1_weakestWhole_39 : decode cX1_weakestWhole 39 = .ok (.iload_n 2, 1) := by decide +kernel
theorem dX1_weakestWhole_40 : decode cX1_weakestWhole 40 = .ok (.istore_n 1, 1) := by decide +kernel
theorem dX1_weakestWhole_41 : decode cX1_weakestWhole 41 = .ok (.iinc 2 1, 3) := by decide +kernel
theorem dX1_weakestWhole_44 : decode cX1_weakestWhole 44 = .ok (.goto (-40), 3) := by decide +kernel
theorem dX1_weakestWhole_47 : decode cX1_weakestWhole 47 = .ok (.iload_n 1, 1) := by decide +kernel
theorem dX1_weakestWhole_48 : decode cX1_weakestWhole 48 = .ok (.ireturn, 1) := by decide +kernel
theorem dX1_leastFatalEvenly_0 : decode cX1_leastFatalEvenly 0 = .ok (.aload_n 0, 1) := by decide +kernel
theorem dX1_leastFatalEvenly_1 : decode cX1_leastFatalEvenly 1 = .ok (.invokevirtual 31, 3) := by decide +kernel
theorem dX1_leastFatalEvenly_4 : decode cX1_leastFatalEvenly 4 = .ok (.iconst 0, 1) := by decide +kernel
theorem dX1_leastFatalEvenly_5 : decode cX1_leastFatalEvenly 5 = .ok (.istore_n 1, 1) := by decide +kernel
theorem dX1_leastFatalEvenly_6 : decode cX1_leastFatalEvenly 6 = .ok (.bipush 12, 2) := by decide +kernel
theorem dX1_leastFatalEvenly_8 : decode cX1_leastFatalEvenly 8 = .ok (.istore_n 2, 1) := by decide +kernel
theorem dX1_leastFatalEvenly_9 : decode cX1_leastFatalEvenly 9 = .ok (.iload_n 2, 1) := by decide +kernel
theorem dX1_leastFatalEvenly_10 : decode cX1_leastFatalEvenly 10 = .ok (.ifCond .le 44, 3) := by decide +kernel
theorem dX1_leastFatalEvenly_13 : decode cX1_leastFatalEvenly 13 = .ok (.aload_n 0, 1) := by decide +kernel
theorem dX1_leastFatalEvenly_14 : decode cX1_leastFatalEvenly 14 = .ok (.invokevirtual 45, 3) := by decide +kernel
theorem dX1_leastFatalEvenly_17 : decode cX1_leastFatalEvenly 17 = .ok (.istore_n 3, 1) := by decide +kernel
theorem dX1_leastFatalEvenly_18 : decode cX1_leastFatalEvenly 18 = .ok (.iload_n 3, 1) := by decide +kernel
theorem dX1_leastFatalEvenly_19 : decode cX1_leastFatalEvenly 19 = .ok (.iconst (-1), 1) := by decide +kernel
theorem dX1_leastFatalEvenly_20 : decode cX1_leastFatalEvenly 20 = .ok (.if_icmp .ne 6, 3) := by decide +kernel
theorem dX1_leastFatalEvenly_23 : decode cX1_leastFatalEvenly 23 = .ok (.goto 31, 3) := by decide +kernel
theorem dX1_leastFatalEvenly_26 : decode cX1_leastFatalEvenly 26 = .ok (.iload_n 1, 1) := by decide +kernel
theorem dX1_leastFatalEvenly_27 : decode cX1_leastFatalEvenly 27 = .ok (.iload_n 2, 1) := by decide +kernel
theorem dX1_leastFatalEvenly_28 : decode cX1_leastFatalEvenly 28 = .ok (.aload_n 0, 1) := by decide +kernel
theorem dX1_leastFatalEvenly_29 : decode cX1_leastFatalEvenly 29 = .ok (.getfield 9, 3) := by decide +kernel
theorem dX1_leastFatalEvenly_32 : decode cX1_leastFatalEvenly 32 = .ok (.iload_n 3, 1) := by decide +kernel
theorem dX1_leastFatalEvenly_33 : decode cX1_leastFatalEvenly 33 = .ok (.iaload, 1) := by decide +kernel
theorem dX1_leastFatalEvenly_34 : decode cX1_leastFatalEvenly 34 = .ok (.iconst 1, 1) := by decide +kernel
theorem dX1_leastFatalEvenly_35 : decode cX1_leastFatalEvenly 35 = .ok (.iadd, 1) := by decide +kernel
theorem dX1_leastFatalEvenly_36 : decode cX1_leastFatalEvenly 36 = .ok (.imul, 1) := by decide +kernel
theorem dX1_leastFatalEvenly_37 : decode cX1_leastFatalEvenly 37 = .ok (.invokestatic 48, 3) := by decide +kernel
theorem dX1_leastFatalEvenly_40 : decode cX1_leastFatalEvenly 40 = .ok (.istore_n 1, 1) := by decide +kernel
theorem dX1_leastFatalEvenly_41 : decode cX1_leastFatalEvenly 41 = .ok (.aload_n 0, 1) := by decide +kernel
theorem dX1_leastFatalEvenly_42 : decode cX1_leastFatalEvenly 42 = .ok (.getfield 15, 3) := by decide +kernel
theorem dX1_leastFatalEvenly_45 : decode cX1_leastFatalEvenly 45 = .ok (.iload_n 3, 1) := by decide +kernel
theorem dX1_leastFatalEvenly_46 : decode cX1_leastFatalEvenly 46 = .ok (.iconst 0, 1) := by decide +kernel
theorem dX1_leastFatalEvenly_47 : decode cX1_leastFatalEvenly 47 = .ok (.bastore, 1) := by decide +kernel
theorem dX1_leastFatalEvenly_48 : decode cX1_leastFatalEvenly 48 = .ok (.iinc 2 (-1), 3) := by decide +kernel
theorem dX1_leastFatalEvenly_51 : decode cX1_leastFatalEvenly 51 = .ok (.goto (-42), 3) := by decide +kernel
theorem dX1_leastFatalEvenly_54 : decode cX1_leastFatalEvenly 54 = .ok (.iload_n 1, 1) := by decide +kernel
theorem dX1_leastFatalEvenly_55 : decode cX1_leastFatalEvenly 55 = .ok (.ireturn, 1) := by decide +kernel
theorem dX11_lastStraw_0 : decode cX11_lastStraw 0 = .ok (.iload_n 1, 1) := by decide +kernel
theorem dX11_lastStraw_1 : decode cX11_lastStraw 1 = .ok (.ifCond .eq 13, 3) := by decide +kernel
theorem dX11_lastStraw_4 : decode cX11_lastStraw 4 = .ok (.aload_n 0, 1) := by decide +kernel
theorem dX11_lastStraw_5 : decode cX11_lastStraw 5 = .ok (.getfield 71, 3) := by decide +kernel
theorem dX11_lastStraw_8 : decode cX11_lastStraw 8 = .ok (.invokevirtual 266, 3) := by decide +kernel
theorem dX11_lastStraw_11 : decode cX11_lastStraw 11 = .ok (.goto 10, 3) := by decide +kernel
theorem dX11_lastStraw_14 : decode cX11_lastStraw 14 = .ok (.aload_n 0, 1) := by decide +kernel
theorem dX11_lastStraw_15 : decode cX11_lastStraw 15 = .ok (.getfield 71, 3) := by decide +kernel
theorem dX11_lastStraw_18 : decode cX11_lastStraw 18 = .ok (.invokevirtual 269, 3) := by decide +kernel
theorem dX11_lastStraw_21 : decode cX11_lastStraw 21 = .ok (.iconst 1, 1) := by decide +kernel
theorem dX11_lastStraw_22 : decode cX11_lastStraw 22 = .ok (.isub, 1) := by decide +kernel
theorem dX11_lastStraw_23 : decode cX11_lastStraw 23 = .ok (.ireturn, 1) := by decide +kernel
theorem dL_side_0 : decode cL_side 0 = .ok (.lconst 0, 1) := by decide +kernel
theorem dL_side_1 : decode cL_side 1 = .ok (.lstore_n 1, 1) := by decide +kernel
theorem dL_side_2 : decode cL_side 2 = .ok (.iconst 0, 1) := by decide +kernel
theorem dL_side_3 : decode cL_side 3 = .ok (.istore_n 3, 1) := by decide +kernel
theorem dL_side_4 : decode cL_side 4 = .ok (.iload_n 3, 1) := by decide +kernel
theorem dL_side_5 : decode cL_side 5 = .ok (.bipush 6, 2) := by decide +kernel
theorem dL_side_7 : decode cL_side 7 = .ok (.if_icmp .ge 52, 3) := by decide +kernel
theorem dL_side_10 : decode cL_side 10 = .ok (.lload_n 1, 1) := by decide +kernel
theorem dL_side_11 : decode cL_side 11 = .ok (.lconst 1, 1) := by decide +kernel
theorem dL_side_12 : decode cL_side 12 = .ok (.iload_n 0, 1) := by decide +kernel
theorem dL_side_13 : decode cL_side 13 = .ok (.ifCond .ne 10, 3) := by decide +kernel
theorem dL_side_16 : decode cL_side 16 = .ok (.bipush 6, 2) := by decide +kernel
theorem dL_side_18 : decode cL_side 18 = .ok (.iload_n 3, 1) := by decide +kernel
theorem dL_side_19 : decode cL_side 19 = .ok (.imul, 1) := by decide +kernel
theorem dL_side_20 : decode cL_side 20 = .ok (.goto 30, 3) := by decide +kernel
theorem dL_side_23 : decode cL_side 23 = .ok (.iload_n 0, 1) := by decide +kernel
theorem dL_side_24 : decode cL_side 24 = .ok (.iconst 1, 1) := by decide +kernel
theorem dL_side_25 : decode cL_side 25 = .ok (.if_icmp .ne 12, 3) := by decide +kernel
theorem dL_side_28 : decode cL_side 28 = .ok (.bipush 6, 2) := by decide +kernel
theorem dL_side_30 : decode cL_side 30 = .ok (.iload_n 3, 1) := by decide +kernel
theorem dL_side_31 : decode cL_side 31 = .ok (.imul, 1) := by decide +kernel
theorem dL_side_32 : decode cL_side 32 = .ok (.iconst 5, 1) := by decide +kernel
theorem dL_side_33 : decode cL_side 33 = .ok (.iadd, 1) := by decide +kernel
theorem dL_side_34 : decode cL_side 34 = .ok (.goto 16, 3) := by decide +kernel
theorem dL_side_37 : decode cL_side 37 = .ok (.iload_n 0, 1) := by decide +kernel
theorem dL_side_38 : decode cL_side 38 = .ok (.iconst 2, 1) := by decide +kernel
theorem dL_side_39 : decode cL_side 39 = .ok (.if_icmp .ne 7, 3) := by decide +kernel
theorem dL_side_42 : decode cL_side 42 = .ok (.iload_n 3, 1) := by decide +kernel
theorem dL_side_43 : decode cL_side 43 = .ok (.goto 7, 3) := by decide +kernel
theorem dL_side_46 : decode cL_side 46 = .ok (.bipush 30, 2) := by decide +kernel
theorem dL_side_48 : decode cL_side 48 = .ok (.iload_n 3, 1) := by decide +kernel
theorem dL_side_49 : decode cL_side 49 = .ok (.iadd, 1) := by decide +kernel
theorem dL_side_50 : decode cL_side 50 = .ok (.lshl, 1) := by decide +kernel
theorem dL_side_51 : decode cL_side 51 = .ok (.lor, 1) := by decide +kernel
theorem dL_side_52 : decode cL_side 52 = .ok (.lstore_n 1, 1) := by decide +kernel
theorem dL_side_53 : decode cL_side 53 = .ok (.iinc 3 1, 3) := by decide +kernel
theorem dL_side_56 : decode cL_side 56 = .ok (.goto (-52), 3) := by decide +kernel
theorem dL_side_59 : decode cL_side 59 = .ok (.lload_n 1, 1) := by decide +kernel
theorem dL_side_60 : decode cL_side 60 = .ok (.lreturn, 1) := by decide +kernel
theorem dL_moved_0 : decode cL_moved 0 = .ok (.lload_n 3, 1) := by decide +kernel
theorem dL_moved_1 : decode cL_moved 1 = .ok (.lstore 7, 2) := by decide +kernel
theorem dL_moved_3 : decode cL_moved 3 = .ok (.iconst 0, 1) := by decide +kernel
theorem dL_moved_4 : decode cL_moved 4 = .ok (.istore 9, 2) := by decide +kernel
theorem dL_moved_6 : decode cL_moved 6 = .ok (.iload 9, 2) := by decide +kernel
theorem dL_moved_8 : decode cL_moved 8 = .ok (.ifCond .lt 184, 3) := by decide +kernel
theorem dL_moved_11 : decode cL_moved 11 = .ok (.lload 7, 2) := by decide +kernel
theorem dL_moved_13 : decode cL_moved 13 = .ok (.lload_n 1, 1) := by decide +kernel
theorem dL_moved_14 : decode cL_moved 14 = .ok (.ldc2_w 38, 3) := by decide +kernel
theorem dL_moved_17 : decode cL_moved 17 = .ok (.lxor, 1) := by decide +kernel
theorem dL_moved_18 : decode cL_moved 18 = .ok (.land, 1) := by decide +kernel
theorem dL_moved_19 : decode cL_moved 19 = .ok (.iconst 0, 1) := by decide +kernel
theorem dL_moved_20 : decode cL_moved 20 = .ok (.invokestatic 44, 3) := by decide +kernel
theorem dL_moved_23 : decode cL_moved 23 = .ok (.invokestatic 67, 3) := by decide +kernel
theorem dL_moved_26 : decode cL_moved 26 = .ok (.lstore 10, 2) := by decide +kernel
theorem dL_moved_28 : decode cL_moved 28 = .ok (.lload 7, 2) := by decide +kernel
theorem dL_moved_30 : decode cL_moved 30 = .ok (.ldc2_w 38, 3) := by decide +kernel
theorem dL_moved_33 : decode cL_moved 33 = .ok (.lxor, 1) := by decide +kernel
theorem dL_moved_34 : decode cL_moved 34 = .ok (.lload_n 1, 1) := by decide +kernel
theorem dL_moved_35 : decode cL_moved 35 = .ok (.ldc2_w 38, 3) := by decide +kernel
theorem dL_moved_38 : decode cL_moved 38 = .ok (.lxor, 1) := by decide +kernel
theorem dL_moved_39 : decode cL_moved 39 = .ok (.land, 1) := by decide +kernel
theorem dL_moved_40 : decode cL_moved 40 = .ok (.ldc2_w 71, 3) := by decide +kernel
theorem dL_moved_43 : decode cL_moved 43 = .ok (.land, 1) := by decide +kernel
theorem dL_moved_44 : decode cL_moved 44 = .ok (.iconst 1, 1) := by decide +kernel
theorem dL_moved_45 : decode cL_moved 45 = .ok (.invokestatic 44, 3) := by decide +kernel
theorem dL_moved_48 : decode cL_moved 48 = .ok (.invokestatic 67, 3) := by decide +kernel
theorem dL_moved_51 : decode cL_moved 51 = .ok (.lstore 12, 2) := by decide +kernel
theorem dL_moved_53 : decode cL_moved 53 = .ok (.iconst (-1), 1) := by decide +kernel
theorem dL_moved_54 : decode cL_moved 54 = .ok (.istore 9, 2) := by decide +kernel
theorem dL_moved_56 : decode cL_moved 56 = .ok (.bipush 35, 2) := by decide +kernel
theorem dL_moved_58 : decode cL_moved 58 = .ok (.istore 14, 2) := by decide +kernel
theorem dL_moved_60 : decode cL_moved 60 = .ok (.iload 14, 2) := by decide +kernel
theorem dL_moved_62 : decode cL_moved 62 = .ok (.ifCond .lt 113, 3) := by decide +kernel
theorem dL_moved_65 : decode cL_moved 65 = .ok (.iload 6, 2) := by decide +kernel
theorem dL_moved_67 : decode cL_moved 67 = .ok (.ifCond .eq 48, 3) := by decide +kernel
theorem dL_moved_70 : decode cL_moved 70 = .ok (.lload 12, 2) := by decide +kernel
theorem dL_moved_72 : decode cL_moved 72 = .ok (.iload 14, 2) := by decide +kernel
theorem dL_moved_74 : decode cL_moved 74 = .ok (.invokestatic 25, 3) := by decide +kernel
theorem dL_moved_77 : decode cL_moved 77 = .ok (.ifCond .eq 34, 3) := by decide +kernel
theorem dL_moved_80 : decode cL_moved 80 = .ok (.aload_n 0, 1) := by decide +kernel
theorem dL_moved_81 : decode cL_moved 81 = .ok (.iload 14, 2) := by decide +kernel
theorem dL_moved_83 : decode cL_moved 83 = .ok (.iaload, 1) := by decide +kernel
theorem dL_moved_84 : decode cL_moved 84 = .ok (.iload 5, 2) := by decide +kernel
theorem dL_moved_86 : decode cL_moved 86 = .ok (.if_icmp .ge 25, 3) := by decide +kernel
theorem dL_moved_89 : decode cL_moved 89 = .ok (.iload 14, 2) := by decide +kernel
theorem dL_moved_91 : decode cL_moved 91 = .ok (.bipush 6, 2) := by decide +kernel
theorem dL_moved_93 : decode cL_moved 93 = .ok (.irem, 1) := by decide +kernel
theorem dL_moved_94 : decode cL_moved 94 = .ok (.ifCond .eq 13, 3) := by decide +kernel
theorem dL_moved_97 : decode cL_moved 97 = .ok (.lload 10, 2) := by decide +kernel
theorem dL_moved_99 : decode cL_moved 99 = .ok (.iload 14, 2) := by decide +kernel
theorem dL_moved_101 : decode cL_moved 101 = .ok (.invokestatic 63, 3) := by decide +kernel
theorem dL_moved_104 : decode cL_moved 104 = .ok (.ifCond .le 7, 3) := by decide +kernel
theorem dL_moved_107 : decode cL_moved 107 = .ok (.iconst 1, 1) := by decide +kernel
theorem dL_moved_108 : decode cL_moved 108 = .ok (.goto 50, 3) := by decide +kernel
theorem dL_moved_111 : decode cL_moved 111 = .ok (.iconst 0, 1) := by decide +kernel
theorem dL_moved_112 : decode cL_moved 112 = .ok (.goto 46, 3) := by decide +kernel
theorem dL_moved_115 : decode cL_moved 115 = .ok (.lload 10, 2) := by decide +kernel
theorem dL_moved_117 : decode cL_moved 117 = .ok (.iload 14, 2) := by decide +kernel
theorem dL_moved_119 : decode cL_moved 119 = .ok (.invokestatic 25, 3) := by decide +kernel
theorem dL_moved_122 : decode cL_moved 122 = .ok (.ifCond .eq 35, 3) := by decide +kernel
theorem dL_moved_125 : decode cL_moved 125 = .ok (.aload_n 0, 1) := by decide +kernel
theorem dL_moved_126 : decode cL_moved 126 = .ok (.iload 14, 2) := by decide +kernel
theorem dL_moved_128 : decode cL_moved 128 = .ok (.iaload, 1) := by decide +kernel
theorem dL_moved_129 : decode cL_moved 129 = .ok (.iload 5, 2) := by decide +kernel
theorem dL_moved_131 : decode cL_moved 131 = .ok (.if_icmp .lt 26, 3) := by decide +kernel
theorem dL_moved_134 : decode cL_moved 134 = .ok (.iload 14, 2) := by decide +kernel
theorem dL_moved_136 : decode cL_moved 136 = .ok (.bipush 6, 2) := by decide +kernel
theorem dL_moved_138 : decode cL_moved 138 = .ok (.irem, 1) := by decide +kernel
theorem dL_moved_139 : decode cL_moved 139 = .ok (.iconst 5, 1) := by decide +kernel
theorem dL_moved_140 : decode cL_moved 140 = .ok (.if_icmp .eq 13, 3) := by decide +kernel
theorem dL_moved_143 : decode cL_moved 143 = .ok (.lload 12, 2) := by decide +kernel
theorem dL_moved_145 : decode cL_moved 145 = .ok (.iload 14, 2) := by decide +kernel
theorem dL_moved_147 : decode cL_moved 147 = .ok (.invokestatic 63, 3) := by decide +kernel
theorem dL_moved_150 : decode cL_moved 150 = .ok (.ifCond .le 7, 3) := by decide +kernel
theorem dL_moved_153 : decode cL_moved 153 = .ok (.iconst 1, 1) := by decide +kernel
theorem dL_moved_154 : decode cL_moved 154 = .ok (.goto 4, 3) := by decide +kernel
theorem dL_moved_157 : decode cL_moved 157 = .ok (.iconst 0, 1) := by decide +kernel
theorem dL_moved_158 : decode cL_moved 158 = .ok (.istore 15, 2) := by decide +kernel
theorem dL_moved_160 : decode cL_moved 160 = .ok (.iload 15, 2) := by decide +kernel
theorem dL_moved_162 : decode cL_moved 162 = .ok (.ifCond .eq 7, 3) := by decide +kernel
theorem dL_moved_165 : decode cL_moved 165 = .ok (.iload 14, 2) := by decide +kernel
theorem dL_moved_167 : decode cL_moved 167 = .ok (.istore 9, 2) := by decide +kernel
theorem dL_moved_169 : decode cL_moved 169 = .ok (.iinc 14 (-1), 3) := by decide +kernel
theorem dL_moved_172 : decode cL_moved 172 = .ok (.goto (-112), 3) := by decide +kernel
theorem dL_moved_175 : decode cL_moved 175 = .ok (.iload 9, 2) := by decide +kernel
theorem dL_moved_177 : decode cL_moved 177 = .ok (.ifCond .lt 12, 3) := by decide +kernel
theorem dL_moved_180 : decode cL_moved 180 = .ok (.lload 7, 2) := by decide +kernel
theorem dL_moved_182 : decode cL_moved 182 = .ok (.lconst 1, 1) := by decide +kernel
theorem dL_moved_183 : decode cL_moved 183 = .ok (.iload 9, 2) := by decide +kernel
theorem dL_moved_185 : decode cL_moved 185 = .ok (.lshl, 1) := by decide +kernel
theorem dL_moved_186 : decode cL_moved 186 = .ok (.lxor, 1) := by decide +kernel
theorem dL_moved_187 : decode cL_moved 187 = .ok (.lstore 7, 2) := by decide +kernel
theorem dL_moved_189 : decode cL_moved 189 = .ok (.goto (-183), 3) := by decide +kernel
theorem dL_moved_192 : decode cL_moved 192 = .ok (.lload 7, 2) := by decide +kernel
theorem dL_moved_194 : decode cL_moved 194 = .ok (.lreturn, 1) := by decide +kernel
theorem dX5_homeOf_0 : decode cX5_homeOf 0 = .ok (.iload_n 0, 1) := by decide +kernel
theorem dX5_homeOf_1 : decode cX5_homeOf 1 = .ok (.ifCond .eq 7, 3) := by decide +kernel
theorem dX5_homeOf_4 : decode cX5_homeOf 4 = .ok (.iconst 1, 1) := by decide +kernel
theorem dX5_homeOf_5 : decode cX5_homeOf 5 = .ok (.goto 4, 3) := by decide +kernel
theorem dX5_homeOf_8 : decode cX5_homeOf 8 = .ok (.iconst 2, 1) := by decide +kernel
theorem dX5_homeOf_9 : decode cX5_homeOf 9 = .ok (.ireturn, 1) := by decide +kernel
theorem dX11_isOnSide_0 : decode cX11_isOnSide 0 = .ok (.iload_n 0, 1) := by decide +kernel
theorem dX11_isOnSide_1 : decode cX11_isOnSide 1 = .ok (.iload_n 1, 1) := by decide +kernel
theorem dX11_isOnSide_2 : decode cX11_isOnSide 2 = .ok (.invokestatic 374, 3) := by decide +kernel
theorem dX11_isOnSide_5 : decode cX11_isOnSide 5 = .ok (.iconst (-1), 1) := by decide +kernel
theorem dX11_isOnSide_6 : decode cX11_isOnSide 6 = .ok (.if_icmp .ne 7, 3) := by decide +kernel
theorem dX11_isOnSide_9 : decode cX11_isOnSide 9 = .ok (.iconst 1, 1) := by decide +kernel
theorem dX11_isOnSide_10 : decode cX11_isOnSide 10 = .ok (.goto 4, 3) := by decide +kernel
theorem dX11_isOnSide_13 : decode cX11_isOnSide 13 = .ok (.iconst 0, 1) := by decide +kernel
theorem dX11_isOnSide_14 : decode cX11_isOnSide 14 = .ok (.ireturn, 1) := by decide +kernel
theorem dX5_findHanging_0 : decode cX5_findHanging 0 = .ok (.aload_n 0, 1) := by decide +kernel
theorem dX5_findHanging_1 : decode cX5_findHanging 1 = .ok (.getfield 21, 3) := by decide +kernel
theorem dX5_findHanging_4 : decode cX5_findHanging 4 = .ok (.invokevirtual 55, 3) := by decide +kernel
theorem dX5_findHanging_7 : decode cX5_findHanging 7 = .ok (.iconst 0, 1) := by decide +kernel
theorem dX5_findHanging_8 : decode cX5_findHanging 8 = .ok (.istore_n 2, 1) := by decide +kernel
theorem dX5_findHanging_9 : decode cX5_findHanging 9 = .ok (.iload_n 2, 1) := by decide +kernel
theorem dX5_findHanging_10 : decode cX5_findHanging 10 = .ok (.bipush 36, 2) := by decide +kernel
theorem dX5_findHanging_12 : decode cX5_findHanging 12 = .ok (.if_icmp .ge 59, 3) := by decide +kernel
theorem dX5_findHanging_15 : decode cX5_findHanging 15 = .ok (.aload_n 0, 1) := by decide +kernel
theorem dX5_findHanging_16 : decode cX5_findHanging 16 = .ok (.getfield 15, 3) := by decide +kernel
theorem dX5_findHanging_19 : decode cX5_findHanging 19 = .ok (.iload_n 2, 1) := by decide +kernel
theorem dX5_findHanging_20 : decode cX5_findHanging 20 = .ok (.aload_n 1, 1) := by decide +kernel
theorem dX5_findHanging_21 : decode cX5_findHanging 21 = .ok (.iload_n 2, 1) := by decide +kernel
theorem dX5_findHanging_22 : decode cX5_findHanging 22 = .ok (.baload, 1) := by decide +kernel
theorem dX5_findHanging_23 : decode cX5_findHanging 23 = .ok (.ifCond .ne 23, 3) := by decide +kernel
theorem dX5_findHanging_26 : decode cX5_findHanging 26 = .ok (.iload_n 2, 1) := by decide +kernel
theorem dX5_findHanging_27 : decode cX5_findHanging 27 = .ok (.aload_n 0, 1) := by decide +kernel
theorem dX5_findHanging_28 : decode cX5_findHanging 28 = .ok (.getfield 9, 3) := by decide +kernel
theorem dX5_findHanging_31 : decode cX5_findHanging 31 = .ok (.iload_n 2, 1) := by decide +kernel
theorem dX5_findHanging_32 : decode cX5_findHanging 32 = .ok (.baload, 1) := by decide +kernel
theorem dX5_findHanging_33 : decode cX5_findHanging 33 = .ok (.invokestatic 43, 3) := by decide +kernel
theorem dX5_findHanging_36 : decode cX5_findHanging 36 = .ok (.invokestatic 47, 3) := by decide +kernel
theorem dX5_findHanging_39 : decode cX5_findHanging 39 = .ok (.ifCond .eq 7, 3) := by decide +kernel
theorem dX5_findHanging_42 : decode cX5_findHanging 42 = .ok (.iconst 1, 1) := by decide +kernel
theorem dX5_findHanging_43 : decode cX5_findHanging 43 = .ok (.goto 4, 3) := by decide +kernel
theorem dX5_findHanging_46 : decode cX5_findHanging 46 = .ok (.iconst 0, 1) := by decide +kernel
theorem dX5_findHanging_47 : decode cX5_findHanging 47 = .ok (.bastore, 1) := by decide +kernel
theorem dX5_findHanging_48 : decode cX5_findHanging 48 = .ok (.aload_n 0, 1) := by decide +kernel
theorem dX5_findHanging_49 : decode cX5_findHanging 49 = .ok (.getfield 15, 3) := by decide +kernel
theorem dX5_findHanging_52 : decode cX5_findHanging 52 = .ok (.iload_n 2, 1) := by decide +kernel
theorem dX5_findHanging_53 : decode cX5_findHanging 53 = .ok (.baload, 1) := by decide +kernel
theorem dX5_findHanging_54 : decode cX5_findHanging 54 = .ok (.ifCond .eq 11, 3) := by decide +kernel
theorem dX5_findHanging_57 : decode cX5_findHanging 57 = .ok (.aload_n 0, 1) := by decide +kernel
theorem dX5_findHanging_58 : decode cX5_findHanging 58 = .ok (.getfield 21, 3) := by decide +kernel
theorem dX5_findHanging_61 : decode cX5_findHanging 61 = .ok (.iload_n 2, 1) := by decide +kernel
theorem dX5_findHanging_62 : decode cX5_findHanging 62 = .ok (.invokevirtual 58, 3) := by decide +kernel
theorem dX5_findHanging_65 : decode cX5_findHanging 65 = .ok (.iinc 2 1, 3) := by decide +kernel
theorem dX5_findHanging_68 : decode cX5_findHanging 68 = .ok (.goto (-59), 3) := by decide +kernel
theorem dX5_findHanging_71 : decode cX5_findHanging 71 = .ok (.iconst 0, 1) := by decide +kernel
theorem dX5_findHanging_72 : decode cX5_findHanging 72 = .ok (.istore_n 2, 1) := by decide +kernel
theorem dX5_findHanging_73 : decode cX5_findHanging 73 = .ok (.iload_n 2, 1) := by decide +kernel
theorem dX5_findHanging_74 : decode cX5_findHanging 74 = .ok (.bipush 36, 2) := by decide +kernel
theorem dX5_findHanging_76 : decode cX5_findHanging 76 = .ok (.if_icmp .ge 104, 3) := by decide +kernel
theorem dX5_findHanging_79 : decode cX5_findHanging 79 = .ok (.aload_n 0, 1) := by decide +kernel
theorem dX5_findHanging_80 : decode cX5_findHanging 80 = .ok (.getfield 21, 3) := by decide +kernel
theorem dX5_findHanging_83 : decode cX5_findHanging 83 = .ok (.invokevirtual 62, 3) := by decide +kernel
theorem dX5_findHanging_86 : decode cX5_findHanging 86 = .ok (.istore_n 3, 1) := by decide +kernel
theorem dX5_findHanging_87 : decode cX5_findHanging 87 = .ok (.iload_n 3, 1) := by decide +kernel
theorem dX5_findHanging_88 : decode cX5_findHanging 88 = .ok (.iconst (-1), 1) := by decide +kernel
theorem dX5_findHanging_89 : decode cX5_findHanging 89 = .ok (.if_icmp .ne 6, 3) := by decide +kernel
theorem dX5_findHanging_92 : decode cX5_findHanging 92 = .ok (.goto 88, 3) := by decide +kernel
theorem dX5_findHanging_95 : decode cX5_findHanging 95 = .ok (.iconst 0, 1) := by decide +kernel
theorem dX5_findHanging_96 : decode cX5_findHanging 96 = .ok (.istore 4, 2) := by decide +kernel
theorem dX5_findHanging_98 : decode cX5_findHanging 98 = .ok (.iload 4, 2) := by decide +kernel
theorem dX5_findHanging_100 : decode cX5_findHanging 100 = .ok (.iconst 4, 1) := by decide +kernel
theorem dX5_findHanging_101 : decode cX5_findHanging 101 = .ok (.if_icmp .ge 73, 3) := by decide +kernel
theorem dX5_findHanging_104 : decode cX5_findHanging 104 = .ok (.iload_n 3, 1) := by decide +kernel
theorem dX5_findHanging_105 : decode cX5_findHanging 105 = .ok (.iload 4, 2) := by decide +kernel
theorem dX5_findHanging_107 : decode cX5_findHanging 107 = .ok (.invokestatic 51, 3) := by decide +kernel
theorem dX5_findHanging_110 : decode cX5_findHanging 110 = .ok (.istore 5, 2) := by decide +kernel
theorem dX5_findHanging_112 : decode cX5_findHanging 112 = .ok (.iload 5, 2) := by decide +kernel
theorem dX5_findHanging_114 : decode cX5_findHanging 114 = .ok (.iconst (-1), 1) := by decide +kernel
theorem dX5_findHanging_115 : decode cX5_findHanging 115 = .ok (.if_icmp .eq 53, 3) := by decide +kernel
theorem dX5_findHanging_118 : decode cX5_findHanging 118 = .ok (.aload_n 0, 1) := by decide +kernel
theorem dX5_findHanging_119 : decode cX5_findHanging 119 = .ok (.getfield 15, 3) := by decide +kernel
theorem dX5_findHanging_122 : decode cX5_findHanging 122 = .ok (.iload 5, 2) := by decide +kernel
theorem dX5_findHanging_124 : decode cX5_findHanging 124 = .ok (.baload, 1) := by decide +kernel
theorem dX5_findHanging_125 : decode cX5_findHanging 125 = .ok (.ifCond .ne 43, 3) := by decide +kernel
theorem dX5_findHanging_128 : decode cX5_findHanging 128 = .ok (.aload_n 1, 1) := by decide +kernel
theorem dX5_findHanging_129 : decode cX5_findHanging 129 = .ok (.iload 5, 2) := by decide +kernel
theorem dX5_findHanging_131 : decode cX5_findHanging 131 = .ok (.baload, 1) := by decide +kernel
theorem dX5_findHanging_132 : decode cX5_findHanging 132 = .ok (.ifCond .ne 36, 3) := by decide +kernel
theorem dX5_findHanging_135 : decode cX5_findHanging 135 = .ok (.aload_n 0, 1) := by decide +kernel
theorem dX5_findHanging_136 : decode cX5_findHanging 136 = .ok (.getfield 9, 3) := by decide +kernel
theorem dX5_findHanging_139 : decode cX5_findHanging 139 = .ok (.iload 5, 2) := by decide +kernel
theorem dX5_findHanging_141 : decode cX5_findHanging 141 = .ok (.baload, 1) := by decide +kernel
theorem dX5_findHanging_142 : decode cX5_findHanging 142 = .ok (.aload_n 0, 1) := by decide +kernel
theorem dX5_findHanging_143 : decode cX5_findHanging 143 = .ok (.getfield 9, 3) := by decide +kernel
theorem dX5_findHanging_146 : decode cX5_findHanging 146 = .ok (.iload_n 3, 1) := by decide +kernel
theorem dX5_findHanging_147 : decode cX5_findHanging 147 = .ok (.baload, 1) := by decide +kernel
theorem dX5_findHanging_148 : decode cX5_findHanging 148 = .ok (.if_icmp .ne 20, 3) := by decide +kernel
theorem dX5_findHanging_151 : decode cX5_findHanging 151 = .ok (.aload_n 0, 1) := by decide +kernel
theorem dX5_findHanging_152 : decode cX5_findHanging 152 = .ok (.getfield 15, 3) := by decide +kernel
theorem dX5_findHanging_155 : decode cX5_findHanging 155 = .ok (.iload 5, 2) := by decide +kernel
theorem dX5_findHanging_157 : decode cX5_findHanging 157 = .ok (.iconst 1, 1) := by decide +kernel
theorem dX5_findHanging_158 : decode cX5_findHanging 158 = .ok (.bastore, 1) := by decide +kernel
theorem dX5_findHanging_159 : decode cX5_findHanging 159 = .ok (.aload_n 0, 1) := by decide +kernel
theorem dX5_findHanging_160 : decode cX5_findHanging 160 = .ok (.getfield 21, 3) := by decide +kernel
theorem dX5_findHanging_163 : decode cX5_findHanging 163 = .ok (.iload 5, 2) := by decide +kernel
theorem dX5_findHanging_165 : decode cX5_findHanging 165 = .ok (.invokevirtual 58, 3) := by decide +kernel
theorem dX5_findHanging_168 : decode cX5_findHanging 168 = .ok (.iinc 4 1, 3) := by decide +kernel
theorem dX5_findHanging_171 : decode cX5_findHanging 171 = .ok (.goto (-73), 3) := by decide +kernel
theorem dX5_findHanging_174 : decode cX5_findHanging 174 = .ok (.iinc 2 1, 3) := by decide +kernel
theorem dX5_findHanging_177 : decode cX5_findHanging 177 = .ok (.goto (-104), 3) := by decide +kernel
theorem dX5_findHanging_180 : decode cX5_findHanging 180 = .ok (.return_, 1) := by decide +kernel
theorem dX5_isPressed_0 : decode cX5_isPressed 0 = .ok (.iload_n 1, 1) := by decide +kernel
theorem dX5_isPressed_1 : decode cX5_isPressed 1 = .ok (.iload_n 2, 1) := by decide +kernel
theorem dX5_isPressed_2 : decode cX5_isPressed 2 = .ok (.invokestatic 43, 3) := by decide +kernel
theorem dX5_isPressed_5 : decode cX5_isPressed 5 = .ok (.invokestatic 47, 3) := by decide +kernel
theorem dX5_isPressed_8 : decode cX5_isPressed 8 = .ok (.ifCond .eq 5, 3) := by decide +kernel
theorem dX5_isPressed_11 : decode cX5_isPressed 11 = .ok (.iconst 1, 1) := by decide +kernel
theorem dX5_isPressed_12 : decode cX5_isPressed 12 = .ok (.ireturn, 1) := by decide +kernel
theorem dX5_isPressed_13 : decode cX5_isPressed 13 = .ok (.iconst 0, 1) := by decide +kernel
theorem dX5_isPressed_14 : decode cX5_isPressed 14 = .ok (.istore_n 3, 1) := by decide +kernel
theorem dX5_isPressed_15 : decode cX5_isPressed 15 = .ok (.iload_n 3, 1) := by decide +kernel
theorem dX5_isPressed_16 : decode cX5_isPressed 16 = .ok (.iconst 4, 1) := by decide +kernel
theorem dX5_isPressed_17 : decode cX5_isPressed 17 = .ok (.if_icmp .ge 45, 3) := by decide +kernel
theorem dX5_isPressed_20 : decode cX5_isPressed 20 = .ok (.iload_n 1, 1) := by decide +kernel
theorem dX5_isPressed_21 : decode cX5_isPressed 21 = .ok (.iload_n 3, 1) := by decide +kernel
theorem dX5_isPressed_22 : decode cX5_isPressed 22 = .ok (.invokestatic 51, 3) := by decide +kernel
theorem dX5_isPressed_25 : decode cX5_isPressed 25 = .ok (.istore 4, 2) := by decide +kernel
theorem dX5_isPressed_27 : decode cX5_isPressed 27 = .ok (.iload 4, 2) := by decide +kernel
theorem dX5_isPressed_29 : decode cX5_isPressed 29 = .ok (.iconst (-1), 1) := by decide +kernel
theorem dX5_isPressed_30 : decode cX5_isPressed 30 = .ok (.if_icmp .eq 26, 3) := by decide +kernel
theorem dX5_isPressed_33 : decode cX5_isPressed 33 = .ok (.aload_n 0, 1) := by decide +kernel
theorem dX5_isPressed_34 : decode cX5_isPressed 34 = .ok (.getfield 15, 3) := by decide +kernel
theorem dX5_isPressed_37 : decode cX5_isPressed 37 = .ok (.iload 4, 2) := by decide +kernel
theorem dX5_isPressed_39 : decode cX5_isPressed 39 = .ok (.baload, 1) := by decide +kernel
theorem dX5_isPressed_40 : decode cX5_isPressed 40 = .ok (.ifCond .eq 16, 3) := by decide +kernel
theorem dX5_isPressed_43 : decode cX5_isPressed 43 = .ok (.aload_n 0, 1) := by decide +kernel
theorem dX5_isPressed_44 : decode cX5_isPressed 44 = .ok (.getfield 9, 3) := by decide +kernel
theorem dX5_isPressed_47 : decode cX5_isPressed 47 = .ok (.iload 4, 2) := by decide +kernel
theorem dX5_isPressed_49 : decode cX5_isPressed 49 = .ok (.baload, 1) := by decide +kernel
theorem dX5_isPressed_50 : decode cX5_isPressed 50 = .ok (.iload_n 2, 1) := by decide +kernel
theorem dX5_isPressed_51 : decode cX5_isPressed 51 = .ok (.if_icmp .ne 5, 3) := by decide +kernel
theorem dX5_isPressed_54 : decode cX5_isPressed 54 = .ok (.iconst 1, 1) := by decide +kernel
theorem dX5_isPressed_55 : decode cX5_isPressed 55 = .ok (.ireturn, 1) := by decide +kernel
theorem dX5_isPressed_56 : decode cX5_isPressed 56 = .ok (.iinc 3 1, 3) := by decide +kernel
theorem dX5_isPressed_59 : decode cX5_isPressed 59 = .ok (.goto (-44), 3) := by decide +kernel
theorem dX5_isPressed_62 : decode cX5_isPressed 62 = .ok (.iconst 0, 1) := by decide +kernel
theorem dX5_isPressed_63 : decode cX5_isPressed 63 = .ok (.ireturn, 1) := by decide +kernel
theorem dX5_nextPushed_0 : decode cX5_nextPushed 0 = .ok (.iconst 0, 1) := by decide +kernel
theorem dX5_nextPushed_1 : decode cX5_nextPushed 1 = .ok (.istore 4, 2) := by decide +kernel
theorem dX5_nextPushed_3 : decode cX5_nextPushed 3 = .ok (.iload 4, 2) := by decide +kernel
theorem dX5_nextPushed_5 : decode cX5_nextPushed 5 = .ok (.bipush 36, 2) := by decide +kernel
theorem dX5_nextPushed_7 : decode cX5_nextPushed 7 = .ok (.if_icmp .ge 87, 3) := by decide +kernel
theorem dX5_nextPushed_10 : decode cX5_nextPushed 10 = .ok (.aload_n 0, 1) := by decide +kernel
theorem dX5_nextPushed_11 : decode cX5_nextPushed 11 = .ok (.getfield 15, 3) := by decide +kernel
theorem dX5_nextPushed_14 : decode cX5_nextPushed 14 = .ok (.iload 4, 2) := by decide +kernel
theorem dX5_nextPushed_16 : decode cX5_nextPushed 16 = .ok (.baload, 1) := by decide +kernel
theorem dX5_nextPushed_17 : decode cX5_nextPushed 17 = .ok (.ifCond .eq 18, 3) := by decide +kernel
theorem dX5_nextPushed_20 : decode cX5_nextPushed 20 = .ok (.aload_n 0, 1) := by decide +kernel
theorem dX5_nextPushed_21 : decode cX5_nextPushed 21 = .ok (.getfield 9, 3) := by decide +kernel
theorem dX5_nextPushed_24 : decode cX5_nextPushed 24 = .ok (.iload 4, 2) := by decide +kernel
theorem dX5_nextPushed_26 : decode cX5_nextPushed 26 = .ok (.baload, 1) := by decide +kernel
theorem dX5_nextPushed_27 : decode cX5_nextPushed 27 = .ok (.iload_n 3, 1) := by decide +kernel
theorem dX5_nextPushed_28 : decode cX5_nextPushed 28 = .ok (.if_icmp .eq 7, 3) := by decide +kernel
theorem dX5_nextPushed_31 : decode cX5_nextPushed 31 = .ok (.iconst 1, 1) := by decide +kernel
theorem dX5_nextPushed_32 : decode cX5_nextPushed 32 = .ok (.goto 4, 3) := by decide +kernel
theorem dX5_nextPushed_35 : decode cX5_nextPushed 35 = .ok (.iconst 0, 1) := by decide +kernel
theorem dX5_nextPushed_36 : decode cX5_nextPushed 36 = .ok (.istore 5, 2) := by decide +kernel
theorem dX5_nextPushed_38 : decode cX5_nextPushed 38 = .ok (.aload_n 1, 1) := by decide +kernel
theorem dX5_nextPushed_39 : decode cX5_nextPushed 39 = .ok (.getfield 33, 3) := by decide +kernel
theorem dX5_nextPushed_42 : decode cX5_nextPushed 42 = .ok (.iload 4, 2) := by decide +kernel
theorem dX5_nextPushed_44 : decode cX5_nextPushed 44 = .ok (.iaload, 1) := by decide +kernel
theorem dX5_nextPushed_45 : decode cX5_nextPushed 45 = .ok (.iload_n 2, 1) := by decide +kernel
theorem dX5_nextPushed_46 : decode cX5_nextPushed 46 = .ok (.if_icmp .ge 7, 3) := by decide +kernel
theorem dX5_nextPushed_49 : decode cX5_nextPushed 49 = .ok (.iconst 1, 1) := by decide +kernel
theorem dX5_nextPushed_50 : decode cX5_nextPushed 50 = .ok (.goto 4, 3) := by decide +kernel
theorem dX5_nextPushed_53 : decode cX5_nextPushed 53 = .ok (.iconst 0, 1) := by decide +kernel
theorem dX5_nextPushed_54 : decode cX5_nextPushed 54 = .ok (.iload_n 3, 1) := by decide +kernel
theorem dX5_nextPushed_55 : decode cX5_nextPushed 55 = .ok (.if_icmp .ne 7, 3) := by decide +kernel
theorem dX5_nextPushed_58 : decode cX5_nextPushed 58 = .ok (.iconst 1, 1) := by decide +kernel
theorem dX5_nextPushed_59 : decode cX5_nextPushed 59 = .ok (.goto 4, 3) := by decide +kernel
theorem dX5_nextPushed_62 : decode cX5_nextPushed 62 = .ok (.iconst 0, 1) := by decide +kernel
theorem dX5_nextPushed_63 : decode cX5_nextPushed 63 = .ok (.istore 6, 2) := by decide +kernel
theorem dX5_nextPushed_65 : decode cX5_nextPushed 65 = .ok (.iload 5, 2) := by decide +kernel
theorem dX5_nextPushed_67 : decode cX5_nextPushed 67 = .ok (.ifCond .eq 21, 3) := by decide +kernel
theorem dX5_nextPushed_70 : decode cX5_nextPushed 70 = .ok (.iload 6, 2) := by decide +kernel
theorem dX5_nextPushed_72 : decode cX5_nextPushed 72 = .ok (.ifCond .eq 16, 3) := by decide +kernel
theorem dX5_nextPushed_75 : decode cX5_nextPushed 75 = .ok (.aload_n 0, 1) := by decide +kernel
theorem dX5_nextPushed_76 : decode cX5_nextPushed 76 = .ok (.iload 4, 2) := by decide +kernel
theorem dX5_nextPushed_78 : decode cX5_nextPushed 78 = .ok (.iload_n 3, 1) := by decide +kernel
theorem dX5_nextPushed_79 : decode cX5_nextPushed 79 = .ok (.invokevirtual 39, 3) := by decide +kernel
theorem dX5_nextPushed_82 : decode cX5_nextPushed 82 = .ok (.ifCond .eq 6, 3) := by decide +kernel
theorem dX5_nextPushed_85 : decode cX5_nextPushed 85 = .ok (.iload 4, 2) := by decide +kernel
theorem dX5_nextPushed_87 : decode cX5_nextPushed 87 = .ok (.ireturn, 1) := by decide +kernel
theorem dX5_nextPushed_88 : decode cX5_nextPushed 88 = .ok (.iinc 4 1, 3) := by decide +kernel
theorem dX5_nextPushed_91 : decode cX5_nextPushed 91 = .ok (.goto (-88), 3) := by decide +kernel
theorem dX5_nextPushed_94 : decode cX5_nextPushed 94 = .ok (.iconst (-1), 1) := by decide +kernel
theorem dX5_nextPushed_95 : decode cX5_nextPushed 95 = .ok (.ireturn, 1) := by decide +kernel
theorem dX5_push_0 : decode cX5_push 0 = .ok (.iconst 0, 1) := by decide +kernel
theorem dX5_push_1 : decode cX5_push 1 = .ok (.istore 5, 2) := by decide +kernel
theorem dX5_push_3 : decode cX5_push 3 = .ok (.iload 5, 2) := by decide +kernel
theorem dX5_push_5 : decode cX5_push 5 = .ok (.bipush 36, 2) := by decide +kernel
theorem dX5_push_7 : decode cX5_push 7 = .ok (.if_icmp .ge 42, 3) := by decide +kernel
theorem dX5_push_10 : decode cX5_push 10 = .ok (.aload_n 0, 1) := by decide +kernel
theorem dX5_push_11 : decode cX5_push 11 = .ok (.aload_n 2, 1) := by decide +kernel
theorem dX5_push_12 : decode cX5_push 12 = .ok (.invokevirtual 25, 3) := by decide +kernel
theorem dX5_push_15 : decode cX5_push 15 = .ok (.aload_n 0, 1) := by decide +kernel
theorem dX5_push_16 : decode cX5_push 16 = .ok (.aload_n 1, 1) := by decide +kernel
theorem dX5_push_17 : decode cX5_push 17 = .ok (.iload_n 3, 1) := by decide +kernel
theorem dX5_push_18 : decode cX5_push 18 = .ok (.iload 4, 2) := by decide +kernel
theorem dX5_push_20 : decode cX5_push 20 = .ok (.invokevirtual 29, 3) := by decide +kernel
theorem dX5_push_23 : decode cX5_push 23 = .ok (.istore 6, 2) := by decide +kernel
theorem dX5_push_25 : decode cX5_push 25 = .ok (.iload 6, 2) := by decide +kernel
theorem dX5_push_27 : decode cX5_push 27 = .ok (.iconst (-1), 1) := by decide +kernel
theorem dX5_push_28 : decode cX5_push 28 = .ok (.if_icmp .ne 6, 3) := by decide +kernel
theorem dX5_push_31 : decode cX5_push 31 = .ok (.goto 18, 3) := by decide +kernel
theorem dX5_push_34 : decode cX5_push 34 = .ok (.aload_n 0, 1) := by decide +kernel
theorem dX5_push_35 : decode cX5_push 35 = .ok (.getfield 9, 3) := by decide +kernel
theorem dX5_push_38 : decode cX5_push 38 = .ok (.iload 6, 2) := by decide +kernel
theorem dX5_push_40 : decode cX5_push 40 = .ok (.iload 4, 2) := by decide +kernel
theorem dX5_push_42 : decode cX5_push 42 = .ok (.bastore, 1) := by decide +kernel
theorem dX5_push_43 : decode cX5_push 43 = .ok (.iinc 5 1, 3) := by decide +kernel
theorem dX5_push_46 : decode cX5_push 46 = .ok (.goto (-43), 3) := by decide +kernel
theorem dX5_push_49 : decode cX5_push 49 = .ok (.return_, 1) := by decide +kernel
theorem dX11_drain_0 : decode cX11_drain 0 = .ok (.iload_n 1, 1) := by decide +kernel
theorem dX11_drain_1 : decode cX11_drain 1 = .ok (.iconst 0, 1) := by decide +kernel
theorem dX11_drain_2 : decode cX11_drain 2 = .ok (.sipush 1000, 3) := by decide +kernel
theorem dX11_drain_5 : decode cX11_drain 5 = .ok (.invokestatic 90, 3) := by decide +kernel
theorem dX11_drain_8 : decode cX11_drain 8 = .ok (.aload_n 0, 1) := by decide +kernel
theorem dX11_drain_9 : decode cX11_drain 9 = .ok (.getfield 78, 3) := by decide +kernel
theorem dX11_drain_12 : decode cX11_drain 12 = .ok (.aload_n 0, 1) := by decide +kernel
theorem dX11_drain_13 : decode cX11_drain 13 = .ok (.getfield 10, 3) := by decide +kernel
theorem dX11_drain_16 : decode cX11_drain 16 = .ok (.aload_n 0, 1) := by decide +kernel
theorem dX11_drain_17 : decode cX11_drain 17 = .ok (.getfield 22, 3) := by decide +kernel
theorem dX11_drain_20 : decode cX11_drain 20 = .ok (.getfield 118, 3) := by decide +kernel
theorem dX11_drain_23 : decode cX11_drain 23 = .ok (.iload_n 1, 1) := by decide +kernel
theorem dX11_drain_24 : decode cX11_drain 24 = .ok (.iconst 1, 1) := by decide +kernel
theorem dX11_drain_25 : decode cX11_drain 25 = .ok (.invokevirtual 272, 3) := by decide +kernel
theorem dX11_drain_28 : decode cX11_drain 28 = .ok (.aload_n 0, 1) := by decide +kernel
theorem dX11_drain_29 : decode cX11_drain 29 = .ok (.getfield 78, 3) := by decide +kernel
theorem dX11_drain_32 : decode cX11_drain 32 = .ok (.getfield 276, 3) := by decide +kernel
theorem dX11_drain_35 : decode cX11_drain 35 = .ok (.invokestatic 129, 3) := by decide +kernel
theorem dX11_drain_38 : decode cX11_drain 38 = .ok (.ireturn, 1) := by decide +kernel
theorem dX11_soak_0 : decode cX11_soak 0 = .ok (.iload_n 1, 1) := by decide +kernel
theorem dX11_soak_1 : decode cX11_soak 1 = .ok (.iconst 0, 1) := by decide +kernel
theorem dX11_soak_2 : decode cX11_soak 2 = .ok (.sipush 1000, 3) := by decide +kernel
theorem dX11_soak_5 : decode cX11_soak 5 = .ok (.invokestatic 90, 3) := by decide +kernel
theorem dX11_soak_8 : decode cX11_soak 8 = .ok (.aload_n 0, 1) := by decide +kernel
theorem dX11_soak_9 : decode cX11_soak 9 = .ok (.getfield 78, 3) := by decide +kernel
theorem dX11_soak_12 : decode cX11_soak 12 = .ok (.aload_n 0, 1) := by decide +kernel
theorem dX11_soak_13 : decode cX11_soak 13 = .ok (.getfield 10, 3) := by decide +kernel
theorem dX11_soak_16 : decode cX11_soak 16 = .ok (.aload_n 0, 1) := by decide +kernel
theorem dX11_soak_17 : decode cX11_soak 17 = .ok (.getfield 22, 3) := by decide +kernel
theorem dX11_soak_20 : decode cX11_soak 20 = .ok (.getfield 118, 3) := by decide +kernel
theorem dX11_soak_23 : decode cX11_soak 23 = .ok (.iload_n 1, 1) := by decide +kernel
theorem dX11_soak_24 : decode cX11_soak 24 = .ok (.iconst 0, 1) := by decide +kernel
theorem dX11_soak_25 : decode cX11_soak 25 = .ok (.invokevirtual 272, 3) := by decide +kernel
theorem dX11_soak_28 : decode cX11_soak 28 = .ok (.aload_n 0, 1) := by decide +kernel
theorem dX11_soak_29 : decode cX11_soak 29 = .ok (.getfield 78, 3) := by decide +kernel
theorem dX11_soak_32 : decode cX11_soak 32 = .ok (.getfield 276, 3) := by decide +kernel
theorem dX11_soak_35 : decode cX11_soak 35 = .ok (.invokestatic 129, 3) := by decide +kernel
theorem dX11_soak_38 : decode cX11_soak 38 = .ok (.ireturn, 1) := by decide +kernel
theorem dL_one_0 : decode cL_one 0 = .ok (.iload_n 0, 1) := by decide +kernel
theorem dL_one_1 : decode cL_one 1 = .ok (.bipush 30, 2) := by decide +kernel
theorem dL_one_3 : decode cL_one 3 = .ok (.if_icmp .ge 16, 3) := by decide +kernel
theorem dL_one_6 : decode cL_one 6 = .ok (.iload_n 0, 1) := by decide +kernel
theorem dL_one_7 : decode cL_one 7 = .ok (.iconst 5, 1) := by decide +kernel
theorem dL_one_8 : decode cL_one 8 = .ok (.idiv, 1) := by decide +kernel
theorem dL_one_9 : decode cL_one 9 = .ok (.bipush 6, 2) := by decide +kernel
theorem dL_one_11 : decode cL_one 11 = .ok (.imul, 1) := by decide +kernel
theorem dL_one_12 : decode cL_one 12 = .ok (.iload_n 0, 1) := by decide +kernel
theorem dL_one_13 : decode cL_one 13 = .ok (.iconst 5, 1) := by decide +kernel
theorem dL_one_14 : decode cL_one 14 = .ok (.irem, 1) := by decide +kernel
theorem dL_one_15 : decode cL_one 15 = .ok (.iadd, 1) := by decide +kernel
theorem dL_one_16 : decode cL_one 16 = .ok (.goto 7, 3) := by decide +kernel
theorem dL_one_19 : decode cL_one 19 = .ok (.iload_n 0, 1) := by decide +kernel
theorem dL_one_20 : decode cL_one 20 = .ok (.bipush 30, 2) := by decide +kernel
theorem dL_one_22 : decode cL_one 22 = .ok (.isub, 1) := by decide +kernel
theorem dL_one_23 : decode cL_one 23 = .ok (.ireturn, 1) := by decide +kernel
theorem dL_other_0 : decode cL_other 0 = .ok (.iload_n 0, 1) := by decide +kernel
theorem dL_other_1 : decode cL_other 1 = .ok (.bipush 30, 2) := by decide +kernel
theorem dL_other_3 : decode cL_other 3 = .ok (.if_icmp .ge 18, 3) := by decide +kernel
theorem dL_other_6 : decode cL_other 6 = .ok (.iload_n 0, 1) := by decide +kernel
theorem dL_other_7 : decode cL_other 7 = .ok (.iconst 5, 1) := by decide +kernel
theorem dL_other_8 : decode cL_other 8 = .ok (.idiv, 1) := by decide +kernel
theorem dL_other_9 : decode cL_other 9 = .ok (.bipush 6, 2) := by decide +kernel
theorem dL_other_11 : decode cL_other 11 = .ok (.imul, 1) := by decide +kernel
theorem dL_other_12 : decode cL_other 12 = .ok (.iload_n 0, 1) := by decide +kernel
theorem dL_other_13 : decode cL_other 13 = .ok (.iconst 5, 1) := by decide +kernel
theorem dL_other_14 : decode cL_other 14 = .ok (.irem, 1) := by decide +kernel
theorem dL_other_15 : decode cL_other 15 = .ok (.iadd, 1) := by decide +kernel
theorem dL_other_16 : decode cL_other 16 = .ok (.iconst 1, 1) := by decide +kernel
theorem dL_other_17 : decode cL_other 17 = .ok (.iadd, 1) := by decide +kernel
theorem dL_other_18 : decode cL_other 18 = .ok (.goto 7, 3) := by decide +kernel
theorem dL_other_21 : decode cL_other 21 = .ok (.iload_n 0, 1) := by decide +kernel
theorem dL_other_22 : decode cL_other 22 = .ok (.bipush 24, 2) := by decide +kernel
theorem dL_other_24 : decode cL_other 24 = .ok (.isub, 1) := by decide +kernel
theorem dL_other_25 : decode cL_other 25 = .ok (.ireturn, 1) := by decide +kernel
theorem dL_leads_0 : decode cL_leads 0 = .ok (.iload 6, 2) := by decide +kernel
theorem dL_leads_2 : decode cL_leads 2 = .ok (.invokestatic 31, 3) := by decide +kernel
theorem dL_leads_5 : decode cL_leads 5 = .ok (.istore 7, 2) := by decide +kernel
theorem dL_leads_7 : decode cL_leads 7 = .ok (.iload 6, 2) := by decide +kernel
theorem dL_leads_9 : decode cL_leads 9 = .ok (.invokestatic 35, 3) := by decide +kernel
theorem dL_leads_12 : decode cL_leads 12 = .ok (.istore 8, 2) := by decide +kernel
theorem dL_leads_14 : decode cL_leads 14 = .ok (.lload_n 2, 1) := by decide +kernel
theorem dL_leads_15 : decode cL_leads 15 = .ok (.iload 7, 2) := by decide +kernel
theorem dL_leads_17 : decode cL_leads 17 = .ok (.invokestatic 25, 3) := by decide +kernel
theorem dL_leads_20 : decode cL_leads 20 = .ok (.ifCond .ne 35, 3) := by decide +kernel
theorem dL_leads_23 : decode cL_leads 23 = .ok (.lload_n 2, 1) := by decide +kernel
theorem dL_leads_24 : decode cL_leads 24 = .ok (.iload 8, 2) := by decide +kernel
theorem dL_leads_26 : decode cL_leads 26 = .ok (.invokestatic 25, 3) := by decide +kernel
theorem dL_leads_29 : decode cL_leads 29 = .ok (.ifCond .ne 26, 3) := by decide +kernel
theorem dL_leads_32 : decode cL_leads 32 = .ok (.iload 4, 2) := by decide +kernel
theorem dL_leads_34 : decode cL_leads 34 = .ok (.ifCond .le 23, 3) := by decide +kernel
theorem dL_leads_37 : decode cL_leads 37 = .ok (.aload_n 1, 1) := by decide +kernel
theorem dL_leads_38 : decode cL_leads 38 = .ok (.iload 7, 2) := by decide +kernel
theorem dL_leads_40 : decode cL_leads 40 = .ok (.iaload, 1) := by decide +kernel
theorem dL_leads_41 : decode cL_leads 41 = .ok (.iload 5, 2) := by decide +kernel
theorem dL_leads_43 : decode cL_leads 43 = .ok (.if_icmp .ge 12, 3) := by decide +kernel
theorem dL_leads_46 : decode cL_leads 46 = .ok (.aload_n 1, 1) := by decide +kernel
theorem dL_leads_47 : decode cL_leads 47 = .ok (.iload 8, 2) := by decide +kernel
theorem dL_leads_49 : decode cL_leads 49 = .ok (.iaload, 1) := by decide +kernel
theorem dL_leads_50 : decode cL_leads 50 = .ok (.iload 5, 2) := by decide +kernel
theorem dL_leads_52 : decode cL_leads 52 = .ok (.if_icmp .lt 5, 3) := by decide +kernel
theorem dL_leads_55 : decode cL_leads 55 = .ok (.iconst 0, 1) := by decide +kernel
theorem dL_leads_56 : decode cL_leads 56 = .ok (.ireturn, 1) := by decide +kernel
theorem dL_leads_57 : decode cL_leads 57 = .ok (.iload 4, 2) := by decide +kernel
theorem dL_leads_59 : decode cL_leads 59 = .ok (.iconst 1, 1) := by decide +kernel
theorem dL_leads_60 : decode cL_leads 60 = .ok (.if_icmp .eq 12, 3) := by decide +kernel
theorem dL_leads_63 : decode cL_leads 63 = .ok (.aload_n 0, 1) := by decide +kernel
theorem dL_leads_64 : decode cL_leads 64 = .ok (.iload 6, 2) := by decide +kernel
theorem dL_leads_66 : decode cL_leads 66 = .ok (.iaload, 1) := by decide +kernel
theorem dL_leads_67 : decode cL_leads 67 = .ok (.iload 5, 2) := by decide +kernel
theorem dL_leads_69 : decode cL_leads 69 = .ok (.if_icmp .ge 7, 3) := by decide +kernel
theorem dL_leads_72 : decode cL_leads 72 = .ok (.iconst 1, 1) := by decide +kernel
theorem dL_leads_73 : decode cL_leads 73 = .ok (.goto 4, 3) := by decide +kernel
theorem dL_leads_76 : decode cL_leads 76 = .ok (.iconst 0, 1) := by decide +kernel
theorem dL_leads_77 : decode cL_leads 77 = .ok (.ireturn, 1) := by decide +kernel
theorem dL_grown_0 : decode cL_grown 0 = .ok (.lconst 0, 1) := by decide +kernel
theorem dL_grown_1 : decode cL_grown 1 = .ok (.lstore 9, 2) := by decide +kernel
theorem dL_grown_3 : decode cL_grown 3 = .ok (.iconst 0, 1) := by decide +kernel
theorem dL_grown_4 : decode cL_grown 4 = .ok (.istore 11, 2) := by decide +kernel
theorem dL_grown_6 : decode cL_grown 6 = .ok (.iload 11, 2) := by decide +kernel
theorem dL_grown_8 : decode cL_grown 8 = .ok (.bipush 36, 2) := by decide +kernel
theorem dL_grown_10 : decode cL_grown 10 = .ok (.if_icmp .ge 51, 3) := by decide +kernel
theorem dL_grown_13 : decode cL_grown 13 = .ok (.lload 6, 2) := by decide +kernel
theorem dL_grown_15 : decode cL_grown 15 = .ok (.iload 11, 2) := by decide +kernel
theorem dL_grown_17 : decode cL_grown 17 = .ok (.invokestatic 25, 3) := by decide +kernel
theorem dL_grown_20 : decode cL_grown 20 = .ok (.ifCond .eq 35, 3) := by decide +kernel
theorem dL_grown_23 : decode cL_grown 23 = .ok (.lload_n 2, 1) := by decide +kernel
theorem dL_grown_24 : decode cL_grown 24 = .ok (.iload 11, 2) := by decide +kernel
theorem dL_grown_26 : decode cL_grown 26 = .ok (.invokestatic 25, 3) := by decide +kernel
theorem dL_grown_29 : decode cL_grown 29 = .ok (.ifCond .ne 26, 3) := by decide +kernel
theorem dL_grown_32 : decode cL_grown 32 = .ok (.iload 4, 2) := by decide +kernel
theorem dL_grown_34 : decode cL_grown 34 = .ok (.ifCond .eq 12, 3) := by decide +kernel
theorem dL_grown_37 : decode cL_grown 37 = .ok (.aload_n 1, 1) := by decide +kernel
theorem dL_grown_38 : decode cL_grown 38 = .ok (.iload 11, 2) := by decide +kernel
theorem dL_grown_40 : decode cL_grown 40 = .ok (.iaload, 1) := by decide +kernel
theorem dL_grown_41 : decode cL_grown 41 = .ok (.iload 5, 2) := by decide +kernel
theorem dL_grown_43 : decode cL_grown 43 = .ok (.if_icmp .ge 12, 3) := by decide +kernel
theorem dL_grown_46 : decode cL_grown 46 = .ok (.lload 9, 2) := by decide +kernel
theorem dL_grown_48 : decode cL_grown 48 = .ok (.lconst 1, 1) := by decide +kernel
theorem dL_grown_49 : decode cL_grown 49 = .ok (.iload 11, 2) := by decide +kernel
theorem dL_grown_51 : decode cL_grown 51 = .ok (.lshl, 1) := by decide +kernel
theorem dL_grown_52 : decode cL_grown 52 = .ok (.lor, 1) := by decide +kernel
theorem dL_grown_53 : decode cL_grown 53 = .ok (.lstore 9, 2) := by decide +kernel
theorem dL_grown_55 : decode cL_grown 55 = .ok (.iinc 11 1, 3) := by decide +kernel
theorem dL_grown_58 : decode cL_grown 58 = .ok (.goto (-52), 3) := by decide +kernel
theorem dL_grown_61 : decode cL_grown 61 = .ok (.ldc2_w 38, 3) := by decide +kernel
theorem dL_grown_64 : decode cL_grown 64 = .ok (.lstore 11, 2) := by decide +kernel
theorem dL_grown_66 : decode cL_grown 66 = .ok (.lload 11, 2) := by decide +kernel
theorem dL_grown_68 : decode cL_grown 68 = .ok (.lload 9, 2) := by decide +kernel
theorem dL_grown_70 : decode cL_grown 70 = .ok (.lcmp, 1) := by decide +kernel
theorem dL_grown_71 : decode cL_grown 71 = .ok (.ifCond .eq 93, 3) := by decide +kernel
theorem dL_grown_74 : decode cL_grown 74 = .ok (.lload 9, 2) := by decide +kernel
theorem dL_grown_76 : decode cL_grown 76 = .ok (.lstore 11, 2) := by decide +kernel
theorem dL_grown_78 : decode cL_grown 78 = .ok (.iconst 0, 1) := by decide +kernel
theorem dL_grown_79 : decode cL_grown 79 = .ok (.istore 13, 2) := by decide +kernel
theorem dL_grown_81 : decode cL_grown 81 = .ok (.iload 13, 2) := by decide +kernel
theorem dL_grown_83 : decode cL_grown 83 = .ok (.bipush 60, 2) := by decide +kernel
theorem dL_grown_85 : decode cL_grown 85 = .ok (.if_icmp .ge 76, 3) := by decide +kernel
theorem dL_grown_88 : decode cL_grown 88 = .ok (.iload 13, 2) := by decide +kernel
theorem dL_grown_90 : decode cL_grown 90 = .ok (.invokestatic 31, 3) := by decide +kernel
theorem dL_grown_93 : decode cL_grown 93 = .ok (.istore 14, 2) := by decide +kernel
theorem dL_grown_95 : decode cL_grown 95 = .ok (.iload 13, 2) := by decide +kernel
theorem dL_grown_97 : decode cL_grown 97 = .ok (.invokestatic 35, 3) := by decide +kernel
theorem dL_grown_100 : decode cL_grown 100 = .ok (.istore 15, 2) := by decide +kernel
theorem dL_grown_102 : decode cL_grown 102 = .ok (.lload 9, 2) := by decide +kernel
theorem dL_grown_104 : decode cL_grown 104 = .ok (.iload 14, 2) := by decide +kernel
theorem dL_grown_106 : decode cL_grown 106 = .ok (.invokestatic 25, 3) := by decide +kernel
theorem dL_grown_109 : decode cL_grown 109 = .ok (.lload 9, 2) := by decide +kernel
theorem dL_grown_111 : decode cL_grown 111 = .ok (.iload 15, 2) := by decide +kernel
theorem dL_grown_113 : decode cL_grown 113 = .ok (.invokestatic 25, 3) := by decide +kernel
theorem dL_grown_116 : decode cL_grown 116 = .ok (.if_icmp .eq 39, 3) := by decide +kernel
theorem dL_grown_119 : decode cL_grown 119 = .ok (.iload 13, 2) := by decide +kernel
theorem dL_grown_121 : decode cL_grown 121 = .ok (.iload 8, 2) := by decide +kernel
theorem dL_grown_123 : decode cL_grown 123 = .ok (.if_icmp .eq 32, 3) := by decide +kernel
theorem dL_grown_126 : decode cL_grown 126 = .ok (.aload_n 0, 1) := by decide +kernel
theorem dL_grown_127 : decode cL_grown 127 = .ok (.aload_n 1, 1) := by decide +kernel
theorem dL_grown_128 : decode cL_grown 128 = .ok (.lload_n 2, 1) := by decide +kernel
theorem dL_grown_129 : decode cL_grown 129 = .ok (.iload 4, 2) := by decide +kernel
theorem dL_grown_131 : decode cL_grown 131 = .ok (.iload 5, 2) := by decide +kernel
theorem dL_grown_133 : decode cL_grown 133 = .ok (.iload 13, 2) := by decide +kernel
theorem dL_grown_135 : decode cL_grown 135 = .ok (.invokestatic 40, 3) := by decide +kernel
theorem dL_grown_138 : decode cL_grown 138 = .ok (.ifCond .eq 17, 3) := by decide +kernel
theorem dL_grown_141 : decode cL_grown 141 = .ok (.lload 9, 2) := by decide +kernel
theorem dL_grown_143 : decode cL_grown 143 = .ok (.lconst 1, 1) := by decide +kernel
theorem dL_grown_144 : decode cL_grown 144 = .ok (.iload 14, 2) := by decide +kernel
theorem dL_grown_146 : decode cL_grown 146 = .ok (.lshl, 1) := by decide +kernel
theorem dL_grown_147 : decode cL_grown 147 = .ok (.lconst 1, 1) := by decide +kernel
theorem dL_grown_148 : decode cL_grown 148 = .ok (.iload 15, 2) := by decide +kernel
theorem dL_grown_150 : decode cL_grown 150 = .ok (.lshl, 1) := by decide +kernel
theorem dL_grown_151 : decode cL_grown 151 = .ok (.lor, 1) := by decide +kernel
theorem dL_grown_152 : decode cL_grown 152 = .ok (.lor, 1) := by decide +kernel
theorem dL_grown_153 : decode cL_grown 153 = .ok (.lstore 9, 2) := by decide +kernel
theorem dL_grown_155 : decode cL_grown 155 = .ok (.iinc 13 1, 3) := by decide +kernel
theorem dL_grown_158 : decode cL_grown 158 = .ok (.goto (-77), 3) := by decide +kernel
theorem dL_grown_161 : decode cL_grown 161 = .ok (.goto (-95), 3) := by decide +kernel
theorem dL_grown_164 : decode cL_grown 164 = .ok (.lload 9, 2) := by decide +kernel
theorem dL_grown_166 : decode cL_grown 166 = .ok (.lreturn, 1) := by decide +kernel
theorem dL_through_0 : decode cL_through 0 = .ok (.aload_n 0, 1) := by decide +kernel
theorem dL_through_1 : decode cL_through 1 = .ok (.aload_n 1, 1) := by decide +kernel
theorem dL_through_2 : decode cL_through 2 = .ok (.lload_n 2, 1) := by decide +kernel
theorem dL_through_3 : decode cL_through 3 = .ok (.iload 4, 2) := by decide +kernel
theorem dL_through_5 : decode cL_through 5 = .ok (.iload 5, 2) := by decide +kernel
theorem dL_through_7 : decode cL_through 7 = .ok (.iload 6, 2) := by decide +kernel
theorem dL_through_9 : decode cL_through 9 = .ok (.ifCond .eq 7, 3) := by decide +kernel
theorem dL_through_12 : decode cL_through 12 = .ok (.iconst 2, 1) := by decide +kernel
theorem dL_through_13 : decode cL_through 13 = .ok (.goto 4, 3) := by decide +kernel
theorem dL_through_16 : decode cL_through 16 = .ok (.iconst 0, 1) := by decide +kernel
theorem dL_through_17 : decode cL_through 17 = .ok (.invokestatic 44, 3) := by decide +kernel
theorem dL_through_20 : decode cL_through 20 = .ok (.iload 7, 2) := by decide +kernel
theorem dL_through_22 : decode cL_through 22 = .ok (.invokestatic 48, 3) := by decide +kernel
theorem dL_through_25 : decode cL_through 25 = .ok (.iload 6, 2) := by decide +kernel
theorem dL_through_27 : decode cL_through 27 = .ok (.ifCond .eq 7, 3) := by decide +kernel
theorem dL_through_30 : decode cL_through 30 = .ok (.iconst 3, 1) := by decide +kernel
theorem dL_through_31 : decode cL_through 31 = .ok (.goto 4, 3) := by decide +kernel
theorem dL_through_34 : decode cL_through 34 = .ok (.iconst 1, 1) := by decide +kernel
theorem dL_through_35 : decode cL_through 35 = .ok (.invokestatic 44, 3) := by decide +kernel
theorem dL_through_38 : decode cL_through 38 = .ok (.land, 1) := by decide +kernel
theorem dL_through_39 : decode cL_through 39 = .ok (.lconst 0, 1) := by decide +kernel
theorem dL_through_40 : decode cL_through 40 = .ok (.lcmp, 1) := by decide +kernel
theorem dL_through_41 : decode cL_through 41 = .ok (.ifCond .eq 7, 3) := by decide +kernel
theorem dL_through_44 : decode cL_through 44 = .ok (.iconst 1, 1) := by decide +kernel
theorem dL_through_45 : decode cL_through 45 = .ok (.goto 4, 3) := by decide +kernel
theorem dL_through_48 : decode cL_through 48 = .ok (.iconst 0, 1) := by decide +kernel
theorem dL_through_49 : decode cL_through 49 = .ok (.ireturn, 1) := by decide +kernel
theorem dX11_needKind_0 : decode cX11_needKind 0 = .ok (.iload_n 0, 1) := by decide +kernel
theorem dX11_needKind_1 : decode cX11_needKind 1 = .ok (.ifCond .lt 8, 3) := by decide +kernel
theorem dX11_needKind_4 : decode cX11_needKind 4 = .ok (.iload_n 0, 1) := by decide +kernel
theorem dX11_needKind_5 : decode cX11_needKind 5 = .ok (.iconst 2, 1) := by decide +kernel
theorem dX11_needKind_6 : decode cX11_needKind 6 = .ok (.if_icmp .le 14, 3) := by decide +kernel
theorem dX11_needKind_9 : decode cX11_needKind 9 = .ok (.new 201, 3) := by decide +kernel
theorem dX11_needKind_12 : decode cX11_needKind 12 = .ok (.dup, 1) := by decide +kernel
theorem dX11_needKind_13 : decode cX11_needKind 13 = .ok (.ldc_w 355, 3) := by decide +kernel
theorem dX11_needKind_16 : decode cX11_needKind 16 = .ok (.invokespecial 205, 3) := by decide +kernel
theorem dX11_needKind_19 : decode cX11_needKind 19 = .ok (.athrow, 1) := by decide +kernel
theorem dX11_needKind_20 : decode cX11_needKind 20 = .ok (.return_, 1) := by decide +kernel
theorem dX11_lowEnd_0 : decode cX11_lowEnd 0 = .ok (.iload_n 0, 1) := by decide +kernel
theorem dX11_lowEnd_1 : decode cX11_lowEnd 1 = .ok (.bipush 30, 2) := by decide +kernel
theorem dX11_lowEnd_3 : decode cX11_lowEnd 3 = .ok (.if_icmp .lt 8, 3) := by decide +kernel
theorem dX11_lowEnd_6 : decode cX11_lowEnd 6 = .ok (.iload_n 0, 1) := by decide +kernel
theorem dX11_lowEnd_7 : decode cX11_lowEnd 7 = .ok (.bipush 30, 2) := by decide +kernel
theorem dX11_lowEnd_9 : decode cX11_lowEnd 9 = .ok (.isub, 1) := by decide +kernel
theorem dX11_lowEnd_10 : decode cX11_lowEnd 10 = .ok (.ireturn, 1) := by decide +kernel
theorem dX11_lowEnd_11 : decode cX11_lowEnd 11 = .ok (.bipush 6, 2) := by decide +kernel
theorem dX11_lowEnd_13 : decode cX11_lowEnd 13 = .ok (.iload_n 0, 1) := by decide +kernel
theorem dX11_lowEnd_14 : decode cX11_lowEnd 14 = .ok (.iconst 5, 1) := by decide +kernel
theorem dX11_lowEnd_15 : decode cX11_lowEnd 15 = .ok (.idiv, 1) := by decide +kernel
theorem dX11_lowEnd_16 : decode cX11_lowEnd 16 = .ok (.imul, 1) := by decide +kernel
theorem dX11_lowEnd_17 : decode cX11_lowEnd 17 = .ok (.iload_n 0, 1) := by decide +kernel
theorem dX11_lowEnd_18 : decode cX11_lowEnd 18 = .ok (.iconst 5, 1) := by decide +kernel
theorem dX11_lowEnd_19 : decode cX11_lowEnd 19 = .ok (.irem, 1) := by decide +kernel
theorem dX11_lowEnd_20 : decode cX11_lowEnd 20 = .ok (.iadd, 1) := by decide +kernel
theorem dX11_lowEnd_21 : decode cX11_lowEnd 21 = .ok (.ireturn, 1) := by decide +kernel
theorem dX11_highEnd_0 : decode cX11_highEnd 0 = .ok (.iload_n 0, 1) := by decide +kernel
theorem dX11_highEnd_1 : decode cX11_highEnd 1 = .ok (.invokestatic 371, 3) := by decide +kernel
theorem dX11_highEnd_4 : decode cX11_highEnd 4 = .ok (.iload_n 0, 1) := by decide +kernel
theorem dX11_highEnd_5 : decode cX11_highEnd 5 = .ok (.bipush 30, 2) := by decide +kernel
theorem dX11_highEnd_7 : decode cX11_highEnd 7 = .ok (.if_icmp .lt 8, 3) := by decide +kernel
theorem dX11_highEnd_10 : decode cX11_highEnd 10 = .ok (.bipush 6, 2) := by decide +kernel
theorem dX11_highEnd_12 : decode cX11_highEnd 12 = .ok (.goto 4, 3) := by decide +kernel
theorem dX11_highEnd_15 : decode cX11_highEnd 15 = .ok (.iconst 1, 1) := by decide +kernel
theorem dX11_highEnd_16 : decode cX11_highEnd 16 = .ok (.iadd, 1) := by decide +kernel
theorem dX11_highEnd_17 : decode cX11_highEnd 17 = .ok (.ireturn, 1) := by decide +kernel
theorem dX9_open_0 : decode cX9_open 0 = .ok (.iconst 0, 1) := by decide +kernel
theorem dX9_open_1 : decode cX9_open 1 = .ok (.istore 5, 2) := by decide +kernel
theorem dX9_open_3 : decode cX9_open 3 = .ok (.iload 5, 2) := by decide +kernel
theorem dX9_open_5 : decode cX9_open 5 = .ok (.bipush 36, 2) := by decide +kernel
theorem dX9_open_7 : decode cX9_open 7 = .ok (.if_icmp .ge 44, 3) := by decide +kernel
theorem dX9_open_10 : decode cX9_open 10 = .ok (.aload_n 0, 1) := by decide +kernel
theorem dX9_open_11 : decode cX9_open 11 = .ok (.getfield 9, 3) := by decide +kernel
theorem dX9_open_14 : decode cX9_open 14 = .ok (.iload 5, 2) := by decide +kernel
theorem dX9_open_16 : decode cX9_open 16 = .ok (.aload_n 2, 1) := by decide +kernel
theorem dX9_open_17 : decode cX9_open 17 = .ok (.iload 5, 2) := by decide +kernel
theorem dX9_open_19 : decode cX9_open 19 = .ok (.baload, 1) := by decide +kernel
theorem dX9_open_20 : decode cX9_open 20 = .ok (.ifCond .ne 23, 3) := by decide +kernel
theorem dX9_open_23 : decode cX9_open 23 = .ok (.iload_n 3, 1) := by decide +kernel
theorem dX9_open_24 : decode cX9_open 24 = .ok (.ifCond .eq 15, 3) := by decide +kernel
theorem dX9_open_27 : decode cX9_open 27 = .ok (.aload_n 1, 1) := by decide +kernel
theorem dX9_open_28 : decode cX9_open 28 = .ok (.getfield 29, 3) := by decide +kernel
theorem dX9_open_31 : decode cX9_open 31 = .ok (.iload 5, 2) := by decide +kernel
theorem dX9_open_33 : decode cX9_open 33 = .ok (.iaload, 1) := by decide +kernel
theorem dX9_open_34 : decode cX9_open 34 = .ok (.iload 4, 2) := by decide +kernel
theorem dX9_open_36 : decode cX9_open 36 = .ok (.if_icmp .ge 7, 3) := by decide +kernel
theorem dX9_open_39 : decode cX9_open 39 = .ok (.iconst 1, 1) := by decide +kernel
theorem dX9_open_40 : decode cX9_open 40 = .ok (.goto 4, 3) := by decide +kernel
theorem dX9_open_43 : decode cX9_open 43 = .ok (.iconst 0, 1) := by decide +kernel
theorem dX9_open_44 : decode cX9_open 44 = .ok (.bastore, 1) := by decide +kernel
theorem dX9_open_45 : decode cX9_open 45 = .ok (.iinc 5 1, 3) := by decide +kernel
theorem dX9_open_48 : decode cX9_open 48 = .ok (.goto (-45), 3) := by decide +kernel
theorem dX9_open_51 : decode cX9_open 51 = .ok (.iconst 0, 1) := by decide +kernel
theorem dX9_open_52 : decode cX9_open 52 = .ok (.istore 5, 2) := by decide +kernel
theorem dX9_open_54 : decode cX9_open 54 = .ok (.iload 5, 2) := by decide +kernel
theorem dX9_open_56 : decode cX9_open 56 = .ok (.bipush 60, 2) := by decide +kernel
theorem dX9_open_58 : decode cX9_open 58 = .ok (.if_icmp .ge 76, 3) := by decide +kernel
theorem dX9_open_61 : decode cX9_open 61 = .ok (.aload_n 0, 1) := by decide +kernel
theorem dX9_open_62 : decode cX9_open 62 = .ok (.getfield 9, 3) := by decide +kernel
theorem dX9_open_65 : decode cX9_open 65 = .ok (.iload 5, 2) := by decide +kernel
theorem dX9_open_67 : decode cX9_open 67 = .ok (.invokestatic 34, 3) := by decide +kernel
theorem dX9_open_70 : decode cX9_open 70 = .ok (.baload, 1) := by decide +kernel
theorem dX9_open_71 : decode cX9_open 71 = .ok (.ifCond .eq 20, 3) := by decide +kernel
theorem dX9_open_74 : decode cX9_open 74 = .ok (.aload_n 0, 1) := by decide +kernel
theorem dX9_open_75 : decode cX9_open 75 = .ok (.getfield 9, 3) := by decide +kernel
theorem dX9_open_78 : decode cX9_open 78 = .ok (.iload 5, 2) := by decide +kernel
theorem dX9_open_80 : decode cX9_open 80 = .ok (.invokestatic 38, 3) := by decide +kernel
theorem dX9_open_83 : decode cX9_open 83 = .ok (.baload, 1) := by decide +kernel
theorem dX9_open_84 : decode cX9_open 84 = .ok (.ifCond .eq 7, 3) := by decide +kernel
theorem dX9_open_87 : decode cX9_open 87 = .ok (.iconst 1, 1) := by decide +kernel
theorem dX9_open_88 : decode cX9_open 88 = .ok (.goto 4, 3) := by decide +kernel
theorem dX9_open_91 : decode cX9_open 91 = .ok (.iconst 0, 1) := by decide +kernel
theorem dX9_open_92 : decode cX9_open 92 = .ok (.istore 6, 2) := by decide +kernel
theorem dX9_open_94 : decode cX9_open 94 = .ok (.aload_n 0, 1) := by decide +kernel
theorem dX9_open_95 : decode cX9_open 95 = .ok (.getfield 15, 3) := by decide +kernel
theorem dX9_open_98 : decode cX9_open 98 = .ok (.iload 5, 2) := by decide +kernel
theorem dX9_open_100 : decode cX9_open 100 = .ok (.iload 6, 2) := by decide +kernel
theorem dX9_open_102 : decode cX9_open 102 = .ok (.ifCond .eq 24, 3) := by decide +kernel
theorem dX9_open_105 : decode cX9_open 105 = .ok (.iload_n 3, 1) := by decide +kernel
theorem dX9_open_106 : decode cX9_open 106 = .ok (.iconst 1, 1) := by decide +kernel
theorem dX9_open_107 : decode cX9_open 107 = .ok (.if_icmp .eq 15, 3) := by decide +kernel
theorem dX9_open_110 : decode cX9_open 110 = .ok (.aload_n 1, 1) := by decide +kernel
theorem dX9_open_111 : decode cX9_open 111 = .ok (.getfield 41, 3) := by decide +kernel
theorem dX9_open_114 : decode cX9_open 114 = .ok (.iload 5, 2) := by decide +kernel
theorem dX9_open_116 : decode cX9_open 116 = .ok (.iaload, 1) := by decide +kernel
theorem dX9_open_117 : decode cX9_open 117 = .ok (.iload 4, 2) := by decide +kernel
theorem dX9_open_119 : decode cX9_open 119 = .ok (.if_icmp .ge 7, 3) := by decide +kernel
theorem dX9_open_122 : decode cX9_open 122 = .ok (.iconst 1, 1) := by decide +kernel
theorem dX9_open_123 : decode cX9_open 123 = .ok (.goto 4, 3) := by decide +kernel
theorem dX9_open_126 : decode cX9_open 126 = .ok (.iconst 0, 1) := by decide +kernel
theorem dX9_open_127 : decode cX9_open 127 = .ok (.bastore, 1) := by decide +kernel
theorem dX9_open_128 : decode cX9_open 128 = .ok (.iinc 5 1, 3) := by decide +kernel
theorem dX9_open_131 : decode cX9_open 131 = .ok (.goto (-77), 3) := by decide +kernel
theorem dX9_open_134 : decode cX9_open 134 = .ok (.return_, 1) := by decide +kernel
theorem dX9_startAtSide_0 : decode cX9_startAtSide 0 = .ok (.aload_n 0, 1) := by decide +kernel
theorem dX9_startAtSide_1 : decode cX9_startAtSide 1 = .ok (.getfield 18, 3) := by decide +kernel
theorem dX9_startAtSide_4 : decode cX9_startAtSide 4 = .ok (.iconst (-1), 1) := by decide +kernel
theorem dX9_startAtSide_5 : decode cX9_startAtSide 5 = .ok (.invokestatic 55, 3) := by decide +kernel
theorem dX9_startAtSide_8 : decode cX9_startAtSide 8 = .ok (.aload_n 0, 1) := by decide +kernel
theorem dX9_startAtSide_9 : decode cX9_startAtSide 9 = .ok (.getfield 25, 3) := by decide +kernel
theorem dX9_startAtSide_12 : decode cX9_startAtSide 12 = .ok (.invokevirtual 83, 3) := by decide +kernel
theorem dX9_startAtSide_15 : decode cX9_startAtSide 15 = .ok (.iconst 0, 1) := by decide +kernel
theorem dX9_startAtSide_16 : decode cX9_startAtSide 16 = .ok (.istore_n 2, 1) := by decide +kernel
theorem dX9_startAtSide_17 : decode cX9_startAtSide 17 = .ok (.iload_n 2, 1) := by decide +kernel
theorem dX9_startAtSide_18 : decode cX9_startAtSide 18 = .ok (.bipush 36, 2) := by decide +kernel
theorem dX9_startAtSide_20 : decode cX9_startAtSide 20 = .ok (.if_icmp .ge 41, 3) := by decide +kernel
theorem dX9_startAtSide_23 : decode cX9_startAtSide 23 = .ok (.aload_n 0, 1) := by decide +kernel
theorem dX9_startAtSide_24 : decode cX9_startAtSide 24 = .ok (.getfield 9, 3) := by decide +kernel
theorem dX9_startAtSide_27 : decode cX9_startAtSide 27 = .ok (.iload_n 2, 1) := by decide +kernel
theorem dX9_startAtSide_28 : decode cX9_startAtSide 28 = .ok (.baload, 1) := by decide +kernel
theorem dX9_startAtSide_29 : decode cX9_startAtSide 29 = .ok (.ifCond .eq 26, 3) := by decide +kernel
theorem dX9_startAtSide_32 : decode cX9_startAtSide 32 = .ok (.iload_n 2, 1) := by decide +kernel
theorem dX9_startAtSide_33 : decode cX9_startAtSide 33 = .ok (.iload_n 1, 1) := by decide +kernel
theorem dX9_startAtSide_34 : decode cX9_startAtSide 34 = .ok (.invokestatic 51, 3) := by decide +kernel
theorem dX9_startAtSide_37 : decode cX9_startAtSide 37 = .ok (.ifCond .eq 18, 3) := by decide +kernel
theorem dX9_startAtSide_40 : decode cX9_startAtSide 40 = .ok (.aload_n 0, 1) := by decide +kernel
theorem dX9_startAtSide_41 : decode cX9_startAtSide 41 = .ok (.getfield 18, 3) := by decide +kernel
theorem dX9_startAtSide_44 : decode cX9_startAtSide 44 = .ok (.iload_n 2, 1) := by decide +kernel
theorem dX9_startAtSide_45 : decode cX9_startAtSide 45 = .ok (.iconst 0, 1) := by decide +kernel
theorem dX9_startAtSide_46 : decode cX9_startAtSide 46 = .ok (.iastore, 1) := by decide +kernel
theorem dX9_startAtSide_47 : decode cX9_startAtSide 47 = .ok (.aload_n 0, 1) := by decide +kernel
theorem dX9_startAtSide_48 : decode cX9_startAtSide 48 = .ok (.getfield 25, 3) := by decide +kernel
theorem dX9_startAtSide_51 : decode cX9_startAtSide 51 = .ok (.iload_n 2, 1) := by decide +kernel
theorem dX9_startAtSide_52 : decode cX9_startAtSide 52 = .ok (.invokevirtual 86, 3) := by decide +kernel
theorem dX9_startAtSide_55 : decode cX9_startAtSide 55 = .ok (.iinc 2 1, 3) := by decide +kernel
theorem dX9_startAtSide_58 : decode cX9_startAtSide 58 = .ok (.goto (-41), 3) := by decide +kernel
theorem dX9_startAtSide_61 : decode cX9_startAtSide 61 = .ok (.return_, 1) := by decide +kernel
theorem dX11_bondBetween_0 : decode cX11_bondBetween 0 = .ok (.iload_n 0, 1) := by decide +kernel
theorem dX11_bondBetween_1 : decode cX11_bondBetween 1 = .ok (.iload_n 1, 1) := by decide +kernel
theorem dX11_bondBetween_2 : decode cX11_bondBetween 2 = .ok (.if_icmp .ge 7, 3) := by decide +kernel
theorem dX11_bondBetween_5 : decode cX11_bondBetween 5 = .ok (.iload_n 0, 1) := by decide +kernel
theorem dX11_bondBetween_6 : decode cX11_bondBetween 6 = .ok (.goto 4, 3) := by decide +kernel
theorem dX11_bondBetween_9 : decode cX11_bondBetween 9 = .ok (.iload_n 1, 1) := by decide +kernel
theorem dX11_bondBetween_10 : decode cX11_bondBetween 10 = .ok (.istore_n 2, 1) := by decide +kernel
theorem dX11_bondBetween_11 : decode cX11_bondBetween 11 = .ok (.iload_n 0, 1) := by decide +kernel
theorem dX11_bondBetween_12 : decode cX11_bondBetween 12 = .ok (.iload_n 1, 1) := by decide +kernel
theorem dX11_bondBetween_13 : decode cX11_bondBetween 13 = .ok (.iadd, 1) := by decide +kernel
theorem dX11_bondBetween_14 : decode cX11_bondBetween 14 = .ok (.iconst 2, 1) := by decide +kernel
theorem dX11_bondBetween_15 : decode cX11_bondBetween 15 = .ok (.iload_n 2, 1) := by decide +kernel
theorem dX11_bondBetween_16 : decode cX11_bondBetween 16 = .ok (.imul, 1) := by decide +kernel
theorem dX11_bondBetween_17 : decode cX11_bondBetween 17 = .ok (.bipush 6, 2) := by decide +kernel
theorem dX11_bondBetween_19 : decode cX11_bondBetween 19 = .ok (.iadd, 1) := by decide +kernel
theorem dX11_bondBetween_20 : decode cX11_bondBetween 20 = .ok (.if_icmp .ne 7, 3) := by decide +kernel
theorem dX11_bondBetween_23 : decode cX11_bondBetween 23 = .ok (.iconst 1, 1) := by decide +kernel
theorem dX11_bondBetween_24 : decode cX11_bondBetween 24 = .ok (.goto 4, 3) := by decide +kernel
theorem dX11_bondBetween_27 : decode cX11_bondBetween 27 = .ok (.iconst 0, 1) := by decide +kernel
theorem dX11_bondBetween_28 : decode cX11_bondBetween 28 = .ok (.istore_n 3, 1) := by decide +kernel
theorem dX11_bondBetween_29 : decode cX11_bondBetween 29 = .ok (.iload_n 3, 1) := by decide +kernel
theorem dX11_bondBetween_30 : decode cX11_bondBetween 30 = .ok (.ifCond .eq 10, 3) := by decide +kernel
theorem dX11_bondBetween_33 : decode cX11_bondBetween 33 = .ok (.bipush 30, 2) := by decide +kernel
theorem dX11_bondBetween_35 : decode cX11_bondBetween 35 = .ok (.iload_n 2, 1) := by decide +kernel
theorem dX11_bondBetween_36 : decode cX11_bondBetween 36 = .ok (.iadd, 1) := by decide +kernel
theorem dX11_bondBetween_37 : decode cX11_bondBetween 37 = .ok (.goto 14, 3) := by decide +kernel
theorem dX11_bondBetween_40 : decode cX11_bondBetween 40 = .ok (.iconst 5, 1) := by decide +kernel
theorem dX11_bondBetween_41 : decode cX11_bondBetween 41 = .ok (.iload_n 2, 1) := by decide +kernel
theorem dX11_bondBetween_42 : decode cX11_bondBetween 42 = .ok (.bipush 6, 2) := by decide +kernel
theorem dX11_bondBetween_44 : decode cX11_bondBetween 44 = .ok (.idiv, 1) := by decide +kernel
theorem dX11_bondBetween_45 : decode cX11_bondBetween 45 = .ok (.imul, 1) := by decide +kernel
theorem dX11_bondBetween_46 : decode cX11_bondBetween 46 = .ok (.iload_n 2, 1) := by decide +kernel
theorem dX11_bondBetween_47 : decode cX11_bondBetween 47 = .ok (.bipush 6, 2) := by decide +kernel
theorem dX11_bondBetween_49 : decode cX11_bondBetween 49 = .ok (.irem, 1) := by decide +kernel
theorem dX11_bondBetween_50 : decode cX11_bondBetween 50 = .ok (.iadd, 1) := by decide +kernel
theorem dX11_bondBetween_51 : decode cX11_bondBetween 51 = .ok (.ireturn, 1) := by decide +kernel
theorem dX9_walkOn_0 : decode cX9_walkOn 0 = .ok (.iconst 0, 1) := by decide +kernel
theorem dX9_walkOn_1 : decode cX9_walkOn 1 = .ok (.istore_n 1, 1) := by decide +kernel
theorem dX9_walkOn_2 : decode cX9_walkOn 2 = .ok (.iload_n 1, 1) := by decide +kernel
theorem dX9_walkOn_3 : decode cX9_walkOn 3 = .ok (.bipush 36, 2) := by decide +kernel
theorem dX9_walkOn_5 : decode cX9_walkOn 5 = .ok (.if_icmp .ge 100, 3) := by decide +kernel
theorem dX9_walkOn_8 : decode cX9_walkOn 8 = .ok (.aload_n 0, 1) := by decide +kernel
theorem dX9_walkOn_9 : decode cX9_walkOn 9 = .ok (.getfield 25, 3) := by decide +kernel
theorem dX9_walkOn_12 : decode cX9_walkOn 12 = .ok (.invokevirtual 92, 3) := by decide +kernel
theorem dX9_walkOn_15 : decode cX9_walkOn 15 = .ok (.istore_n 2, 1) := by decide +kernel
theorem dX9_walkOn_16 : decode cX9_walkOn 16 = .ok (.iload_n 2, 1) := by decide +kernel
theorem dX9_walkOn_17 : decode cX9_walkOn 17 = .ok (.iconst (-1), 1) := by decide +kernel
theorem dX9_walkOn_18 : decode cX9_walkOn 18 = .ok (.if_icmp .ne 6, 3) := by decide +kernel
theorem dX9_walkOn_21 : decode cX9_walkOn 21 = .ok (.goto 84, 3) := by decide +kernel
theorem dX9_walkOn_24 : decode cX9_walkOn 24 = .ok (.iconst 0, 1) := by decide +kernel
theorem dX9_walkOn_25 : decode cX9_walkOn 25 = .ok (.istore_n 3, 1) := by decide +kernel
theorem dX9_walkOn_26 : decode cX9_walkOn 26 = .ok (.iload_n 3, 1) := by decide +kernel
theorem dX9_walkOn_27 : decode cX9_walkOn 27 = .ok (.iconst 4, 1) := by decide +kernel
theorem dX9_walkOn_28 : decode cX9_walkOn 28 = .ok (.if_icmp .ge 71, 3) := by decide +kernel
theorem dX9_walkOn_31 : decode cX9_walkOn 31 = .ok (.iload_n 2, 1) := by decide +kernel
theorem dX9_walkOn_32 : decode cX9_walkOn 32 = .ok (.iload_n 3, 1) := by decide +kernel
theorem dX9_walkOn_33 : decode cX9_walkOn 33 = .ok (.invokestatic 96, 3) := by decide +kernel
theorem dX9_walkOn_36 : decode cX9_walkOn 36 = .ok (.istore 4, 2) := by decide +kernel
theorem dX9_walkOn_38 : decode cX9_walkOn 38 = .ok (.iload 4, 2) := by decide +kernel
theorem dX9_walkOn_40 : decode cX9_walkOn 40 = .ok (.iconst (-1), 1) := by decide +kernel
theorem dX9_walkOn_41 : decode cX9_walkOn 41 = .ok (.if_icmp .eq 52, 3) := by decide +kernel
theorem dX9_walkOn_44 : decode cX9_walkOn 44 = .ok (.aload_n 0, 1) := by decide +kernel
theorem dX9_walkOn_45 : decode cX9_walkOn 45 = .ok (.getfield 18, 3) := by decide +kernel
theorem dX9_walkOn_48 : decode cX9_walkOn 48 = .ok (.iload 4, 2) := by decide +kernel
theorem dX9_walkOn_50 : decode cX9_walkOn 50 = .ok (.iaload, 1) := by decide +kernel
theorem dX9_walkOn_51 : decode cX9_walkOn 51 = .ok (.iconst (-1), 1) := by decide +kernel
theorem dX9_walkOn_52 : decode cX9_walkOn 52 = .ok (.if_icmp .ne 41, 3) := by decide +kernel
theorem dX9_walkOn_55 : decode cX9_walkOn 55 = .ok (.aload_n 0, 1) := by decide +kernel
theorem dX9_walkOn_56 : decode cX9_walkOn 56 = .ok (.getfield 15, 3) := by decide +kernel
theorem dX9_walkOn_59 : decode cX9_walkOn 59 = .ok (.iload_n 2, 1) := by decide +kernel
theorem dX9_walkOn_60 : decode cX9_walkOn 60 = .ok (.iload 4, 2) := by decide +kernel
theorem dX9_walkOn_62 : decode cX9_walkOn 62 = .ok (.invokestatic 99, 3) := by decide +kernel
theorem dX9_walkOn_65 : decode cX9_walkOn 65 = .ok (.baload, 1) := by decide +kernel
theorem dX9_walkOn_66 : decode cX9_walkOn 66 = .ok (.ifCond .eq 27, 3) := by decide +kernel
theorem dX9_walkOn_69 : decode cX9_walkOn 69 = .ok (.aload_n 0, 1) := by decide +kernel
theorem dX9_walkOn_70 : decode cX9_walkOn 70 = .ok (.getfield 18, 3) := by decide +kernel
theorem dX9_walkOn_73 : decode cX9_walkOn 73 = .ok (.iload 4, 2) := by decide +kernel
theorem dX9_walkOn_75 : decode cX9_walkOn 75 = .ok (.aload_n 0, 1) := by decide +kernel
theorem dX9_walkOn_76 : decode cX9_walkOn 76 = .ok (.getfield 18, 3) := by decide +kernel
theorem dX9_walkOn_79 : decode cX9_walkOn 79 = .ok (.iload_n 2, 1) := by decide +kernel
theorem dX9_walkOn_80 : decode cX9_walkOn 80 = .ok (.iaload, 1) := by decide +kernel
theorem dX9_walkOn_81 : decode cX9_walkOn 81 = .ok (.iconst 1, 1) := by decide +kernel
theorem dX9_walkOn_82 : decode cX9_walkOn 82 = .ok (.iadd, 1) := by decide +kernel
theorem dX9_walkOn_83 : decode cX9_walkOn 83 = .ok (.iastore, 1) := by decide +kernel
theorem dX9_walkOn_84 : decode cX9_walkOn 84 = .ok (.aload_n 0, 1) := by decide +kernel
theorem dX9_walkOn_85 : decode cX9_walkOn 85 = .ok (.getfield 25, 3) := by decide +kernel
theorem dX9_walkOn_88 : decode cX9_walkOn 88 = .ok (.iload 4, 2) := by decide +kernel
theorem dX9_walkOn_90 : decode cX9_walkOn 90 = .ok (.invokevirtual 86, 3) := by decide +kernel
theorem dX9_walkOn_93 : decode cX9_walkOn 93 = .ok (.iinc 3 1, 3) := by decide +kernel
theorem dX9_walkOn_96 : decode cX9_walkOn 96 = .ok (.goto (-70), 3) := by decide +kernel
theorem dX9_walkOn_99 : decode cX9_walkOn 99 = .ok (.iinc 1 1, 3) := by decide +kernel
theorem dX9_walkOn_102 : decode cX9_walkOn 102 = .ok (.goto (-100), 3) := by decide +kernel
theorem dX9_walkOn_105 : decode cX9_walkOn 105 = .ok (.return_, 1) := by decide +kernel
theorem dX9_leastSteps_0 : decode cX9_leastSteps 0 = .ok (.aload_n 0, 1) := by decide +kernel
theorem dX9_leastSteps_1 : decode cX9_leastSteps 1 = .ok (.iload_n 1, 1) := by decide +kernel
theorem dX9_leastSteps_2 : decode cX9_leastSteps 2 = .ok (.invokevirtual 44, 3) := by decide +kernel
theorem dX9_leastSteps_5 : decode cX9_leastSteps 5 = .ok (.aload_n 0, 1) := by decide +kernel
theorem dX9_leastSteps_6 : decode cX9_leastSteps 6 = .ok (.invokevirtual 48, 3) := by decide +kernel
theorem dX9_leastSteps_9 : decode cX9_leastSteps 9 = .ok (.iconst (-1), 1) := by decide +kernel
theorem dX9_leastSteps_10 : decode cX9_leastSteps 10 = .ok (.istore_n 3, 1) := by decide +kernel
theorem dX9_leastSteps_11 : decode cX9_leastSteps 11 = .ok (.iconst 0, 1) := by decide +kernel
theorem dX9_leastSteps_12 : decode cX9_leastSteps 12 = .ok (.istore 4, 2) := by decide +kernel
theorem dX9_leastSteps_14 : decode cX9_leastSteps 14 = .ok (.iload 4, 2) := by decide +kernel
theorem dX9_leastSteps_16 : decode cX9_leastSteps 16 = .ok (.bipush 36, 2) := by decide +kernel
theorem dX9_leastSteps_18 : decode cX9_leastSteps 18 = .ok (.if_icmp .ge 65, 3) := by decide +kernel
theorem dX9_leastSteps_21 : decode cX9_leastSteps 21 = .ok (.iload 4, 2) := by decide +kernel
theorem dX9_leastSteps_23 : decode cX9_leastSteps 23 = .ok (.iload_n 2, 1) := by decide +kernel
theorem dX9_leastSteps_24 : decode cX9_leastSteps 24 = .ok (.invokestatic 51, 3) := by decide +kernel
theorem dX9_leastSteps_27 : decode cX9_leastSteps 27 = .ok (.ifCond .eq 18, 3) := by decide +kernel
theorem dX9_leastSteps_30 : decode cX9_leastSteps 30 = .ok (.aload_n 0, 1) := by decide +kernel
theorem dX9_leastSteps_31 : decode cX9_leastSteps 31 = .ok (.getfield 18, 3) := by decide +kernel
theorem dX9_leastSteps_34 : decode cX9_leastSteps 34 = .ok (.iload 4, 2) := by decide +kernel
theorem dX9_leastSteps_36 : decode cX9_leastSteps 36 = .ok (.iaload, 1) := by decide +kernel
theorem dX9_leastSteps_37 : decode cX9_leastSteps 37 = .ok (.iconst (-1), 1) := by decide +kernel
theorem dX9_leastSteps_38 : decode cX9_leastSteps 38 = .ok (.if_icmp .eq 7, 3) := by decide +kernel
theorem dX9_leastSteps_41 : decode cX9_leastSteps 41 = .ok (.iconst 1, 1) := by decide +kernel
theorem dX9_leastSteps_42 : decode cX9_leastSteps 42 = .ok (.goto 4, 3) := by decide +kernel
theorem dX9_leastSteps_45 : decode cX9_leastSteps 45 = .ok (.iconst 0, 1) := by decide +kernel
theorem dX9_leastSteps_46 : decode cX9_leastSteps 46 = .ok (.istore 5, 2) := by decide +kernel
theorem dX9_leastSteps_48 : decode cX9_leastSteps 48 = .ok (.iload 5, 2) := by decide +kernel
theorem dX9_leastSteps_50 : decode cX9_leastSteps 50 = .ok (.ifCond .eq 27, 3) := by decide +kernel
theorem dX9_leastSteps_53 : decode cX9_leastSteps 53 = .ok (.iload_n 3, 1) := by decide +kernel
theorem dX9_leastSteps_54 : decode cX9_leastSteps 54 = .ok (.iconst (-1), 1) := by decide +kernel
theorem dX9_leastSteps_55 : decode cX9_leastSteps 55 = .ok (.if_icmp .eq 14, 3) := by decide +kernel
theorem dX9_leastSteps_58 : decode cX9_leastSteps 58 = .ok (.aload_n 0, 1) := by decide +kernel
theorem dX9_leastSteps_59 : decode cX9_leastSteps 59 = .ok (.getfield 18, 3) := by decide +kernel
theorem dX9_leastSteps_62 : decode cX9_leastSteps 62 = .ok (.iload 4, 2) := by decide +kernel
theorem dX9_leastSteps_64 : decode cX9_leastSteps 64 = .ok (.iaload, 1) := by decide +kernel
theorem dX9_leastSteps_65 : decode cX9_leastSteps 65 = .ok (.iload_n 3, 1) := by decide +kernel
theorem dX9_leastSteps_66 : decode cX9_leastSteps 66 = .ok (.if_icmp .ge 11, 3) := by decide +kernel
theorem dX9_leastSteps_69 : decode cX9_leastSteps 69 = .ok (.aload_n 0, 1) := by decide +kernel
theorem dX9_leastSteps_70 : decode cX9_leastSteps 70 = .ok (.getfield 18, 3) := by decide +kernel
theorem dX9_leastSteps_73 : decode cX9_leastSteps 73 = .ok (.iload 4, 2) := by decide +kernel
theorem dX9_leastSteps_75 : decode cX9_leastSteps 75 = .ok (.iaload, 1) := by decide +kernel
theorem dX9_leastSteps_76 : decode cX9_leastSteps 76 = .ok (.istore_n 3, 1) := by decide +kernel
theorem dX9_leastSteps_77 : decode cX9_leastSteps 77 = .ok (.iinc 4 1, 3) := by decide +kernel
theorem dX9_leastSteps_80 : decode cX9_leastSteps 80 = .ok (.goto (-66), 3) := by decide +kernel
theorem dX9_leastSteps_83 : decode cX9_leastSteps 83 = .ok (.iload_n 3, 1) := by decide +kernel
theorem dX9_leastSteps_84 : decode cX9_leastSteps 84 = .ok (.ireturn, 1) := by decide +kernel
theorem dX11_estimate_0 : decode cX11_estimate 0 = .ok (.iload_n 1, 1) := by decide +kernel
theorem dX11_estimate_1 : decode cX11_estimate 1 = .ok (.invokestatic 111, 3) := by decide +kernel
theorem dX11_estimate_4 : decode cX11_estimate 4 = .ok (.iload_n 2, 1) := by decide +kernel
theorem dX11_estimate_5 : decode cX11_estimate 5 = .ok (.iconst 0, 1) := by decide +kernel
theorem dX11_estimate_6 : decode cX11_estimate 6 = .ok (.sipush 1000, 3) := by decide +kernel
theorem dX11_estimate_9 : decode cX11_estimate 9 = .ok (.invokestatic 90, 3) := by decide +kernel
theorem dX11_estimate_12 : decode cX11_estimate 12 = .ok (.iload_n 3, 1) := by decide +kernel
theorem dX11_estimate_13 : decode cX11_estimate 13 = .ok (.iconst 1, 1) := by decide +kernel
theorem dX11_estimate_14 : decode cX11_estimate 14 = .ok (.bipush 30, 2) := by decide +kernel
theorem dX11_estimate_16 : decode cX11_estimate 16 = .ok (.invokestatic 90, 3) := by decide +kernel
theorem dX11_estimate_19 : decode cX11_estimate 19 = .ok (.iconst 0, 1) := by decide +kernel
theorem dX11_estimate_20 : decode cX11_estimate 20 = .ok (.istore 4, 2) := by decide +kernel
theorem dX11_estimate_22 : decode cX11_estimate 22 = .ok (.iconst 1, 1) := by decide +kernel
theorem dX11_estimate_23 : decode cX11_estimate 23 = .ok (.istore 5, 2) := by decide +kernel
theorem dX11_estimate_25 : decode cX11_estimate 25 = .ok (.iload 5, 2) := by decide +kernel
theorem dX11_estimate_27 : decode cX11_estimate 27 = .ok (.iload_n 3, 1) := by decide +kernel
theorem dX11_estimate_28 : decode cX11_estimate 28 = .ok (.if_icmp .gt 54, 3) := by decide +kernel
theorem dX11_estimate_31 : decode cX11_estimate 31 = .ok (.aload_n 0, 1) := by decide +kernel
theorem dX11_estimate_32 : decode cX11_estimate 32 = .ok (.getfield 16, 3) := by decide +kernel
theorem dX11_estimate_35 : decode cX11_estimate 35 = .ok (.iload 5, 2) := by decide +kernel
theorem dX11_estimate_37 : decode cX11_estimate 37 = .ok (.invokevirtual 94, 3) := by decide +kernel
theorem dX11_estimate_40 : decode cX11_estimate 40 = .ok (.aload_n 0, 1) := by decide +kernel
theorem dX11_estimate_41 : decode cX11_estimate 41 = .ok (.getfield 29, 3) := by decide +kernel
theorem dX11_estimate_44 : decode cX11_estimate 44 = .ok (.aload_n 0, 1) := by decide +kernel
theorem dX11_estimate_45 : decode cX11_estimate 45 = .ok (.getfield 16, 3) := by decide +kernel
theorem dX11_estimate_48 : decode cX11_estimate 48 = .ok (.aload_n 0, 1) := by decide +kernel
theorem dX11_estimate_49 : decode cX11_estimate 49 = .ok (.getfield 22, 3) := by decide +kernel
theorem dX11_estimate_52 : decode cX11_estimate 52 = .ok (.getfield 118, 3) := by decide +kernel
theorem dX11_estimate_55 : decode cX11_estimate 55 = .ok (.iload_n 1, 1) := by decide +kernel
theorem dX11_estimate_56 : decode cX11_estimate 56 = .ok (.iload_n 2, 1) := by decide +kernel
theorem dX11_estimate_57 : decode cX11_estimate 57 = .ok (.invokevirtual 286, 3) := by decide +kernel
theorem dX11_estimate_60 : decode cX11_estimate 60 = .ok (.aload_n 0, 1) := by decide +kernel
theorem dX11_estimate_61 : decode cX11_estimate 61 = .ok (.getfield 29, 3) := by decide +kernel
theorem dX11_estimate_64 : decode cX11_estimate 64 = .ok (.iconst 1, 1) := by decide +kernel
theorem dX11_estimate_65 : decode cX11_estimate 65 = .ok (.iconst 2, 1) := by decide +kernel
theorem dX11_estimate_66 : decode cX11_estimate 66 = .ok (.invokevirtual 154, 3) := by decide +kernel
theorem dX11_estimate_69 : decode cX11_estimate 69 = .ok (.iconst (-1), 1) := by decide +kernel
theorem dX11_estimate_70 : decode cX11_estimate 70 = .ok (.if_icmp .eq 6, 3) := by decide +kernel
theorem dX11_estimate_73 : decode cX11_estimate 73 = .ok (.iinc 4 1, 3) := by decide +kernel
theorem dX11_estimate_76 : decode cX11_estimate 76 = .ok (.iinc 5 1, 3) := by decide +kernel
theorem dX11_estimate_79 : decode cX11_estimate 79 = .ok (.goto (-54), 3) := by decide +kernel
theorem dX11_estimate_82 : decode cX11_estimate 82 = .ok (.iload 4, 2) := by decide +kernel
theorem dX11_estimate_84 : decode cX11_estimate 84 = .ok (.ireturn, 1) := by decide +kernel
theorem dX11_scaledOnce_0 : decode cX11_scaledOnce 0 = .ok (.iload_n 0, 1) := by decide +kernel
theorem dX11_scaledOnce_1 : decode cX11_scaledOnce 1 = .ok (.i2l, 1) := by decide +kernel
theorem dX11_scaledOnce_2 : decode cX11_scaledOnce 2 = .ok (.lstore_n 1, 1) := by decide +kernel
theorem dX11_scaledOnce_3 : decode cX11_scaledOnce 3 = .ok (.ldc2_w 363, 3) := by decide +kernel
theorem dX11_scaledOnce_6 : decode cX11_scaledOnce 6 = .ok (.lload_n 1, 1) := by decide +kernel
theorem dX11_scaledOnce_7 : decode cX11_scaledOnce 7 = .ok (.lsub, 1) := by decide +kernel
theorem dX11_scaledOnce_8 : decode cX11_scaledOnce 8 = .ok (.lstore_n 3, 1) := by decide +kernel
theorem dX11_scaledOnce_9 : decode cX11_scaledOnce 9 = .ok (.lload_n 1, 1) := by decide +kernel
theorem dX11_scaledOnce_10 : decode cX11_scaledOnce 10 = .ok (.lload_n 1, 1) := by decide +kernel
theorem dX11_scaledOnce_11 : decode cX11_scaledOnce 11 = .ok (.lmul, 1) := by decide +kernel
theorem dX11_scaledOnce_12 : decode cX11_scaledOnce 12 = .ok (.lload_n 1, 1) := by decide +kernel
theorem dX11_scaledOnce_13 : decode cX11_scaledOnce 13 = .ok (.lmul, 1) := by decide +kernel
theorem dX11_scaledOnce_14 : decode cX11_scaledOnce 14 = .ok (.lload_n 1, 1) := by decide +kernel
theorem dX11_scaledOnce_15 : decode cX11_scaledOnce 15 = .ok (.lmul, 1) := by decide +kernel
theorem dX11_scaledOnce_16 : decode cX11_scaledOnce 16 = .ok (.ldc2_w 365, 3) := by decide +kernel
theorem dX11_scaledOnce_19 : decode cX11_scaledOnce 19 = .ok (.lload_n 1, 1) := by decide +kernel
theorem dX11_scaledOnce_20 : decode cX11_scaledOnce 20 = .ok (.lmul, 1) := by decide +kernel
theorem dX11_scaledOnce_21 : decode cX11_scaledOnce 21 = .ok (.lload_n 1, 1) := by decide +kernel
theorem dX11_scaledOnce_22 : decode cX11_scaledOnce 22 = .ok (.lmul, 1) := by decide +kernel
theorem dX11_scaledOnce_23 : decode cX11_scaledOnce 23 = .ok (.lload_n 1, 1) := by decide +kernel
theorem dX11_scaledOnce_24 : decode cX11_scaledOnce 24 = .ok (.lmul, 1) := by decide +kernel
theorem dX11_scaledOnce_25 : decode cX11_scaledOnce 25 = .ok (.lload_n 3, 1) := by decide +kernel
theorem dX11_scaledOnce_26 : decode cX11_scaledOnce 26 = .ok (.lmul, 1) := by decide +kernel
theorem dX11_scaledOnce_27 : decode cX11_scaledOnce 27 = .ok (.ladd, 1) := by decide +kernel
theorem dX11_scaledOnce_28 : decode cX11_scaledOnce 28 = .ok (.ldc2_w 367, 3) := by decide +kernel
theorem dX11_scaledOnce_31 : decode cX11_scaledOnce 31 = .ok (.lload_n 1, 1) := by decide +kernel
theorem dX11_scaledOnce_32 : decode cX11_scaledOnce 32 = .ok (.lmul, 1) := by decide +kernel
theorem dX11_scaledOnce_33 : decode cX11_scaledOnce 33 = .ok (.lload_n 1, 1) := by decide +kernel
theorem dX11_scaledOnce_34 : decode cX11_scaledOnce 34 = .ok (.lmul, 1) := by decide +kernel
theorem dX11_scaledOnce_35 : decode cX11_scaledOnce 35 = .ok (.lload_n 3, 1) := by decide +kernel
theorem dX11_scaledOnce_36 : decode cX11_scaledOnce 36 = .ok (.lmul, 1) := by decide +kernel
theorem dX11_scaledOnce_37 : decode cX11_scaledOnce 37 = .ok (.lload_n 3, 1) := by decide +kernel
theorem dX11_scaledOnce_38 : decode cX11_scaledOnce 38 = .ok (.lmul, 1) := by decide +kernel
theorem dX11_scaledOnce_39 : decode cX11_scaledOnce 39 = .ok (.ladd, 1) := by decide +kernel
theorem dX11_scaledOnce_40 : decode cX11_scaledOnce 40 = .ok (.ldc2_w 369, 3) := by decide +kernel
theorem dX11_scaledOnce_43 : decode cX11_scaledOnce 43 = .ok (.ldiv, 1) := by decide +kernel
theorem dX11_scaledOnce_44 : decode cX11_scaledOnce 44 = .ok (.l2i, 1) := by decide +kernel
theorem dX11_scaledOnce_45 : decode cX11_scaledOnce 45 = .ok (.ireturn, 1) := by decide +kernel
theorem dX11_scale_0 : decode cX11_scale 0 = .ok (.iload_n 1, 1) := by decide +kernel
theorem dX11_scale_1 : decode cX11_scale 1 = .ok (.iconst 0, 1) := by decide +kernel
theorem dX11_scale_2 : decode cX11_scale 2 = .ok (.sipush 1000, 3) := by decide +kernel
theorem dX11_scale_5 : decode cX11_scale 5 = .ok (.invokestatic 90, 3) := by decide +kernel
theorem dX11_scale_8 : decode cX11_scale 8 = .ok (.iload_n 2, 1) := by decide +kernel
theorem dX11_scale_9 : decode cX11_scale 9 = .ok (.iconst 0, 1) := by decide +kernel
theorem dX11_scale_10 : decode cX11_scale 10 = .ok (.bipush 50, 2) := by decide +kernel
theorem dX11_scale_12 : decode cX11_scale 12 = .ok (.invokestatic 90, 3) := by decide +kernel
theorem dX11_scale_15 : decode cX11_scale 15 = .ok (.iload_n 1, 1) := by decide +kernel
theorem dX11_scale_16 : decode cX11_scale 16 = .ok (.istore_n 3, 1) := by decide +kernel
theorem dX11_scale_17 : decode cX11_scale 17 = .ok (.iconst 0, 1) := by decide +kernel
theorem dX11_scale_18 : decode cX11_scale 18 = .ok (.istore 4, 2) := by decide +kernel
theorem dX11_scale_20 : decode cX11_scale 20 = .ok (.iload 4, 2) := by decide +kernel
theorem dX11_scale_22 : decode cX11_scale 22 = .ok (.iload_n 2, 1) := by decide +kernel
theorem dX11_scale_23 : decode cX11_scale 23 = .ok (.if_icmp .ge 14, 3) := by decide +kernel
theorem dX11_scale_26 : decode cX11_scale 26 = .ok (.iload_n 3, 1) := by decide +kernel
theorem dX11_scale_27 : decode cX11_scale 27 = .ok (.invokestatic 283, 3) := by decide +kernel
theorem dX11_scale_30 : decode cX11_scale 30 = .ok (.istore_n 3, 1) := by decide +kernel
theorem dX11_scale_31 : decode cX11_scale 31 = .ok (.iinc 4 1, 3) := by decide +kernel
theorem dX11_scale_34 : decode cX11_scale 34 = .ok (.goto (-14), 3) := by decide +kernel
theorem dX11_scale_37 : decode cX11_scale 37 = .ok (.iload_n 3, 1) := by decide +kernel
theorem dX11_scale_38 : decode cX11_scale 38 = .ok (.ireturn, 1) := by decide +kernel
theorem dX11_openAt_0 : decode cX11_openAt 0 = .ok (.iload_n 1, 1) := by decide +kernel
theorem dX11_openAt_1 : decode cX11_openAt 1 = .ok (.invokestatic 111, 3) := by decide +kernel
theorem dX11_openAt_4 : decode cX11_openAt 4 = .ok (.iload_n 2, 1) := by decide +kernel
theorem dX11_openAt_5 : decode cX11_openAt 5 = .ok (.iconst 0, 1) := by decide +kernel
theorem dX11_openAt_6 : decode cX11_openAt 6 = .ok (.sipush 1000, 3) := by decide +kernel
theorem dX11_openAt_9 : decode cX11_openAt 9 = .ok (.invokestatic 90, 3) := by decide +kernel
theorem dX11_openAt_12 : decode cX11_openAt 12 = .ok (.aload_n 0, 1) := by decide +kernel
theorem dX11_openAt_13 : decode cX11_openAt 13 = .ok (.getfield 29, 3) := by decide +kernel
theorem dX11_openAt_16 : decode cX11_openAt 16 = .ok (.aload_n 0, 1) := by decide +kernel
theorem dX11_openAt_17 : decode cX11_openAt 17 = .ok (.getfield 10, 3) := by decide +kernel
theorem dX11_openAt_20 : decode cX11_openAt 20 = .ok (.aload_n 0, 1) := by decide +kernel
theorem dX11_openAt_21 : decode cX11_openAt 21 = .ok (.getfield 22, 3) := by decide +kernel
theorem dX11_openAt_24 : decode cX11_openAt 24 = .ok (.getfield 118, 3) := by decide +kernel
theorem dX11_openAt_27 : decode cX11_openAt 27 = .ok (.iload_n 1, 1) := by decide +kernel
theorem dX11_openAt_28 : decode cX11_openAt 28 = .ok (.iload_n 2, 1) := by decide +kernel
theorem dX11_openAt_29 : decode cX11_openAt 29 = .ok (.invokevirtual 286, 3) := by decide +kernel
theorem dX11_openAt_32 : decode cX11_openAt 32 = .ok (.return_, 1) := by decide +kernel
theorem dX11_spans_0 : decode cX11_spans 0 = .ok (.aload_n 0, 1) := by decide +kernel
theorem dX11_spans_1 : decode cX11_spans 1 = .ok (.iload_n 1, 1) := by decide +kernel
theorem dX11_spans_2 : decode cX11_spans 2 = .ok (.iload_n 2, 1) := by decide +kernel
theorem dX11_spans_3 : decode cX11_spans 3 = .ok (.invokevirtual 133, 3) := by decide +kernel
theorem dX11_spans_6 : decode cX11_spans 6 = .ok (.aload_n 0, 1) := by decide +kernel
theorem dX11_spans_7 : decode cX11_spans 7 = .ok (.getfield 29, 3) := by decide +kernel
theorem dX11_spans_10 : decode cX11_spans 10 = .ok (.iload_n 3, 1) := by decide +kernel
theorem dX11_spans_11 : decode cX11_spans 11 = .ok (.ifCond .eq 7, 3) := by decide +kernel
theorem dX11_spans_14 : decode cX11_spans 14 = .ok (.iconst 0, 1) := by decide +kernel
theorem dX11_spans_15 : decode cX11_spans 15 = .ok (.goto 4, 3) := by decide +kernel
theorem dX11_spans_18 : decode cX11_spans 18 = .ok (.iconst 1, 1) := by decide +kernel
theorem dX11_spans_19 : decode cX11_spans 19 = .ok (.iload_n 3, 1) := by decide +kernel
theorem dX11_spans_20 : decode cX11_spans 20 = .ok (.ifCond .eq 7, 3) := by decide +kernel
theorem dX11_spans_23 : decode cX11_spans 23 = .ok (.iconst 3, 1) := by decide +kernel
theorem dX11_spans_24 : decode cX11_spans 24 = .ok (.goto 4, 3) := by decide +kernel
theorem dX11_spans_27 : decode cX11_spans 27 = .ok (.iconst 2, 1) := by decide +kernel
theorem dX11_spans_28 : decode cX11_spans 28 = .ok (.invokevirtual 154, 3) := by decide +kernel
theorem dX11_spans_31 : decode cX11_spans 31 = .ok (.iconst (-1), 1) := by decide +kernel
theorem dX11_spans_32 : decode cX11_spans 32 = .ok (.if_icmp .eq 7, 3) := by decide +kernel
theorem dX11_spans_35 : decode cX11_spans 35 = .ok (.iconst 1, 1) := by decide +kernel
theorem dX11_spans_36 : decode cX11_spans 36 = .ok (.goto 4, 3) := by decide +kernel
theorem dX11_spans_39 : decode cX11_spans 39 = .ok (.iconst 0, 1) := by decide +kernel
theorem dX11_spans_40 : decode cX11_spans 40 = .ok (.ireturn, 1) := by decide +kernel
theorem dX9_walkFrom_0 : decode cX9_walkFrom 0 = .ok (.aload_n 0, 1) := by decide +kernel
theorem dX9_walkFrom_1 : decode cX9_walkFrom 1 = .ok (.getfield 25, 3) := by decide +kernel
theorem dX9_walkFrom_4 : decode cX9_walkFrom 4 = .ok (.invokevirtual 83, 3) := by decide +kernel
theorem dX9_walkFrom_7 : decode cX9_walkFrom 7 = .ok (.aload_n 0, 1) := by decide +kernel
theorem dX9_walkFrom_8 : decode cX9_walkFrom 8 = .ok (.getfield 18, 3) := by decide +kernel
theorem dX9_walkFrom_11 : decode cX9_walkFrom 11 = .ok (.iload_n 1, 1) := by decide +kernel
theorem dX9_walkFrom_12 : decode cX9_walkFrom 12 = .ok (.iconst 0, 1) := by decide +kernel
theorem dX9_walkFrom_13 : decode cX9_walkFrom 13 = .ok (.iastore, 1) := by decide +kernel
theorem dX9_walkFrom_14 : decode cX9_walkFrom 14 = .ok (.aload_n 0, 1) := by decide +kernel
theorem dX9_walkFrom_15 : decode cX9_walkFrom 15 = .ok (.getfield 25, 3) := by decide +kernel
theorem dX9_walkFrom_18 : decode cX9_walkFrom 18 = .ok (.iload_n 1, 1) := by decide +kernel
theorem dX9_walkFrom_19 : decode cX9_walkFrom 19 = .ok (.invokevirtual 86, 3) := by decide +kernel
theorem dX9_walkFrom_22 : decode cX9_walkFrom 22 = .ok (.aload_n 0, 1) := by decide +kernel
theorem dX9_walkFrom_23 : decode cX9_walkFrom 23 = .ok (.invokevirtual 48, 3) := by decide +kernel
theorem dX9_walkFrom_26 : decode cX9_walkFrom 26 = .ok (.aload_n 0, 1) := by decide +kernel
theorem dX9_walkFrom_27 : decode cX9_walkFrom 27 = .ok (.getfield 25, 3) := by decide +kernel
theorem dX9_walkFrom_30 : decode cX9_walkFrom 30 = .ok (.getfield 89, 3) := by decide +kernel
theorem dX9_walkFrom_33 : decode cX9_walkFrom 33 = .ok (.ireturn, 1) := by decide +kernel
theorem dX9_lowestOfCluster_0 : decode cX9_lowestOfCluster 0 = .ok (.aload_n 0, 1) := by decide +kernel
theorem dX9_lowestOfCluster_1 : decode cX9_lowestOfCluster 1 = .ok (.getfield 9, 3) := by decide +kernel
theorem dX9_lowestOfCluster_4 : decode cX9_lowestOfCluster 4 = .ok (.iload_n 1, 1) := by decide +kernel
theorem dX9_lowestOfCluster_5 : decode cX9_lowestOfCluster 5 = .ok (.baload, 1) := by decide +kernel
theorem dX9_lowestOfCluster_6 : decode cX9_lowestOfCluster 6 = .ok (.ifCond .ne 5, 3) := by decide +kernel
theorem dX9_lowestOfCluster_9 : decode cX9_lowestOfCluster 9 = .ok (.iconst (-1), 1) := by decide +kernel
theorem dX9_lowestOfCluster_10 : decode cX9_lowestOfCluster 10 = .ok (.ireturn, 1) := by decide +kernel
theorem dX9_lowestOfCluster_11 : decode cX9_lowestOfCluster 11 = .ok (.aload_n 0, 1) := by decide +kernel
theorem dX9_lowestOfCluster_12 : decode cX9_lowestOfCluster 12 = .ok (.getfield 18, 3) := by decide +kernel
theorem dX9_lowestOfCluster_15 : decode cX9_lowestOfCluster 15 = .ok (.iconst (-1), 1) := by decide +kernel
theorem dX9_lowestOfCluster_16 : decode cX9_lowestOfCluster 16 = .ok (.invokestatic 55, 3) := by decide +kernel
theorem dX9_lowestOfCluster_19 : decode cX9_lowestOfCluster 19 = .ok (.aload_n 0, 1) := by decide +kernel
theorem dX9_lowestOfCluster_20 : decode cX9_lowestOfCluster 20 = .ok (.iload_n 1, 1) := by decide +kernel
theorem dX9_lowestOfCluster_21 : decode cX9_lowestOfCluster 21 = .ok (.invokevirtual 61, 3) := by decide +kernel
theorem dX9_lowestOfCluster_24 : decode cX9_lowestOfCluster 24 = .ok (.pop, 1) := by decide +kernel
theorem dX9_lowestOfCluster_25 : decode cX9_lowestOfCluster 25 = .ok (.iconst 0, 1) := by decide +kernel
theorem dX9_lowestOfCluster_26 : decode cX9_lowestOfCluster 26 = .ok (.istore_n 2, 1) := by decide +kernel
theorem dX9_lowestOfCluster_27 : decode cX9_lowestOfCluster 27 = .ok (.iload_n 2, 1) := by decide +kernel
theorem dX9_lowestOfCluster_28 : decode cX9_lowestOfCluster 28 = .ok (.iload_n 1, 1) := by decide +kernel
theorem dX9_lowestOfCluster_29 : decode cX9_lowestOfCluster 29 = .ok (.if_icmp .ge 19, 3) := by decide +kernel
theorem dX9_lowestOfCluster_32 : decode cX9_lowestOfCluster 32 = .ok (.aload_n 0, 1) := by decide +kernel
theorem dX9_lowestOfCluster_33 : decode cX9_lowestOfCluster 33 = .ok (.getfield 18, 3) := by decide +kernel
theorem dX9_lowestOfCluster_36 : decode cX9_lowestOfCluster 36 = .ok (.iload_n 2, 1) := by decide +kernel
theorem dX9_lowestOfCluster_37 : decode cX9_lowestOfCluster 37 = .ok (.iaload, 1) := by decide +kernel
theorem dX9_lowestOfCluster_38 : decode cX9_lowestOfCluster 38 = .ok (.iconst (-1), 1) := by decide +kernel
theorem dX9_lowestOfCluster_39 : decode cX9_lowestOfCluster 39 = .ok (.if_icmp .ne 9, 3) := by decide +kernel
theorem dX9_lowestOfCluster_42 : decode cX9_lowestOfCluster 42 = .ok (.iinc 2 1, 3) := by decide +kernel
theorem dX9_lowestOfCluster_45 : decode cX9_lowestOfCluster 45 = .ok (.goto (-18), 3) := by decide +kernel
theorem dX9_lowestOfCluster_48 : decode cX9_lowestOfCluster 48 = .ok (.iload_n 2, 1) := by decide +kernel
theorem dX9_lowestOfCluster_49 : decode cX9_lowestOfCluster 49 = .ok (.ireturn, 1) := by decide +kernel
theorem dX11_cluster_0 : decode cX11_cluster 0 = .ok (.iload_n 3, 1) := by decide +kernel
theorem dX11_cluster_1 : decode cX11_cluster 1 = .ok (.invokestatic 105, 3) := by decide +kernel
theorem dX11_cluster_4 : decode cX11_cluster 4 = .ok (.aload_n 0, 1) := by decide +kernel
theorem dX11_cluster_5 : decode cX11_cluster 5 = .ok (.iload_n 1, 1) := by decide +kernel
theorem dX11_cluster_6 : decode cX11_cluster 6 = .ok (.iload_n 2, 1) := by decide +kernel
theorem dX11_cluster_7 : decode cX11_cluster 7 = .ok (.invokevirtual 133, 3) := by decide +kernel
theorem dX11_cluster_10 : decode cX11_cluster 10 = .ok (.aload_n 0, 1) := by decide +kernel
theorem dX11_cluster_11 : decode cX11_cluster 11 = .ok (.getfield 29, 3) := by decide +kernel
theorem dX11_cluster_14 : decode cX11_cluster 14 = .ok (.iload_n 3, 1) := by decide +kernel
theorem dX11_cluster_15 : decode cX11_cluster 15 = .ok (.invokevirtual 137, 3) := by decide +kernel
theorem dX11_cluster_18 : decode cX11_cluster 18 = .ok (.ireturn, 1) := by decide +kernel
theorem dL_lowest_0 : decode cL_lowest 0 = .ok (.iconst 0, 1) := by decide +kernel
theorem dL_lowest_1 : decode cL_lowest 1 = .ok (.istore_n 2, 1) := by decide +kernel
theorem dL_lowest_2 : decode cL_lowest 2 = .ok (.iload_n 2, 1) := by decide +kernel
theorem dL_lowest_3 : decode cL_lowest 3 = .ok (.bipush 36, 2) := by decide +kernel
theorem dL_lowest_5 : decode cL_lowest 5 = .ok (.if_icmp .ge 19, 3) := by decide +kernel
theorem dL_lowest_8 : decode cL_lowest 8 = .ok (.lload_n 0, 1) := by decide +kernel
theorem dL_lowest_9 : decode cL_lowest 9 = .ok (.iload_n 2, 1) := by decide +kernel
theorem dL_lowest_10 : decode cL_lowest 10 = .ok (.invokestatic 25, 3) := by decide +kernel
theorem dL_lowest_13 : decode cL_lowest 13 = .ok (.ifCond .eq 5, 3) := by decide +kernel
theorem dL_lowest_16 : decode cL_lowest 16 = .ok (.iload_n 2, 1) := by decide +kernel
theorem dL_lowest_17 : decode cL_lowest 17 = .ok (.ireturn, 1) := by decide +kernel
theorem dL_lowest_18 : decode cL_lowest 18 = .ok (.iinc 2 1, 3) := by decide +kernel
theorem dL_lowest_21 : decode cL_lowest 21 = .ok (.goto (-19), 3) := by decide +kernel
theorem dL_lowest_24 : decode cL_lowest 24 = .ok (.iconst (-1), 1) := by decide +kernel
theorem dL_lowest_25 : decode cL_lowest 25 = .ok (.ireturn, 1) := by decide +kernel
theorem dX9_findClusters_0 : decode cX9_findClusters 0 = .ok (.aload_n 0, 1) := by decide +kernel
theorem dX9_findClusters_1 : decode cX9_findClusters 1 = .ok (.iconst 0, 1) := by decide +kernel
theorem dX9_findClusters_2 : decode cX9_findClusters 2 = .ok (.putfield 64, 3) := by decide +kernel
theorem dX9_findClusters_5 : decode cX9_findClusters 5 = .ok (.aload_n 0, 1) := by decide +kernel
theorem dX9_findClusters_6 : decode cX9_findClusters 6 = .ok (.iconst 0, 1) := by decide +kernel
theorem dX9_findClusters_7 : decode cX9_findClusters 7 = .ok (.putfield 68, 3) := by decide +kernel
theorem dX9_findClusters_10 : decode cX9_findClusters 10 = .ok (.aload_n 0, 1) := by decide +kernel
theorem dX9_findClusters_11 : decode cX9_findClusters 11 = .ok (.iconst 0, 1) := by decide +kernel
theorem dX9_findClusters_12 : decode cX9_findClusters 12 = .ok (.putfield 71, 3) := by decide +kernel
theorem dX9_findClusters_15 : decode cX9_findClusters 15 = .ok (.aload_n 0, 1) := by decide +kernel
theorem dX9_findClusters_16 : decode cX9_findClusters 16 = .ok (.getfield 18, 3) := by decide +kernel
theorem dX9_findClusters_19 : decode cX9_findClusters 19 = .ok (.iconst (-1), 1) := by decide +kernel
theorem dX9_findClusters_20 : decode cX9_findClusters 20 = .ok (.invokestatic 55, 3) := by decide +kernel
theorem dX9_findClusters_23 : decode cX9_findClusters 23 = .ok (.iconst 0, 1) := by decide +kernel
theorem dX9_findClusters_24 : decode cX9_findClusters 24 = .ok (.istore_n 1, 1) := by decide +kernel
theorem dX9_findClusters_25 : decode cX9_findClusters 25 = .ok (.iload_n 1, 1) := by decide +kernel
theorem dX9_findClusters_26 : decode cX9_findClusters 26 = .ok (.bipush 36, 2) := by decide +kernel
theorem dX9_findClusters_28 : decode cX9_findClusters 28 = .ok (.if_icmp .ge 68, 3) := by decide +kernel
theorem dX9_findClusters_31 : decode cX9_findClusters 31 = .ok (.aload_n 0, 1) := by decide +kernel
theorem dX9_findClusters_32 : decode cX9_findClusters 32 = .ok (.getfield 9, 3) := by decide +kernel
theorem dX9_findClusters_35 : decode cX9_findClusters 35 = .ok (.iload_n 1, 1) := by decide +kernel
theorem dX9_findClusters_36 : decode cX9_findClusters 36 = .ok (.baload, 1) := by decide +kernel
theorem dX9_findClusters_37 : decode cX9_findClusters 37 = .ok (.ifCond .eq 53, 3) := by decide +kernel
theorem dX9_findClusters_40 : decode cX9_findClusters 40 = .ok (.aload_n 0, 1) := by decide +kernel
theorem dX9_findClusters_41 : decode cX9_findClusters 41 = .ok (.getfield 18, 3) := by decide +kernel
theorem dX9_findClusters_44 : decode cX9_findClusters 44 = .ok (.iload_n 1, 1) := by decide +kernel
theorem dX9_findClusters_45 : decode cX9_findClusters 45 = .ok (.iaload, 1) := by decide +kernel
theorem dX9_findClusters_46 : decode cX9_findClusters 46 = .ok (.iconst (-1), 1) := by decide +kernel
theorem dX9_findClusters_47 : decode cX9_findClusters 47 = .ok (.if_icmp .ne 43, 3) := by decide +kernel
theorem dX9_findClusters_50 : decode cX9_findClusters 50 = .ok (.aload_n 0, 1) := by decide +kernel
theorem dX9_findClusters_51 : decode cX9_findClusters 51 = .ok (.iload_n 1, 1) := by decide +kernel
theorem dX9_findClusters_52 : decode cX9_findClusters 52 = .ok (.invokevirtual 61, 3) := by decide +kernel
theorem dX9_findClusters_55 : decode cX9_findClusters 55 = .ok (.istore_n 2, 1) := by decide +kernel
theorem dX9_findClusters_56 : decode cX9_findClusters 56 = .ok (.aload_n 0, 1) := by decide +kernel
theorem dX9_findClusters_57 : decode cX9_findClusters 57 = .ok (.dup, 1) := by decide +kernel
theorem dX9_findClusters_58 : decode cX9_findClusters 58 = .ok (.getfield 64, 3) := by decide +kernel
theorem dX9_findClusters_61 : decode cX9_findClusters 61 = .ok (.iconst 1, 1) := by decide +kernel
theorem dX9_findClusters_62 : decode cX9_findClusters 62 = .ok (.iadd, 1) := by decide +kernel
theorem dX9_findClusters_63 : decode cX9_findClusters 63 = .ok (.putfield 64, 3) := by decide +kernel
theorem dX9_findClusters_66 : decode cX9_findClusters 66 = .ok (.aload_n 0, 1) := by decide +kernel
theorem dX9_findClusters_67 : decode cX9_findClusters 67 = .ok (.aload_n 0, 1) := by decide +kernel
theorem dX9_findClusters_68 : decode cX9_findClusters 68 = .ok (.getfield 68, 3) := by decide +kernel
theorem dX9_findClusters_71 : decode cX9_findClusters 71 = .ok (.iload_n 2, 1) := by decide +kernel
theorem dX9_findClusters_72 : decode cX9_findClusters 72 = .ok (.invokestatic 74, 3) := by decide +kernel
theorem dX9_findClusters_75 : decode cX9_findClusters 75 = .ok (.putfield 68, 3) := by decide +kernel
theorem dX9_findClusters_78 : decode cX9_findClusters 78 = .ok (.aload_n 0, 1) := by decide +kernel
theorem dX9_findClusters_79 : decode cX9_findClusters 79 = .ok (.dup, 1) := by decide +kernel
theorem dX9_findClusters_80 : decode cX9_findClusters 80 = .ok (.getfield 71, 3) := by decide +kernel
theorem dX9_findClusters_83 : decode cX9_findClusters 83 = .ok (.iload_n 2, 1) := by decide +kernel
theorem dX9_findClusters_84 : decode cX9_findClusters 84 = .ok (.iload_n 2, 1) := by decide +kernel
theorem dX9_findClusters_85 : decode cX9_findClusters 85 = .ok (.imul, 1) := by decide +kernel
theorem dX9_findClusters_86 : decode cX9_findClusters 86 = .ok (.iadd, 1) := by decide +kernel
theorem dX9_findClusters_87 : decode cX9_findClusters 87 = .ok (.putfield 71, 3) := by decide +kernel
theorem dX9_findClusters_90 : decode cX9_findClusters 90 = .ok (.iinc 1 1, 3) := by decide +kernel
theorem dX9_findClusters_93 : decode cX9_findClusters 93 = .ok (.goto (-68), 3) := by decide +kernel
theorem dX9_findClusters_96 : decode cX9_findClusters 96 = .ok (.return_, 1) := by decide +kernel
