theorem d_Mo_reads_2 : decode c_Mo_reads 2 = .ok (.iload_n 2, 1) := by decide +kernel
theorem d_Mo_reads_3 : decode c_Mo_reads 3 = .ok (.bipush 24, 2) := by decide +kernel
theorem d_Mo_reads_5 : decode c_Mo_reads 5 = .ok (.if_icmp .ge 21, 3) := by decide +kernel
theorem d_Mo_reads_8 : decode c_Mo_reads 8 = .ok (.aload_n 0, 1) := by decide +kernel
theorem d_Mo_reads_9 : decode c_Mo_reads 9 = .ok (.getfield 26, 3) := by decide +kernel
theorem d_Mo_reads_12 : decode c_Mo_reads 12 = .ok (.bipush 24, 2) := by decide +kernel
theorem d_Mo_reads_14 : decode c_Mo_reads 14 = .ok (.iload_n 1, 1) := by decide +kernel
theorem d_Mo_reads_15 : decode c_Mo_reads 15 = .ok (.imul, 1) := by decide +kernel
theorem d_Mo_reads_16 : decode c_Mo_reads 16 = .ok (.iload_n 2, 1) := by decide +kernel
theorem d_Mo_reads_17 : decode c_Mo_reads 17 = .ok (.iadd, 1) := by decide +kernel
theorem d_Mo_reads_18 : decode c_Mo_reads 18 = .ok (.iconst 0, 1) := by decide +kernel
theorem d_Mo_reads_19 : decode c_Mo_reads 19 = .ok (.bastore, 1) := by decide +kernel
theorem d_Mo_reads_20 : decode c_Mo_reads 20 = .ok (.iinc 2 1, 3) := by decide +kernel
theorem d_Mo_reads_23 : decode c_Mo_reads 23 = .ok (.goto (-21), 3) := by decide +kernel
theorem d_Mo_reads_26 : decode c_Mo_reads 26 = .ok (.iconst 0, 1) := by decide +kernel
theorem d_Mo_reads_27 : decode c_Mo_reads 27 = .ok (.istore_n 2, 1) := by decide +kernel
theorem d_Mo_reads_28 : decode c_Mo_reads 28 = .ok (.iload_n 2, 1) := by decide +kernel
theorem d_Mo_reads_29 : decode c_Mo_reads 29 = .ok (.bipush 6, 2) := by decide +kernel
theorem d_Mo_reads_31 : decode c_Mo_reads 31 = .ok (.if_icmp .ge 16, 3) := by decide +kernel
theorem d_Mo_reads_34 : decode c_Mo_reads 34 = .ok (.aload_n 0, 1) := by decide +kernel
theorem d_Mo_reads_35 : decode c_Mo_reads 35 = .ok (.getfield 54, 3) := by decide +kernel
theorem d_Mo_reads_38 : decode c_Mo_reads 38 = .ok (.iload_n 2, 1) := by decide +kernel
theorem d_Mo_reads_39 : decode c_Mo_reads 39 = .ok (.iconst 0, 1) := by decide +kernel
theorem d_Mo_reads_40 : decode c_Mo_reads 40 = .ok (.iastore, 1) := by decide +kernel
theorem d_Mo_reads_41 : decode c_Mo_reads 41 = .ok (.iinc 2 1, 3) := by decide +kernel
theorem d_Mo_reads_44 : decode c_Mo_reads 44 = .ok (.goto (-16), 3) := by decide +kernel
theorem d_Mo_reads_47 : decode c_Mo_reads 47 = .ok (.aload_n 0, 1) := by decide +kernel
theorem d_Mo_reads_48 : decode c_Mo_reads 48 = .ok (.getfield 33, 3) := by decide +kernel
theorem d_Mo_reads_51 : decode c_Mo_reads 51 = .ok (.iload_n 1, 1) := by decide +kernel
theorem d_Mo_reads_52 : decode c_Mo_reads 52 = .ok (.iconst 0, 1) := by decide +kernel
theorem d_Mo_reads_53 : decode c_Mo_reads 53 = .ok (.iastore, 1) := by decide +kernel
theorem d_Mo_reads_54 : decode c_Mo_reads 54 = .ok (.aload_n 0, 1) := by decide +kernel
theorem d_Mo_reads_55 : decode c_Mo_reads 55 = .ok (.iconst 0, 1) := by decide +kernel
theorem d_Mo_reads_56 : decode c_Mo_reads 56 = .ok (.putfield 85, 3) := by decide +kernel
theorem d_Mo_reads_59 : decode c_Mo_reads 59 = .ok (.aload_n 0, 1) := by decide +kernel
theorem d_Mo_reads_60 : decode c_Mo_reads 60 = .ok (.iconst 0, 1) := by decide +kernel
theorem d_Mo_reads_61 : decode c_Mo_reads 61 = .ok (.putfield 92, 3) := by decide +kernel
theorem d_Mo_reads_64 : decode c_Mo_reads 64 = .ok (.iconst 0, 1) := by decide +kernel
theorem d_Mo_reads_65 : decode c_Mo_reads 65 = .ok (.istore_n 2, 1) := by decide +kernel
theorem d_Mo_reads_66 : decode c_Mo_reads 66 = .ok (.aload_n 0, 1) := by decide +kernel
theorem d_Mo_reads_67 : decode c_Mo_reads 67 = .ok (.iload_n 1, 1) := by decide +kernel
theorem d_Mo_reads_68 : decode c_Mo_reads 68 = .ok (.iconst 0, 1) := by decide +kernel
theorem d_Mo_reads_69 : decode c_Mo_reads 69 = .ok (.invokevirtual 88, 3) := by decide +kernel
theorem d_Mo_reads_72 : decode c_Mo_reads 72 = .ok (.bipush 92, 2) := by decide +kernel
theorem d_Mo_reads_74 : decode c_Mo_reads 74 = .ok (.if_icmp .ne 37, 3) := by decide +kernel
theorem d_Mo_reads_77 : decode c_Mo_reads 77 = .ok (.aload_n 0, 1) := by decide +kernel
theorem d_Mo_reads_78 : decode c_Mo_reads 78 = .ok (.iload_n 1, 1) := by decide +kernel
theorem d_Mo_reads_79 : decode c_Mo_reads 79 = .ok (.iconst 1, 1) := by decide +kernel
theorem d_Mo_reads_80 : decode c_Mo_reads 80 = .ok (.invokevirtual 88, 3) := by decide +kernel
theorem d_Mo_reads_83 : decode c_Mo_reads 83 = .ok (.invokestatic 102, 3) := by decide +kernel
theorem d_Mo_reads_86 : decode c_Mo_reads 86 = .ok (.ifCond .ne 5, 3) := by decide +kernel
theorem d_Mo_reads_89 : decode c_Mo_reads 89 = .ok (.iconst 0, 1) := by decide +kernel
theorem d_Mo_reads_90 : decode c_Mo_reads 90 = .ok (.ireturn, 1) := by decide +kernel
theorem d_Mo_reads_91 : decode c_Mo_reads 91 = .ok (.aload_n 0, 1) := by decide +kernel
theorem d_Mo_reads_92 : decode c_Mo_reads 92 = .ok (.getfield 54, 3) := by decide +kernel
theorem d_Mo_reads_95 : decode c_Mo_reads 95 = .ok (.aload_n 0, 1) := by decide +kernel
theorem d_Mo_reads_96 : decode c_Mo_reads 96 = .ok (.iload_n 1, 1) := by decide +kernel
theorem d_Mo_reads_97 : decode c_Mo_reads 97 = .ok (.iconst 1, 1) := by decide +kernel
theorem d_Mo_reads_98 : decode c_Mo_reads 98 = .ok (.invokevirtual 88, 3) := by decide +kernel
theorem d_Mo_reads_101 : decode c_Mo_reads 101 = .ok (.bipush 107, 2) := by decide +kernel
theorem d_Mo_reads_103 : decode c_Mo_reads 103 = .ok (.isub, 1) := by decide +kernel
theorem d_Mo_reads_104 : decode c_Mo_reads 104 = .ok (.dup2, 1) := by decide +kernel
theorem d_Mo_reads_105 : decode c_Mo_reads 105 = .ok (.iaload, 1) := by decide +kernel
theorem d_Mo_reads_106 : decode c_Mo_reads 106 = .ok (.iconst 1, 1) := by decide +kernel
theorem d_Mo_reads_107 : decode c_Mo_reads 107 = .ok (.iadd, 1) := by decide +kernel
theorem d_Mo_reads_108 : decode c_Mo_reads 108 = .ok (.iastore, 1) := by decide +kernel
theorem d_Mo_reads_109 : decode c_Mo_reads 109 = .ok (.iconst 2, 1) := by decide +kernel
theorem d_Mo_reads_110 : decode c_Mo_reads 110 = .ok (.istore_n 2, 1) := by decide +kernel
theorem d_Mo_reads_111 : decode c_Mo_reads 111 = .ok (.aload_n 0, 1) := by decide +kernel
theorem d_Mo_reads_112 : decode c_Mo_reads 112 = .ok (.iconst 1, 1) := by decide +kernel
theorem d_Mo_reads_113 : decode c_Mo_reads 113 = .ok (.invokevirtual 105, 3) := by decide +kernel
theorem d_Mo_reads_116 : decode c_Mo_reads 116 = .ok (.aload_n 0, 1) := by decide +kernel
theorem d_Mo_reads_117 : decode c_Mo_reads 117 = .ok (.getfield 85, 3) := by decide +kernel
theorem d_Mo_reads_120 : decode c_Mo_reads 120 = .ok (.ifCond .le 164, 3) := by decide +kernel
theorem d_Mo_reads_123 : decode c_Mo_reads 123 = .ok (.iload_n 2, 1) := by decide +kernel
theorem d_Mo_reads_124 : decode c_Mo_reads 124 = .ok (.ifCond .lt 160, 3) := by decide +kernel
theorem d_Mo_reads_127 : decode c_Mo_reads 127 = .ok (.aload_n 0, 1) := by decide +kernel
theorem d_Mo_reads_128 : decode c_Mo_reads 128 = .ok (.dup, 1) := by decide +kernel
theorem d_Mo_reads_129 : decode c_Mo_reads 129 = .ok (.getfield 85, 3) := by decide +kernel
theorem d_Mo_reads_132 : decode c_Mo_reads 132 = .ok (.iconst 1, 1) := by decide +kernel
theorem d_Mo_reads_133 : decode c_Mo_reads 133 = .ok (.isub, 1) := by decide +kernel
theorem d_Mo_reads_134 : decode c_Mo_reads 134 = .ok (.putfield 85, 3) := by decide +kernel
theorem d_Mo_reads_137 : decode c_Mo_reads 137 = .ok (.aload_n 0, 1) := by decide +kernel
theorem d_Mo_reads_138 : decode c_Mo_reads 138 = .ok (.getfield 51, 3) := by decide +kernel
theorem d_Mo_reads_141 : decode c_Mo_reads 141 = .ok (.aload_n 0, 1) := by decide +kernel
theorem d_Mo_reads_142 : decode c_Mo_reads 142 = .ok (.getfield 85, 3) := by decide +kernel
theorem d_Mo_reads_145 : decode c_Mo_reads 145 = .ok (.iaload, 1) := by decide +kernel
theorem d_Mo_reads_146 : decode c_Mo_reads 146 = .ok (.istore_n 3, 1) := by decide +kernel
theorem d_Mo_reads_147 : decode c_Mo_reads 147 = .ok (.iload_n 3, 1) := by decide +kernel
theorem d_Mo_reads_148 : decode c_Mo_reads 148 = .ok (.bipush 20, 2) := by decide +kernel
theorem d_Mo_reads_150 : decode c_Mo_reads 150 = .ok (.if_icmp .lt 19, 3) := by decide +kernel
theorem d_Mo_reads_153 : decode c_Mo_reads 153 = .ok (.aload_n 0, 1) := by decide +kernel
theorem d_Mo_reads_154 : decode c_Mo_reads 154 = .ok (.getfield 54, 3) := by decide +kernel
theorem d_Mo_reads_157 : decode c_Mo_reads 157 = .ok (.iload_n 3, 1) := by decide +kernel
theorem d_Mo_reads_158 : decode c_Mo_reads 158 = .ok (.bipush 20, 2) := by decide +kernel
theorem d_Mo_reads_160 : decode c_Mo_reads 160 = .ok (.isub, 1) := by decide +kernel
theorem d_Mo_reads_161 : decode c_Mo_reads 161 = .ok (.dup2, 1) := by decide +kernel
theorem d_Mo_reads_162 : decode c_Mo_reads 162 = .ok (.iaload, 1) := by decide +kernel
theorem d_Mo_reads_163 : decode c_Mo_reads 163 = .ok (.iconst 1, 1) := by decide +kernel
theorem d_Mo_reads_164 : decode c_Mo_reads 164 = .ok (.isub, 1) := by decide +kernel
theorem d_Mo_reads_165 : decode c_Mo_reads 165 = .ok (.iastore, 1) := by decide +kernel
theorem d_Mo_reads_166 : decode c_Mo_reads 166 = .ok (.goto 115, 3) := by decide +kernel
theorem d_Mo_reads_169 : decode c_Mo_reads 169 = .ok (.iload_n 3, 1) := by decide +kernel
theorem d_Mo_reads_170 : decode c_Mo_reads 170 = .ok (.bipush 10, 2) := by decide +kernel
theorem d_Mo_reads_172 : decode c_Mo_reads 172 = .ok (.if_icmp .lt 19, 3) := by decide +kernel
theorem d_Mo_reads_175 : decode c_Mo_reads 175 = .ok (.aload_n 0, 1) := by decide +kernel
theorem d_Mo_reads_176 : decode c_Mo_reads 176 = .ok (.getfield 54, 3) := by decide +kernel
theorem d_Mo_reads_179 : decode c_Mo_reads 179 = .ok (.iload_n 3, 1) := by decide +kernel
theorem d_Mo_reads_180 : decode c_Mo_reads 180 = .ok (.bipush 10, 2) := by decide +kernel
theorem d_Mo_reads_182 : decode c_Mo_reads 182 = .ok (.isub, 1) := by decide +kernel
theorem d_Mo_reads_183 : decode c_Mo_reads 183 = .ok (.dup2, 1) := by decide +kernel
theorem d_Mo_reads_184 : decode c_Mo_reads 184 = .ok (.iaload, 1) := by decide +kernel
theorem d_Mo_reads_185 : decode c_Mo_reads 185 = .ok (.iconst 1, 1) := by decide +kernel
theorem d_Mo_reads_186 : decode c_Mo_reads 186 = .ok (.iadd, 1) := by decide +kernel
theorem d_Mo_reads_187 : decode c_Mo_reads 187 = .ok (.iastore, 1) := by decide +kernel
theorem d_Mo_reads_188 : decode c_Mo_reads 188 = .ok (.goto 93, 3) := by decide +kernel
theorem d_Mo_reads_191 : decode c_Mo_reads 191 = .ok (.iload_n 3, 1) := by decide +kernel
theorem d_Mo_reads_192 : decode c_Mo_reads 192 = .ok (.iconst 3, 1) := by decide +kernel
theorem d_Mo_reads_193 : decode c_Mo_reads 193 = .ok (.if_icmp .ne 16, 3) := by decide +kernel
theorem d_Mo_reads_196 : decode c_Mo_reads 196 = .ok (.aload_n 0, 1) := by decide +kernel
theorem d_Mo_reads_197 : decode c_Mo_reads 197 = .ok (.dup, 1) := by decide +kernel
theorem d_Mo_reads_198 : decode c_Mo_reads 198 = .ok (.getfield 92, 3) := by decide +kernel
theorem d_Mo_reads_201 : decode c_Mo_reads 201 = .ok (.iconst 1, 1) := by decide +kernel
theorem d_Mo_reads_202 : decode c_Mo_reads 202 = .ok (.isub, 1) := by decide +kernel
theorem d_Mo_reads_203 : decode c_Mo_reads 203 = .ok (.putfield 92, 3) := by decide +kernel
theorem d_Mo_reads_206 : decode c_Mo_reads 206 = .ok (.goto 75, 3) := by decide +kernel
theorem d_Mo_reads_209 : decode c_Mo_reads 209 = .ok (.iload_n 3, 1) := by decide +kernel
theorem d_Mo_reads_210 : decode c_Mo_reads 210 = .ok (.iconst 2, 1) := by decide +kernel
theorem d_Mo_reads_211 : decode c_Mo_reads 211 = .ok (.if_icmp .ne 63, 3) := by decide +kernel
theorem d_Mo_reads_214 : decode c_Mo_reads 214 = .ok (.aload_n 0, 1) := by decide +kernel
theorem d_Mo_reads_215 : decode c_Mo_reads 215 = .ok (.getfield 26, 3) := by decide +kernel
theorem d_Mo_reads_218 : decode c_Mo_reads 218 = .ok (.bipush 24, 2) := by decide +kernel
theorem d_Mo_reads_220 : decode c_Mo_reads 220 = .ok (.iload_n 1, 1) := by decide +kernel
theorem d_Mo_reads_221 : decode c_Mo_reads 221 = .ok (.imul, 1) := by decide +kernel
theorem d_Mo_reads_222 : decode c_Mo_reads 222 = .ok (.iload_n 2, 1) := by decide +kernel
theorem d_Mo_reads_223 : decode c_Mo_reads 223 = .ok (.bipush 24, 2) := by decide +kernel
theorem d_Mo_reads_225 : decode c_Mo_reads 225 = .ok (.if_icmp .ge 7, 3) := by decide +kernel
theorem d_Mo_reads_228 : decode c_Mo_reads 228 = .ok (.iload_n 2, 1) := by decide +kernel
theorem d_Mo_reads_229 : decode c_Mo_reads 229 = .ok (.goto 5, 3) := by decide +kernel
theorem d_Mo_reads_232 : decode c_Mo_reads 232 = .ok (.bipush 23, 2) := by decide +kernel
theorem d_Mo_reads_234 : decode c_Mo_reads 234 = .ok (.iadd, 1) := by decide +kernel
theorem d_Mo_reads_235 : decode c_Mo_reads 235 = .ok (.iload_n 2, 1) := by decide +kernel
theorem d_Mo_reads_236 : decode c_Mo_reads 236 = .ok (.aload_n 0, 1) := by decide +kernel
theorem d_Mo_reads_237 : decode c_Mo_reads 237 = .ok (.getfield 16, 3) := by decide +kernel
theorem d_Mo_reads_240 : decode c_Mo_reads 240 = .ok (.iload_n 1, 1) := by decide +kernel
theorem d_Mo_reads_241 : decode c_Mo_reads 241 = .ok (.iaload, 1) := by decide +kernel
theorem d_Mo_reads_242 : decode c_Mo_reads 242 = .ok (.if_icmp .ge 7, 3) := by decide +kernel
theorem d_Mo_reads_245 : decode c_Mo_reads 245 = .ok (.iconst 1, 1) := by decide +kernel
theorem d_Mo_reads_246 : decode c_Mo_reads 246 = .ok (.goto 4, 3) := by decide +kernel
theorem d_Mo_reads_249 : decode c_Mo_reads 249 = .ok (.iconst 0, 1) := by decide +kernel
theorem d_Mo_reads_250 : decode c_Mo_reads 250 = .ok (.bastore, 1) := by decide +kernel
theorem d_Mo_reads_251 : decode c_Mo_reads 251 = .ok (.aload_n 0, 1) := by decide +kernel
theorem d_Mo_reads_252 : decode c_Mo_reads 252 = .ok (.iload_n 1, 1) := by decide +kernel
theorem d_Mo_reads_253 : decode c_Mo_reads 253 = .ok (.iload_n 2, 1) := by decide +kernel
theorem d_Mo_reads_254 : decode c_Mo_reads 254 = .ok (.invokevirtual 88, 3) := by decide +kernel
theorem d_Mo_reads_257 : decode c_Mo_reads 257 = .ok (.invokestatic 95, 3) := by decide +kernel
theorem d_Mo_reads_260 : decode c_Mo_reads 260 = .ok (.ifCond .eq 9, 3) := by decide +kernel
theorem d_Mo_reads_263 : decode c_Mo_reads 263 = .ok (.iload_n 2, 1) := by decide +kernel
theorem d_Mo_reads_264 : decode c_Mo_reads 264 = .ok (.iconst 1, 1) := by decide +kernel
theorem d_Mo_reads_265 : decode c_Mo_reads 265 = .ok (.iadd, 1) := by decide +kernel
theorem d_Mo_reads_266 : decode c_Mo_reads 266 = .ok (.goto 4, 3) := by decide +kernel
theorem d_Mo_reads_269 : decode c_Mo_reads 269 = .ok (.iconst (-1), 1) := by decide +kernel
theorem d_Mo_reads_270 : decode c_Mo_reads 270 = .ok (.istore_n 2, 1) := by decide +kernel
theorem d_Mo_reads_271 : decode c_Mo_reads 271 = .ok (.goto 10, 3) := by decide +kernel
theorem d_Mo_reads_274 : decode c_Mo_reads 274 = .ok (.aload_n 0, 1) := by decide +kernel
theorem d_Mo_reads_275 : decode c_Mo_reads 275 = .ok (.iload_n 1, 1) := by decide +kernel
theorem d_Mo_reads_276 : decode c_Mo_reads 276 = .ok (.iload_n 2, 1) := by decide +kernel
theorem d_Mo_reads_277 : decode c_Mo_reads 277 = .ok (.invokevirtual 112, 3) := by decide +kernel
theorem d_Mo_reads_280 : decode c_Mo_reads 280 = .ok (.istore_n 2, 1) := by decide +kernel
theorem d_Mo_reads_281 : decode c_Mo_reads 281 = .ok (.goto (-165), 3) := by decide +kernel
theorem d_Mo_reads_284 : decode c_Mo_reads 284 = .ok (.iload_n 2, 1) := by decide +kernel
theorem d_Mo_reads_285 : decode c_Mo_reads 285 = .ok (.aload_n 0, 1) := by decide +kernel
theorem d_Mo_reads_286 : decode c_Mo_reads 286 = .ok (.getfield 16, 3) := by decide +kernel
theorem d_Mo_reads_289 : decode c_Mo_reads 289 = .ok (.iload_n 1, 1) := by decide +kernel
theorem d_Mo_reads_290 : decode c_Mo_reads 290 = .ok (.iaload, 1) := by decide +kernel
theorem d_Mo_reads_291 : decode c_Mo_reads 291 = .ok (.if_icmp .ne 7, 3) := by decide +kernel
theorem d_Mo_reads_294 : decode c_Mo_reads 294 = .ok (.iconst 1, 1) := by decide +kernel
theorem d_Mo_reads_295 : decode c_Mo_reads 295 = .ok (.goto 4, 3) := by decide +kernel
theorem d_Mo_reads_298 : decode c_Mo_reads 298 = .ok (.iconst 0, 1) := by decide +kernel
theorem d_Mo_reads_299 : decode c_Mo_reads 299 = .ok (.ireturn, 1) := by decide +kernel
theorem d_Mo_charAt_0 : decode c_Mo_charAt 0 = .ok (.iload_n 2, 1) := by decide +kernel
theorem d_Mo_charAt_1 : decode c_Mo_charAt 1 = .ok (.aload_n 0, 1) := by decide +kernel
theorem d_Mo_charAt_2 : decode c_Mo_charAt 2 = .ok (.getfield 16, 3) := by decide +kernel
theorem d_Mo_charAt_5 : decode c_Mo_charAt 5 = .ok (.iload_n 1, 1) := by decide +kernel
theorem d_Mo_charAt_6 : decode c_Mo_charAt 6 = .ok (.iaload, 1) := by decide +kernel
theorem d_Mo_charAt_7 : decode c_Mo_charAt 7 = .ok (.if_icmp .ge 17, 3) := by decide +kernel
theorem d_Mo_charAt_10 : decode c_Mo_charAt 10 = .ok (.aload_n 0, 1) := by decide +kernel
theorem d_Mo_charAt_11 : decode c_Mo_charAt 11 = .ok (.getfield 13, 3) := by decide +kernel
theorem d_Mo_charAt_14 : decode c_Mo_charAt 14 = .ok (.bipush 24, 2) := by decide +kernel
theorem d_Mo_charAt_16 : decode c_Mo_charAt 16 = .ok (.iload_n 1, 1) := by decide +kernel
theorem d_Mo_charAt_17 : decode c_Mo_charAt 17 = .ok (.imul, 1) := by decide +kernel
theorem d_Mo_charAt_18 : decode c_Mo_charAt 18 = .ok (.iload_n 2, 1) := by decide +kernel
theorem d_Mo_charAt_19 : decode c_Mo_charAt 19 = .ok (.iadd, 1) := by decide +kernel
theorem d_Mo_charAt_20 : decode c_Mo_charAt 20 = .ok (.caload, 1) := by decide +kernel
theorem d_Mo_charAt_21 : decode c_Mo_charAt 21 = .ok (.goto 5, 3) := by decide +kernel
theorem d_Mo_charAt_24 : decode c_Mo_charAt 24 = .ok (.bipush 32, 2) := by decide +kernel
theorem d_Mo_charAt_26 : decode c_Mo_charAt 26 = .ok (.ireturn, 1) := by decide +kernel
theorem d_Mo_isLocal_0 : decode c_Mo_isLocal 0 = .ok (.iload_n 0, 1) := by decide +kernel
theorem d_Mo_isLocal_1 : decode c_Mo_isLocal 1 = .ok (.bipush 107, 2) := by decide +kernel
theorem d_Mo_isLocal_3 : decode c_Mo_isLocal 3 = .ok (.if_icmp .lt 13, 3) := by decide +kernel
theorem d_Mo_isLocal_6 : decode c_Mo_isLocal 6 = .ok (.iload_n 0, 1) := by decide +kernel
theorem d_Mo_isLocal_7 : decode c_Mo_isLocal 7 = .ok (.bipush 112, 2) := by decide +kernel
theorem d_Mo_isLocal_9 : decode c_Mo_isLocal 9 = .ok (.if_icmp .gt 7, 3) := by decide +kernel
theorem d_Mo_isLocal_12 : decode c_Mo_isLocal 12 = .ok (.iconst 1, 1) := by decide +kernel
theorem d_Mo_isLocal_13 : decode c_Mo_isLocal 13 = .ok (.goto 4, 3) := by decide +kernel
theorem d_Mo_isLocal_16 : decode c_Mo_isLocal 16 = .ok (.iconst 0, 1) := by decide +kernel
theorem d_Mo_isLocal_17 : decode c_Mo_isLocal 17 = .ok (.ireturn, 1) := by decide +kernel
theorem d_Mo_come_0 : decode c_Mo_come 0 = .ok (.aload_n 0, 1) := by decide +kernel
theorem d_Mo_come_1 : decode c_Mo_come 1 = .ok (.getfield 51, 3) := by decide +kernel
theorem d_Mo_come_4 : decode c_Mo_come 4 = .ok (.aload_n 0, 1) := by decide +kernel
theorem d_Mo_come_5 : decode c_Mo_come 5 = .ok (.getfield 85, 3) := by decide +kernel
theorem d_Mo_come_8 : decode c_Mo_come 8 = .ok (.iload_n 1, 1) := by decide +kernel
theorem d_Mo_come_9 : decode c_Mo_come 9 = .ok (.iastore, 1) := by decide +kernel
theorem d_Mo_come_10 : decode c_Mo_come 10 = .ok (.aload_n 0, 1) := by decide +kernel
theorem d_Mo_come_11 : decode c_Mo_come 11 = .ok (.dup, 1) := by decide +kernel
theorem d_Mo_come_12 : decode c_Mo_come 12 = .ok (.getfield 85, 3) := by decide +kernel
theorem d_Mo_come_15 : decode c_Mo_come 15 = .ok (.iconst 1, 1) := by decide +kernel
theorem d_Mo_come_16 : decode c_Mo_come 16 = .ok (.iadd, 1) := by decide +kernel
theorem d_Mo_come_17 : decode c_Mo_come 17 = .ok (.putfield 85, 3) := by decide +kernel
theorem d_Mo_come_20 : decode c_Mo_come 20 = .ok (.return_, 1) := by decide +kernel
theorem d_Mo_isDigit_0 : decode c_Mo_isDigit 0 = .ok (.iload_n 0, 1) := by decide +kernel
theorem d_Mo_isDigit_1 : decode c_Mo_isDigit 1 = .ok (.bipush 48, 2) := by decide +kernel
theorem d_Mo_isDigit_3 : decode c_Mo_isDigit 3 = .ok (.if_icmp .lt 13, 3) := by decide +kernel
theorem d_Mo_isDigit_6 : decode c_Mo_isDigit 6 = .ok (.iload_n 0, 1) := by decide +kernel
theorem d_Mo_isDigit_7 : decode c_Mo_isDigit 7 = .ok (.bipush 57, 2) := by decide +kernel
theorem d_Mo_isDigit_9 : decode c_Mo_isDigit 9 = .ok (.if_icmp .gt 7, 3) := by decide +kernel
theorem d_Mo_isDigit_12 : decode c_Mo_isDigit 12 = .ok (.iconst 1, 1) := by decide +kernel
theorem d_Mo_isDigit_13 : decode c_Mo_isDigit 13 = .ok (.goto 4, 3) := by decide +kernel
theorem d_Mo_isDigit_16 : decode c_Mo_isDigit 16 = .ok (.iconst 0, 1) := by decide +kernel
theorem d_Mo_isDigit_17 : decode c_Mo_isDigit 17 = .ok (.ireturn, 1) := by decide +kernel
theorem d_Mo_readOne_0 : decode c_Mo_readOne 0 = .ok (.aload_n 0, 1) := by decide +kernel
theorem d_Mo_readOne_1 : decode c_Mo_readOne 1 = .ok (.iload_n 1, 1) := by decide +kernel
theorem d_Mo_readOne_2 : decode c_Mo_readOne 2 = .ok (.iload_n 2, 1) := by decide +kernel
theorem d_Mo_readOne_3 : decode c_Mo_readOne 3 = .ok (.invokevirtual 88, 3) := by decide +kernel
theorem d_Mo_readOne_6 : decode c_Mo_readOne 6 = .ok (.istore_n 3, 1) := by decide +kernel
theorem d_Mo_readOne_7 : decode c_Mo_readOne 7 = .ok (.aload_n 0, 1) := by decide +kernel
theorem d_Mo_readOne_8 : decode c_Mo_readOne 8 = .ok (.iload_n 1, 1) := by decide +kernel
theorem d_Mo_readOne_9 : decode c_Mo_readOne 9 = .ok (.iload_n 2, 1) := by decide +kernel
theorem d_Mo_readOne_10 : decode c_Mo_readOne 10 = .ok (.iconst 1, 1) := by decide +kernel
theorem d_Mo_readOne_11 : decode c_Mo_readOne 11 = .ok (.iadd, 1) := by decide +kernel
theorem d_Mo_readOne_12 : decode c_Mo_readOne 12 = .ok (.invokevirtual 88, 3) := by decide +kernel
theorem d_Mo_readOne_15 : decode c_Mo_readOne 15 = .ok (.istore 4, 2) := by decide +kernel
theorem d_Mo_readOne_17 : decode c_Mo_readOne 17 = .ok (.aload_n 0, 1) := by decide +kernel
theorem d_Mo_readOne_18 : decode c_Mo_readOne 18 = .ok (.getfield 92, 3) := by decide +kernel
theorem d_Mo_readOne_21 : decode c_Mo_readOne 21 = .ok (.iconst 5, 1) := by decide +kernel
theorem d_Mo_readOne_22 : decode c_Mo_readOne 22 = .ok (.if_icmp .le 5, 3) := by decide +kernel
theorem d_Mo_readOne_25 : decode c_Mo_readOne 25 = .ok (.iconst (-1), 1) := by decide +kernel
theorem d_Mo_readOne_26 : decode c_Mo_readOne 26 = .ok (.ireturn, 1) := by decide +kernel
theorem d_Mo_readOne_27 : decode c_Mo_readOne 27 = .ok (.iload_n 3, 1) := by decide +kernel
theorem d_Mo_readOne_28 : decode c_Mo_readOne 28 = .ok (.invokestatic 95, 3) := by decide +kernel
theorem d_Mo_readOne_31 : decode c_Mo_readOne 31 = .ok (.ifCond .eq 7, 3) := by decide +kernel
theorem d_Mo_readOne_34 : decode c_Mo_readOne 34 = .ok (.iload_n 2, 1) := by decide +kernel
theorem d_Mo_readOne_35 : decode c_Mo_readOne 35 = .ok (.iconst 1, 1) := by decide +kernel
theorem d_Mo_readOne_36 : decode c_Mo_readOne 36 = .ok (.iadd, 1) := by decide +kernel
theorem d_Mo_readOne_37 : decode c_Mo_readOne 37 = .ok (.ireturn, 1) := by decide +kernel
theorem d_Mo_readOne_38 : decode c_Mo_readOne 38 = .ok (.iload_n 3, 1) := by decide +kernel
theorem d_Mo_readOne_39 : decode c_Mo_readOne 39 = .ok (.invokestatic 99, 3) := by decide +kernel
theorem d_Mo_readOne_42 : decode c_Mo_readOne 42 = .ok (.ifCond .eq 22, 3) := by decide +kernel
theorem d_Mo_readOne_45 : decode c_Mo_readOne 45 = .ok (.aload_n 0, 1) := by decide +kernel
theorem d_Mo_readOne_46 : decode c_Mo_readOne 46 = .ok (.getfield 33, 3) := by decide +kernel
theorem d_Mo_readOne_49 : decode c_Mo_readOne 49 = .ok (.iload_n 1, 1) := by decide +kernel
theorem d_Mo_readOne_50 : decode c_Mo_readOne 50 = .ok (.dup2, 1) := by decide +kernel
theorem d_Mo_readOne_51 : decode c_Mo_readOne 51 = .ok (.iaload, 1) := by decide +kernel
theorem d_Mo_readOne_52 : decode c_Mo_readOne 52 = .ok (.iconst 1, 1) := by decide +kernel
theorem d_Mo_readOne_53 : decode c_Mo_readOne 53 = .ok (.iload_n 3, 1) := by decide +kernel
theorem d_Mo_readOne_54 : decode c_Mo_readOne 54 = .ok (.bipush 97, 2) := by decide +kernel
theorem d_Mo_readOne_56 : decode c_Mo_readOne 56 = .ok (.isub, 1) := by decide +kernel
theorem d_Mo_readOne_57 : decode c_Mo_readOne 57 = .ok (.ishl, 1) := by decide +kernel
theorem d_Mo_readOne_58 : decode c_Mo_readOne 58 = .ok (.ior, 1) := by decide +kernel
theorem d_Mo_readOne_59 : decode c_Mo_readOne 59 = .ok (.iastore, 1) := by decide +kernel
theorem d_Mo_readOne_60 : decode c_Mo_readOne 60 = .ok (.iload_n 2, 1) := by decide +kernel
theorem d_Mo_readOne_61 : decode c_Mo_readOne 61 = .ok (.iconst 1, 1) := by decide +kernel
theorem d_Mo_readOne_62 : decode c_Mo_readOne 62 = .ok (.iadd, 1) := by decide +kernel
theorem d_Mo_readOne_63 : decode c_Mo_readOne 63 = .ok (.ireturn, 1) := by decide +kernel
theorem d_Mo_readOne_64 : decode c_Mo_readOne 64 = .ok (.iload_n 3, 1) := by decide +kernel
theorem d_Mo_readOne_65 : decode c_Mo_readOne 65 = .ok (.invokestatic 102, 3) := by decide +kernel
theorem d_Mo_readOne_68 : decode c_Mo_readOne 68 = .ok (.ifCond .eq 23, 3) := by decide +kernel
theorem d_Mo_readOne_71 : decode c_Mo_readOne 71 = .ok (.aload_n 0, 1) := by decide +kernel
theorem d_Mo_readOne_72 : decode c_Mo_readOne 72 = .ok (.getfield 54, 3) := by decide +kernel
theorem d_Mo_readOne_75 : decode c_Mo_readOne 75 = .ok (.iload_n 3, 1) := by decide +kernel
theorem d_Mo_readOne_76 : decode c_Mo_readOne 76 = .ok (.bipush 107, 2) := by decide +kernel
theorem d_Mo_readOne_78 : decode c_Mo_readOne 78 = .ok (.isub, 1) := by decide +kernel
theorem d_Mo_readOne_79 : decode c_Mo_readOne 79 = .ok (.iaload, 1) := by decide +kernel
theorem d_Mo_readOne_80 : decode c_Mo_readOne 80 = .ok (.ifCond .le 9, 3) := by decide +kernel
theorem d_Mo_readOne_83 : decode c_Mo_readOne 83 = .ok (.iload_n 2, 1) := by decide +kernel
theorem d_Mo_readOne_84 : decode c_Mo_readOne 84 = .ok (.iconst 1, 1) := by decide +kernel
theorem d_Mo_readOne_85 : decode c_Mo_readOne 85 = .ok (.iadd, 1) := by decide +kernel
theorem d_Mo_readOne_86 : decode c_Mo_readOne 86 = .ok (.goto 4, 3) := by decide +kernel
theorem d_Mo_readOne_89 : decode c_Mo_readOne 89 = .ok (.iconst (-1), 1) := by decide +kernel
theorem d_Mo_readOne_90 : decode c_Mo_readOne 90 = .ok (.ireturn, 1) := by decide +kernel
theorem d_Mo_readOne_91 : decode c_Mo_readOne 91 = .ok (.aload_n 0, 1) := by decide +kernel
theorem d_Mo_readOne_92 : decode c_Mo_readOne 92 = .ok (.iconst 3, 1) := by decide +kernel
theorem d_Mo_readOne_93 : decode c_Mo_readOne 93 = .ok (.invokevirtual 105, 3) := by decide +kernel
theorem d_Mo_readOne_96 : decode c_Mo_readOne 96 = .ok (.aload_n 0, 1) := by decide +kernel
theorem d_Mo_readOne_97 : decode c_Mo_readOne 97 = .ok (.dup, 1) := by decide +kernel
theorem d_Mo_readOne_98 : decode c_Mo_readOne 98 = .ok (.getfield 92, 3) := by decide +kernel
theorem d_Mo_readOne_101 : decode c_Mo_readOne 101 = .ok (.iconst 1, 1) := by decide +kernel
theorem d_Mo_readOne_102 : decode c_Mo_readOne 102 = .ok (.iadd, 1) := by decide +kernel
theorem d_Mo_readOne_103 : decode c_Mo_readOne 103 = .ok (.putfield 92, 3) := by decide +kernel
theorem d_Mo_readOne_106 : decode c_Mo_readOne 106 = .ok (.iload_n 3, 1) := by decide +kernel
theorem d_Mo_readOne_107 : decode c_Mo_readOne 107 = .ok (.bipush 36, 2) := by decide +kernel
theorem d_Mo_readOne_109 : decode c_Mo_readOne 109 = .ok (.if_icmp .ne 65, 3) := by decide +kernel
theorem d_Mo_readOne_112 : decode c_Mo_readOne 112 = .ok (.iload 4, 2) := by decide +kernel
theorem d_Mo_readOne_114 : decode c_Mo_readOne 114 = .ok (.invokestatic 102, 3) := by decide +kernel
theorem d_Mo_readOne_117 : decode c_Mo_readOne 117 = .ok (.ifCond .ne 5, 3) := by decide +kernel
theorem d_Mo_readOne_120 : decode c_Mo_readOne 120 = .ok (.iconst (-1), 1) := by decide +kernel
theorem d_Mo_readOne_121 : decode c_Mo_readOne 121 = .ok (.ireturn, 1) := by decide +kernel
theorem d_Mo_readOne_122 : decode c_Mo_readOne 122 = .ok (.aload_n 0, 1) := by decide +kernel
theorem d_Mo_readOne_123 : decode c_Mo_readOne 123 = .ok (.getfield 26, 3) := by decide +kernel
theorem d_Mo_readOne_126 : decode c_Mo_readOne 126 = .ok (.bipush 24, 2) := by decide +kernel
theorem d_Mo_readOne_128 : decode c_Mo_readOne 128 = .ok (.iload_n 1, 1) := by decide +kernel
theorem d_Mo_readOne_129 : decode c_Mo_readOne 129 = .ok (.imul, 1) := by decide +kernel
theorem d_Mo_readOne_130 : decode c_Mo_readOne 130 = .ok (.iload_n 2, 1) := by decide +kernel
theorem d_Mo_readOne_131 : decode c_Mo_readOne 131 = .ok (.iadd, 1) := by decide +kernel
theorem d_Mo_readOne_132 : decode c_Mo_readOne 132 = .ok (.iconst 1, 1) := by decide +kernel
theorem d_Mo_readOne_133 : decode c_Mo_readOne 133 = .ok (.iadd, 1) := by decide +kernel
theorem d_Mo_readOne_134 : decode c_Mo_readOne 134 = .ok (.iconst 1, 1) := by decide +kernel
theorem d_Mo_readOne_135 : decode c_Mo_readOne 135 = .ok (.bastore, 1) := by decide +kernel
theorem d_Mo_readOne_136 : decode c_Mo_readOne 136 = .ok (.aload_n 0, 1) := by decide +kernel
theorem d_Mo_readOne_137 : decode c_Mo_readOne 137 = .ok (.bipush 20, 2) := by decide +kernel
theorem d_Mo_readOne_139 : decode c_Mo_readOne 139 = .ok (.iload 4, 2) := by decide +kernel
theorem d_Mo_readOne_141 : decode c_Mo_readOne 141 = .ok (.iadd, 1) := by decide +kernel
theorem d_Mo_readOne_142 : decode c_Mo_readOne 142 = .ok (.bipush 107, 2) := by decide +kernel
theorem d_Mo_readOne_144 : decode c_Mo_readOne 144 = .ok (.isub, 1) := by decide +kernel
theorem d_Mo_readOne_145 : decode c_Mo_readOne 145 = .ok (.invokevirtual 105, 3) := by decide +kernel
theorem d_Mo_readOne_148 : decode c_Mo_readOne 148 = .ok (.aload_n 0, 1) := by decide +kernel
theorem d_Mo_readOne_149 : decode c_Mo_readOne 149 = .ok (.iconst 1, 1) := by decide +kernel
theorem d_Mo_readOne_150 : decode c_Mo_readOne 150 = .ok (.invokevirtual 105, 3) := by decide +kernel
theorem d_Mo_readOne_153 : decode c_Mo_readOne 153 = .ok (.aload_n 0, 1) := by decide +kernel
theorem d_Mo_readOne_154 : decode c_Mo_readOne 154 = .ok (.bipush 10, 2) := by decide +kernel
theorem d_Mo_readOne_156 : decode c_Mo_readOne 156 = .ok (.iload 4, 2) := by decide +kernel
theorem d_Mo_readOne_158 : decode c_Mo_readOne 158 = .ok (.iadd, 1) := by decide +kernel
theorem d_Mo_readOne_159 : decode c_Mo_readOne 159 = .ok (.bipush 107, 2) := by decide +kernel
theorem d_Mo_readOne_161 : decode c_Mo_readOne 161 = .ok (.isub, 1) := by decide +kernel
theorem d_Mo_readOne_162 : decode c_Mo_readOne 162 = .ok (.invokevirtual 105, 3) := by decide +kernel
theorem d_Mo_readOne_165 : decode c_Mo_readOne 165 = .ok (.aload_n 0, 1) := by decide +kernel
theorem d_Mo_readOne_166 : decode c_Mo_readOne 166 = .ok (.iconst 1, 1) := by decide +kernel
theorem d_Mo_readOne_167 : decode c_Mo_readOne 167 = .ok (.invokevirtual 105, 3) := by decide +kernel
theorem d_Mo_readOne_170 : decode c_Mo_readOne 170 = .ok (.iload_n 2, 1) := by decide +kernel
theorem d_Mo_readOne_171 : decode c_Mo_readOne 171 = .ok (.iconst 2, 1) := by decide +kernel
theorem d_Mo_readOne_172 : decode c_Mo_readOne 172 = .ok (.iadd, 1) := by decide +kernel
theorem d_Mo_readOne_173 : decode c_Mo_readOne 173 = .ok (.ireturn, 1) := by decide +kernel
theorem d_Mo_readOne_174 : decode c_Mo_readOne 174 = .ok (.iload_n 3, 1) := by decide +kernel
theorem d_Mo_readOne_175 : decode c_Mo_readOne 175 = .ok (.bipush 33, 2) := by decide +kernel
theorem d_Mo_readOne_177 : decode c_Mo_readOne 177 = .ok (.if_icmp .ne 52, 3) := by decide +kernel
theorem d_Mo_readOne_180 : decode c_Mo_readOne 180 = .ok (.iload 4, 2) := by decide +kernel
theorem d_Mo_readOne_182 : decode c_Mo_readOne 182 = .ok (.invokestatic 99, 3) := by decide +kernel
theorem d_Mo_readOne_185 : decode c_Mo_readOne 185 = .ok (.ifCond .ne 5, 3) := by decide +kernel
theorem d_Mo_readOne_188 : decode c_Mo_readOne 188 = .ok (.iconst (-1), 1) := by decide +kernel
theorem d_Mo_readOne_189 : decode c_Mo_readOne 189 = .ok (.ireturn, 1) := by decide +kernel
theorem d_Mo_readOne_190 : decode c_Mo_readOne 190 = .ok (.aload_n 0, 1) := by decide +kernel
theorem d_Mo_readOne_191 : decode c_Mo_readOne 191 = .ok (.getfield 26, 3) := by decide +kernel
theorem d_Mo_readOne_194 : decode c_Mo_readOne 194 = .ok (.bipush 24, 2) := by decide +kernel
theorem d_Mo_readOne_196 : decode c_Mo_readOne 196 = .ok (.iload_n 1, 1) := by decide +kernel
theorem d_Mo_readOne_197 : decode c_Mo_readOne 197 = .ok (.imul, 1) := by decide +kernel
theorem d_Mo_readOne_198 : decode c_Mo_readOne 198 = .ok (.iload_n 2, 1) := by decide +kernel
theorem d_Mo_readOne_199 : decode c_Mo_readOne 199 = .ok (.iadd, 1) := by decide +kernel
theorem d_Mo_readOne_200 : decode c_Mo_readOne 200 = .ok (.iconst 1, 1) := by decide +kernel
theorem d_Mo_readOne_201 : decode c_Mo_readOne 201 = .ok (.iadd, 1) := by decide +kernel
theorem d_Mo_readOne_202 : decode c_Mo_readOne 202 = .ok (.iconst 1, 1) := by decide +kernel
theorem d_Mo_readOne_203 : decode c_Mo_readOne 203 = .ok (.bastore, 1) := by decide +kernel
theorem d_Mo_readOne_204 : decode c_Mo_readOne 204 = .ok (.aload_n 0, 1) := by decide +kernel
theorem d_Mo_readOne_205 : decode c_Mo_readOne 205 = .ok (.getfield 33, 3) := by decide +kernel
theorem d_Mo_readOne_208 : decode c_Mo_readOne 208 = .ok (.iload_n 1, 1) := by decide +kernel
theorem d_Mo_readOne_209 : decode c_Mo_readOne 209 = .ok (.dup2, 1) := by decide +kernel
theorem d_Mo_readOne_210 : decode c_Mo_readOne 210 = .ok (.iaload, 1) := by decide +kernel
theorem d_Mo_readOne_211 : decode c_Mo_readOne 211 = .ok (.iconst 1, 1) := by decide +kernel
theorem d_Mo_readOne_212 : decode c_Mo_readOne 212 = .ok (.iload 4, 2) := by decide +kernel
theorem d_Mo_readOne_214 : decode c_Mo_readOne 214 = .ok (.bipush 97, 2) := by decide +kernel
theorem d_Mo_readOne_216 : decode c_Mo_readOne 216 = .ok (.isub, 1) := by decide +kernel
theorem d_Mo_readOne_217 : decode c_Mo_readOne 217 = .ok (.ishl, 1) := by decide +kernel
theorem d_Mo_readOne_218 : decode c_Mo_readOne 218 = .ok (.ior, 1) := by decide +kernel
theorem d_Mo_readOne_219 : decode c_Mo_readOne 219 = .ok (.iastore, 1) := by decide +kernel
theorem d_Mo_readOne_220 : decode c_Mo_readOne 220 = .ok (.aload_n 0, 1) := by decide +kernel
theorem d_Mo_readOne_221 : decode c_Mo_readOne 221 = .ok (.iconst 1, 1) := by decide +kernel
theorem d_Mo_readOne_222 : decode c_Mo_readOne 222 = .ok (.invokevirtual 105, 3) := by decide +kernel
theorem d_Mo_readOne_225 : decode c_Mo_readOne 225 = .ok (.iload_n 2, 1) := by decide +kernel
theorem d_Mo_readOne_226 : decode c_Mo_readOne 226 = .ok (.iconst 2, 1) := by decide +kernel
theorem d_Mo_readOne_227 : decode c_Mo_readOne 227 = .ok (.iadd, 1) := by decide +kernel
theorem d_Mo_readOne_228 : decode c_Mo_readOne 228 = .ok (.ireturn, 1) := by decide +kernel
theorem d_Mo_readOne_229 : decode c_Mo_readOne 229 = .ok (.iload_n 3, 1) := by decide +kernel
theorem d_Mo_readOne_230 : decode c_Mo_readOne 230 = .ok (.invokestatic 109, 3) := by decide +kernel
theorem d_Mo_readOne_233 : decode c_Mo_readOne 233 = .ok (.ifCond .eq 7, 3) := by decide +kernel
theorem d_Mo_readOne_236 : decode c_Mo_readOne 236 = .ok (.iconst 2, 1) := by decide +kernel
theorem d_Mo_readOne_237 : decode c_Mo_readOne 237 = .ok (.goto 24, 3) := by decide +kernel
theorem d_Mo_readOne_240 : decode c_Mo_readOne 240 = .ok (.iload_n 3, 1) := by decide +kernel
theorem d_Mo_readOne_241 : decode c_Mo_readOne 241 = .ok (.bipush 126, 2) := by decide +kernel
theorem d_Mo_readOne_243 : decode c_Mo_readOne 243 = .ok (.if_icmp .ne 7, 3) := by decide +kernel
theorem d_Mo_readOne_246 : decode c_Mo_readOne 246 = .ok (.iconst 1, 1) := by decide +kernel
theorem d_Mo_readOne_247 : decode c_Mo_readOne 247 = .ok (.goto 14, 3) := by decide +kernel
theorem d_Mo_readOne_250 : decode c_Mo_readOne 250 = .ok (.iload_n 3, 1) := by decide +kernel
theorem d_Mo_readOne_251 : decode c_Mo_readOne 251 = .ok (.bipush 63, 2) := by decide +kernel
theorem d_Mo_readOne_253 : decode c_Mo_readOne 253 = .ok (.if_icmp .ne 7, 3) := by decide +kernel
theorem d_Mo_readOne_256 : decode c_Mo_readOne 256 = .ok (.iconst 3, 1) := by decide +kernel
theorem d_Mo_readOne_257 : decode c_Mo_readOne 257 = .ok (.goto 4, 3) := by decide +kernel
theorem d_Mo_readOne_260 : decode c_Mo_readOne 260 = .ok (.iconst 0, 1) := by decide +kernel
theorem d_Mo_readOne_261 : decode c_Mo_readOne 261 = .ok (.istore 5, 2) := by decide +kernel
theorem d_Mo_readOne_263 : decode c_Mo_readOne 263 = .ok (.iconst 0, 1) := by decide +kernel
theorem d_Mo_readOne_264 : decode c_Mo_readOne 264 = .ok (.istore 6, 2) := by decide +kernel
theorem d_Mo_readOne_266 : decode c_Mo_readOne 266 = .ok (.iload 6, 2) := by decide +kernel
theorem d_Mo_readOne_268 : decode c_Mo_readOne 268 = .ok (.iload 5, 2) := by decide +kernel
theorem d_Mo_readOne_270 : decode c_Mo_readOne 270 = .ok (.if_icmp .ge 14, 3) := by decide +kernel
theorem d_Mo_readOne_273 : decode c_Mo_readOne 273 = .ok (.aload_n 0, 1) := by decide +kernel
theorem d_Mo_readOne_274 : decode c_Mo_readOne 274 = .ok (.iconst 1, 1) := by decide +kernel
theorem d_Mo_readOne_275 : decode c_Mo_readOne 275 = .ok (.invokevirtual 105, 3) := by decide +kernel
theorem d_Mo_readOne_278 : decode c_Mo_readOne 278 = .ok (.iinc 6 1, 3) := by decide +kernel
theorem d_Mo_readOne_281 : decode c_Mo_readOne 281 = .ok (.goto (-15), 3) := by decide +kernel
theorem d_Mo_readOne_284 : decode c_Mo_readOne 284 = .ok (.iload_n 3, 1) := by decide +kernel
theorem d_Mo_readOne_285 : decode c_Mo_readOne 285 = .ok (.bipush 35, 2) := by decide +kernel
theorem d_Mo_readOne_287 : decode c_Mo_readOne 287 = .ok (.if_icmp .ne 28, 3) := by decide +kernel
theorem d_Mo_readOne_290 : decode c_Mo_readOne 290 = .ok (.aload_n 0, 1) := by decide +kernel
theorem d_Mo_readOne_291 : decode c_Mo_readOne 291 = .ok (.iconst 1, 1) := by decide +kernel
theorem d_Mo_readOne_292 : decode c_Mo_readOne 292 = .ok (.invokevirtual 105, 3) := by decide +kernel
theorem d_Mo_readOne_295 : decode c_Mo_readOne 295 = .ok (.aload_n 0, 1) := by decide +kernel
theorem d_Mo_readOne_296 : decode c_Mo_readOne 296 = .ok (.iconst 2, 1) := by decide +kernel
theorem d_Mo_readOne_297 : decode c_Mo_readOne 297 = .ok (.invokevirtual 105, 3) := by decide +kernel
theorem d_Mo_readOne_300 : decode c_Mo_readOne 300 = .ok (.aload_n 0, 1) := by decide +kernel
theorem d_Mo_readOne_301 : decode c_Mo_readOne 301 = .ok (.iconst 1, 1) := by decide +kernel
theorem d_Mo_readOne_302 : decode c_Mo_readOne 302 = .ok (.invokevirtual 105, 3) := by decide +kernel
theorem d_Mo_readOne_305 : decode c_Mo_readOne 305 = .ok (.aload_n 0, 1) := by decide +kernel
theorem d_Mo_readOne_306 : decode c_Mo_readOne 306 = .ok (.iconst 2, 1) := by decide +kernel
theorem d_Mo_readOne_307 : decode c_Mo_readOne 307 = .ok (.invokevirtual 105, 3) := by decide +kernel
theorem d_Mo_readOne_310 : decode c_Mo_readOne 310 = .ok (.aload_n 0, 1) := by decide +kernel
theorem d_Mo_readOne_311 : decode c_Mo_readOne 311 = .ok (.iconst 1, 1) := by decide +kernel
theorem d_Mo_readOne_312 : decode c_Mo_readOne 312 = .ok (.invokevirtual 105, 3) := by decide +kernel
theorem d_Mo_readOne_315 : decode c_Mo_readOne 315 = .ok (.iload 5, 2) := by decide +kernel
theorem d_Mo_readOne_317 : decode c_Mo_readOne 317 = .ok (.ifCond .gt 9, 3) := by decide +kernel
theorem d_Mo_readOne_320 : decode c_Mo_readOne 320 = .ok (.iload_n 3, 1) := by decide +kernel
theorem d_Mo_readOne_321 : decode c_Mo_readOne 321 = .ok (.bipush 35, 2) := by decide +kernel
theorem d_Mo_readOne_323 : decode c_Mo_readOne 323 = .ok (.if_icmp .ne 9, 3) := by decide +kernel
theorem d_Mo_readOne_326 : decode c_Mo_readOne 326 = .ok (.iload_n 2, 1) := by decide +kernel
theorem d_Mo_readOne_327 : decode c_Mo_readOne 327 = .ok (.iconst 1, 1) := by decide +kernel
theorem d_Mo_readOne_328 : decode c_Mo_readOne 328 = .ok (.iadd, 1) := by decide +kernel
theorem d_Mo_readOne_329 : decode c_Mo_readOne 329 = .ok (.goto 4, 3) := by decide +kernel
theorem d_Mo_readOne_332 : decode c_Mo_readOne 332 = .ok (.iconst (-1), 1) := by decide +kernel
theorem d_Mo_readOne_333 : decode c_Mo_readOne 333 = .ok (.ireturn, 1) := by decide +kernel
theorem d_Mo_isName_0 : decode c_Mo_isName 0 = .ok (.iload_n 0, 1) := by decide +kernel
theorem d_Mo_isName_1 : decode c_Mo_isName 1 = .ok (.bipush 97, 2) := by decide +kernel
theorem d_Mo_isName_3 : decode c_Mo_isName 3 = .ok (.if_icmp .lt 13, 3) := by decide +kernel
theorem d_Mo_isName_6 : decode c_Mo_isName 6 = .ok (.iload_n 0, 1) := by decide +kernel
theorem d_Mo_isName_7 : decode c_Mo_isName 7 = .ok (.bipush 106, 2) := by decide +kernel
theorem d_Mo_isName_9 : decode c_Mo_isName 9 = .ok (.if_icmp .gt 7, 3) := by decide +kernel
theorem d_Mo_isName_12 : decode c_Mo_isName 12 = .ok (.iconst 1, 1) := by decide +kernel
theorem d_Mo_isName_13 : decode c_Mo_isName 13 = .ok (.goto 4, 3) := by decide +kernel
theorem d_Mo_isName_16 : decode c_Mo_isName 16 = .ok (.iconst 0, 1) := by decide +kernel
theorem d_Mo_isName_17 : decode c_Mo_isName 17 = .ok (.ireturn, 1) := by decide +kernel
theorem d_Mo_isBinary_0 : decode c_Mo_isBinary 0 = .ok (.iload_n 0, 1) := by decide +kernel
theorem d_Mo_isBinary_1 : decode c_Mo_isBinary 1 = .ok (.bipush 43, 2) := by decide +kernel
theorem d_Mo_isBinary_3 : decode c_Mo_isBinary 3 = .ok (.if_icmp .eq 39, 3) := by decide +kernel
theorem d_Mo_isBinary_6 : decode c_Mo_isBinary 6 = .ok (.iload_n 0, 1) := by decide +kernel
theorem d_Mo_isBinary_7 : decode c_Mo_isBinary 7 = .ok (.bipush 45, 2) := by decide +kernel
theorem d_Mo_isBinary_9 : decode c_Mo_isBinary 9 = .ok (.if_icmp .eq 33, 3) := by decide +kernel
theorem d_Mo_isBinary_12 : decode c_Mo_isBinary 12 = .ok (.iload_n 0, 1) := by decide +kernel
theorem d_Mo_isBinary_13 : decode c_Mo_isBinary 13 = .ok (.bipush 42, 2) := by decide +kernel
theorem d_Mo_isBinary_15 : decode c_Mo_isBinary 15 = .ok (.if_icmp .eq 27, 3) := by decide +kernel
theorem d_Mo_isBinary_18 : decode c_Mo_isBinary 18 = .ok (.iload_n 0, 1) := by decide +kernel
theorem d_Mo_isBinary_19 : decode c_Mo_isBinary 19 = .ok (.bipush 47, 2) := by decide +kernel
theorem d_Mo_isBinary_21 : decode c_Mo_isBinary 21 = .ok (.if_icmp .eq 21, 3) := by decide +kernel
theorem d_Mo_isBinary_24 : decode c_Mo_isBinary 24 = .ok (.iload_n 0, 1) := by decide +kernel
theorem d_Mo_isBinary_25 : decode c_Mo_isBinary 25 = .ok (.bipush 60, 2) := by decide +kernel
theorem d_Mo_isBinary_27 : decode c_Mo_isBinary 27 = .ok (.if_icmp .eq 15, 3) := by decide +kernel
theorem d_Mo_isBinary_30 : decode c_Mo_isBinary 30 = .ok (.iload_n 0, 1) := by decide +kernel
theorem d_Mo_isBinary_31 : decode c_Mo_isBinary 31 = .ok (.bipush 61, 2) := by decide +kernel
theorem d_Mo_isBinary_33 : decode c_Mo_isBinary 33 = .ok (.if_icmp .eq 9, 3) := by decide +kernel
theorem d_Mo_isBinary_36 : decode c_Mo_isBinary 36 = .ok (.iload_n 0, 1) := by decide +kernel
theorem d_Mo_isBinary_37 : decode c_Mo_isBinary 37 = .ok (.bipush 38, 2) := by decide +kernel
theorem d_Mo_isBinary_39 : decode c_Mo_isBinary 39 = .ok (.if_icmp .ne 7, 3) := by decide +kernel
theorem d_Mo_isBinary_42 : decode c_Mo_isBinary 42 = .ok (.iconst 1, 1) := by decide +kernel
theorem d_Mo_isBinary_43 : decode c_Mo_isBinary 43 = .ok (.goto 4, 3) := by decide +kernel
theorem d_Mo_isBinary_46 : decode c_Mo_isBinary 46 = .ok (.iconst 0, 1) := by decide +kernel
theorem d_Mo_isBinary_47 : decode c_Mo_isBinary 47 = .ok (.ireturn, 1) := by decide +kernel
theorem d_Mo_findEnds_0 : decode c_Mo_findEnds 0 = .ok (.aload_n 0, 1) := by decide +kernel
theorem d_Mo_findEnds_1 : decode c_Mo_findEnds 1 = .ok (.iload_n 1, 1) := by decide +kernel
theorem d_Mo_findEnds_2 : decode c_Mo_findEnds 2 = .ok (.invokevirtual 116, 3) := by decide +kernel
theorem d_Mo_findEnds_5 : decode c_Mo_findEnds 5 = .ok (.ifCond .eq 7, 3) := by decide +kernel
theorem d_Mo_findEnds_8 : decode c_Mo_findEnds 8 = .ok (.iconst 2, 1) := by decide +kernel
theorem d_Mo_findEnds_9 : decode c_Mo_findEnds 9 = .ok (.goto 4, 3) := by decide +kernel
theorem d_Mo_findEnds_12 : decode c_Mo_findEnds 12 = .ok (.iconst 0, 1) := by decide +kernel
theorem d_Mo_findEnds_13 : decode c_Mo_findEnds 13 = .ok (.istore_n 2, 1) := by decide +kernel
theorem d_Mo_findEnds_14 : decode c_Mo_findEnds 14 = .ok (.aload_n 0, 1) := by decide +kernel
theorem d_Mo_findEnds_15 : decode c_Mo_findEnds 15 = .ok (.getfield 16, 3) := by decide +kernel
theorem d_Mo_findEnds_18 : decode c_Mo_findEnds 18 = .ok (.iload_n 1, 1) := by decide +kernel
theorem d_Mo_findEnds_19 : decode c_Mo_findEnds 19 = .ok (.iaload, 1) := by decide +kernel
theorem d_Mo_findEnds_20 : decode c_Mo_findEnds 20 = .ok (.iconst 1, 1) := by decide +kernel
theorem d_Mo_findEnds_21 : decode c_Mo_findEnds 21 = .ok (.isub, 1) := by decide +kernel
theorem d_Mo_findEnds_22 : decode c_Mo_findEnds 22 = .ok (.istore_n 3, 1) := by decide +kernel
theorem d_Mo_findEnds_23 : decode c_Mo_findEnds 23 = .ok (.iload_n 3, 1) := by decide +kernel
theorem d_Mo_findEnds_24 : decode c_Mo_findEnds 24 = .ok (.iload_n 2, 1) := by decide +kernel
theorem d_Mo_findEnds_25 : decode c_Mo_findEnds 25 = .ok (.if_icmp .lt 123, 3) := by decide +kernel
theorem d_Mo_findEnds_28 : decode c_Mo_findEnds 28 = .ok (.aload_n 0, 1) := by decide +kernel
theorem d_Mo_findEnds_29 : decode c_Mo_findEnds 29 = .ok (.getfield 26, 3) := by decide +kernel
theorem d_Mo_findEnds_32 : decode c_Mo_findEnds 32 = .ok (.bipush 24, 2) := by decide +kernel
theorem d_Mo_findEnds_34 : decode c_Mo_findEnds 34 = .ok (.iload_n 1, 1) := by decide +kernel
theorem d_Mo_findEnds_35 : decode c_Mo_findEnds 35 = .ok (.imul, 1) := by decide +kernel
theorem d_Mo_findEnds_36 : decode c_Mo_findEnds 36 = .ok (.iload_n 3, 1) := by decide +kernel
theorem d_Mo_findEnds_37 : decode c_Mo_findEnds 37 = .ok (.iadd, 1) := by decide +kernel
theorem d_Mo_findEnds_38 : decode c_Mo_findEnds 38 = .ok (.baload, 1) := by decide +kernel
theorem d_Mo_findEnds_39 : decode c_Mo_findEnds 39 = .ok (.ifCond .ne 103, 3) := by decide +kernel
theorem d_Mo_findEnds_42 : decode c_Mo_findEnds 42 = .ok (.aload_n 0, 1) := by decide +kernel
theorem d_Mo_findEnds_43 : decode c_Mo_findEnds 43 = .ok (.iload_n 1, 1) := by decide +kernel
theorem d_Mo_findEnds_44 : decode c_Mo_findEnds 44 = .ok (.iload_n 3, 1) := by decide +kernel
theorem d_Mo_findEnds_45 : decode c_Mo_findEnds 45 = .ok (.invokevirtual 88, 3) := by decide +kernel
theorem d_Mo_findEnds_48 : decode c_Mo_findEnds 48 = .ok (.istore 4, 2) := by decide +kernel
theorem d_Mo_findEnds_50 : decode c_Mo_findEnds 50 = .ok (.iload_n 3, 1) := by decide +kernel
theorem d_Mo_findEnds_51 : decode c_Mo_findEnds 51 = .ok (.iload 4, 2) := by decide +kernel
theorem d_Mo_findEnds_53 : decode c_Mo_findEnds 53 = .ok (.bipush 36, 2) := by decide +kernel
theorem d_Mo_findEnds_55 : decode c_Mo_findEnds 55 = .ok (.if_icmp .eq 10, 3) := by decide +kernel
theorem d_Mo_findEnds_58 : decode c_Mo_findEnds 58 = .ok (.iload 4, 2) := by decide +kernel
theorem d_Mo_findEnds_60 : decode c_Mo_findEnds 60 = .ok (.bipush 33, 2) := by decide +kernel
theorem d_Mo_findEnds_62 : decode c_Mo_findEnds 62 = .ok (.if_icmp .ne 7, 3) := by decide +kernel
theorem d_Mo_findEnds_65 : decode c_Mo_findEnds 65 = .ok (.iconst 2, 1) := by decide +kernel
theorem d_Mo_findEnds_66 : decode c_Mo_findEnds 66 = .ok (.goto 4, 3) := by decide +kernel
theorem d_Mo_findEnds_69 : decode c_Mo_findEnds 69 = .ok (.iconst 1, 1) := by decide +kernel
theorem d_Mo_findEnds_70 : decode c_Mo_findEnds 70 = .ok (.iadd, 1) := by decide +kernel
theorem d_Mo_findEnds_71 : decode c_Mo_findEnds 71 = .ok (.istore 5, 2) := by decide +kernel
theorem d_Mo_findEnds_73 : decode c_Mo_findEnds 73 = .ok (.iconst 0, 1) := by decide +kernel
theorem d_Mo_findEnds_74 : decode c_Mo_findEnds 74 = .ok (.istore 6, 2) := by decide +kernel
theorem d_Mo_findEnds_76 : decode c_Mo_findEnds 76 = .ok (.iload 6, 2) := by decide +kernel
theorem d_Mo_findEnds_78 : decode c_Mo_findEnds 78 = .ok (.iload 4, 2) := by decide +kernel
theorem d_Mo_findEnds_80 : decode c_Mo_findEnds 80 = .ok (.invokestatic 120, 3) := by decide +kernel
theorem d_Mo_findEnds_83 : decode c_Mo_findEnds 83 = .ok (.if_icmp .ge 46, 3) := by decide +kernel
theorem d_Mo_findEnds_86 : decode c_Mo_findEnds 86 = .ok (.iload 4, 2) := by decide +kernel
theorem d_Mo_findEnds_88 : decode c_Mo_findEnds 88 = .ok (.bipush 35, 2) := by decide +kernel
theorem d_Mo_findEnds_90 : decode c_Mo_findEnds 90 = .ok (.if_icmp .ne 15, 3) := by decide +kernel
theorem d_Mo_findEnds_93 : decode c_Mo_findEnds 93 = .ok (.iload 6, 2) := by decide +kernel
theorem d_Mo_findEnds_95 : decode c_Mo_findEnds 95 = .ok (.ifCond .le 10, 3) := by decide +kernel
theorem d_Mo_findEnds_98 : decode c_Mo_findEnds 98 = .ok (.iload 5, 2) := by decide +kernel
theorem d_Mo_findEnds_100 : decode c_Mo_findEnds 100 = .ok (.iconst 1, 1) := by decide +kernel
theorem d_Mo_findEnds_101 : decode c_Mo_findEnds 101 = .ok (.iadd, 1) := by decide +kernel
theorem d_Mo_findEnds_102 : decode c_Mo_findEnds 102 = .ok (.goto 5, 3) := by decide +kernel
theorem d_Mo_findEnds_105 : decode c_Mo_findEnds 105 = .ok (.iload 5, 2) := by decide +kernel
theorem d_Mo_findEnds_107 : decode c_Mo_findEnds 107 = .ok (.istore 5, 2) := by decide +kernel
theorem d_Mo_findEnds_109 : decode c_Mo_findEnds 109 = .ok (.aload_n 0, 1) := by decide +kernel
theorem d_Mo_findEnds_110 : decode c_Mo_findEnds 110 = .ok (.getfield 23, 3) := by decide +kernel
theorem d_Mo_findEnds_113 : decode c_Mo_findEnds 113 = .ok (.bipush 24, 2) := by decide +kernel
theorem d_Mo_findEnds_115 : decode c_Mo_findEnds 115 = .ok (.iload_n 1, 1) := by decide +kernel
theorem d_Mo_findEnds_116 : decode c_Mo_findEnds 116 = .ok (.imul, 1) := by decide +kernel
theorem d_Mo_findEnds_117 : decode c_Mo_findEnds 117 = .ok (.iload 5, 2) := by decide +kernel
theorem d_Mo_findEnds_119 : decode c_Mo_findEnds 119 = .ok (.iadd, 1) := by decide +kernel
theorem d_Mo_findEnds_120 : decode c_Mo_findEnds 120 = .ok (.iaload, 1) := by decide +kernel
theorem d_Mo_findEnds_121 : decode c_Mo_findEnds 121 = .ok (.istore 5, 2) := by decide +kernel
theorem d_Mo_findEnds_123 : decode c_Mo_findEnds 123 = .ok (.iinc 6 1, 3) := by decide +kernel
theorem d_Mo_findEnds_126 : decode c_Mo_findEnds 126 = .ok (.goto (-50), 3) := by decide +kernel
theorem d_Mo_findEnds_129 : decode c_Mo_findEnds 129 = .ok (.aload_n 0, 1) := by decide +kernel
theorem d_Mo_findEnds_130 : decode c_Mo_findEnds 130 = .ok (.getfield 23, 3) := by decide +kernel
theorem d_Mo_findEnds_133 : decode c_Mo_findEnds 133 = .ok (.bipush 24, 2) := by decide +kernel
theorem d_Mo_findEnds_135 : decode c_Mo_findEnds 135 = .ok (.iload_n 1, 1) := by decide +kernel
theorem d_Mo_findEnds_136 : decode c_Mo_findEnds 136 = .ok (.imul, 1) := by decide +kernel
theorem d_Mo_findEnds_137 : decode c_Mo_findEnds 137 = .ok (.iload_n 3, 1) := by decide +kernel
theorem d_Mo_findEnds_138 : decode c_Mo_findEnds 138 = .ok (.iadd, 1) := by decide +kernel
theorem d_Mo_findEnds_139 : decode c_Mo_findEnds 139 = .ok (.iload 5, 2) := by decide +kernel
theorem d_Mo_findEnds_141 : decode c_Mo_findEnds 141 = .ok (.iastore, 1) := by decide +kernel
theorem d_Mo_findEnds_142 : decode c_Mo_findEnds 142 = .ok (.iinc 3 (-1), 3) := by decide +kernel
theorem d_Mo_findEnds_145 : decode c_Mo_findEnds 145 = .ok (.goto (-122), 3) := by decide +kernel
theorem d_Mo_findEnds_148 : decode c_Mo_findEnds 148 = .ok (.return_, 1) := by decide +kernel
theorem d_Mo_isFunction_0 : decode c_Mo_isFunction 0 = .ok (.aload_n 0, 1) := by decide +kernel
theorem d_Mo_isFunction_1 : decode c_Mo_isFunction 1 = .ok (.getfield 30, 3) := by decide +kernel
theorem d_Mo_isFunction_4 : decode c_Mo_isFunction 4 = .ok (.iload_n 1, 1) := by decide +kernel
theorem d_Mo_isFunction_5 : decode c_Mo_isFunction 5 = .ok (.baload, 1) := by decide +kernel
theorem d_Mo_isFunction_6 : decode c_Mo_isFunction 6 = .ok (.ifCond .eq 21, 3) := by decide +kernel
theorem d_Mo_isFunction_9 : decode c_Mo_isFunction 9 = .ok (.aload_n 0, 1) := by decide +kernel
theorem d_Mo_isFunction_10 : decode c_Mo_isFunction 10 = .ok (.getfield 13, 3) := by decide +kernel
theorem d_Mo_isFunction_13 : decode c_Mo_isFunction 13 = .ok (.bipush 24, 2) := by decide +kernel
theorem d_Mo_isFunction_15 : decode c_Mo_isFunction 15 = .ok (.iload_n 1, 1) := by decide +kernel
theorem d_Mo_isFunction_16 : decode c_Mo_isFunction 16 = .ok (.imul, 1) := by decide +kernel
theorem d_Mo_isFunction_17 : decode c_Mo_isFunction 17 = .ok (.caload, 1) := by decide +kernel
theorem d_Mo_isFunction_18 : decode c_Mo_isFunction 18 = .ok (.bipush 92, 2) := by decide +kernel
theorem d_Mo_isFunction_20 : decode c_Mo_isFunction 20 = .ok (.if_icmp .ne 7, 3) := by decide +kernel
theorem d_Mo_isFunction_23 : decode c_Mo_isFunction 23 = .ok (.iconst 1, 1) := by decide +kernel
theorem d_Mo_isFunction_24 : decode c_Mo_isFunction 24 = .ok (.goto 4, 3) := by decide +kernel
theorem d_Mo_isFunction_27 : decode c_Mo_isFunction 27 = .ok (.iconst 0, 1) := by decide +kernel
theorem d_Mo_isFunction_28 : decode c_Mo_isFunction 28 = .ok (.ireturn, 1) := by decide +kernel
theorem d_Mo_operands_0 : decode c_Mo_operands 0 = .ok (.iload_n 0, 1) := by decide +kernel
theorem d_Mo_operands_1 : decode c_Mo_operands 1 = .ok (.invokestatic 109, 3) := by decide +kernel
theorem d_Mo_operands_4 : decode c_Mo_operands 4 = .ok (.ifCond .ne 9, 3) := by decide +kernel
theorem d_Mo_operands_7 : decode c_Mo_operands 7 = .ok (.iload_n 0, 1) := by decide +kernel
theorem d_Mo_operands_8 : decode c_Mo_operands 8 = .ok (.bipush 36, 2) := by decide +kernel
theorem d_Mo_operands_10 : decode c_Mo_operands 10 = .ok (.if_icmp .ne 7, 3) := by decide +kernel
theorem d_Mo_operands_13 : decode c_Mo_operands 13 = .ok (.iconst 2, 1) := by decide +kernel
theorem d_Mo_operands_14 : decode c_Mo_operands 14 = .ok (.goto 36, 3) := by decide +kernel
theorem d_Mo_operands_17 : decode c_Mo_operands 17 = .ok (.iload_n 0, 1) := by decide +kernel
theorem d_Mo_operands_18 : decode c_Mo_operands 18 = .ok (.bipush 126, 2) := by decide +kernel
theorem d_Mo_operands_20 : decode c_Mo_operands 20 = .ok (.if_icmp .eq 9, 3) := by decide +kernel
theorem d_Mo_operands_23 : decode c_Mo_operands 23 = .ok (.iload_n 0, 1) := by decide +kernel
theorem d_Mo_operands_24 : decode c_Mo_operands 24 = .ok (.bipush 33, 2) := by decide +kernel
theorem d_Mo_operands_26 : decode c_Mo_operands 26 = .ok (.if_icmp .ne 7, 3) := by decide +kernel
theorem d_Mo_operands_29 : decode c_Mo_operands 29 = .ok (.iconst 1, 1) := by decide +kernel
theorem d_Mo_operands_30 : decode c_Mo_operands 30 = .ok (.goto 20, 3) := by decide +kernel
theorem d_Mo_operands_33 : decode c_Mo_operands 33 = .ok (.iload_n 0, 1) := by decide +kernel
theorem d_Mo_operands_34 : decode c_Mo_operands 34 = .ok (.bipush 63, 2) := by decide +kernel
theorem d_Mo_operands_36 : decode c_Mo_operands 36 = .ok (.if_icmp .eq 9, 3) := by decide +kernel
theorem d_Mo_operands_39 : decode c_Mo_operands 39 = .ok (.iload_n 0, 1) := by decide +kernel
theorem d_Mo_operands_40 : decode c_Mo_operands 40 = .ok (.bipush 35, 2) := by decide +kernel
theorem d_Mo_operands_42 : decode c_Mo_operands 42 = .ok (.if_icmp .ne 7, 3) := by decide +kernel
theorem d_Mo_operands_45 : decode c_Mo_operands 45 = .ok (.iconst 3, 1) := by decide +kernel
theorem d_Mo_operands_46 : decode c_Mo_operands 46 = .ok (.goto 4, 3) := by decide +kernel
theorem d_Mo_operands_49 : decode c_Mo_operands 49 = .ok (.iconst 0, 1) := by decide +kernel
theorem d_Mo_operands_50 : decode c_Mo_operands 50 = .ok (.ireturn, 1) := by decide +kernel
theorem d_Mo_becomes_0 : decode c_Mo_becomes 0 = .ok (.iload_n 2, 1) := by decide +kernel
theorem d_Mo_becomes_1 : decode c_Mo_becomes 1 = .ok (.ifCond .lt 9, 3) := by decide +kernel
theorem d_Mo_becomes_4 : decode c_Mo_becomes 4 = .ok (.iconst 1, 1) := by decide +kernel
theorem d_Mo_becomes_5 : decode c_Mo_becomes 5 = .ok (.iload_n 2, 1) := by decide +kernel
theorem d_Mo_becomes_6 : decode c_Mo_becomes 6 = .ok (.ishl, 1) := by decide +kernel
theorem d_Mo_becomes_7 : decode c_Mo_becomes 7 = .ok (.goto 4, 3) := by decide +kernel
theorem d_Mo_becomes_10 : decode c_Mo_becomes 10 = .ok (.iconst 0, 1) := by decide +kernel
theorem d_Mo_becomes_11 : decode c_Mo_becomes 11 = .ok (.aload_n 0, 1) := by decide +kernel
theorem d_Mo_becomes_12 : decode c_Mo_becomes 12 = .ok (.iload_n 1, 1) := by decide +kernel
theorem d_Mo_becomes_13 : decode c_Mo_becomes 13 = .ok (.invokevirtual 124, 3) := by decide +kernel
theorem d_Mo_becomes_16 : decode c_Mo_becomes 16 = .ok (.ifCond .eq 14, 3) := by decide +kernel
theorem d_Mo_becomes_19 : decode c_Mo_becomes 19 = .ok (.iconst 1, 1) := by decide +kernel
theorem d_Mo_becomes_20 : decode c_Mo_becomes 20 = .ok (.aload_n 0, 1) := by decide +kernel
theorem d_Mo_becomes_21 : decode c_Mo_becomes 21 = .ok (.getfield 20, 3) := by decide +kernel
theorem d_Mo_becomes_24 : decode c_Mo_becomes 24 = .ok (.iload_n 1, 1) := by decide +kernel
theorem d_Mo_becomes_25 : decode c_Mo_becomes 25 = .ok (.iaload, 1) := by decide +kernel
theorem d_Mo_becomes_26 : decode c_Mo_becomes 26 = .ok (.ishl, 1) := by decide +kernel
theorem d_Mo_becomes_27 : decode c_Mo_becomes 27 = .ok (.goto 4, 3) := by decide +kernel
theorem d_Mo_becomes_30 : decode c_Mo_becomes 30 = .ok (.iconst 0, 1) := by decide +kernel
theorem d_Mo_becomes_31 : decode c_Mo_becomes 31 = .ok (.ior, 1) := by decide +kernel
theorem d_Mo_becomes_32 : decode c_Mo_becomes 32 = .ok (.istore_n 3, 1) := by decide +kernel
theorem d_Mo_becomes_33 : decode c_Mo_becomes 33 = .ok (.aload_n 0, 1) := by decide +kernel
theorem d_Mo_becomes_34 : decode c_Mo_becomes 34 = .ok (.iload_n 1, 1) := by decide +kernel
theorem d_Mo_becomes_35 : decode c_Mo_becomes 35 = .ok (.invokevirtual 124, 3) := by decide +kernel
theorem d_Mo_becomes_38 : decode c_Mo_becomes 38 = .ok (.ifCond .eq 9, 3) := by decide +kernel
theorem d_Mo_becomes_41 : decode c_Mo_becomes 41 = .ok (.iconst 1, 1) := by decide +kernel
theorem d_Mo_becomes_42 : decode c_Mo_becomes 42 = .ok (.iload_n 1, 1) := by decide +kernel
theorem d_Mo_becomes_43 : decode c_Mo_becomes 43 = .ok (.ishl, 1) := by decide +kernel
theorem d_Mo_becomes_44 : decode c_Mo_becomes 44 = .ok (.goto 4, 3) := by decide +kernel
theorem d_Mo_becomes_47 : decode c_Mo_becomes 47 = .ok (.iconst 0, 1) := by decide +kernel
theorem d_Mo_becomes_48 : decode c_Mo_becomes 48 = .ok (.istore 4, 2) := by decide +kernel
theorem d_Mo_becomes_50 : decode c_Mo_becomes 50 = .ok (.iconst 0, 1) := by decide +kernel
theorem d_Mo_becomes_51 : decode c_Mo_becomes 51 = .ok (.istore 5, 2) := by decide +kernel
theorem d_Mo_becomes_53 : decode c_Mo_becomes 53 = .ok (.iload 5, 2) := by decide +kernel
theorem d_Mo_becomes_55 : decode c_Mo_becomes 55 = .ok (.bipush 10, 2) := by decide +kernel
theorem d_Mo_becomes_57 : decode c_Mo_becomes 57 = .ok (.if_icmp .ge 71, 3) := by decide +kernel
theorem d_Mo_becomes_60 : decode c_Mo_becomes 60 = .ok (.aload_n 0, 1) := by decide +kernel
theorem d_Mo_becomes_61 : decode c_Mo_becomes 61 = .ok (.iload 5, 2) := by decide +kernel
theorem d_Mo_becomes_63 : decode c_Mo_becomes 63 = .ok (.invokevirtual 124, 3) := by decide +kernel
theorem d_Mo_becomes_66 : decode c_Mo_becomes 66 = .ok (.ifCond .eq 34, 3) := by decide +kernel
theorem d_Mo_becomes_69 : decode c_Mo_becomes 69 = .ok (.iload_n 3, 1) := by decide +kernel
theorem d_Mo_becomes_70 : decode c_Mo_becomes 70 = .ok (.aload_n 0, 1) := by decide +kernel
theorem d_Mo_becomes_71 : decode c_Mo_becomes 71 = .ok (.getfield 20, 3) := by decide +kernel
theorem d_Mo_becomes_74 : decode c_Mo_becomes 74 = .ok (.iload 5, 2) := by decide +kernel
theorem d_Mo_becomes_76 : decode c_Mo_becomes 76 = .ok (.iaload, 1) := by decide +kernel
theorem d_Mo_becomes_77 : decode c_Mo_becomes 77 = .ok (.ishr, 1) := by decide +kernel
theorem d_Mo_becomes_78 : decode c_Mo_becomes 78 = .ok (.iconst 1, 1) := by decide +kernel
theorem d_Mo_becomes_79 : decode c_Mo_becomes 79 = .ok (.iand, 1) := by decide +kernel
theorem d_Mo_becomes_80 : decode c_Mo_becomes 80 = .ok (.iconst 1, 1) := by decide +kernel
theorem d_Mo_becomes_81 : decode c_Mo_becomes 81 = .ok (.if_icmp .eq 15, 3) := by decide +kernel
theorem d_Mo_becomes_84 : decode c_Mo_becomes 84 = .ok (.aload_n 0, 1) := by decide +kernel
theorem d_Mo_becomes_85 : decode c_Mo_becomes 85 = .ok (.getfield 33, 3) := by decide +kernel
theorem d_Mo_becomes_88 : decode c_Mo_becomes 88 = .ok (.iload 5, 2) := by decide +kernel
theorem d_Mo_becomes_90 : decode c_Mo_becomes 90 = .ok (.iaload, 1) := by decide +kernel
theorem d_Mo_becomes_91 : decode c_Mo_becomes 91 = .ok (.iload_n 3, 1) := by decide +kernel
theorem d_Mo_becomes_92 : decode c_Mo_becomes 92 = .ok (.iand, 1) := by decide +kernel
theorem d_Mo_becomes_93 : decode c_Mo_becomes 93 = .ok (.ifCond .eq 7, 3) := by decide +kernel
theorem d_Mo_becomes_96 : decode c_Mo_becomes 96 = .ok (.iconst 1, 1) := by decide +kernel
theorem d_Mo_becomes_97 : decode c_Mo_becomes 97 = .ok (.goto 4, 3) := by decide +kernel
theorem d_Mo_becomes_100 : decode c_Mo_becomes 100 = .ok (.iconst 0, 1) := by decide +kernel
theorem d_Mo_becomes_101 : decode c_Mo_becomes 101 = .ok (.istore 6, 2) := by decide +kernel
theorem d_Mo_becomes_103 : decode c_Mo_becomes 103 = .ok (.iload 6, 2) := by decide +kernel
theorem d_Mo_becomes_105 : decode c_Mo_becomes 105 = .ok (.ifCond .eq 13, 3) := by decide +kernel
theorem d_Mo_becomes_108 : decode c_Mo_becomes 108 = .ok (.iload 4, 2) := by decide +kernel
theorem d_Mo_becomes_110 : decode c_Mo_becomes 110 = .ok (.iconst 1, 1) := by decide +kernel
theorem d_Mo_becomes_111 : decode c_Mo_becomes 111 = .ok (.iload 5, 2) := by decide +kernel
theorem d_Mo_becomes_113 : decode c_Mo_becomes 113 = .ok (.ishl, 1) := by decide +kernel
theorem d_Mo_becomes_114 : decode c_Mo_becomes 114 = .ok (.ior, 1) := by decide +kernel
theorem d_Mo_becomes_115 : decode c_Mo_becomes 115 = .ok (.goto 5, 3) := by decide +kernel
theorem d_Mo_becomes_118 : decode c_Mo_becomes 118 = .ok (.iload 4, 2) := by decide +kernel
theorem d_Mo_becomes_120 : decode c_Mo_becomes 120 = .ok (.istore 4, 2) := by decide +kernel
theorem d_Mo_becomes_122 : decode c_Mo_becomes 122 = .ok (.iinc 5 1, 3) := by decide +kernel
theorem d_Mo_becomes_125 : decode c_Mo_becomes 125 = .ok (.goto (-72), 3) := by decide +kernel
theorem d_Mo_becomes_128 : decode c_Mo_becomes 128 = .ok (.iconst 0, 1) := by decide +kernel
theorem d_Mo_becomes_129 : decode c_Mo_becomes 129 = .ok (.istore 5, 2) := by decide +kernel
theorem d_Mo_becomes_131 : decode c_Mo_becomes 131 = .ok (.iload 5, 2) := by decide +kernel
theorem d_Mo_becomes_133 : decode c_Mo_becomes 133 = .ok (.bipush 10, 2) := by decide +kernel
theorem d_Mo_becomes_135 : decode c_Mo_becomes 135 = .ok (.if_icmp .ge 86, 3) := by decide +kernel
theorem d_Mo_becomes_138 : decode c_Mo_becomes 138 = .ok (.iconst 0, 1) := by decide +kernel
theorem d_Mo_becomes_139 : decode c_Mo_becomes 139 = .ok (.istore 6, 2) := by decide +kernel
theorem d_Mo_becomes_141 : decode c_Mo_becomes 141 = .ok (.iload 6, 2) := by decide +kernel
theorem d_Mo_becomes_143 : decode c_Mo_becomes 143 = .ok (.bipush 10, 2) := by decide +kernel
theorem d_Mo_becomes_145 : decode c_Mo_becomes 145 = .ok (.if_icmp .ge 70, 3) := by decide +kernel
theorem d_Mo_becomes_148 : decode c_Mo_becomes 148 = .ok (.iconst 0, 1) := by decide +kernel
theorem d_Mo_becomes_149 : decode c_Mo_becomes 149 = .ok (.istore 7, 2) := by decide +kernel
theorem d_Mo_becomes_151 : decode c_Mo_becomes 151 = .ok (.iload 7, 2) := by decide +kernel
theorem d_Mo_becomes_153 : decode c_Mo_becomes 153 = .ok (.bipush 10, 2) := by decide +kernel
theorem d_Mo_becomes_155 : decode c_Mo_becomes 155 = .ok (.if_icmp .ge 54, 3) := by decide +kernel
theorem d_Mo_becomes_158 : decode c_Mo_becomes 158 = .ok (.iload 4, 2) := by decide +kernel
theorem d_Mo_becomes_160 : decode c_Mo_becomes 160 = .ok (.iload 6, 2) := by decide +kernel
theorem d_Mo_becomes_162 : decode c_Mo_becomes 162 = .ok (.ishr, 1) := by decide +kernel
theorem d_Mo_becomes_163 : decode c_Mo_becomes 163 = .ok (.iconst 1, 1) := by decide +kernel
theorem d_Mo_becomes_164 : decode c_Mo_becomes 164 = .ok (.iand, 1) := by decide +kernel
theorem d_Mo_becomes_165 : decode c_Mo_becomes 165 = .ok (.iconst 1, 1) := by decide +kernel
theorem d_Mo_becomes_166 : decode c_Mo_becomes 166 = .ok (.if_icmp .ne 43, 3) := by decide +kernel
theorem d_Mo_becomes_169 : decode c_Mo_becomes 169 = .ok (.aload_n 0, 1) := by decide +kernel
theorem d_Mo_becomes_170 : decode c_Mo_becomes 170 = .ok (.iload 7, 2) := by decide +kernel
theorem d_Mo_becomes_172 : decode c_Mo_becomes 172 = .ok (.invokevirtual 124, 3) := by decide +kernel
theorem d_Mo_becomes_175 : decode c_Mo_becomes 175 = .ok (.ifCond .eq 24, 3) := by decide +kernel
theorem d_Mo_becomes_178 : decode c_Mo_becomes 178 = .ok (.aload_n 0, 1) := by decide +kernel
theorem d_Mo_becomes_179 : decode c_Mo_becomes 179 = .ok (.iload 7, 2) := by decide +kernel
theorem d_Mo_becomes_181 : decode c_Mo_becomes 181 = .ok (.iload 6, 2) := by decide +kernel
theorem d_Mo_becomes_183 : decode c_Mo_becomes 183 = .ok (.invokevirtual 127, 3) := by decide +kernel
theorem d_Mo_becomes_186 : decode c_Mo_becomes 186 = .ok (.ifCond .eq 13, 3) := by decide +kernel
theorem d_Mo_becomes_189 : decode c_Mo_becomes 189 = .ok (.iload 4, 2) := by decide +kernel
theorem d_Mo_becomes_191 : decode c_Mo_becomes 191 = .ok (.iconst 1, 1) := by decide +kernel
theorem d_Mo_becomes_192 : decode c_Mo_becomes 192 = .ok (.iload 7, 2) := by decide +kernel
theorem d_Mo_becomes_194 : decode c_Mo_becomes 194 = .ok (.ishl, 1) := by decide +kernel
theorem d_Mo_becomes_195 : decode c_Mo_becomes 195 = .ok (.ior, 1) := by decide +kernel
theorem d_Mo_becomes_196 : decode c_Mo_becomes 196 = .ok (.goto 5, 3) := by decide +kernel
theorem d_Mo_becomes_199 : decode c_Mo_becomes 199 = .ok (.iload 4, 2) := by decide +kernel
theorem d_Mo_becomes_201 : decode c_Mo_becomes 201 = .ok (.istore 4, 2) := by decide +kernel
theorem d_Mo_becomes_203 : decode c_Mo_becomes 203 = .ok (.iinc 7 1, 3) := by decide +kernel
theorem d_Mo_becomes_206 : decode c_Mo_becomes 206 = .ok (.goto (-55), 3) := by decide +kernel
theorem d_Mo_becomes_209 : decode c_Mo_becomes 209 = .ok (.iinc 6 1, 3) := by decide +kernel
theorem d_Mo_becomes_212 : decode c_Mo_becomes 212 = .ok (.goto (-71), 3) := by decide +kernel
theorem d_Mo_becomes_215 : decode c_Mo_becomes 215 = .ok (.iinc 5 1, 3) := by decide +kernel
theorem d_Mo_becomes_218 : decode c_Mo_becomes 218 = .ok (.goto (-87), 3) := by decide +kernel
theorem d_Mo_becomes_221 : decode c_Mo_becomes 221 = .ok (.iconst 0, 1) := by decide +kernel
theorem d_Mo_becomes_222 : decode c_Mo_becomes 222 = .ok (.istore 5, 2) := by decide +kernel
theorem d_Mo_becomes_224 : decode c_Mo_becomes 224 = .ok (.iload 5, 2) := by decide +kernel
theorem d_Mo_becomes_226 : decode c_Mo_becomes 226 = .ok (.bipush 10, 2) := by decide +kernel
theorem d_Mo_becomes_228 : decode c_Mo_becomes 228 = .ok (.if_icmp .ge 51, 3) := by decide +kernel
theorem d_Mo_becomes_231 : decode c_Mo_becomes 231 = .ok (.aload_n 0, 1) := by decide +kernel
theorem d_Mo_becomes_232 : decode c_Mo_becomes 232 = .ok (.getfield 36, 3) := by decide +kernel
theorem d_Mo_becomes_235 : decode c_Mo_becomes 235 = .ok (.iload 5, 2) := by decide +kernel
theorem d_Mo_becomes_237 : decode c_Mo_becomes 237 = .ok (.aload_n 0, 1) := by decide +kernel
theorem d_Mo_becomes_238 : decode c_Mo_becomes 238 = .ok (.iload 5, 2) := by decide +kernel
theorem d_Mo_becomes_240 : decode c_Mo_becomes 240 = .ok (.invokevirtual 124, 3) := by decide +kernel
theorem d_Mo_becomes_243 : decode c_Mo_becomes 243 = .ok (.ifCond .eq 28, 3) := by decide +kernel
theorem d_Mo_becomes_246 : decode c_Mo_becomes 246 = .ok (.aload_n 0, 1) := by decide +kernel
theorem d_Mo_becomes_247 : decode c_Mo_becomes 247 = .ok (.getfield 36, 3) := by decide +kernel
theorem d_Mo_becomes_250 : decode c_Mo_becomes 250 = .ok (.iload 5, 2) := by decide +kernel
theorem d_Mo_becomes_252 : decode c_Mo_becomes 252 = .ok (.baload, 1) := by decide +kernel
theorem d_Mo_becomes_253 : decode c_Mo_becomes 253 = .ok (.ifCond .ne 14, 3) := by decide +kernel
theorem d_Mo_becomes_256 : decode c_Mo_becomes 256 = .ok (.iload 4, 2) := by decide +kernel
theorem d_Mo_becomes_258 : decode c_Mo_becomes 258 = .ok (.iload 5, 2) := by decide +kernel
theorem d_Mo_becomes_260 : decode c_Mo_becomes 260 = .ok (.ishr, 1) := by decide +kernel
theorem d_Mo_becomes_261 : decode c_Mo_becomes 261 = .ok (.iconst 1, 1) := by decide +kernel
theorem d_Mo_becomes_262 : decode c_Mo_becomes 262 = .ok (.iand, 1) := by decide +kernel
theorem d_Mo_becomes_263 : decode c_Mo_becomes 263 = .ok (.iconst 1, 1) := by decide +kernel
theorem d_Mo_becomes_264 : decode c_Mo_becomes 264 = .ok (.if_icmp .ne 7, 3) := by decide +kernel
theorem d_Mo_becomes_267 : decode c_Mo_becomes 267 = .ok (.iconst 1, 1) := by decide +kernel
theorem d_Mo_becomes_268 : decode c_Mo_becomes 268 = .ok (.goto 4, 3) := by decide +kernel
theorem d_Mo_becomes_271 : decode c_Mo_becomes 271 = .ok (.iconst 0, 1) := by decide +kernel
theorem d_Mo_becomes_272 : decode c_Mo_becomes 272 = .ok (.bastore, 1) := by decide +kernel
theorem d_Mo_becomes_273 : decode c_Mo_becomes 273 = .ok (.iinc 5 1, 3) := by decide +kernel
theorem d_Mo_becomes_276 : decode c_Mo_becomes 276 = .ok (.goto (-52), 3) := by decide +kernel
theorem d_Mo_becomes_279 : decode c_Mo_becomes 279 = .ok (.return_, 1) := by decide +kernel
theorem d_Mo_isThere_0 : decode c_Mo_isThere 0 = .ok (.aload_n 0, 1) := by decide +kernel
theorem d_Mo_isThere_1 : decode c_Mo_isThere 1 = .ok (.getfield 20, 3) := by decide +kernel
theorem d_Mo_isThere_4 : decode c_Mo_isThere 4 = .ok (.iload_n 1, 1) := by decide +kernel
theorem d_Mo_isThere_5 : decode c_Mo_isThere 5 = .ok (.iaload, 1) := by decide +kernel
theorem d_Mo_isThere_6 : decode c_Mo_isThere 6 = .ok (.ifCond .lt 7, 3) := by decide +kernel
theorem d_Mo_isThere_9 : decode c_Mo_isThere 9 = .ok (.iconst 1, 1) := by decide +kernel
theorem d_Mo_isThere_10 : decode c_Mo_isThere 10 = .ok (.goto 4, 3) := by decide +kernel
theorem d_Mo_isThere_13 : decode c_Mo_isThere 13 = .ok (.iconst 0, 1) := by decide +kernel
theorem d_Mo_isThere_14 : decode c_Mo_isThere 14 = .ok (.ireturn, 1) := by decide +kernel
theorem d_Mo_needs_0 : decode c_Mo_needs 0 = .ok (.aload_n 0, 1) := by decide +kernel
theorem d_Mo_needs_1 : decode c_Mo_needs 1 = .ok (.iload_n 2, 1) := by decide +kernel
theorem d_Mo_needs_2 : decode c_Mo_needs 2 = .ok (.invokevirtual 124, 3) := by decide +kernel
theorem d_Mo_needs_5 : decode c_Mo_needs 5 = .ok (.ifCond .eq 26, 3) := by decide +kernel
theorem d_Mo_needs_8 : decode c_Mo_needs 8 = .ok (.aload_n 0, 1) := by decide +kernel
theorem d_Mo_needs_9 : decode c_Mo_needs 9 = .ok (.getfield 33, 3) := by decide +kernel
theorem d_Mo_needs_12 : decode c_Mo_needs 12 = .ok (.iload_n 1, 1) := by decide +kernel
theorem d_Mo_needs_13 : decode c_Mo_needs 13 = .ok (.iaload, 1) := by decide +kernel
theorem d_Mo_needs_14 : decode c_Mo_needs 14 = .ok (.aload_n 0, 1) := by decide +kernel
theorem d_Mo_needs_15 : decode c_Mo_needs 15 = .ok (.getfield 20, 3) := by decide +kernel
theorem d_Mo_needs_18 : decode c_Mo_needs 18 = .ok (.iload_n 2, 1) := by decide +kernel
theorem d_Mo_needs_19 : decode c_Mo_needs 19 = .ok (.iaload, 1) := by decide +kernel
theorem d_Mo_needs_20 : decode c_Mo_needs 20 = .ok (.ishr, 1) := by decide +kernel
theorem d_Mo_needs_21 : decode c_Mo_needs 21 = .ok (.iconst 1, 1) := by decide +kernel
theorem d_Mo_needs_22 : decode c_Mo_needs 22 = .ok (.iand, 1) := by decide +kernel
theorem d_Mo_needs_23 : decode c_Mo_needs 23 = .ok (.iconst 1, 1) := by decide +kernel
theorem d_Mo_needs_24 : decode c_Mo_needs 24 = .ok (.if_icmp .ne 7, 3) := by decide +kernel
theorem d_Mo_needs_27 : decode c_Mo_needs 27 = .ok (.iconst 1, 1) := by decide +kernel
theorem d_Mo_needs_28 : decode c_Mo_needs 28 = .ok (.goto 4, 3) := by decide +kernel
theorem d_Mo_needs_31 : decode c_Mo_needs 31 = .ok (.iconst 0, 1) := by decide +kernel
theorem d_Mo_needs_32 : decode c_Mo_needs 32 = .ok (.ireturn, 1) := by decide +kernel
theorem d_Mo_remove_0 : decode c_Mo_remove 0 = .ok (.iload_n 1, 1) := by decide +kernel
theorem d_Mo_remove_1 : decode c_Mo_remove 1 = .ok (.invokestatic 138, 3) := by decide +kernel
theorem d_Mo_remove_4 : decode c_Mo_remove 4 = .ok (.ifCond .eq 11, 3) := by decide +kernel
theorem d_Mo_remove_7 : decode c_Mo_remove 7 = .ok (.aload_n 0, 1) := by decide +kernel
theorem d_Mo_remove_8 : decode c_Mo_remove 8 = .ok (.iload_n 1, 1) := by decide +kernel
theorem d_Mo_remove_9 : decode c_Mo_remove 9 = .ok (.invokevirtual 124, 3) := by decide +kernel
theorem d_Mo_remove_12 : decode c_Mo_remove 12 = .ok (.ifCond .ne 5, 3) := by decide +kernel
theorem d_Mo_remove_15 : decode c_Mo_remove 15 = .ok (.iconst 0, 1) := by decide +kernel
theorem d_Mo_remove_16 : decode c_Mo_remove 16 = .ok (.ireturn, 1) := by decide +kernel
theorem d_Mo_remove_17 : decode c_Mo_remove 17 = .ok (.aload_n 0, 1) := by decide +kernel
theorem d_Mo_remove_18 : decode c_Mo_remove 18 = .ok (.getfield 20, 3) := by decide +kernel
theorem d_Mo_remove_21 : decode c_Mo_remove 21 = .ok (.iload_n 1, 1) := by decide +kernel
theorem d_Mo_remove_22 : decode c_Mo_remove 22 = .ok (.iaload, 1) := by decide +kernel
theorem d_Mo_remove_23 : decode c_Mo_remove 23 = .ok (.istore_n 2, 1) := by decide +kernel
theorem d_Mo_remove_24 : decode c_Mo_remove 24 = .ok (.aload_n 0, 1) := by decide +kernel
theorem d_Mo_remove_25 : decode c_Mo_remove 25 = .ok (.getfield 20, 3) := by decide +kernel
theorem d_Mo_remove_28 : decode c_Mo_remove 28 = .ok (.iload_n 1, 1) := by decide +kernel
theorem d_Mo_remove_29 : decode c_Mo_remove 29 = .ok (.iconst (-1), 1) := by decide +kernel
theorem d_Mo_remove_30 : decode c_Mo_remove 30 = .ok (.iastore, 1) := by decide +kernel
theorem d_Mo_remove_31 : decode c_Mo_remove 31 = .ok (.aload_n 0, 1) := by decide +kernel
theorem d_Mo_remove_32 : decode c_Mo_remove 32 = .ok (.getfield 33, 3) := by decide +kernel
theorem d_Mo_remove_35 : decode c_Mo_remove 35 = .ok (.iload_n 1, 1) := by decide +kernel
theorem d_Mo_remove_36 : decode c_Mo_remove 36 = .ok (.iconst 0, 1) := by decide +kernel
theorem d_Mo_remove_37 : decode c_Mo_remove 37 = .ok (.iastore, 1) := by decide +kernel
theorem d_Mo_remove_38 : decode c_Mo_remove 38 = .ok (.aload_n 0, 1) := by decide +kernel
theorem d_Mo_remove_39 : decode c_Mo_remove 39 = .ok (.getfield 30, 3) := by decide +kernel
theorem d_Mo_remove_42 : decode c_Mo_remove 42 = .ok (.iload_n 1, 1) := by decide +kernel
theorem d_Mo_remove_43 : decode c_Mo_remove 43 = .ok (.iconst 0, 1) := by decide +kernel
theorem d_Mo_remove_44 : decode c_Mo_remove 44 = .ok (.bastore, 1) := by decide +kernel
theorem d_Mo_remove_45 : decode c_Mo_remove 45 = .ok (.aload_n 0, 1) := by decide +kernel
theorem d_Mo_remove_46 : decode c_Mo_remove 46 = .ok (.iload_n 1, 1) := by decide +kernel
theorem d_Mo_remove_47 : decode c_Mo_remove 47 = .ok (.iload_n 2, 1) := by decide +kernel
theorem d_Mo_remove_48 : decode c_Mo_remove 48 = .ok (.invokevirtual 147, 3) := by decide +kernel
theorem d_Mo_remove_51 : decode c_Mo_remove 51 = .ok (.iconst 1, 1) := by decide +kernel
theorem d_Mo_remove_52 : decode c_Mo_remove 52 = .ok (.ireturn, 1) := by decide +kernel
theorem d_Mo_work_0 : decode c_Mo_work 0 = .ok (.iload_n 1, 1) := by decide +kernel
theorem d_Mo_work_1 : decode c_Mo_work 1 = .ok (.ifCond .lt 9, 3) := by decide +kernel
theorem d_Mo_work_4 : decode c_Mo_work 4 = .ok (.iload_n 1, 1) := by decide +kernel
theorem d_Mo_work_5 : decode c_Mo_work 5 = .ok (.bipush 20, 2) := by decide +kernel
theorem d_Mo_work_7 : decode c_Mo_work 7 = .ok (.if_icmp .le 5, 3) := by decide +kernel
theorem d_Mo_work_10 : decode c_Mo_work 10 = .ok (.iconst (-1), 1) := by decide +kernel
theorem d_Mo_work_11 : decode c_Mo_work 11 = .ok (.ireturn, 1) := by decide +kernel
theorem d_Mo_work_12 : decode c_Mo_work 12 = .ok (.iconst 0, 1) := by decide +kernel
theorem d_Mo_work_13 : decode c_Mo_work 13 = .ok (.istore_n 2, 1) := by decide +kernel
theorem d_Mo_work_14 : decode c_Mo_work 14 = .ok (.iload_n 2, 1) := by decide +kernel
theorem d_Mo_work_15 : decode c_Mo_work 15 = .ok (.iload_n 1, 1) := by decide +kernel
theorem d_Mo_work_16 : decode c_Mo_work 16 = .ok (.if_icmp .ge 16, 3) := by decide +kernel
theorem d_Mo_work_19 : decode c_Mo_work 19 = .ok (.aload_n 0, 1) := by decide +kernel
theorem d_Mo_work_20 : decode c_Mo_work 20 = .ok (.invokevirtual 236, 3) := by decide +kernel
theorem d_Mo_work_23 : decode c_Mo_work 23 = .ok (.ifCond .eq 9, 3) := by decide +kernel
theorem d_Mo_work_26 : decode c_Mo_work 26 = .ok (.iinc 2 1, 3) := by decide +kernel
theorem d_Mo_work_29 : decode c_Mo_work 29 = .ok (.goto (-15), 3) := by decide +kernel
theorem d_Mo_work_32 : decode c_Mo_work 32 = .ok (.iload_n 2, 1) := by decide +kernel
theorem d_Mo_work_33 : decode c_Mo_work 33 = .ok (.ireturn, 1) := by decide +kernel
theorem d_Mo_workOnce_0 : decode c_Mo_workOnce 0 = .ok (.iconst 0, 1) := by decide +kernel
theorem d_Mo_workOnce_1 : decode c_Mo_workOnce 1 = .ok (.istore_n 1, 1) := by decide +kernel
theorem d_Mo_workOnce_2 : decode c_Mo_workOnce 2 = .ok (.iload_n 1, 1) := by decide +kernel
theorem d_Mo_workOnce_3 : decode c_Mo_workOnce 3 = .ok (.bipush 10, 2) := by decide +kernel
theorem d_Mo_workOnce_5 : decode c_Mo_workOnce 5 = .ok (.if_icmp .ge 17, 3) := by decide +kernel
theorem d_Mo_workOnce_8 : decode c_Mo_workOnce 8 = .ok (.aload_n 0, 1) := by decide +kernel
theorem d_Mo_workOnce_9 : decode c_Mo_workOnce 9 = .ok (.iload_n 1, 1) := by decide +kernel
theorem d_Mo_workOnce_10 : decode c_Mo_workOnce 10 = .ok (.invokevirtual 230, 3) := by decide +kernel
theorem d_Mo_workOnce_13 : decode c_Mo_workOnce 13 = .ok (.ifCond .ne 9, 3) := by decide +kernel
theorem d_Mo_workOnce_16 : decode c_Mo_workOnce 16 = .ok (.iinc 1 1, 3) := by decide +kernel
theorem d_Mo_workOnce_19 : decode c_Mo_workOnce 19 = .ok (.goto (-17), 3) := by decide +kernel
theorem d_Mo_workOnce_22 : decode c_Mo_workOnce 22 = .ok (.iload_n 1, 1) := by decide +kernel
theorem d_Mo_workOnce_23 : decode c_Mo_workOnce 23 = .ok (.bipush 10, 2) := by decide +kernel
theorem d_Mo_workOnce_25 : decode c_Mo_workOnce 25 = .ok (.if_icmp .ne 5, 3) := by decide +kernel
theorem d_Mo_workOnce_28 : decode c_Mo_workOnce 28 = .ok (.iconst 0, 1) := by decide +kernel
theorem d_Mo_workOnce_29 : decode c_Mo_workOnce 29 = .ok (.ireturn, 1) := by decide +kernel
theorem d_Mo_workOnce_30 : decode c_Mo_workOnce 30 = .ok (.aload_n 0, 1) := by decide +kernel
theorem d_Mo_workOnce_31 : decode c_Mo_workOnce 31 = .ok (.getfield 36, 3) := by decide +kernel
theorem d_Mo_workOnce_34 : decode c_Mo_workOnce 34 = .ok (.iload_n 1, 1) := by decide +kernel
theorem d_Mo_workOnce_35 : decode c_Mo_workOnce 35 = .ok (.iconst 0, 1) := by decide +kernel
theorem d_Mo_workOnce_36 : decode c_Mo_workOnce 36 = .ok (.bastore, 1) := by decide +kernel
theorem d_Mo_workOnce_37 : decode c_Mo_workOnce 37 = .ok (.aload_n 0, 1) := by decide +kernel
theorem d_Mo_workOnce_38 : decode c_Mo_workOnce 38 = .ok (.iload_n 1, 1) := by decide +kernel
theorem d_Mo_workOnce_39 : decode c_Mo_workOnce 39 = .ok (.invokevirtual 218, 3) := by decide +kernel
theorem d_Mo_workOnce_42 : decode c_Mo_workOnce 42 = .ok (.ifCond .ne 8, 3) := by decide +kernel
theorem d_Mo_workOnce_45 : decode c_Mo_workOnce 45 = .ok (.aload_n 0, 1) := by decide +kernel
theorem d_Mo_workOnce_46 : decode c_Mo_workOnce 46 = .ok (.iload_n 1, 1) := by decide +kernel
theorem d_Mo_workOnce_47 : decode c_Mo_workOnce 47 = .ok (.invokevirtual 233, 3) := by decide +kernel
theorem d_Mo_workOnce_50 : decode c_Mo_workOnce 50 = .ok (.iconst 1, 1) := by decide +kernel
theorem d_Mo_workOnce_51 : decode c_Mo_workOnce 51 = .ok (.ireturn, 1) := by decide +kernel
theorem d_Mo_isReady_0 : decode c_Mo_isReady 0 = .ok (.aload_n 0, 1) := by decide +kernel
theorem d_Mo_isReady_1 : decode c_Mo_isReady 1 = .ok (.iload_n 1, 1) := by decide +kernel
theorem d_Mo_isReady_2 : decode c_Mo_isReady 2 = .ok (.invokevirtual 124, 3) := by decide +kernel
theorem d_Mo_isReady_5 : decode c_Mo_isReady 5 = .ok (.ifCond .eq 12, 3) := by decide +kernel
theorem d_Mo_isReady_8 : decode c_Mo_isReady 8 = .ok (.aload_n 0, 1) := by decide +kernel
theorem d_Mo_isReady_9 : decode c_Mo_isReady 9 = .ok (.getfield 36, 3) := by decide +kernel
theorem d_Mo_isReady_12 : decode c_Mo_isReady 12 = .ok (.iload_n 1, 1) := by decide +kernel
theorem d_Mo_isReady_13 : decode c_Mo_isReady 13 = .ok (.baload, 1) := by decide +kernel
theorem d_Mo_isReady_14 : decode c_Mo_isReady 14 = .ok (.ifCond .ne 5, 3) := by decide +kernel
theorem d_Mo_isReady_17 : decode c_Mo_isReady 17 = .ok (.iconst 0, 1) := by decide +kernel
theorem d_Mo_isReady_18 : decode c_Mo_isReady 18 = .ok (.ireturn, 1) := by decide +kernel
theorem d_Mo_isReady_19 : decode c_Mo_isReady 19 = .ok (.aload_n 0, 1) := by decide +kernel
theorem d_Mo_isReady_20 : decode c_Mo_isReady 20 = .ok (.iload_n 1, 1) := by decide +kernel
theorem d_Mo_isReady_21 : decode c_Mo_isReady 21 = .ok (.invokevirtual 218, 3) := by decide +kernel
theorem d_Mo_isReady_24 : decode c_Mo_isReady 24 = .ok (.ifCond .eq 5, 3) := by decide +kernel
theorem d_Mo_isReady_27 : decode c_Mo_isReady 27 = .ok (.iconst 1, 1) := by decide +kernel
theorem d_Mo_isReady_28 : decode c_Mo_isReady 28 = .ok (.ireturn, 1) := by decide +kernel
theorem d_Mo_isReady_29 : decode c_Mo_isReady 29 = .ok (.iconst 0, 1) := by decide +kernel
theorem d_Mo_isReady_30 : decode c_Mo_isReady 30 = .ok (.istore_n 2, 1) := by decide +kernel
theorem d_Mo_isReady_31 : decode c_Mo_isReady 31 = .ok (.iconst 0, 1) := by decide +kernel
theorem d_Mo_isReady_32 : decode c_Mo_isReady 32 = .ok (.istore_n 3, 1) := by decide +kernel
theorem d_Mo_isReady_33 : decode c_Mo_isReady 33 = .ok (.iload_n 3, 1) := by decide +kernel
theorem d_Mo_isReady_34 : decode c_Mo_isReady 34 = .ok (.bipush 10, 2) := by decide +kernel
theorem d_Mo_isReady_36 : decode c_Mo_isReady 36 = .ok (.if_icmp .ge 42, 3) := by decide +kernel
theorem d_Mo_isReady_39 : decode c_Mo_isReady 39 = .ok (.iload_n 2, 1) := by decide +kernel
theorem d_Mo_isReady_40 : decode c_Mo_isReady 40 = .ok (.ifCond .ne 26, 3) := by decide +kernel
theorem d_Mo_isReady_43 : decode c_Mo_isReady 43 = .ok (.iload_n 3, 1) := by decide +kernel
theorem d_Mo_isReady_44 : decode c_Mo_isReady 44 = .ok (.iload_n 1, 1) := by decide +kernel
theorem d_Mo_isReady_45 : decode c_Mo_isReady 45 = .ok (.if_icmp .eq 25, 3) := by decide +kernel
theorem d_Mo_isReady_48 : decode c_Mo_isReady 48 = .ok (.aload_n 0, 1) := by decide +kernel
theorem d_Mo_isReady_49 : decode c_Mo_isReady 49 = .ok (.iload_n 1, 1) := by decide +kernel
theorem d_Mo_isReady_50 : decode c_Mo_isReady 50 = .ok (.iload_n 3, 1) := by decide +kernel
theorem d_Mo_isReady_51 : decode c_Mo_isReady 51 = .ok (.invokevirtual 127, 3) := by decide +kernel
theorem d_Mo_isReady_54 : decode c_Mo_isReady 54 = .ok (.ifCond .eq 16, 3) := by decide +kernel
theorem d_Mo_isReady_57 : decode c_Mo_isReady 57 = .ok (.aload_n 0, 1) := by decide +kernel
theorem d_Mo_isReady_58 : decode c_Mo_isReady 58 = .ok (.getfield 36, 3) := by decide +kernel
theorem d_Mo_isReady_61 : decode c_Mo_isReady 61 = .ok (.iload_n 3, 1) := by decide +kernel
theorem d_Mo_isReady_62 : decode c_Mo_isReady 62 = .ok (.baload, 1) := by decide +kernel
theorem d_Mo_isReady_63 : decode c_Mo_isReady 63 = .ok (.ifCond .eq 7, 3) := by decide +kernel
theorem d_Mo_isReady_66 : decode c_Mo_isReady 66 = .ok (.iconst 1, 1) := by decide +kernel
theorem d_Mo_isReady_67 : decode c_Mo_isReady 67 = .ok (.goto 4, 3) := by decide +kernel
theorem d_Mo_isReady_70 : decode c_Mo_isReady 70 = .ok (.iconst 0, 1) := by decide +kernel
theorem d_Mo_isReady_71 : decode c_Mo_isReady 71 = .ok (.istore_n 2, 1) := by decide +kernel
theorem d_Mo_isReady_72 : decode c_Mo_isReady 72 = .ok (.iinc 3 1, 3) := by decide +kernel
theorem d_Mo_isReady_75 : decode c_Mo_isReady 75 = .ok (.goto (-42), 3) := by decide +kernel
theorem d_Mo_isReady_78 : decode c_Mo_isReady 78 = .ok (.iload_n 2, 1) := by decide +kernel
theorem d_Mo_isReady_79 : decode c_Mo_isReady 79 = .ok (.ifCond .ne 7, 3) := by decide +kernel
theorem d_Mo_isReady_82 : decode c_Mo_isReady 82 = .ok (.iconst 1, 1) := by decide +kernel
theorem d_Mo_isReady_83 : decode c_Mo_isReady 83 = .ok (.goto 4, 3) := by decide +kernel
theorem d_Mo_isReady_86 : decode c_Mo_isReady 86 = .ok (.iconst 0, 1) := by decide +kernel
theorem d_Mo_isReady_87 : decode c_Mo_isReady 87 = .ok (.ireturn, 1) := by decide +kernel
theorem d_Mo_fault_0 : decode c_Mo_fault 0 = .ok (.aload_n 0, 1) := by decide +kernel
theorem d_Mo_fault_1 : decode c_Mo_fault 1 = .ok (.getfield 30, 3) := by decide +kernel
theorem d_Mo_fault_4 : decode c_Mo_fault 4 = .ok (.iload_n 1, 1) := by decide +kernel
theorem d_Mo_fault_5 : decode c_Mo_fault 5 = .ok (.baload, 1) := by decide +kernel
theorem d_Mo_fault_6 : decode c_Mo_fault 6 = .ok (.ifCond .ne 5, 3) := by decide +kernel
theorem d_Mo_fault_9 : decode c_Mo_fault 9 = .ok (.iconst 1, 1) := by decide +kernel
theorem d_Mo_fault_10 : decode c_Mo_fault 10 = .ok (.ireturn, 1) := by decide +kernel
theorem d_Mo_fault_11 : decode c_Mo_fault 11 = .ok (.iconst 0, 1) := by decide +kernel
theorem d_Mo_fault_12 : decode c_Mo_fault 12 = .ok (.istore_n 2, 1) := by decide +kernel
theorem d_Mo_fault_13 : decode c_Mo_fault 13 = .ok (.iconst 0, 1) := by decide +kernel
theorem d_Mo_fault_14 : decode c_Mo_fault 14 = .ok (.istore_n 3, 1) := by decide +kernel
theorem d_Mo_fault_15 : decode c_Mo_fault 15 = .ok (.iload_n 3, 1) := by decide +kernel
theorem d_Mo_fault_16 : decode c_Mo_fault 16 = .ok (.bipush 10, 2) := by decide +kernel
theorem d_Mo_fault_18 : decode c_Mo_fault 18 = .ok (.if_icmp .ge 63, 3) := by decide +kernel
theorem d_Mo_fault_21 : decode c_Mo_fault 21 = .ok (.iload_n 3, 1) := by decide +kernel
theorem d_Mo_fault_22 : decode c_Mo_fault 22 = .ok (.iload_n 1, 1) := by decide +kernel
theorem d_Mo_fault_23 : decode c_Mo_fault 23 = .ok (.if_icmp .eq 20, 3) := by decide +kernel
theorem d_Mo_fault_26 : decode c_Mo_fault 26 = .ok (.aload_n 0, 1) := by decide +kernel
theorem d_Mo_fault_27 : decode c_Mo_fault 27 = .ok (.getfield 20, 3) := by decide +kernel
theorem d_Mo_fault_30 : decode c_Mo_fault 30 = .ok (.iload_n 3, 1) := by decide +kernel
theorem d_Mo_fault_31 : decode c_Mo_fault 31 = .ok (.iaload, 1) := by decide +kernel
theorem d_Mo_fault_32 : decode c_Mo_fault 32 = .ok (.aload_n 0, 1) := by decide +kernel
theorem d_Mo_fault_33 : decode c_Mo_fault 33 = .ok (.getfield 20, 3) := by decide +kernel
theorem d_Mo_fault_36 : decode c_Mo_fault 36 = .ok (.iload_n 1, 1) := by decide +kernel
theorem d_Mo_fault_37 : decode c_Mo_fault 37 = .ok (.iaload, 1) := by decide +kernel
theorem d_Mo_fault_38 : decode c_Mo_fault 38 = .ok (.if_icmp .ne 5, 3) := by decide +kernel
theorem d_Mo_fault_41 : decode c_Mo_fault 41 = .ok (.iconst 2, 1) := by decide +kernel
theorem d_Mo_fault_42 : decode c_Mo_fault 42 = .ok (.ireturn, 1) := by decide +kernel
theorem d_Mo_fault_43 : decode c_Mo_fault 43 = .ok (.iload_n 2, 1) := by decide +kernel
theorem d_Mo_fault_44 : decode c_Mo_fault 44 = .ok (.ifCond .ne 25, 3) := by decide +kernel
theorem d_Mo_fault_47 : decode c_Mo_fault 47 = .ok (.aload_n 0, 1) := by decide +kernel
theorem d_Mo_fault_48 : decode c_Mo_fault 48 = .ok (.getfield 33, 3) := by decide +kernel
theorem d_Mo_fault_51 : decode c_Mo_fault 51 = .ok (.iload_n 1, 1) := by decide +kernel
theorem d_Mo_fault_52 : decode c_Mo_fault 52 = .ok (.iaload, 1) := by decide +kernel
theorem d_Mo_fault_53 : decode c_Mo_fault 53 = .ok (.iload_n 3, 1) := by decide +kernel
theorem d_Mo_fault_54 : decode c_Mo_fault 54 = .ok (.ishr, 1) := by decide +kernel
theorem d_Mo_fault_55 : decode c_Mo_fault 55 = .ok (.iconst 1, 1) := by decide +kernel
theorem d_Mo_fault_56 : decode c_Mo_fault 56 = .ok (.iand, 1) := by decide +kernel
theorem d_Mo_fault_57 : decode c_Mo_fault 57 = .ok (.iconst 1, 1) := by decide +kernel
theorem d_Mo_fault_58 : decode c_Mo_fault 58 = .ok (.if_icmp .ne 15, 3) := by decide +kernel
theorem d_Mo_fault_61 : decode c_Mo_fault 61 = .ok (.aload_n 0, 1) := by decide +kernel
theorem d_Mo_fault_62 : decode c_Mo_fault 62 = .ok (.iload_n 3, 1) := by decide +kernel
theorem d_Mo_fault_63 : decode c_Mo_fault 63 = .ok (.invokevirtual 131, 3) := by decide +kernel
theorem d_Mo_fault_66 : decode c_Mo_fault 66 = .ok (.ifCond .ge 7, 3) := by decide +kernel
theorem d_Mo_fault_69 : decode c_Mo_fault 69 = .ok (.iconst 1, 1) := by decide +kernel
theorem d_Mo_fault_70 : decode c_Mo_fault 70 = .ok (.goto 4, 3) := by decide +kernel
theorem d_Mo_fault_73 : decode c_Mo_fault 73 = .ok (.iconst 0, 1) := by decide +kernel
theorem d_Mo_fault_74 : decode c_Mo_fault 74 = .ok (.istore_n 2, 1) := by decide +kernel
theorem d_Mo_fault_75 : decode c_Mo_fault 75 = .ok (.iinc 3 1, 3) := by decide +kernel
theorem d_Mo_fault_78 : decode c_Mo_fault 78 = .ok (.goto (-63), 3) := by decide +kernel
theorem d_Mo_fault_81 : decode c_Mo_fault 81 = .ok (.iload_n 2, 1) := by decide +kernel
theorem d_Mo_fault_82 : decode c_Mo_fault 82 = .ok (.ifCond .eq 7, 3) := by decide +kernel
theorem d_Mo_fault_85 : decode c_Mo_fault 85 = .ok (.iconst 3, 1) := by decide +kernel
theorem d_Mo_fault_86 : decode c_Mo_fault 86 = .ok (.goto 16, 3) := by decide +kernel
theorem d_Mo_fault_89 : decode c_Mo_fault 89 = .ok (.aload_n 0, 1) := by decide +kernel
theorem d_Mo_fault_90 : decode c_Mo_fault 90 = .ok (.iload_n 1, 1) := by decide +kernel
theorem d_Mo_fault_91 : decode c_Mo_fault 91 = .ok (.invokevirtual 135, 3) := by decide +kernel
theorem d_Mo_fault_94 : decode c_Mo_fault 94 = .ok (.ifCond .eq 7, 3) := by decide +kernel
theorem d_Mo_fault_97 : decode c_Mo_fault 97 = .ok (.iconst 4, 1) := by decide +kernel
theorem d_Mo_fault_98 : decode c_Mo_fault 98 = .ok (.goto 4, 3) := by decide +kernel
theorem d_Mo_fault_101 : decode c_Mo_fault 101 = .ok (.iconst 0, 1) := by decide +kernel
theorem d_Mo_fault_102 : decode c_Mo_fault 102 = .ok (.ireturn, 1) := by decide +kernel
theorem d_Mo_definer_0 : decode c_Mo_definer 0 = .ok (.iconst (-1), 1) := by decide +kernel
theorem d_Mo_definer_1 : decode c_Mo_definer 1 = .ok (.istore_n 2, 1) := by decide +kernel
theorem d_Mo_definer_2 : decode c_Mo_definer 2 = .ok (.iconst 0, 1) := by decide +kernel
theorem d_Mo_definer_3 : decode c_Mo_definer 3 = .ok (.istore_n 3, 1) := by decide +kernel
theorem d_Mo_definer_4 : decode c_Mo_definer 4 = .ok (.iload_n 3, 1) := by decide +kernel
theorem d_Mo_definer_5 : decode c_Mo_definer 5 = .ok (.bipush 10, 2) := by decide +kernel
theorem d_Mo_definer_7 : decode c_Mo_definer 7 = .ok (.if_icmp .ge 25, 3) := by decide +kernel
theorem d_Mo_definer_10 : decode c_Mo_definer 10 = .ok (.aload_n 0, 1) := by decide +kernel
theorem d_Mo_definer_11 : decode c_Mo_definer 11 = .ok (.getfield 20, 3) := by decide +kernel
theorem d_Mo_definer_14 : decode c_Mo_definer 14 = .ok (.iload_n 3, 1) := by decide +kernel
theorem d_Mo_definer_15 : decode c_Mo_definer 15 = .ok (.iaload, 1) := by decide +kernel
theorem d_Mo_definer_16 : decode c_Mo_definer 16 = .ok (.iload_n 1, 1) := by decide +kernel
theorem d_Mo_definer_17 : decode c_Mo_definer 17 = .ok (.if_icmp .ne 7, 3) := by decide +kernel
theorem d_Mo_definer_20 : decode c_Mo_definer 20 = .ok (.iload_n 3, 1) := by decide +kernel
theorem d_Mo_definer_21 : decode c_Mo_definer 21 = .ok (.goto 4, 3) := by decide +kernel
theorem d_Mo_definer_24 : decode c_Mo_definer 24 = .ok (.iload_n 2, 1) := by decide +kernel
theorem d_Mo_definer_25 : decode c_Mo_definer 25 = .ok (.istore_n 2, 1) := by decide +kernel
theorem d_Mo_definer_26 : decode c_Mo_definer 26 = .ok (.iinc 3 1, 3) := by decide +kernel
theorem d_Mo_definer_29 : decode c_Mo_definer 29 = .ok (.goto (-25), 3) := by decide +kernel
theorem d_Mo_definer_32 : decode c_Mo_definer 32 = .ok (.iload_n 2, 1) := by decide +kernel
theorem d_Mo_definer_33 : decode c_Mo_definer 33 = .ok (.ireturn, 1) := by decide +kernel
theorem d_Mo_cycles_0 : decode c_Mo_cycles 0 = .ok (.iconst 0, 1) := by decide +kernel
theorem d_Mo_cycles_1 : decode c_Mo_cycles 1 = .ok (.istore_n 2, 1) := by decide +kernel
theorem d_Mo_cycles_2 : decode c_Mo_cycles 2 = .ok (.iconst 0, 1) := by decide +kernel
theorem d_Mo_cycles_3 : decode c_Mo_cycles 3 = .ok (.istore_n 3, 1) := by decide +kernel
theorem d_Mo_cycles_4 : decode c_Mo_cycles 4 = .ok (.iload_n 3, 1) := by decide +kernel
theorem d_Mo_cycles_5 : decode c_Mo_cycles 5 = .ok (.bipush 10, 2) := by decide +kernel
theorem d_Mo_cycles_7 : decode c_Mo_cycles 7 = .ok (.if_icmp .ge 41, 3) := by decide +kernel
theorem d_Mo_cycles_10 : decode c_Mo_cycles 10 = .ok (.aload_n 0, 1) := by decide +kernel
theorem d_Mo_cycles_11 : decode c_Mo_cycles 11 = .ok (.iload_n 1, 1) := by decide +kernel
theorem d_Mo_cycles_12 : decode c_Mo_cycles 12 = .ok (.iload_n 3, 1) := by decide +kernel
theorem d_Mo_cycles_13 : decode c_Mo_cycles 13 = .ok (.invokevirtual 127, 3) := by decide +kernel
theorem d_Mo_cycles_16 : decode c_Mo_cycles 16 = .ok (.ifCond .eq 24, 3) := by decide +kernel
theorem d_Mo_cycles_19 : decode c_Mo_cycles 19 = .ok (.iload_n 3, 1) := by decide +kernel
theorem d_Mo_cycles_20 : decode c_Mo_cycles 20 = .ok (.iload_n 1, 1) := by decide +kernel
theorem d_Mo_cycles_21 : decode c_Mo_cycles 21 = .ok (.if_icmp .ne 11, 3) := by decide +kernel
theorem d_Mo_cycles_24 : decode c_Mo_cycles 24 = .ok (.aload_n 0, 1) := by decide +kernel
theorem d_Mo_cycles_25 : decode c_Mo_cycles 25 = .ok (.iload_n 1, 1) := by decide +kernel
theorem d_Mo_cycles_26 : decode c_Mo_cycles 26 = .ok (.invokevirtual 116, 3) := by decide +kernel
theorem d_Mo_cycles_29 : decode c_Mo_cycles 29 = .ok (.ifCond .ne 11, 3) := by decide +kernel
theorem d_Mo_cycles_32 : decode c_Mo_cycles 32 = .ok (.iload_n 2, 1) := by decide +kernel
theorem d_Mo_cycles_33 : decode c_Mo_cycles 33 = .ok (.iconst 1, 1) := by decide +kernel
theorem d_Mo_cycles_34 : decode c_Mo_cycles 34 = .ok (.iload_n 3, 1) := by decide +kernel
theorem d_Mo_cycles_35 : decode c_Mo_cycles 35 = .ok (.ishl, 1) := by decide +kernel
theorem d_Mo_cycles_36 : decode c_Mo_cycles 36 = .ok (.ior, 1) := by decide +kernel
theorem d_Mo_cycles_37 : decode c_Mo_cycles 37 = .ok (.goto 4, 3) := by decide +kernel
theorem d_Mo_cycles_40 : decode c_Mo_cycles 40 = .ok (.iload_n 2, 1) := by decide +kernel
theorem d_Mo_cycles_41 : decode c_Mo_cycles 41 = .ok (.istore_n 2, 1) := by decide +kernel
theorem d_Mo_cycles_42 : decode c_Mo_cycles 42 = .ok (.iinc 3 1, 3) := by decide +kernel
theorem d_Mo_cycles_45 : decode c_Mo_cycles 45 = .ok (.goto (-41), 3) := by decide +kernel
theorem d_Mo_cycles_48 : decode c_Mo_cycles 48 = .ok (.iconst 0, 1) := by decide +kernel
theorem d_Mo_cycles_49 : decode c_Mo_cycles 49 = .ok (.istore_n 3, 1) := by decide +kernel
theorem d_Mo_cycles_50 : decode c_Mo_cycles 50 = .ok (.iload_n 3, 1) := by decide +kernel
theorem d_Mo_cycles_51 : decode c_Mo_cycles 51 = .ok (.bipush 10, 2) := by decide +kernel
theorem d_Mo_cycles_53 : decode c_Mo_cycles 53 = .ok (.if_icmp .ge 85, 3) := by decide +kernel
theorem d_Mo_cycles_56 : decode c_Mo_cycles 56 = .ok (.iconst 0, 1) := by decide +kernel
theorem d_Mo_cycles_57 : decode c_Mo_cycles 57 = .ok (.istore 4, 2) := by decide +kernel
theorem d_Mo_cycles_59 : decode c_Mo_cycles 59 = .ok (.iload 4, 2) := by decide +kernel
theorem d_Mo_cycles_61 : decode c_Mo_cycles 61 = .ok (.bipush 10, 2) := by decide +kernel
theorem d_Mo_cycles_63 : decode c_Mo_cycles 63 = .ok (.if_icmp .ge 69, 3) := by decide +kernel
theorem d_Mo_cycles_66 : decode c_Mo_cycles 66 = .ok (.iconst 0, 1) := by decide +kernel
theorem d_Mo_cycles_67 : decode c_Mo_cycles 67 = .ok (.istore 5, 2) := by decide +kernel
theorem d_Mo_cycles_69 : decode c_Mo_cycles 69 = .ok (.iload 5, 2) := by decide +kernel
theorem d_Mo_cycles_71 : decode c_Mo_cycles 71 = .ok (.bipush 10, 2) := by decide +kernel
theorem d_Mo_cycles_73 : decode c_Mo_cycles 73 = .ok (.if_icmp .ge 53, 3) := by decide +kernel
theorem d_Mo_cycles_76 : decode c_Mo_cycles 76 = .ok (.iload_n 2, 1) := by decide +kernel
theorem d_Mo_cycles_77 : decode c_Mo_cycles 77 = .ok (.iload 4, 2) := by decide +kernel
theorem d_Mo_cycles_79 : decode c_Mo_cycles 79 = .ok (.ishr, 1) := by decide +kernel
theorem d_Mo_cycles_80 : decode c_Mo_cycles 80 = .ok (.iconst 1, 1) := by decide +kernel
theorem d_Mo_cycles_81 : decode c_Mo_cycles 81 = .ok (.iand, 1) := by decide +kernel
theorem d_Mo_cycles_82 : decode c_Mo_cycles 82 = .ok (.iconst 1, 1) := by decide +kernel
theorem d_Mo_cycles_83 : decode c_Mo_cycles 83 = .ok (.if_icmp .ne 43, 3) := by decide +kernel
theorem d_Mo_cycles_86 : decode c_Mo_cycles 86 = .ok (.aload_n 0, 1) := by decide +kernel
theorem d_Mo_cycles_87 : decode c_Mo_cycles 87 = .ok (.iload 4, 2) := by decide +kernel
theorem d_Mo_cycles_89 : decode c_Mo_cycles 89 = .ok (.iload 5, 2) := by decide +kernel
theorem d_Mo_cycles_91 : decode c_Mo_cycles 91 = .ok (.invokevirtual 127, 3) := by decide +kernel
theorem d_Mo_cycles_94 : decode c_Mo_cycles 94 = .ok (.ifCond .eq 26, 3) := by decide +kernel
theorem d_Mo_cycles_97 : decode c_Mo_cycles 97 = .ok (.iload 5, 2) := by decide +kernel
theorem d_Mo_cycles_99 : decode c_Mo_cycles 99 = .ok (.iload 4, 2) := by decide +kernel
theorem d_Mo_cycles_101 : decode c_Mo_cycles 101 = .ok (.if_icmp .ne 12, 3) := by decide +kernel
theorem d_Mo_cycles_104 : decode c_Mo_cycles 104 = .ok (.aload_n 0, 1) := by decide +kernel
theorem d_Mo_cycles_105 : decode c_Mo_cycles 105 = .ok (.iload 4, 2) := by decide +kernel
theorem d_Mo_cycles_107 : decode c_Mo_cycles 107 = .ok (.invokevirtual 116, 3) := by decide +kernel
theorem d_Mo_cycles_110 : decode c_Mo_cycles 110 = .ok (.ifCond .ne 10, 3) := by decide +kernel
theorem d_Mo_cycles_113 : decode c_Mo_cycles 113 = .ok (.iload_n 2, 1) := by decide +kernel
theorem d_Mo_cycles_114 : decode c_Mo_cycles 114 = .ok (.iconst 1, 1) := by decide +kernel
theorem d_Mo_cycles_115 : decode c_Mo_cycles 115 = .ok (.iload 5, 2) := by decide +kernel
theorem d_Mo_cycles_117 : decode c_Mo_cycles 117 = .ok (.ishl, 1) := by decide +kernel
theorem d_Mo_cycles_118 : decode c_Mo_cycles 118 = .ok (.ior, 1) := by decide +kernel
theorem d_Mo_cycles_119 : decode c_Mo_cycles 119 = .ok (.istore_n 2, 1) := by decide +kernel
theorem d_Mo_cycles_120 : decode c_Mo_cycles 120 = .ok (.iinc 5 1, 3) := by decide +kernel
theorem d_Mo_cycles_123 : decode c_Mo_cycles 123 = .ok (.goto (-54), 3) := by decide +kernel
theorem d_Mo_cycles_126 : decode c_Mo_cycles 126 = .ok (.iinc 4 1, 3) := by decide +kernel
theorem d_Mo_cycles_129 : decode c_Mo_cycles 129 = .ok (.goto (-70), 3) := by decide +kernel
theorem d_Mo_cycles_132 : decode c_Mo_cycles 132 = .ok (.iinc 3 1, 3) := by decide +kernel
theorem d_Mo_cycles_135 : decode c_Mo_cycles 135 = .ok (.goto (-85), 3) := by decide +kernel
theorem d_Mo_cycles_138 : decode c_Mo_cycles 138 = .ok (.iload_n 2, 1) := by decide +kernel
theorem d_Mo_cycles_139 : decode c_Mo_cycles 139 = .ok (.iload_n 1, 1) := by decide +kernel
theorem d_Mo_cycles_140 : decode c_Mo_cycles 140 = .ok (.ishr, 1) := by decide +kernel
theorem d_Mo_cycles_141 : decode c_Mo_cycles 141 = .ok (.iconst 1, 1) := by decide +kernel
theorem d_Mo_cycles_142 : decode c_Mo_cycles 142 = .ok (.iand, 1) := by decide +kernel
theorem d_Mo_cycles_143 : decode c_Mo_cycles 143 = .ok (.iconst 1, 1) := by decide +kernel
theorem d_Mo_cycles_144 : decode c_Mo_cycles 144 = .ok (.if_icmp .ne 7, 3) := by decide +kernel
theorem d_Mo_cycles_147 : decode c_Mo_cycles 147 = .ok (.iconst 1, 1) := by decide +kernel
theorem d_Mo_cycles_148 : decode c_Mo_cycles 148 = .ok (.goto 4, 3) := by decide +kernel
theorem d_Mo_cycles_151 : decode c_Mo_cycles 151 = .ok (.iconst 0, 1) := by decide +kernel
theorem d_Mo_cycles_152 : decode c_Mo_cycles 152 = .ok (.ireturn, 1) := by decide +kernel
theorem d_Mo_workOut_0 : decode c_Mo_workOut 0 = .ok (.iconst 0, 1) := by decide +kernel
theorem d_Mo_workOut_1 : decode c_Mo_workOut 1 = .ok (.istore_n 2, 1) := by decide +kernel
theorem d_Mo_workOut_2 : decode c_Mo_workOut 2 = .ok (.iconst 0, 1) := by decide +kernel
theorem d_Mo_workOut_3 : decode c_Mo_workOut 3 = .ok (.istore_n 3, 1) := by decide +kernel
theorem d_Mo_workOut_4 : decode c_Mo_workOut 4 = .ok (.iload_n 3, 1) := by decide +kernel
theorem d_Mo_workOut_5 : decode c_Mo_workOut 5 = .ok (.bipush 10, 2) := by decide +kernel
theorem d_Mo_workOut_7 : decode c_Mo_workOut 7 = .ok (.if_icmp .ge 41, 3) := by decide +kernel
theorem d_Mo_workOut_10 : decode c_Mo_workOut 10 = .ok (.iload_n 2, 1) := by decide +kernel
theorem d_Mo_workOut_11 : decode c_Mo_workOut 11 = .ok (.ifCond .ne 25, 3) := by decide +kernel
theorem d_Mo_workOut_14 : decode c_Mo_workOut 14 = .ok (.iload_n 3, 1) := by decide +kernel
theorem d_Mo_workOut_15 : decode c_Mo_workOut 15 = .ok (.iload_n 1, 1) := by decide +kernel
theorem d_Mo_workOut_16 : decode c_Mo_workOut 16 = .ok (.if_icmp .eq 24, 3) := by decide +kernel
theorem d_Mo_workOut_19 : decode c_Mo_workOut 19 = .ok (.aload_n 0, 1) := by decide +kernel
theorem d_Mo_workOut_20 : decode c_Mo_workOut 20 = .ok (.iload_n 1, 1) := by decide +kernel
theorem d_Mo_workOut_21 : decode c_Mo_workOut 21 = .ok (.iload_n 3, 1) := by decide +kernel
theorem d_Mo_workOut_22 : decode c_Mo_workOut 22 = .ok (.invokevirtual 127, 3) := by decide +kernel
theorem d_Mo_workOut_25 : decode c_Mo_workOut 25 = .ok (.ifCond .eq 15, 3) := by decide +kernel
theorem d_Mo_workOut_28 : decode c_Mo_workOut 28 = .ok (.aload_n 0, 1) := by decide +kernel
theorem d_Mo_workOut_29 : decode c_Mo_workOut 29 = .ok (.iload_n 3, 1) := by decide +kernel
theorem d_Mo_workOut_30 : decode c_Mo_workOut 30 = .ok (.invokevirtual 221, 3) := by decide +kernel
theorem d_Mo_workOut_33 : decode c_Mo_workOut 33 = .ok (.ifCond .eq 7, 3) := by decide +kernel
theorem d_Mo_workOut_36 : decode c_Mo_workOut 36 = .ok (.iconst 1, 1) := by decide +kernel
theorem d_Mo_workOut_37 : decode c_Mo_workOut 37 = .ok (.goto 4, 3) := by decide +kernel
theorem d_Mo_workOut_40 : decode c_Mo_workOut 40 = .ok (.iconst 0, 1) := by decide +kernel
theorem d_Mo_workOut_41 : decode c_Mo_workOut 41 = .ok (.istore_n 2, 1) := by decide +kernel
theorem d_Mo_workOut_42 : decode c_Mo_workOut 42 = .ok (.iinc 3 1, 3) := by decide +kernel
theorem d_Mo_workOut_45 : decode c_Mo_workOut 45 = .ok (.goto (-41), 3) := by decide +kernel
theorem d_Mo_workOut_48 : decode c_Mo_workOut 48 = .ok (.iload_n 2, 1) := by decide +kernel
theorem d_Mo_workOut_49 : decode c_Mo_workOut 49 = .ok (.ifCond .eq 11, 3) := by decide +kernel
theorem d_Mo_workOut_52 : decode c_Mo_workOut 52 = .ok (.aload_n 0, 1) := by decide +kernel
theorem d_Mo_workOut_53 : decode c_Mo_workOut 53 = .ok (.getfield 39, 3) := by decide +kernel
theorem d_Mo_workOut_56 : decode c_Mo_workOut 56 = .ok (.iload_n 1, 1) := by decide +kernel
theorem d_Mo_workOut_57 : decode c_Mo_workOut 57 = .ok (.iconst 5, 1) := by decide +kernel
theorem d_Mo_workOut_58 : decode c_Mo_workOut 58 = .ok (.iastore, 1) := by decide +kernel
theorem d_Mo_workOut_59 : decode c_Mo_workOut 59 = .ok (.return_, 1) := by decide +kernel
theorem d_Mo_workOut_60 : decode c_Mo_workOut 60 = .ok (.aload_n 0, 1) := by decide +kernel
theorem d_Mo_workOut_61 : decode c_Mo_workOut 61 = .ok (.iload_n 1, 1) := by decide +kernel
theorem d_Mo_workOut_62 : decode c_Mo_workOut 62 = .ok (.invokevirtual 224, 3) := by decide +kernel
theorem d_Mo_workOut_65 : decode c_Mo_workOut 65 = .ok (.istore_n 3, 1) := by decide +kernel
theorem d_Mo_workOut_66 : decode c_Mo_workOut 66 = .ok (.aload_n 0, 1) := by decide +kernel
theorem d_Mo_workOut_67 : decode c_Mo_workOut 67 = .ok (.iload_n 1, 1) := by decide +kernel
theorem d_Mo_workOut_68 : decode c_Mo_workOut 68 = .ok (.invokevirtual 116, 3) := by decide +kernel
theorem d_Mo_workOut_71 : decode c_Mo_workOut 71 = .ok (.istore 4, 2) := by decide +kernel
theorem d_Mo_workOut_73 : decode c_Mo_workOut 73 = .ok (.iload_n 3, 1) := by decide +kernel
theorem d_Mo_workOut_74 : decode c_Mo_workOut 74 = .ok (.ifCond .eq 13, 3) := by decide +kernel
theorem d_Mo_workOut_77 : decode c_Mo_workOut 77 = .ok (.iload 4, 2) := by decide +kernel
theorem d_Mo_workOut_79 : decode c_Mo_workOut 79 = .ok (.ifCond .eq 19, 3) := by decide +kernel
theorem d_Mo_workOut_82 : decode c_Mo_workOut 82 = .ok (.iload_n 3, 1) := by decide +kernel
theorem d_Mo_workOut_83 : decode c_Mo_workOut 83 = .ok (.iconst 1, 1) := by decide +kernel
theorem d_Mo_workOut_84 : decode c_Mo_workOut 84 = .ok (.if_icmp .eq 14, 3) := by decide +kernel
theorem d_Mo_workOut_87 : decode c_Mo_workOut 87 = .ok (.aload_n 0, 1) := by decide +kernel
theorem d_Mo_workOut_88 : decode c_Mo_workOut 88 = .ok (.getfield 39, 3) := by decide +kernel
theorem d_Mo_workOut_91 : decode c_Mo_workOut 91 = .ok (.iload_n 1, 1) := by decide +kernel
theorem d_Mo_workOut_92 : decode c_Mo_workOut 92 = .ok (.bipush 6, 2) := by decide +kernel
theorem d_Mo_workOut_94 : decode c_Mo_workOut 94 = .ok (.iastore, 1) := by decide +kernel
theorem d_Mo_workOut_95 : decode c_Mo_workOut 95 = .ok (.goto 25, 3) := by decide +kernel
theorem d_Mo_workOut_98 : decode c_Mo_workOut 98 = .ok (.iload 4, 2) := by decide +kernel
theorem d_Mo_workOut_100 : decode c_Mo_workOut 100 = .ok (.ifCond .eq 14, 3) := by decide +kernel
theorem d_Mo_workOut_103 : decode c_Mo_workOut 103 = .ok (.aload_n 0, 1) := by decide +kernel
theorem d_Mo_workOut_104 : decode c_Mo_workOut 104 = .ok (.getfield 39, 3) := by decide +kernel
theorem d_Mo_workOut_107 : decode c_Mo_workOut 107 = .ok (.iload_n 1, 1) := by decide +kernel
theorem d_Mo_workOut_108 : decode c_Mo_workOut 108 = .ok (.bipush 13, 2) := by decide +kernel
theorem d_Mo_workOut_110 : decode c_Mo_workOut 110 = .ok (.iastore, 1) := by decide +kernel
theorem d_Mo_workOut_111 : decode c_Mo_workOut 111 = .ok (.goto 9, 3) := by decide +kernel
theorem d_Mo_workOut_114 : decode c_Mo_workOut 114 = .ok (.aload_n 0, 1) := by decide +kernel
theorem d_Mo_workOut_115 : decode c_Mo_workOut 115 = .ok (.iload_n 1, 1) := by decide +kernel
theorem d_Mo_workOut_116 : decode c_Mo_workOut 116 = .ok (.iload_n 3, 1) := by decide +kernel
theorem d_Mo_workOut_117 : decode c_Mo_workOut 117 = .ok (.invokevirtual 227, 3) := by decide +kernel
theorem d_Mo_workOut_120 : decode c_Mo_workOut 120 = .ok (.return_, 1) := by decide +kernel
theorem d_Mo_blocks_0 : decode c_Mo_blocks 0 = .ok (.aload_n 0, 1) := by decide +kernel
theorem d_Mo_blocks_1 : decode c_Mo_blocks 1 = .ok (.iload_n 1, 1) := by decide +kernel
theorem d_Mo_blocks_2 : decode c_Mo_blocks 2 = .ok (.invokevirtual 218, 3) := by decide +kernel
theorem d_Mo_blocks_5 : decode c_Mo_blocks 5 = .ok (.ifCond .ne 25, 3) := by decide +kernel
theorem d_Mo_blocks_8 : decode c_Mo_blocks 8 = .ok (.aload_n 0, 1) := by decide +kernel
theorem d_Mo_blocks_9 : decode c_Mo_blocks 9 = .ok (.getfield 39, 3) := by decide +kernel
theorem d_Mo_blocks_12 : decode c_Mo_blocks 12 = .ok (.iload_n 1, 1) := by decide +kernel
theorem d_Mo_blocks_13 : decode c_Mo_blocks 13 = .ok (.iaload, 1) := by decide +kernel
theorem d_Mo_blocks_14 : decode c_Mo_blocks 14 = .ok (.bipush 14, 2) := by decide +kernel
theorem d_Mo_blocks_16 : decode c_Mo_blocks 16 = .ok (.if_icmp .eq 18, 3) := by decide +kernel
theorem d_Mo_blocks_19 : decode c_Mo_blocks 19 = .ok (.aload_n 0, 1) := by decide +kernel
theorem d_Mo_blocks_20 : decode c_Mo_blocks 20 = .ok (.getfield 39, 3) := by decide +kernel
theorem d_Mo_blocks_23 : decode c_Mo_blocks 23 = .ok (.iload_n 1, 1) := by decide +kernel
theorem d_Mo_blocks_24 : decode c_Mo_blocks 24 = .ok (.iaload, 1) := by decide +kernel
theorem d_Mo_blocks_25 : decode c_Mo_blocks 25 = .ok (.bipush 13, 2) := by decide +kernel
theorem d_Mo_blocks_27 : decode c_Mo_blocks 27 = .ok (.if_icmp .eq 7, 3) := by decide +kernel
theorem d_Mo_blocks_30 : decode c_Mo_blocks 30 = .ok (.iconst 1, 1) := by decide +kernel
theorem d_Mo_blocks_31 : decode c_Mo_blocks 31 = .ok (.goto 4, 3) := by decide +kernel
theorem d_Mo_blocks_34 : decode c_Mo_blocks 34 = .ok (.iconst 0, 1) := by decide +kernel
theorem d_Mo_blocks_35 : decode c_Mo_blocks 35 = .ok (.ireturn, 1) := by decide +kernel
theorem d_Mo_typeOf_0 : decode c_Mo_typeOf 0 = .ok (.iconst 1, 1) := by decide +kernel
theorem d_Mo_typeOf_1 : decode c_Mo_typeOf 1 = .ok (.istore_n 2, 1) := by decide +kernel
theorem d_Mo_typeOf_2 : decode c_Mo_typeOf 2 = .ok (.aload_n 0, 1) := by decide +kernel
theorem d_Mo_typeOf_3 : decode c_Mo_typeOf 3 = .ok (.iconst 0, 1) := by decide +kernel
theorem d_Mo_typeOf_4 : decode c_Mo_typeOf 4 = .ok (.putfield 151, 3) := by decide +kernel
theorem d_Mo_typeOf_7 : decode c_Mo_typeOf 7 = .ok (.aload_n 0, 1) := by decide +kernel
theorem d_Mo_typeOf_8 : decode c_Mo_typeOf 8 = .ok (.iload_n 1, 1) := by decide +kernel
theorem d_Mo_typeOf_9 : decode c_Mo_typeOf 9 = .ok (.invokevirtual 116, 3) := by decide +kernel
theorem d_Mo_typeOf_12 : decode c_Mo_typeOf 12 = .ok (.ifCond .eq 7, 3) := by decide +kernel
theorem d_Mo_typeOf_15 : decode c_Mo_typeOf 15 = .ok (.iconst 2, 1) := by decide +kernel
theorem d_Mo_typeOf_16 : decode c_Mo_typeOf 16 = .ok (.goto 4, 3) := by decide +kernel
theorem d_Mo_typeOf_19 : decode c_Mo_typeOf 19 = .ok (.iconst 0, 1) := by decide +kernel
theorem d_Mo_typeOf_20 : decode c_Mo_typeOf 20 = .ok (.istore_n 3, 1) := by decide +kernel
theorem d_Mo_typeOf_21 : decode c_Mo_typeOf 21 = .ok (.aload_n 0, 1) := by decide +kernel
theorem d_Mo_typeOf_22 : decode c_Mo_typeOf 22 = .ok (.getfield 16, 3) := by decide +kernel
theorem d_Mo_typeOf_25 : decode c_Mo_typeOf 25 = .ok (.iload_n 1, 1) := by decide +kernel
theorem d_Mo_typeOf_26 : decode c_Mo_typeOf 26 = .ok (.iaload, 1) := by decide +kernel
theorem d_Mo_typeOf_27 : decode c_Mo_typeOf 27 = .ok (.iconst 1, 1) := by decide +kernel
theorem d_Mo_typeOf_28 : decode c_Mo_typeOf 28 = .ok (.isub, 1) := by decide +kernel
theorem d_Mo_typeOf_29 : decode c_Mo_typeOf 29 = .ok (.istore 4, 2) := by decide +kernel
theorem d_Mo_typeOf_31 : decode c_Mo_typeOf 31 = .ok (.iload 4, 2) := by decide +kernel
theorem d_Mo_typeOf_33 : decode c_Mo_typeOf 33 = .ok (.iload_n 3, 1) := by decide +kernel
theorem d_Mo_typeOf_34 : decode c_Mo_typeOf 34 = .ok (.if_icmp .lt 120, 3) := by decide +kernel
theorem d_Mo_typeOf_37 : decode c_Mo_typeOf 37 = .ok (.aload_n 0, 1) := by decide +kernel
theorem d_Mo_typeOf_38 : decode c_Mo_typeOf 38 = .ok (.getfield 26, 3) := by decide +kernel
theorem d_Mo_typeOf_41 : decode c_Mo_typeOf 41 = .ok (.bipush 24, 2) := by decide +kernel
theorem d_Mo_typeOf_43 : decode c_Mo_typeOf 43 = .ok (.iload_n 1, 1) := by decide +kernel
theorem d_Mo_typeOf_44 : decode c_Mo_typeOf 44 = .ok (.imul, 1) := by decide +kernel
theorem d_Mo_typeOf_45 : decode c_Mo_typeOf 45 = .ok (.iload 4, 2) := by decide +kernel
theorem d_Mo_typeOf_47 : decode c_Mo_typeOf 47 = .ok (.iadd, 1) := by decide +kernel
