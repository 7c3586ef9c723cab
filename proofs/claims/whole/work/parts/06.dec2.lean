theorem d_Ce_shown_33 : decode c_Ce_shown 33 = .ok (.aload_n 0, 1) := by decide +kernel
theorem d_Ce_shown_34 : decode c_Ce_shown 34 = .ok (.getfield 29, 3) := by decide +kernel
theorem d_Ce_shown_37 : decode c_Ce_shown 37 = .ok (.ireturn, 1) := by decide +kernel
theorem d_Ty_ofText_0 : decode c_Ty_ofText 0 = .ok (.aload_n 0, 1) := by decide +kernel
theorem d_Ty_ofText_1 : decode c_Ty_ofText 1 = .ok (.aload_n 1, 1) := by decide +kernel
theorem d_Ty_ofText_2 : decode c_Ty_ofText 2 = .ok (.aload_n 1, 1) := by decide +kernel
theorem d_Ty_ofText_3 : decode c_Ty_ofText 3 = .ok (.getfield 9, 3) := by decide +kernel
theorem d_Ty_ofText_6 : decode c_Ty_ofText 6 = .ok (.iconst 0, 1) := by decide +kernel
theorem d_Ty_ofText_7 : decode c_Ty_ofText 7 = .ok (.invokestatic 15, 3) := by decide +kernel
theorem d_Ty_ofText_10 : decode c_Ty_ofText 10 = .ok (.istore_n 2, 1) := by decide +kernel
theorem d_Ty_ofText_11 : decode c_Ty_ofText 11 = .ok (.aload_n 1, 1) := by decide +kernel
theorem d_Ty_ofText_12 : decode c_Ty_ofText 12 = .ok (.invokevirtual 21, 3) := by decide +kernel
theorem d_Ty_ofText_15 : decode c_Ty_ofText 15 = .ok (.ifCond .eq 12, 3) := by decide +kernel
theorem d_Ty_ofText_18 : decode c_Ty_ofText 18 = .ok (.iload_n 2, 1) := by decide +kernel
theorem d_Ty_ofText_19 : decode c_Ty_ofText 19 = .ok (.iconst 1, 1) := by decide +kernel
theorem d_Ty_ofText_20 : decode c_Ty_ofText 20 = .ok (.if_icmp .eq 7, 3) := by decide +kernel
theorem d_Ty_ofText_23 : decode c_Ty_ofText 23 = .ok (.iconst 0, 1) := by decide +kernel
theorem d_Ty_ofText_24 : decode c_Ty_ofText 24 = .ok (.goto 4, 3) := by decide +kernel
theorem d_Ty_ofText_27 : decode c_Ty_ofText 27 = .ok (.iload_n 2, 1) := by decide +kernel
theorem d_Ty_ofText_28 : decode c_Ty_ofText 28 = .ok (.ireturn, 1) := by decide +kernel
theorem d_Ty_ofExpression_0 : decode c_Ty_ofExpression 0 = .ok (.iload_n 3, 1) := by decide +kernel
theorem d_Ty_ofExpression_1 : decode c_Ty_ofExpression 1 = .ok (.iconst 5, 1) := by decide +kernel
theorem d_Ty_ofExpression_2 : decode c_Ty_ofExpression 2 = .ok (.if_icmp .le 5, 3) := by decide +kernel
theorem d_Ty_ofExpression_5 : decode c_Ty_ofExpression 5 = .ok (.iconst 0, 1) := by decide +kernel
theorem d_Ty_ofExpression_6 : decode c_Ty_ofExpression 6 = .ok (.ireturn, 1) := by decide +kernel
theorem d_Ty_ofExpression_7 : decode c_Ty_ofExpression 7 = .ok (.aload_n 1, 1) := by decide +kernel
theorem d_Ty_ofExpression_8 : decode c_Ty_ofExpression 8 = .ok (.iload_n 2, 1) := by decide +kernel
theorem d_Ty_ofExpression_9 : decode c_Ty_ofExpression 9 = .ok (.invokevirtual 25, 3) := by decide +kernel
theorem d_Ty_ofExpression_12 : decode c_Ty_ofExpression 12 = .ok (.lookupswitch 212 #[(33, 196), (35, 204), (36, 188), (38, 142), (42, 108), (43, 108), (45, 108), (47, 108), (60, 125), (61, 125), (63, 180), (126, 159)], 108) := by decide +kernel
theorem d_Ty_ofExpression_120 : decode c_Ty_ofExpression 120 = .ok (.iconst 1, 1) := by decide +kernel
theorem d_Ty_ofExpression_121 : decode c_Ty_ofExpression 121 = .ok (.aload_n 0, 1) := by decide +kernel
theorem d_Ty_ofExpression_122 : decode c_Ty_ofExpression 122 = .ok (.aload_n 1, 1) := by decide +kernel
theorem d_Ty_ofExpression_123 : decode c_Ty_ofExpression 123 = .ok (.iload_n 2, 1) := by decide +kernel
theorem d_Ty_ofExpression_124 : decode c_Ty_ofExpression 124 = .ok (.iload_n 3, 1) := by decide +kernel
theorem d_Ty_ofExpression_125 : decode c_Ty_ofExpression 125 = .ok (.invokestatic 29, 3) := by decide +kernel
theorem d_Ty_ofExpression_128 : decode c_Ty_ofExpression 128 = .ok (.ifCond .eq 7, 3) := by decide +kernel
theorem d_Ty_ofExpression_131 : decode c_Ty_ofExpression 131 = .ok (.iconst 1, 1) := by decide +kernel
theorem d_Ty_ofExpression_132 : decode c_Ty_ofExpression 132 = .ok (.goto 4, 3) := by decide +kernel
theorem d_Ty_ofExpression_135 : decode c_Ty_ofExpression 135 = .ok (.iconst 0, 1) := by decide +kernel
theorem d_Ty_ofExpression_136 : decode c_Ty_ofExpression 136 = .ok (.ireturn, 1) := by decide +kernel
theorem d_Ty_ofExpression_137 : decode c_Ty_ofExpression 137 = .ok (.iconst 1, 1) := by decide +kernel
theorem d_Ty_ofExpression_138 : decode c_Ty_ofExpression 138 = .ok (.aload_n 0, 1) := by decide +kernel
theorem d_Ty_ofExpression_139 : decode c_Ty_ofExpression 139 = .ok (.aload_n 1, 1) := by decide +kernel
theorem d_Ty_ofExpression_140 : decode c_Ty_ofExpression 140 = .ok (.iload_n 2, 1) := by decide +kernel
theorem d_Ty_ofExpression_141 : decode c_Ty_ofExpression 141 = .ok (.iload_n 3, 1) := by decide +kernel
theorem d_Ty_ofExpression_142 : decode c_Ty_ofExpression 142 = .ok (.invokestatic 29, 3) := by decide +kernel
theorem d_Ty_ofExpression_145 : decode c_Ty_ofExpression 145 = .ok (.ifCond .eq 7, 3) := by decide +kernel
theorem d_Ty_ofExpression_148 : decode c_Ty_ofExpression 148 = .ok (.iconst 2, 1) := by decide +kernel
theorem d_Ty_ofExpression_149 : decode c_Ty_ofExpression 149 = .ok (.goto 4, 3) := by decide +kernel
theorem d_Ty_ofExpression_152 : decode c_Ty_ofExpression 152 = .ok (.iconst 0, 1) := by decide +kernel
theorem d_Ty_ofExpression_153 : decode c_Ty_ofExpression 153 = .ok (.ireturn, 1) := by decide +kernel
theorem d_Ty_ofExpression_154 : decode c_Ty_ofExpression 154 = .ok (.iconst 2, 1) := by decide +kernel
theorem d_Ty_ofExpression_155 : decode c_Ty_ofExpression 155 = .ok (.aload_n 0, 1) := by decide +kernel
theorem d_Ty_ofExpression_156 : decode c_Ty_ofExpression 156 = .ok (.aload_n 1, 1) := by decide +kernel
theorem d_Ty_ofExpression_157 : decode c_Ty_ofExpression 157 = .ok (.iload_n 2, 1) := by decide +kernel
theorem d_Ty_ofExpression_158 : decode c_Ty_ofExpression 158 = .ok (.iload_n 3, 1) := by decide +kernel
theorem d_Ty_ofExpression_159 : decode c_Ty_ofExpression 159 = .ok (.invokestatic 29, 3) := by decide +kernel
theorem d_Ty_ofExpression_162 : decode c_Ty_ofExpression 162 = .ok (.ifCond .eq 7, 3) := by decide +kernel
theorem d_Ty_ofExpression_165 : decode c_Ty_ofExpression 165 = .ok (.iconst 2, 1) := by decide +kernel
theorem d_Ty_ofExpression_166 : decode c_Ty_ofExpression 166 = .ok (.goto 4, 3) := by decide +kernel
theorem d_Ty_ofExpression_169 : decode c_Ty_ofExpression 169 = .ok (.iconst 0, 1) := by decide +kernel
theorem d_Ty_ofExpression_170 : decode c_Ty_ofExpression 170 = .ok (.ireturn, 1) := by decide +kernel
theorem d_Ty_ofExpression_171 : decode c_Ty_ofExpression 171 = .ok (.aload_n 0, 1) := by decide +kernel
theorem d_Ty_ofExpression_172 : decode c_Ty_ofExpression 172 = .ok (.aload_n 1, 1) := by decide +kernel
theorem d_Ty_ofExpression_173 : decode c_Ty_ofExpression 173 = .ok (.iload_n 2, 1) := by decide +kernel
theorem d_Ty_ofExpression_174 : decode c_Ty_ofExpression 174 = .ok (.iconst 1, 1) := by decide +kernel
theorem d_Ty_ofExpression_175 : decode c_Ty_ofExpression 175 = .ok (.iadd, 1) := by decide +kernel
theorem d_Ty_ofExpression_176 : decode c_Ty_ofExpression 176 = .ok (.iload_n 3, 1) := by decide +kernel
theorem d_Ty_ofExpression_177 : decode c_Ty_ofExpression 177 = .ok (.iconst 1, 1) := by decide +kernel
theorem d_Ty_ofExpression_178 : decode c_Ty_ofExpression 178 = .ok (.iadd, 1) := by decide +kernel
theorem d_Ty_ofExpression_179 : decode c_Ty_ofExpression 179 = .ok (.invokestatic 15, 3) := by decide +kernel
theorem d_Ty_ofExpression_182 : decode c_Ty_ofExpression 182 = .ok (.iconst 2, 1) := by decide +kernel
theorem d_Ty_ofExpression_183 : decode c_Ty_ofExpression 183 = .ok (.if_icmp .ne 7, 3) := by decide +kernel
theorem d_Ty_ofExpression_186 : decode c_Ty_ofExpression 186 = .ok (.iconst 2, 1) := by decide +kernel
theorem d_Ty_ofExpression_187 : decode c_Ty_ofExpression 187 = .ok (.goto 4, 3) := by decide +kernel
theorem d_Ty_ofExpression_190 : decode c_Ty_ofExpression 190 = .ok (.iconst 0, 1) := by decide +kernel
theorem d_Ty_ofExpression_191 : decode c_Ty_ofExpression 191 = .ok (.ireturn, 1) := by decide +kernel
theorem d_Ty_ofExpression_192 : decode c_Ty_ofExpression 192 = .ok (.aload_n 0, 1) := by decide +kernel
theorem d_Ty_ofExpression_193 : decode c_Ty_ofExpression 193 = .ok (.aload_n 1, 1) := by decide +kernel
theorem d_Ty_ofExpression_194 : decode c_Ty_ofExpression 194 = .ok (.iload_n 2, 1) := by decide +kernel
theorem d_Ty_ofExpression_195 : decode c_Ty_ofExpression 195 = .ok (.iload_n 3, 1) := by decide +kernel
theorem d_Ty_ofExpression_196 : decode c_Ty_ofExpression 196 = .ok (.invokestatic 33, 3) := by decide +kernel
theorem d_Ty_ofExpression_199 : decode c_Ty_ofExpression 199 = .ok (.ireturn, 1) := by decide +kernel
theorem d_Ty_ofExpression_200 : decode c_Ty_ofExpression 200 = .ok (.aload_n 0, 1) := by decide +kernel
theorem d_Ty_ofExpression_201 : decode c_Ty_ofExpression 201 = .ok (.aload_n 1, 1) := by decide +kernel
theorem d_Ty_ofExpression_202 : decode c_Ty_ofExpression 202 = .ok (.iload_n 2, 1) := by decide +kernel
theorem d_Ty_ofExpression_203 : decode c_Ty_ofExpression 203 = .ok (.iload_n 3, 1) := by decide +kernel
theorem d_Ty_ofExpression_204 : decode c_Ty_ofExpression 204 = .ok (.invokestatic 36, 3) := by decide +kernel
theorem d_Ty_ofExpression_207 : decode c_Ty_ofExpression 207 = .ok (.ireturn, 1) := by decide +kernel
theorem d_Ty_ofExpression_208 : decode c_Ty_ofExpression 208 = .ok (.aload_n 0, 1) := by decide +kernel
theorem d_Ty_ofExpression_209 : decode c_Ty_ofExpression 209 = .ok (.aload_n 1, 1) := by decide +kernel
theorem d_Ty_ofExpression_210 : decode c_Ty_ofExpression 210 = .ok (.iload_n 2, 1) := by decide +kernel
theorem d_Ty_ofExpression_211 : decode c_Ty_ofExpression 211 = .ok (.iload_n 3, 1) := by decide +kernel
theorem d_Ty_ofExpression_212 : decode c_Ty_ofExpression 212 = .ok (.invokestatic 39, 3) := by decide +kernel
theorem d_Ty_ofExpression_215 : decode c_Ty_ofExpression 215 = .ok (.ireturn, 1) := by decide +kernel
theorem d_Ty_ofExpression_216 : decode c_Ty_ofExpression 216 = .ok (.aload_n 0, 1) := by decide +kernel
theorem d_Ty_ofExpression_217 : decode c_Ty_ofExpression 217 = .ok (.aload_n 1, 1) := by decide +kernel
theorem d_Ty_ofExpression_218 : decode c_Ty_ofExpression 218 = .ok (.iload_n 2, 1) := by decide +kernel
theorem d_Ty_ofExpression_219 : decode c_Ty_ofExpression 219 = .ok (.iload_n 3, 1) := by decide +kernel
theorem d_Ty_ofExpression_220 : decode c_Ty_ofExpression 220 = .ok (.invokestatic 42, 3) := by decide +kernel
theorem d_Ty_ofExpression_223 : decode c_Ty_ofExpression 223 = .ok (.ireturn, 1) := by decide +kernel
theorem d_Ty_ofExpression_224 : decode c_Ty_ofExpression 224 = .ok (.aload_n 0, 1) := by decide +kernel
theorem d_Ty_ofExpression_225 : decode c_Ty_ofExpression 225 = .ok (.aload_n 1, 1) := by decide +kernel
theorem d_Ty_ofExpression_226 : decode c_Ty_ofExpression 226 = .ok (.iload_n 2, 1) := by decide +kernel
theorem d_Ty_ofExpression_227 : decode c_Ty_ofExpression 227 = .ok (.invokevirtual 25, 3) := by decide +kernel
theorem d_Ty_ofExpression_230 : decode c_Ty_ofExpression 230 = .ok (.invokestatic 45, 3) := by decide +kernel
theorem d_Ty_ofExpression_233 : decode c_Ty_ofExpression 233 = .ok (.ireturn, 1) := by decide +kernel
theorem d_Ty_areBoth_0 : decode c_Ty_areBoth 0 = .ok (.aload_n 2, 1) := by decide +kernel
theorem d_Ty_areBoth_1 : decode c_Ty_areBoth 1 = .ok (.iload_n 3, 1) := by decide +kernel
theorem d_Ty_areBoth_2 : decode c_Ty_areBoth 2 = .ok (.iconst 1, 1) := by decide +kernel
theorem d_Ty_areBoth_3 : decode c_Ty_areBoth 3 = .ok (.iadd, 1) := by decide +kernel
theorem d_Ty_areBoth_4 : decode c_Ty_areBoth 4 = .ok (.invokevirtual 49, 3) := by decide +kernel
theorem d_Ty_areBoth_7 : decode c_Ty_areBoth 7 = .ok (.istore 5, 2) := by decide +kernel
theorem d_Ty_areBoth_9 : decode c_Ty_areBoth 9 = .ok (.aload_n 1, 1) := by decide +kernel
theorem d_Ty_areBoth_10 : decode c_Ty_areBoth 10 = .ok (.aload_n 2, 1) := by decide +kernel
theorem d_Ty_areBoth_11 : decode c_Ty_areBoth 11 = .ok (.iload_n 3, 1) := by decide +kernel
theorem d_Ty_areBoth_12 : decode c_Ty_areBoth 12 = .ok (.iconst 1, 1) := by decide +kernel
theorem d_Ty_areBoth_13 : decode c_Ty_areBoth 13 = .ok (.iadd, 1) := by decide +kernel
theorem d_Ty_areBoth_14 : decode c_Ty_areBoth 14 = .ok (.iload 4, 2) := by decide +kernel
theorem d_Ty_areBoth_16 : decode c_Ty_areBoth 16 = .ok (.iconst 1, 1) := by decide +kernel
theorem d_Ty_areBoth_17 : decode c_Ty_areBoth 17 = .ok (.iadd, 1) := by decide +kernel
theorem d_Ty_areBoth_18 : decode c_Ty_areBoth 18 = .ok (.invokestatic 15, 3) := by decide +kernel
theorem d_Ty_areBoth_21 : decode c_Ty_areBoth 21 = .ok (.iload_n 0, 1) := by decide +kernel
theorem d_Ty_areBoth_22 : decode c_Ty_areBoth 22 = .ok (.if_icmp .ne 22, 3) := by decide +kernel
theorem d_Ty_areBoth_25 : decode c_Ty_areBoth 25 = .ok (.aload_n 1, 1) := by decide +kernel
theorem d_Ty_areBoth_26 : decode c_Ty_areBoth 26 = .ok (.aload_n 2, 1) := by decide +kernel
theorem d_Ty_areBoth_27 : decode c_Ty_areBoth 27 = .ok (.iload 5, 2) := by decide +kernel
theorem d_Ty_areBoth_29 : decode c_Ty_areBoth 29 = .ok (.iload 4, 2) := by decide +kernel
theorem d_Ty_areBoth_31 : decode c_Ty_areBoth 31 = .ok (.iconst 1, 1) := by decide +kernel
theorem d_Ty_areBoth_32 : decode c_Ty_areBoth 32 = .ok (.iadd, 1) := by decide +kernel
theorem d_Ty_areBoth_33 : decode c_Ty_areBoth 33 = .ok (.invokestatic 15, 3) := by decide +kernel
theorem d_Ty_areBoth_36 : decode c_Ty_areBoth 36 = .ok (.iload_n 0, 1) := by decide +kernel
theorem d_Ty_areBoth_37 : decode c_Ty_areBoth 37 = .ok (.if_icmp .ne 7, 3) := by decide +kernel
theorem d_Ty_areBoth_40 : decode c_Ty_areBoth 40 = .ok (.iconst 1, 1) := by decide +kernel
theorem d_Ty_areBoth_41 : decode c_Ty_areBoth 41 = .ok (.goto 4, 3) := by decide +kernel
theorem d_Ty_areBoth_44 : decode c_Ty_areBoth 44 = .ok (.iconst 0, 1) := by decide +kernel
theorem d_Ty_areBoth_45 : decode c_Ty_areBoth 45 = .ok (.ireturn, 1) := by decide +kernel
theorem d_Te_endOf_0 : decode c_Te_endOf 0 = .ok (.iload_n 1, 1) := by decide +kernel
theorem d_Te_endOf_1 : decode c_Te_endOf 1 = .ok (.ifCond .lt 20, 3) := by decide +kernel
theorem d_Te_endOf_4 : decode c_Te_endOf 4 = .ok (.iload_n 1, 1) := by decide +kernel
theorem d_Te_endOf_5 : decode c_Te_endOf 5 = .ok (.aload_n 0, 1) := by decide +kernel
theorem d_Te_endOf_6 : decode c_Te_endOf 6 = .ok (.getfield 19, 3) := by decide +kernel
theorem d_Te_endOf_9 : decode c_Te_endOf 9 = .ok (.if_icmp .ge 12, 3) := by decide +kernel
theorem d_Te_endOf_12 : decode c_Te_endOf 12 = .ok (.aload_n 0, 1) := by decide +kernel
theorem d_Te_endOf_13 : decode c_Te_endOf 13 = .ok (.getfield 15, 3) := by decide +kernel
theorem d_Te_endOf_16 : decode c_Te_endOf 16 = .ok (.iload_n 1, 1) := by decide +kernel
theorem d_Te_endOf_17 : decode c_Te_endOf 17 = .ok (.iaload, 1) := by decide +kernel
theorem d_Te_endOf_18 : decode c_Te_endOf 18 = .ok (.goto 7, 3) := by decide +kernel
theorem d_Te_endOf_21 : decode c_Te_endOf 21 = .ok (.aload_n 0, 1) := by decide +kernel
theorem d_Te_endOf_22 : decode c_Te_endOf 22 = .ok (.getfield 19, 3) := by decide +kernel
theorem d_Te_endOf_25 : decode c_Te_endOf 25 = .ok (.ireturn, 1) := by decide +kernel
theorem d_Ty_ofChoice_0 : decode c_Ty_ofChoice 0 = .ok (.aload_n 1, 1) := by decide +kernel
theorem d_Ty_ofChoice_1 : decode c_Ty_ofChoice 1 = .ok (.iload_n 2, 1) := by decide +kernel
theorem d_Ty_ofChoice_2 : decode c_Ty_ofChoice 2 = .ok (.iconst 1, 1) := by decide +kernel
theorem d_Ty_ofChoice_3 : decode c_Ty_ofChoice 3 = .ok (.iadd, 1) := by decide +kernel
theorem d_Ty_ofChoice_4 : decode c_Ty_ofChoice 4 = .ok (.invokevirtual 49, 3) := by decide +kernel
theorem d_Ty_ofChoice_7 : decode c_Ty_ofChoice 7 = .ok (.istore 4, 2) := by decide +kernel
theorem d_Ty_ofChoice_9 : decode c_Ty_ofChoice 9 = .ok (.aload_n 1, 1) := by decide +kernel
theorem d_Ty_ofChoice_10 : decode c_Ty_ofChoice 10 = .ok (.iload 4, 2) := by decide +kernel
theorem d_Ty_ofChoice_12 : decode c_Ty_ofChoice 12 = .ok (.invokevirtual 49, 3) := by decide +kernel
theorem d_Ty_ofChoice_15 : decode c_Ty_ofChoice 15 = .ok (.istore 5, 2) := by decide +kernel
theorem d_Ty_ofChoice_17 : decode c_Ty_ofChoice 17 = .ok (.aload_n 0, 1) := by decide +kernel
theorem d_Ty_ofChoice_18 : decode c_Ty_ofChoice 18 = .ok (.aload_n 1, 1) := by decide +kernel
theorem d_Ty_ofChoice_19 : decode c_Ty_ofChoice 19 = .ok (.iload_n 2, 1) := by decide +kernel
theorem d_Ty_ofChoice_20 : decode c_Ty_ofChoice 20 = .ok (.iconst 1, 1) := by decide +kernel
theorem d_Ty_ofChoice_21 : decode c_Ty_ofChoice 21 = .ok (.iadd, 1) := by decide +kernel
theorem d_Ty_ofChoice_22 : decode c_Ty_ofChoice 22 = .ok (.iload_n 3, 1) := by decide +kernel
theorem d_Ty_ofChoice_23 : decode c_Ty_ofChoice 23 = .ok (.iconst 1, 1) := by decide +kernel
theorem d_Ty_ofChoice_24 : decode c_Ty_ofChoice 24 = .ok (.iadd, 1) := by decide +kernel
theorem d_Ty_ofChoice_25 : decode c_Ty_ofChoice 25 = .ok (.invokestatic 15, 3) := by decide +kernel
theorem d_Ty_ofChoice_28 : decode c_Ty_ofChoice 28 = .ok (.iconst 2, 1) := by decide +kernel
theorem d_Ty_ofChoice_29 : decode c_Ty_ofChoice 29 = .ok (.if_icmp .eq 5, 3) := by decide +kernel
theorem d_Ty_ofChoice_32 : decode c_Ty_ofChoice 32 = .ok (.iconst 0, 1) := by decide +kernel
theorem d_Ty_ofChoice_33 : decode c_Ty_ofChoice 33 = .ok (.ireturn, 1) := by decide +kernel
theorem d_Ty_ofChoice_34 : decode c_Ty_ofChoice 34 = .ok (.aload_n 0, 1) := by decide +kernel
theorem d_Ty_ofChoice_35 : decode c_Ty_ofChoice 35 = .ok (.aload_n 1, 1) := by decide +kernel
theorem d_Ty_ofChoice_36 : decode c_Ty_ofChoice 36 = .ok (.iload 4, 2) := by decide +kernel
theorem d_Ty_ofChoice_38 : decode c_Ty_ofChoice 38 = .ok (.iload_n 3, 1) := by decide +kernel
theorem d_Ty_ofChoice_39 : decode c_Ty_ofChoice 39 = .ok (.iconst 1, 1) := by decide +kernel
theorem d_Ty_ofChoice_40 : decode c_Ty_ofChoice 40 = .ok (.iadd, 1) := by decide +kernel
theorem d_Ty_ofChoice_41 : decode c_Ty_ofChoice 41 = .ok (.invokestatic 15, 3) := by decide +kernel
theorem d_Ty_ofChoice_44 : decode c_Ty_ofChoice 44 = .ok (.istore 6, 2) := by decide +kernel
theorem d_Ty_ofChoice_46 : decode c_Ty_ofChoice 46 = .ok (.aload_n 0, 1) := by decide +kernel
theorem d_Ty_ofChoice_47 : decode c_Ty_ofChoice 47 = .ok (.aload_n 1, 1) := by decide +kernel
theorem d_Ty_ofChoice_48 : decode c_Ty_ofChoice 48 = .ok (.iload 5, 2) := by decide +kernel
theorem d_Ty_ofChoice_50 : decode c_Ty_ofChoice 50 = .ok (.iload_n 3, 1) := by decide +kernel
theorem d_Ty_ofChoice_51 : decode c_Ty_ofChoice 51 = .ok (.iconst 1, 1) := by decide +kernel
theorem d_Ty_ofChoice_52 : decode c_Ty_ofChoice 52 = .ok (.iadd, 1) := by decide +kernel
theorem d_Ty_ofChoice_53 : decode c_Ty_ofChoice 53 = .ok (.invokestatic 15, 3) := by decide +kernel
theorem d_Ty_ofChoice_56 : decode c_Ty_ofChoice 56 = .ok (.iload 6, 2) := by decide +kernel
theorem d_Ty_ofChoice_58 : decode c_Ty_ofChoice 58 = .ok (.if_icmp .ne 8, 3) := by decide +kernel
theorem d_Ty_ofChoice_61 : decode c_Ty_ofChoice 61 = .ok (.iload 6, 2) := by decide +kernel
theorem d_Ty_ofChoice_63 : decode c_Ty_ofChoice 63 = .ok (.goto 4, 3) := by decide +kernel
theorem d_Ty_ofChoice_66 : decode c_Ty_ofChoice 66 = .ok (.iconst 0, 1) := by decide +kernel
theorem d_Ty_ofChoice_67 : decode c_Ty_ofChoice 67 = .ok (.ireturn, 1) := by decide +kernel
theorem d_Ty_ofBinding_0 : decode c_Ty_ofBinding 0 = .ok (.aload_n 1, 1) := by decide +kernel
theorem d_Ty_ofBinding_1 : decode c_Ty_ofBinding 1 = .ok (.iload_n 2, 1) := by decide +kernel
theorem d_Ty_ofBinding_2 : decode c_Ty_ofBinding 2 = .ok (.iconst 2, 1) := by decide +kernel
theorem d_Ty_ofBinding_3 : decode c_Ty_ofBinding 3 = .ok (.iadd, 1) := by decide +kernel
theorem d_Ty_ofBinding_4 : decode c_Ty_ofBinding 4 = .ok (.invokevirtual 49, 3) := by decide +kernel
theorem d_Ty_ofBinding_7 : decode c_Ty_ofBinding 7 = .ok (.istore 4, 2) := by decide +kernel
theorem d_Ty_ofBinding_9 : decode c_Ty_ofBinding 9 = .ok (.aload_n 0, 1) := by decide +kernel
theorem d_Ty_ofBinding_10 : decode c_Ty_ofBinding 10 = .ok (.aload_n 1, 1) := by decide +kernel
theorem d_Ty_ofBinding_11 : decode c_Ty_ofBinding 11 = .ok (.iload_n 2, 1) := by decide +kernel
theorem d_Ty_ofBinding_12 : decode c_Ty_ofBinding 12 = .ok (.iconst 2, 1) := by decide +kernel
theorem d_Ty_ofBinding_13 : decode c_Ty_ofBinding 13 = .ok (.iadd, 1) := by decide +kernel
theorem d_Ty_ofBinding_14 : decode c_Ty_ofBinding 14 = .ok (.iload_n 3, 1) := by decide +kernel
theorem d_Ty_ofBinding_15 : decode c_Ty_ofBinding 15 = .ok (.iconst 1, 1) := by decide +kernel
theorem d_Ty_ofBinding_16 : decode c_Ty_ofBinding 16 = .ok (.iadd, 1) := by decide +kernel
theorem d_Ty_ofBinding_17 : decode c_Ty_ofBinding 17 = .ok (.invokestatic 15, 3) := by decide +kernel
theorem d_Ty_ofBinding_20 : decode c_Ty_ofBinding 20 = .ok (.iconst 1, 1) := by decide +kernel
theorem d_Ty_ofBinding_21 : decode c_Ty_ofBinding 21 = .ok (.if_icmp .eq 5, 3) := by decide +kernel
theorem d_Ty_ofBinding_24 : decode c_Ty_ofBinding 24 = .ok (.iconst 0, 1) := by decide +kernel
theorem d_Ty_ofBinding_25 : decode c_Ty_ofBinding 25 = .ok (.ireturn, 1) := by decide +kernel
theorem d_Ty_ofBinding_26 : decode c_Ty_ofBinding 26 = .ok (.aload_n 0, 1) := by decide +kernel
theorem d_Ty_ofBinding_27 : decode c_Ty_ofBinding 27 = .ok (.aload_n 1, 1) := by decide +kernel
theorem d_Ty_ofBinding_28 : decode c_Ty_ofBinding 28 = .ok (.iload 4, 2) := by decide +kernel
theorem d_Ty_ofBinding_30 : decode c_Ty_ofBinding 30 = .ok (.iload_n 3, 1) := by decide +kernel
theorem d_Ty_ofBinding_31 : decode c_Ty_ofBinding 31 = .ok (.iconst 1, 1) := by decide +kernel
theorem d_Ty_ofBinding_32 : decode c_Ty_ofBinding 32 = .ok (.iadd, 1) := by decide +kernel
theorem d_Ty_ofBinding_33 : decode c_Ty_ofBinding 33 = .ok (.invokestatic 15, 3) := by decide +kernel
theorem d_Ty_ofBinding_36 : decode c_Ty_ofBinding 36 = .ok (.ireturn, 1) := by decide +kernel
theorem d_Ty_ofCall_0 : decode c_Ty_ofCall 0 = .ok (.aload_n 0, 1) := by decide +kernel
theorem d_Ty_ofCall_1 : decode c_Ty_ofCall 1 = .ok (.aload_n 1, 1) := by decide +kernel
theorem d_Ty_ofCall_2 : decode c_Ty_ofCall 2 = .ok (.iload_n 2, 1) := by decide +kernel
theorem d_Ty_ofCall_3 : decode c_Ty_ofCall 3 = .ok (.iconst 1, 1) := by decide +kernel
theorem d_Ty_ofCall_4 : decode c_Ty_ofCall 4 = .ok (.iadd, 1) := by decide +kernel
theorem d_Ty_ofCall_5 : decode c_Ty_ofCall 5 = .ok (.invokevirtual 25, 3) := by decide +kernel
theorem d_Ty_ofCall_8 : decode c_Ty_ofCall 8 = .ok (.invokestatic 53, 3) := by decide +kernel
theorem d_Ty_ofCall_11 : decode c_Ty_ofCall 11 = .ok (.astore 4, 2) := by decide +kernel
theorem d_Ty_ofCall_13 : decode c_Ty_ofCall 13 = .ok (.aload 4, 2) := by decide +kernel
theorem d_Ty_ofCall_15 : decode c_Ty_ofCall 15 = .ok (.ifnull 14, 3) := by decide +kernel
theorem d_Ty_ofCall_18 : decode c_Ty_ofCall 18 = .ok (.aload 4, 2) := by decide +kernel
theorem d_Ty_ofCall_20 : decode c_Ty_ofCall 20 = .ok (.getfield 57, 3) := by decide +kernel
theorem d_Ty_ofCall_23 : decode c_Ty_ofCall 23 = .ok (.invokevirtual 21, 3) := by decide +kernel
theorem d_Ty_ofCall_26 : decode c_Ty_ofCall 26 = .ok (.ifCond .ne 5, 3) := by decide +kernel
theorem d_Ty_ofCall_29 : decode c_Ty_ofCall 29 = .ok (.iconst 0, 1) := by decide +kernel
theorem d_Ty_ofCall_30 : decode c_Ty_ofCall 30 = .ok (.ireturn, 1) := by decide +kernel
theorem d_Ty_ofCall_31 : decode c_Ty_ofCall 31 = .ok (.aload_n 0, 1) := by decide +kernel
theorem d_Ty_ofCall_32 : decode c_Ty_ofCall 32 = .ok (.aload_n 1, 1) := by decide +kernel
theorem d_Ty_ofCall_33 : decode c_Ty_ofCall 33 = .ok (.iload_n 2, 1) := by decide +kernel
theorem d_Ty_ofCall_34 : decode c_Ty_ofCall 34 = .ok (.iconst 2, 1) := by decide +kernel
theorem d_Ty_ofCall_35 : decode c_Ty_ofCall 35 = .ok (.iadd, 1) := by decide +kernel
theorem d_Ty_ofCall_36 : decode c_Ty_ofCall 36 = .ok (.iload_n 3, 1) := by decide +kernel
theorem d_Ty_ofCall_37 : decode c_Ty_ofCall 37 = .ok (.iconst 1, 1) := by decide +kernel
theorem d_Ty_ofCall_38 : decode c_Ty_ofCall 38 = .ok (.iadd, 1) := by decide +kernel
theorem d_Ty_ofCall_39 : decode c_Ty_ofCall 39 = .ok (.invokestatic 15, 3) := by decide +kernel
theorem d_Ty_ofCall_42 : decode c_Ty_ofCall 42 = .ok (.iconst 1, 1) := by decide +kernel
theorem d_Ty_ofCall_43 : decode c_Ty_ofCall 43 = .ok (.if_icmp .ne 7, 3) := by decide +kernel
theorem d_Ty_ofCall_46 : decode c_Ty_ofCall 46 = .ok (.iconst 1, 1) := by decide +kernel
theorem d_Ty_ofCall_47 : decode c_Ty_ofCall 47 = .ok (.goto 4, 3) := by decide +kernel
theorem d_Ty_ofCall_50 : decode c_Ty_ofCall 50 = .ok (.iconst 0, 1) := by decide +kernel
theorem d_Ty_ofCall_51 : decode c_Ty_ofCall 51 = .ok (.ireturn, 1) := by decide +kernel
theorem d_B_definerOf_0 : decode c_B_definerOf 0 = .ok (.iload_n 1, 1) := by decide +kernel
theorem d_B_definerOf_1 : decode c_B_definerOf 1 = .ok (.invokestatic 111, 3) := by decide +kernel
theorem d_B_definerOf_4 : decode c_B_definerOf 4 = .ok (.ifCond .eq 12, 3) := by decide +kernel
theorem d_B_definerOf_7 : decode c_B_definerOf 7 = .ok (.aload_n 0, 1) := by decide +kernel
theorem d_B_definerOf_8 : decode c_B_definerOf 8 = .ok (.iload_n 1, 1) := by decide +kernel
theorem d_B_definerOf_9 : decode c_B_definerOf 9 = .ok (.bipush 97, 2) := by decide +kernel
theorem d_B_definerOf_11 : decode c_B_definerOf 11 = .ok (.isub, 1) := by decide +kernel
theorem d_B_definerOf_12 : decode c_B_definerOf 12 = .ok (.aaload, 1) := by decide +kernel
theorem d_B_definerOf_13 : decode c_B_definerOf 13 = .ok (.goto 4, 3) := by decide +kernel
theorem d_B_definerOf_16 : decode c_B_definerOf 16 = .ok (.aconst_null, 1) := by decide +kernel
theorem d_B_definerOf_17 : decode c_B_definerOf 17 = .ok (.areturn, 1) := by decide +kernel
theorem d_Ty_ofMatch_0 : decode c_Ty_ofMatch 0 = .ok (.aload_n 1, 1) := by decide +kernel
theorem d_Ty_ofMatch_1 : decode c_Ty_ofMatch 1 = .ok (.iload_n 2, 1) := by decide +kernel
theorem d_Ty_ofMatch_2 : decode c_Ty_ofMatch 2 = .ok (.iconst 1, 1) := by decide +kernel
theorem d_Ty_ofMatch_3 : decode c_Ty_ofMatch 3 = .ok (.iadd, 1) := by decide +kernel
theorem d_Ty_ofMatch_4 : decode c_Ty_ofMatch 4 = .ok (.invokevirtual 49, 3) := by decide +kernel
theorem d_Ty_ofMatch_7 : decode c_Ty_ofMatch 7 = .ok (.iconst 1, 1) := by decide +kernel
theorem d_Ty_ofMatch_8 : decode c_Ty_ofMatch 8 = .ok (.iadd, 1) := by decide +kernel
theorem d_Ty_ofMatch_9 : decode c_Ty_ofMatch 9 = .ok (.istore 4, 2) := by decide +kernel
theorem d_Ty_ofMatch_11 : decode c_Ty_ofMatch 11 = .ok (.aload_n 1, 1) := by decide +kernel
theorem d_Ty_ofMatch_12 : decode c_Ty_ofMatch 12 = .ok (.iload 4, 2) := by decide +kernel
theorem d_Ty_ofMatch_14 : decode c_Ty_ofMatch 14 = .ok (.invokevirtual 49, 3) := by decide +kernel
theorem d_Ty_ofMatch_17 : decode c_Ty_ofMatch 17 = .ok (.iconst 1, 1) := by decide +kernel
theorem d_Ty_ofMatch_18 : decode c_Ty_ofMatch 18 = .ok (.iadd, 1) := by decide +kernel
theorem d_Ty_ofMatch_19 : decode c_Ty_ofMatch 19 = .ok (.istore 5, 2) := by decide +kernel
theorem d_Ty_ofMatch_21 : decode c_Ty_ofMatch 21 = .ok (.aload_n 0, 1) := by decide +kernel
theorem d_Ty_ofMatch_22 : decode c_Ty_ofMatch 22 = .ok (.aload_n 1, 1) := by decide +kernel
theorem d_Ty_ofMatch_23 : decode c_Ty_ofMatch 23 = .ok (.iload_n 2, 1) := by decide +kernel
theorem d_Ty_ofMatch_24 : decode c_Ty_ofMatch 24 = .ok (.iconst 1, 1) := by decide +kernel
theorem d_Ty_ofMatch_25 : decode c_Ty_ofMatch 25 = .ok (.iadd, 1) := by decide +kernel
theorem d_Ty_ofMatch_26 : decode c_Ty_ofMatch 26 = .ok (.iload_n 3, 1) := by decide +kernel
theorem d_Ty_ofMatch_27 : decode c_Ty_ofMatch 27 = .ok (.iconst 1, 1) := by decide +kernel
theorem d_Ty_ofMatch_28 : decode c_Ty_ofMatch 28 = .ok (.iadd, 1) := by decide +kernel
theorem d_Ty_ofMatch_29 : decode c_Ty_ofMatch 29 = .ok (.invokestatic 15, 3) := by decide +kernel
theorem d_Ty_ofMatch_32 : decode c_Ty_ofMatch 32 = .ok (.iconst 1, 1) := by decide +kernel
theorem d_Ty_ofMatch_33 : decode c_Ty_ofMatch 33 = .ok (.if_icmp .ne 35, 3) := by decide +kernel
theorem d_Ty_ofMatch_36 : decode c_Ty_ofMatch 36 = .ok (.aload_n 0, 1) := by decide +kernel
theorem d_Ty_ofMatch_37 : decode c_Ty_ofMatch 37 = .ok (.aload_n 1, 1) := by decide +kernel
theorem d_Ty_ofMatch_38 : decode c_Ty_ofMatch 38 = .ok (.iload 4, 2) := by decide +kernel
theorem d_Ty_ofMatch_40 : decode c_Ty_ofMatch 40 = .ok (.iload_n 3, 1) := by decide +kernel
theorem d_Ty_ofMatch_41 : decode c_Ty_ofMatch 41 = .ok (.iconst 1, 1) := by decide +kernel
theorem d_Ty_ofMatch_42 : decode c_Ty_ofMatch 42 = .ok (.iadd, 1) := by decide +kernel
theorem d_Ty_ofMatch_43 : decode c_Ty_ofMatch 43 = .ok (.invokestatic 15, 3) := by decide +kernel
theorem d_Ty_ofMatch_46 : decode c_Ty_ofMatch 46 = .ok (.iconst 1, 1) := by decide +kernel
theorem d_Ty_ofMatch_47 : decode c_Ty_ofMatch 47 = .ok (.if_icmp .ne 21, 3) := by decide +kernel
theorem d_Ty_ofMatch_50 : decode c_Ty_ofMatch 50 = .ok (.aload_n 0, 1) := by decide +kernel
theorem d_Ty_ofMatch_51 : decode c_Ty_ofMatch 51 = .ok (.aload_n 1, 1) := by decide +kernel
theorem d_Ty_ofMatch_52 : decode c_Ty_ofMatch 52 = .ok (.iload 5, 2) := by decide +kernel
theorem d_Ty_ofMatch_54 : decode c_Ty_ofMatch 54 = .ok (.iload_n 3, 1) := by decide +kernel
theorem d_Ty_ofMatch_55 : decode c_Ty_ofMatch 55 = .ok (.iconst 1, 1) := by decide +kernel
theorem d_Ty_ofMatch_56 : decode c_Ty_ofMatch 56 = .ok (.iadd, 1) := by decide +kernel
theorem d_Ty_ofMatch_57 : decode c_Ty_ofMatch 57 = .ok (.invokestatic 15, 3) := by decide +kernel
theorem d_Ty_ofMatch_60 : decode c_Ty_ofMatch 60 = .ok (.iconst 1, 1) := by decide +kernel
theorem d_Ty_ofMatch_61 : decode c_Ty_ofMatch 61 = .ok (.if_icmp .ne 7, 3) := by decide +kernel
theorem d_Ty_ofMatch_64 : decode c_Ty_ofMatch 64 = .ok (.iconst 1, 1) := by decide +kernel
theorem d_Ty_ofMatch_65 : decode c_Ty_ofMatch 65 = .ok (.goto 4, 3) := by decide +kernel
theorem d_Ty_ofMatch_68 : decode c_Ty_ofMatch 68 = .ok (.iconst 0, 1) := by decide +kernel
theorem d_Ty_ofMatch_69 : decode c_Ty_ofMatch 69 = .ok (.ireturn, 1) := by decide +kernel
theorem d_Ty_ofLeaf_0 : decode c_Ty_ofLeaf 0 = .ok (.iload_n 1, 1) := by decide +kernel
theorem d_Ty_ofLeaf_1 : decode c_Ty_ofLeaf 1 = .ok (.invokestatic 63, 3) := by decide +kernel
theorem d_Ty_ofLeaf_4 : decode c_Ty_ofLeaf 4 = .ok (.ifCond .ne 5, 3) := by decide +kernel
theorem d_Ty_ofLeaf_7 : decode c_Ty_ofLeaf 7 = .ok (.iconst 1, 1) := by decide +kernel
theorem d_Ty_ofLeaf_8 : decode c_Ty_ofLeaf 8 = .ok (.ireturn, 1) := by decide +kernel
theorem d_Ty_ofLeaf_9 : decode c_Ty_ofLeaf 9 = .ok (.aload_n 0, 1) := by decide +kernel
theorem d_Ty_ofLeaf_10 : decode c_Ty_ofLeaf 10 = .ok (.iload_n 1, 1) := by decide +kernel
theorem d_Ty_ofLeaf_11 : decode c_Ty_ofLeaf 11 = .ok (.invokestatic 53, 3) := by decide +kernel
theorem d_Ty_ofLeaf_14 : decode c_Ty_ofLeaf 14 = .ok (.astore_n 2, 1) := by decide +kernel
theorem d_Ty_ofLeaf_15 : decode c_Ty_ofLeaf 15 = .ok (.aload_n 2, 1) := by decide +kernel
theorem d_Ty_ofLeaf_16 : decode c_Ty_ofLeaf 16 = .ok (.ifnull 13, 3) := by decide +kernel
theorem d_Ty_ofLeaf_19 : decode c_Ty_ofLeaf 19 = .ok (.aload_n 2, 1) := by decide +kernel
theorem d_Ty_ofLeaf_20 : decode c_Ty_ofLeaf 20 = .ok (.getfield 57, 3) := by decide +kernel
theorem d_Ty_ofLeaf_23 : decode c_Ty_ofLeaf 23 = .ok (.invokevirtual 21, 3) := by decide +kernel
theorem d_Ty_ofLeaf_26 : decode c_Ty_ofLeaf 26 = .ok (.ifCond .eq 7, 3) := by decide +kernel
theorem d_Ty_ofLeaf_29 : decode c_Ty_ofLeaf 29 = .ok (.iconst 0, 1) := by decide +kernel
theorem d_Ty_ofLeaf_30 : decode c_Ty_ofLeaf 30 = .ok (.goto 7, 3) := by decide +kernel
theorem d_Ty_ofLeaf_33 : decode c_Ty_ofLeaf 33 = .ok (.aload_n 2, 1) := by decide +kernel
theorem d_Ty_ofLeaf_34 : decode c_Ty_ofLeaf 34 = .ok (.getfield 67, 3) := by decide +kernel
theorem d_Ty_ofLeaf_37 : decode c_Ty_ofLeaf 37 = .ok (.ireturn, 1) := by decide +kernel
theorem d_Ev_run_0 : decode c_Ev_run 0 = .ok (.aload_n 0, 1) := by decide +kernel
theorem d_Ev_run_1 : decode c_Ev_run 1 = .ok (.aload_n 3, 1) := by decide +kernel
theorem d_Ev_run_2 : decode c_Ev_run 2 = .ok (.putfield 20, 3) := by decide +kernel
theorem d_Ev_run_5 : decode c_Ev_run 5 = .ok (.aload_n 0, 1) := by decide +kernel
theorem d_Ev_run_6 : decode c_Ev_run 6 = .ok (.iconst 0, 1) := by decide +kernel
theorem d_Ev_run_7 : decode c_Ev_run 7 = .ok (.putfield 24, 3) := by decide +kernel
theorem d_Ev_run_10 : decode c_Ev_run 10 = .ok (.aload_n 0, 1) := by decide +kernel
theorem d_Ev_run_11 : decode c_Ev_run 11 = .ok (.iconst 0, 1) := by decide +kernel
theorem d_Ev_run_12 : decode c_Ev_run 12 = .ok (.putfield 31, 3) := by decide +kernel
theorem d_Ev_run_15 : decode c_Ev_run 15 = .ok (.aload_n 0, 1) := by decide +kernel
theorem d_Ev_run_16 : decode c_Ev_run 16 = .ok (.getfield 11, 3) := by decide +kernel
theorem d_Ev_run_19 : decode c_Ev_run 19 = .ok (.iconst 0, 1) := by decide +kernel
theorem d_Ev_run_20 : decode c_Ev_run 20 = .ok (.aaload, 1) := by decide +kernel
theorem d_Ev_run_21 : decode c_Ev_run 21 = .ok (.aload_n 1, 1) := by decide +kernel
theorem d_Ev_run_22 : decode c_Ev_run 22 = .ok (.getfield 34, 3) := by decide +kernel
theorem d_Ev_run_25 : decode c_Ev_run 25 = .ok (.putfield 40, 3) := by decide +kernel
theorem d_Ev_run_28 : decode c_Ev_run 28 = .ok (.aload_n 1, 1) := by decide +kernel
theorem d_Ev_run_29 : decode c_Ev_run 29 = .ok (.aload_n 0, 1) := by decide +kernel
theorem d_Ev_run_30 : decode c_Ev_run 30 = .ok (.aload_n 0, 1) := by decide +kernel
theorem d_Ev_run_31 : decode c_Ev_run 31 = .ok (.getfield 11, 3) := by decide +kernel
theorem d_Ev_run_34 : decode c_Ev_run 34 = .ok (.iconst 0, 1) := by decide +kernel
theorem d_Ev_run_35 : decode c_Ev_run 35 = .ok (.aaload, 1) := by decide +kernel
theorem d_Ev_run_36 : decode c_Ev_run 36 = .ok (.aload_n 1, 1) := by decide +kernel
theorem d_Ev_run_37 : decode c_Ev_run 37 = .ok (.getfield 34, 3) := by decide +kernel
theorem d_Ev_run_40 : decode c_Ev_run 40 = .ok (.getfield 41, 3) := by decide +kernel
theorem d_Ev_run_43 : decode c_Ev_run 43 = .ok (.iconst 0, 1) := by decide +kernel
theorem d_Ev_run_44 : decode c_Ev_run 44 = .ok (.invokevirtual 46, 3) := by decide +kernel
theorem d_Ev_run_47 : decode c_Ev_run 47 = .ok (.putfield 50, 3) := by decide +kernel
theorem d_Ev_run_50 : decode c_Ev_run 50 = .ok (.aload_n 1, 1) := by decide +kernel
theorem d_Ev_run_51 : decode c_Ev_run 51 = .ok (.iload_n 2, 1) := by decide +kernel
theorem d_Ev_run_52 : decode c_Ev_run 52 = .ok (.putfield 53, 3) := by decide +kernel
theorem d_Ev_run_55 : decode c_Ev_run 55 = .ok (.aload_n 1, 1) := by decide +kernel
theorem d_Ev_run_56 : decode c_Ev_run 56 = .ok (.aload_n 0, 1) := by decide +kernel
theorem d_Ev_run_57 : decode c_Ev_run 57 = .ok (.invokevirtual 56, 3) := by decide +kernel
theorem d_Ev_run_60 : decode c_Ev_run 60 = .ok (.ifCond .eq 10, 3) := by decide +kernel
theorem d_Ev_run_63 : decode c_Ev_run 63 = .ok (.aload_n 0, 1) := by decide +kernel
theorem d_Ev_run_64 : decode c_Ev_run 64 = .ok (.getfield 31, 3) := by decide +kernel
theorem d_Ev_run_67 : decode c_Ev_run 67 = .ok (.goto 5, 3) := by decide +kernel
theorem d_Ev_run_70 : decode c_Ev_run 70 = .ok (.bipush 14, 2) := by decide +kernel
theorem d_Ev_run_72 : decode c_Ev_run 72 = .ok (.putfield 60, 3) := by decide +kernel
theorem d_Ev_run_75 : decode c_Ev_run 75 = .ok (.aload_n 1, 1) := by decide +kernel
theorem d_Ev_run_76 : decode c_Ev_run 76 = .ok (.dup, 1) := by decide +kernel
theorem d_Ev_run_77 : decode c_Ev_run 77 = .ok (.getfield 63, 3) := by decide +kernel
theorem d_Ev_run_80 : decode c_Ev_run 80 = .ok (.iconst 1, 1) := by decide +kernel
theorem d_Ev_run_81 : decode c_Ev_run 81 = .ok (.iadd, 1) := by decide +kernel
theorem d_Ev_run_82 : decode c_Ev_run 82 = .ok (.putfield 63, 3) := by decide +kernel
theorem d_Ev_run_85 : decode c_Ev_run 85 = .ok (.aload_n 0, 1) := by decide +kernel
theorem d_Ev_run_86 : decode c_Ev_run 86 = .ok (.dup, 1) := by decide +kernel
theorem d_Ev_run_87 : decode c_Ev_run 87 = .ok (.getfield 28, 3) := by decide +kernel
theorem d_Ev_run_90 : decode c_Ev_run 90 = .ok (.aload_n 0, 1) := by decide +kernel
theorem d_Ev_run_91 : decode c_Ev_run 91 = .ok (.getfield 24, 3) := by decide +kernel
theorem d_Ev_run_94 : decode c_Ev_run 94 = .ok (.iadd, 1) := by decide +kernel
theorem d_Ev_run_95 : decode c_Ev_run 95 = .ok (.putfield 28, 3) := by decide +kernel
theorem d_Ev_run_98 : decode c_Ev_run 98 = .ok (.return_, 1) := by decide +kernel
theorem d_Ev_ofExpression_0 : decode c_Ev_ofExpression 0 = .ok (.iload_n 3, 1) := by decide +kernel
theorem d_Ev_ofExpression_1 : decode c_Ev_ofExpression 1 = .ok (.iconst 5, 1) := by decide +kernel
theorem d_Ev_ofExpression_2 : decode c_Ev_ofExpression 2 = .ok (.if_icmp .le 10, 3) := by decide +kernel
theorem d_Ev_ofExpression_5 : decode c_Ev_ofExpression 5 = .ok (.aload_n 0, 1) := by decide +kernel
theorem d_Ev_ofExpression_6 : decode c_Ev_ofExpression 6 = .ok (.bipush 9, 2) := by decide +kernel
theorem d_Ev_ofExpression_8 : decode c_Ev_ofExpression 8 = .ok (.invokevirtual 66, 3) := by decide +kernel
theorem d_Ev_ofExpression_11 : decode c_Ev_ofExpression 11 = .ok (.ireturn, 1) := by decide +kernel
theorem d_Ev_ofExpression_12 : decode c_Ev_ofExpression 12 = .ok (.aload_n 0, 1) := by decide +kernel
theorem d_Ev_ofExpression_13 : decode c_Ev_ofExpression 13 = .ok (.getfield 24, 3) := by decide +kernel
theorem d_Ev_ofExpression_16 : decode c_Ev_ofExpression 16 = .ok (.sipush 2000, 3) := by decide +kernel
theorem d_Ev_ofExpression_19 : decode c_Ev_ofExpression 19 = .ok (.if_icmp .lt 10, 3) := by decide +kernel
theorem d_Ev_ofExpression_22 : decode c_Ev_ofExpression 22 = .ok (.aload_n 0, 1) := by decide +kernel
theorem d_Ev_ofExpression_23 : decode c_Ev_ofExpression 23 = .ok (.bipush 10, 2) := by decide +kernel
theorem d_Ev_ofExpression_25 : decode c_Ev_ofExpression 25 = .ok (.invokevirtual 66, 3) := by decide +kernel
theorem d_Ev_ofExpression_28 : decode c_Ev_ofExpression 28 = .ok (.ireturn, 1) := by decide +kernel
theorem d_Ev_ofExpression_29 : decode c_Ev_ofExpression 29 = .ok (.aload_n 0, 1) := by decide +kernel
theorem d_Ev_ofExpression_30 : decode c_Ev_ofExpression 30 = .ok (.dup, 1) := by decide +kernel
theorem d_Ev_ofExpression_31 : decode c_Ev_ofExpression 31 = .ok (.getfield 24, 3) := by decide +kernel
theorem d_Ev_ofExpression_34 : decode c_Ev_ofExpression 34 = .ok (.iconst 1, 1) := by decide +kernel
theorem d_Ev_ofExpression_35 : decode c_Ev_ofExpression 35 = .ok (.iadd, 1) := by decide +kernel
theorem d_Ev_ofExpression_36 : decode c_Ev_ofExpression 36 = .ok (.putfield 24, 3) := by decide +kernel
theorem d_Ev_ofExpression_39 : decode c_Ev_ofExpression 39 = .ok (.aload_n 1, 1) := by decide +kernel
theorem d_Ev_ofExpression_40 : decode c_Ev_ofExpression 40 = .ok (.getfield 40, 3) := by decide +kernel
theorem d_Ev_ofExpression_43 : decode c_Ev_ofExpression 43 = .ok (.iload_n 2, 1) := by decide +kernel
theorem d_Ev_ofExpression_44 : decode c_Ev_ofExpression 44 = .ok (.invokevirtual 70, 3) := by decide +kernel
theorem d_Ev_ofExpression_47 : decode c_Ev_ofExpression 47 = .ok (.lookupswitch 167 #[(33, 143), (35, 151), (36, 135), (38, 105), (42, 159), (43, 159), (45, 159), (47, 159), (60, 159), (61, 159), (63, 127), (126, 113)], 105) := by decide +kernel
theorem d_Ev_ofExpression_152 : decode c_Ev_ofExpression 152 = .ok (.aload_n 0, 1) := by decide +kernel
theorem d_Ev_ofExpression_153 : decode c_Ev_ofExpression 153 = .ok (.aload_n 1, 1) := by decide +kernel
theorem d_Ev_ofExpression_154 : decode c_Ev_ofExpression 154 = .ok (.iload_n 2, 1) := by decide +kernel
theorem d_Ev_ofExpression_155 : decode c_Ev_ofExpression 155 = .ok (.iload_n 3, 1) := by decide +kernel
theorem d_Ev_ofExpression_156 : decode c_Ev_ofExpression 156 = .ok (.invokevirtual 74, 3) := by decide +kernel
theorem d_Ev_ofExpression_159 : decode c_Ev_ofExpression 159 = .ok (.ireturn, 1) := by decide +kernel
theorem d_Ev_ofExpression_160 : decode c_Ev_ofExpression 160 = .ok (.iconst 1, 1) := by decide +kernel
theorem d_Ev_ofExpression_161 : decode c_Ev_ofExpression 161 = .ok (.aload_n 0, 1) := by decide +kernel
theorem d_Ev_ofExpression_162 : decode c_Ev_ofExpression 162 = .ok (.aload_n 1, 1) := by decide +kernel
theorem d_Ev_ofExpression_163 : decode c_Ev_ofExpression 163 = .ok (.iload_n 2, 1) := by decide +kernel
theorem d_Ev_ofExpression_164 : decode c_Ev_ofExpression 164 = .ok (.iconst 1, 1) := by decide +kernel
theorem d_Ev_ofExpression_165 : decode c_Ev_ofExpression 165 = .ok (.iadd, 1) := by decide +kernel
theorem d_Ev_ofExpression_166 : decode c_Ev_ofExpression 166 = .ok (.iload_n 3, 1) := by decide +kernel
theorem d_Ev_ofExpression_167 : decode c_Ev_ofExpression 167 = .ok (.iconst 1, 1) := by decide +kernel
theorem d_Ev_ofExpression_168 : decode c_Ev_ofExpression 168 = .ok (.iadd, 1) := by decide +kernel
theorem d_Ev_ofExpression_169 : decode c_Ev_ofExpression 169 = .ok (.invokevirtual 46, 3) := by decide +kernel
theorem d_Ev_ofExpression_172 : decode c_Ev_ofExpression 172 = .ok (.isub, 1) := by decide +kernel
theorem d_Ev_ofExpression_173 : decode c_Ev_ofExpression 173 = .ok (.ireturn, 1) := by decide +kernel
theorem d_Ev_ofExpression_174 : decode c_Ev_ofExpression 174 = .ok (.aload_n 0, 1) := by decide +kernel
theorem d_Ev_ofExpression_175 : decode c_Ev_ofExpression 175 = .ok (.aload_n 1, 1) := by decide +kernel
theorem d_Ev_ofExpression_176 : decode c_Ev_ofExpression 176 = .ok (.iload_n 2, 1) := by decide +kernel
theorem d_Ev_ofExpression_177 : decode c_Ev_ofExpression 177 = .ok (.iload_n 3, 1) := by decide +kernel
theorem d_Ev_ofExpression_178 : decode c_Ev_ofExpression 178 = .ok (.invokevirtual 77, 3) := by decide +kernel
theorem d_Ev_ofExpression_181 : decode c_Ev_ofExpression 181 = .ok (.ireturn, 1) := by decide +kernel
theorem d_Ev_ofExpression_182 : decode c_Ev_ofExpression 182 = .ok (.aload_n 0, 1) := by decide +kernel
theorem d_Ev_ofExpression_183 : decode c_Ev_ofExpression 183 = .ok (.aload_n 1, 1) := by decide +kernel
theorem d_Ev_ofExpression_184 : decode c_Ev_ofExpression 184 = .ok (.iload_n 2, 1) := by decide +kernel
theorem d_Ev_ofExpression_185 : decode c_Ev_ofExpression 185 = .ok (.iload_n 3, 1) := by decide +kernel
theorem d_Ev_ofExpression_186 : decode c_Ev_ofExpression 186 = .ok (.invokevirtual 80, 3) := by decide +kernel
theorem d_Ev_ofExpression_189 : decode c_Ev_ofExpression 189 = .ok (.ireturn, 1) := by decide +kernel
theorem d_Ev_ofExpression_190 : decode c_Ev_ofExpression 190 = .ok (.aload_n 0, 1) := by decide +kernel
theorem d_Ev_ofExpression_191 : decode c_Ev_ofExpression 191 = .ok (.aload_n 1, 1) := by decide +kernel
theorem d_Ev_ofExpression_192 : decode c_Ev_ofExpression 192 = .ok (.iload_n 2, 1) := by decide +kernel
theorem d_Ev_ofExpression_193 : decode c_Ev_ofExpression 193 = .ok (.iload_n 3, 1) := by decide +kernel
theorem d_Ev_ofExpression_194 : decode c_Ev_ofExpression 194 = .ok (.invokevirtual 83, 3) := by decide +kernel
theorem d_Ev_ofExpression_197 : decode c_Ev_ofExpression 197 = .ok (.ireturn, 1) := by decide +kernel
theorem d_Ev_ofExpression_198 : decode c_Ev_ofExpression 198 = .ok (.aload_n 0, 1) := by decide +kernel
theorem d_Ev_ofExpression_199 : decode c_Ev_ofExpression 199 = .ok (.aload_n 1, 1) := by decide +kernel
theorem d_Ev_ofExpression_200 : decode c_Ev_ofExpression 200 = .ok (.iload_n 2, 1) := by decide +kernel
theorem d_Ev_ofExpression_201 : decode c_Ev_ofExpression 201 = .ok (.iload_n 3, 1) := by decide +kernel
theorem d_Ev_ofExpression_202 : decode c_Ev_ofExpression 202 = .ok (.invokevirtual 86, 3) := by decide +kernel
theorem d_Ev_ofExpression_205 : decode c_Ev_ofExpression 205 = .ok (.ireturn, 1) := by decide +kernel
theorem d_Ev_ofExpression_206 : decode c_Ev_ofExpression 206 = .ok (.aload_n 0, 1) := by decide +kernel
theorem d_Ev_ofExpression_207 : decode c_Ev_ofExpression 207 = .ok (.aload_n 1, 1) := by decide +kernel
theorem d_Ev_ofExpression_208 : decode c_Ev_ofExpression 208 = .ok (.iload_n 2, 1) := by decide +kernel
theorem d_Ev_ofExpression_209 : decode c_Ev_ofExpression 209 = .ok (.iload_n 3, 1) := by decide +kernel
theorem d_Ev_ofExpression_210 : decode c_Ev_ofExpression 210 = .ok (.invokevirtual 89, 3) := by decide +kernel
theorem d_Ev_ofExpression_213 : decode c_Ev_ofExpression 213 = .ok (.ireturn, 1) := by decide +kernel
theorem d_Ev_ofExpression_214 : decode c_Ev_ofExpression 214 = .ok (.aload_n 0, 1) := by decide +kernel
theorem d_Ev_ofExpression_215 : decode c_Ev_ofExpression 215 = .ok (.aload_n 1, 1) := by decide +kernel
theorem d_Ev_ofExpression_216 : decode c_Ev_ofExpression 216 = .ok (.iload_n 2, 1) := by decide +kernel
theorem d_Ev_ofExpression_217 : decode c_Ev_ofExpression 217 = .ok (.invokevirtual 92, 3) := by decide +kernel
theorem d_Ev_ofExpression_220 : decode c_Ev_ofExpression 220 = .ok (.ireturn, 1) := by decide +kernel
theorem d_Ev_fail_0 : decode c_Ev_fail 0 = .ok (.aload_n 0, 1) := by decide +kernel
theorem d_Ev_fail_1 : decode c_Ev_fail 1 = .ok (.iload_n 1, 1) := by decide +kernel
theorem d_Ev_fail_2 : decode c_Ev_fail 2 = .ok (.putfield 31, 3) := by decide +kernel
theorem d_Ev_fail_5 : decode c_Ev_fail 5 = .ok (.iconst 0, 1) := by decide +kernel
theorem d_Ev_fail_6 : decode c_Ev_fail 6 = .ok (.ireturn, 1) := by decide +kernel
theorem d_Ev_ofBoth_0 : decode c_Ev_ofBoth 0 = .ok (.aload_n 0, 1) := by decide +kernel
theorem d_Ev_ofBoth_1 : decode c_Ev_ofBoth 1 = .ok (.aload_n 1, 1) := by decide +kernel
theorem d_Ev_ofBoth_2 : decode c_Ev_ofBoth 2 = .ok (.iload_n 2, 1) := by decide +kernel
theorem d_Ev_ofBoth_3 : decode c_Ev_ofBoth 3 = .ok (.iconst 1, 1) := by decide +kernel
theorem d_Ev_ofBoth_4 : decode c_Ev_ofBoth 4 = .ok (.iadd, 1) := by decide +kernel
theorem d_Ev_ofBoth_5 : decode c_Ev_ofBoth 5 = .ok (.iload_n 3, 1) := by decide +kernel
theorem d_Ev_ofBoth_6 : decode c_Ev_ofBoth 6 = .ok (.iconst 1, 1) := by decide +kernel
theorem d_Ev_ofBoth_7 : decode c_Ev_ofBoth 7 = .ok (.iadd, 1) := by decide +kernel
theorem d_Ev_ofBoth_8 : decode c_Ev_ofBoth 8 = .ok (.invokevirtual 46, 3) := by decide +kernel
theorem d_Ev_ofBoth_11 : decode c_Ev_ofBoth 11 = .ok (.istore 4, 2) := by decide +kernel
theorem d_Ev_ofBoth_13 : decode c_Ev_ofBoth 13 = .ok (.aload_n 0, 1) := by decide +kernel
theorem d_Ev_ofBoth_14 : decode c_Ev_ofBoth 14 = .ok (.invokevirtual 56, 3) := by decide +kernel
theorem d_Ev_ofBoth_17 : decode c_Ev_ofBoth 17 = .ok (.ifCond .ne 8, 3) := by decide +kernel
theorem d_Ev_ofBoth_20 : decode c_Ev_ofBoth 20 = .ok (.iload 4, 2) := by decide +kernel
theorem d_Ev_ofBoth_22 : decode c_Ev_ofBoth 22 = .ok (.ifCond .ne 5, 3) := by decide +kernel
theorem d_Ev_ofBoth_25 : decode c_Ev_ofBoth 25 = .ok (.iconst 0, 1) := by decide +kernel
theorem d_Ev_ofBoth_26 : decode c_Ev_ofBoth 26 = .ok (.ireturn, 1) := by decide +kernel
theorem d_Ev_ofBoth_27 : decode c_Ev_ofBoth 27 = .ok (.aload_n 0, 1) := by decide +kernel
theorem d_Ev_ofBoth_28 : decode c_Ev_ofBoth 28 = .ok (.aload_n 1, 1) := by decide +kernel
theorem d_Ev_ofBoth_29 : decode c_Ev_ofBoth 29 = .ok (.aload_n 1, 1) := by decide +kernel
theorem d_Ev_ofBoth_30 : decode c_Ev_ofBoth 30 = .ok (.getfield 40, 3) := by decide +kernel
theorem d_Ev_ofBoth_33 : decode c_Ev_ofBoth 33 = .ok (.iload_n 2, 1) := by decide +kernel
theorem d_Ev_ofBoth_34 : decode c_Ev_ofBoth 34 = .ok (.iconst 1, 1) := by decide +kernel
theorem d_Ev_ofBoth_35 : decode c_Ev_ofBoth 35 = .ok (.iadd, 1) := by decide +kernel
theorem d_Ev_ofBoth_36 : decode c_Ev_ofBoth 36 = .ok (.invokevirtual 111, 3) := by decide +kernel
theorem d_Ev_ofBoth_39 : decode c_Ev_ofBoth 39 = .ok (.iload_n 3, 1) := by decide +kernel
theorem d_Ev_ofBoth_40 : decode c_Ev_ofBoth 40 = .ok (.iconst 1, 1) := by decide +kernel
theorem d_Ev_ofBoth_41 : decode c_Ev_ofBoth 41 = .ok (.iadd, 1) := by decide +kernel
theorem d_Ev_ofBoth_42 : decode c_Ev_ofBoth 42 = .ok (.invokevirtual 46, 3) := by decide +kernel
theorem d_Ev_ofBoth_45 : decode c_Ev_ofBoth 45 = .ok (.ireturn, 1) := by decide +kernel
theorem d_Ev_hasFailed_0 : decode c_Ev_hasFailed 0 = .ok (.aload_n 0, 1) := by decide +kernel
theorem d_Ev_hasFailed_1 : decode c_Ev_hasFailed 1 = .ok (.getfield 31, 3) := by decide +kernel
theorem d_Ev_hasFailed_4 : decode c_Ev_hasFailed 4 = .ok (.ifCond .eq 7, 3) := by decide +kernel
theorem d_Ev_hasFailed_7 : decode c_Ev_hasFailed 7 = .ok (.iconst 1, 1) := by decide +kernel
theorem d_Ev_hasFailed_8 : decode c_Ev_hasFailed 8 = .ok (.goto 4, 3) := by decide +kernel
theorem d_Ev_hasFailed_11 : decode c_Ev_hasFailed 11 = .ok (.iconst 0, 1) := by decide +kernel
theorem d_Ev_hasFailed_12 : decode c_Ev_hasFailed 12 = .ok (.ireturn, 1) := by decide +kernel
theorem d_Ev_ofChoice_0 : decode c_Ev_ofChoice 0 = .ok (.aload_n 0, 1) := by decide +kernel
theorem d_Ev_ofChoice_1 : decode c_Ev_ofChoice 1 = .ok (.aload_n 1, 1) := by decide +kernel
theorem d_Ev_ofChoice_2 : decode c_Ev_ofChoice 2 = .ok (.iload_n 2, 1) := by decide +kernel
theorem d_Ev_ofChoice_3 : decode c_Ev_ofChoice 3 = .ok (.iconst 1, 1) := by decide +kernel
theorem d_Ev_ofChoice_4 : decode c_Ev_ofChoice 4 = .ok (.iadd, 1) := by decide +kernel
theorem d_Ev_ofChoice_5 : decode c_Ev_ofChoice 5 = .ok (.iload_n 3, 1) := by decide +kernel
theorem d_Ev_ofChoice_6 : decode c_Ev_ofChoice 6 = .ok (.iconst 1, 1) := by decide +kernel
theorem d_Ev_ofChoice_7 : decode c_Ev_ofChoice 7 = .ok (.iadd, 1) := by decide +kernel
theorem d_Ev_ofChoice_8 : decode c_Ev_ofChoice 8 = .ok (.invokevirtual 46, 3) := by decide +kernel
theorem d_Ev_ofChoice_11 : decode c_Ev_ofChoice 11 = .ok (.istore 4, 2) := by decide +kernel
theorem d_Ev_ofChoice_13 : decode c_Ev_ofChoice 13 = .ok (.aload_n 0, 1) := by decide +kernel
theorem d_Ev_ofChoice_14 : decode c_Ev_ofChoice 14 = .ok (.invokevirtual 56, 3) := by decide +kernel
theorem d_Ev_ofChoice_17 : decode c_Ev_ofChoice 17 = .ok (.ifCond .eq 5, 3) := by decide +kernel
theorem d_Ev_ofChoice_20 : decode c_Ev_ofChoice 20 = .ok (.iconst 0, 1) := by decide +kernel
theorem d_Ev_ofChoice_21 : decode c_Ev_ofChoice 21 = .ok (.ireturn, 1) := by decide +kernel
theorem d_Ev_ofChoice_22 : decode c_Ev_ofChoice 22 = .ok (.aload_n 1, 1) := by decide +kernel
theorem d_Ev_ofChoice_23 : decode c_Ev_ofChoice 23 = .ok (.getfield 40, 3) := by decide +kernel
theorem d_Ev_ofChoice_26 : decode c_Ev_ofChoice 26 = .ok (.iload_n 2, 1) := by decide +kernel
theorem d_Ev_ofChoice_27 : decode c_Ev_ofChoice 27 = .ok (.iconst 1, 1) := by decide +kernel
theorem d_Ev_ofChoice_28 : decode c_Ev_ofChoice 28 = .ok (.iadd, 1) := by decide +kernel
theorem d_Ev_ofChoice_29 : decode c_Ev_ofChoice 29 = .ok (.invokevirtual 111, 3) := by decide +kernel
theorem d_Ev_ofChoice_32 : decode c_Ev_ofChoice 32 = .ok (.istore 5, 2) := by decide +kernel
theorem d_Ev_ofChoice_34 : decode c_Ev_ofChoice 34 = .ok (.aload_n 0, 1) := by decide +kernel
theorem d_Ev_ofChoice_35 : decode c_Ev_ofChoice 35 = .ok (.aload_n 1, 1) := by decide +kernel
theorem d_Ev_ofChoice_36 : decode c_Ev_ofChoice 36 = .ok (.iload 4, 2) := by decide +kernel
theorem d_Ev_ofChoice_38 : decode c_Ev_ofChoice 38 = .ok (.iconst 1, 1) := by decide +kernel
theorem d_Ev_ofChoice_39 : decode c_Ev_ofChoice 39 = .ok (.if_icmp .ne 8, 3) := by decide +kernel
theorem d_Ev_ofChoice_42 : decode c_Ev_ofChoice 42 = .ok (.iload 5, 2) := by decide +kernel
theorem d_Ev_ofChoice_44 : decode c_Ev_ofChoice 44 = .ok (.goto 12, 3) := by decide +kernel
theorem d_Ev_ofChoice_47 : decode c_Ev_ofChoice 47 = .ok (.aload_n 1, 1) := by decide +kernel
theorem d_Ev_ofChoice_48 : decode c_Ev_ofChoice 48 = .ok (.getfield 40, 3) := by decide +kernel
theorem d_Ev_ofChoice_51 : decode c_Ev_ofChoice 51 = .ok (.iload 5, 2) := by decide +kernel
theorem d_Ev_ofChoice_53 : decode c_Ev_ofChoice 53 = .ok (.invokevirtual 111, 3) := by decide +kernel
theorem d_Ev_ofChoice_56 : decode c_Ev_ofChoice 56 = .ok (.iload_n 3, 1) := by decide +kernel
theorem d_Ev_ofChoice_57 : decode c_Ev_ofChoice 57 = .ok (.iconst 1, 1) := by decide +kernel
theorem d_Ev_ofChoice_58 : decode c_Ev_ofChoice 58 = .ok (.iadd, 1) := by decide +kernel
theorem d_Ev_ofChoice_59 : decode c_Ev_ofChoice 59 = .ok (.invokevirtual 46, 3) := by decide +kernel
theorem d_Ev_ofChoice_62 : decode c_Ev_ofChoice 62 = .ok (.ireturn, 1) := by decide +kernel
theorem d_Ev_ofBinding_0 : decode c_Ev_ofBinding 0 = .ok (.aload_n 0, 1) := by decide +kernel
theorem d_Ev_ofBinding_1 : decode c_Ev_ofBinding 1 = .ok (.aload_n 1, 1) := by decide +kernel
theorem d_Ev_ofBinding_2 : decode c_Ev_ofBinding 2 = .ok (.iload_n 2, 1) := by decide +kernel
theorem d_Ev_ofBinding_3 : decode c_Ev_ofBinding 3 = .ok (.iconst 2, 1) := by decide +kernel
theorem d_Ev_ofBinding_4 : decode c_Ev_ofBinding 4 = .ok (.iadd, 1) := by decide +kernel
theorem d_Ev_ofBinding_5 : decode c_Ev_ofBinding 5 = .ok (.iload_n 3, 1) := by decide +kernel
theorem d_Ev_ofBinding_6 : decode c_Ev_ofBinding 6 = .ok (.iconst 1, 1) := by decide +kernel
theorem d_Ev_ofBinding_7 : decode c_Ev_ofBinding 7 = .ok (.iadd, 1) := by decide +kernel
theorem d_Ev_ofBinding_8 : decode c_Ev_ofBinding 8 = .ok (.invokevirtual 46, 3) := by decide +kernel
theorem d_Ev_ofBinding_11 : decode c_Ev_ofBinding 11 = .ok (.istore 4, 2) := by decide +kernel
theorem d_Ev_ofBinding_13 : decode c_Ev_ofBinding 13 = .ok (.aload_n 0, 1) := by decide +kernel
theorem d_Ev_ofBinding_14 : decode c_Ev_ofBinding 14 = .ok (.invokevirtual 56, 3) := by decide +kernel
theorem d_Ev_ofBinding_17 : decode c_Ev_ofBinding 17 = .ok (.ifCond .eq 5, 3) := by decide +kernel
theorem d_Ev_ofBinding_20 : decode c_Ev_ofBinding 20 = .ok (.iconst 0, 1) := by decide +kernel
theorem d_Ev_ofBinding_21 : decode c_Ev_ofBinding 21 = .ok (.ireturn, 1) := by decide +kernel
theorem d_Ev_ofBinding_22 : decode c_Ev_ofBinding 22 = .ok (.aload_n 1, 1) := by decide +kernel
theorem d_Ev_ofBinding_23 : decode c_Ev_ofBinding 23 = .ok (.getfield 40, 3) := by decide +kernel
theorem d_Ev_ofBinding_26 : decode c_Ev_ofBinding 26 = .ok (.iload_n 2, 1) := by decide +kernel
theorem d_Ev_ofBinding_27 : decode c_Ev_ofBinding 27 = .ok (.iconst 1, 1) := by decide +kernel
theorem d_Ev_ofBinding_28 : decode c_Ev_ofBinding 28 = .ok (.iadd, 1) := by decide +kernel
theorem d_Ev_ofBinding_29 : decode c_Ev_ofBinding 29 = .ok (.invokevirtual 118, 3) := by decide +kernel
theorem d_Ev_ofBinding_32 : decode c_Ev_ofBinding 32 = .ok (.istore 5, 2) := by decide +kernel
theorem d_Ev_ofBinding_34 : decode c_Ev_ofBinding 34 = .ok (.aload_n 1, 1) := by decide +kernel
theorem d_Ev_ofBinding_35 : decode c_Ev_ofBinding 35 = .ok (.getfield 100, 3) := by decide +kernel
theorem d_Ev_ofBinding_38 : decode c_Ev_ofBinding 38 = .ok (.iload 5, 2) := by decide +kernel
theorem d_Ev_ofBinding_40 : decode c_Ev_ofBinding 40 = .ok (.iaload, 1) := by decide +kernel
theorem d_Ev_ofBinding_41 : decode c_Ev_ofBinding 41 = .ok (.istore 6, 2) := by decide +kernel
theorem d_Ev_ofBinding_43 : decode c_Ev_ofBinding 43 = .ok (.aload_n 1, 1) := by decide +kernel
theorem d_Ev_ofBinding_44 : decode c_Ev_ofBinding 44 = .ok (.getfield 100, 3) := by decide +kernel
theorem d_Ev_ofBinding_47 : decode c_Ev_ofBinding 47 = .ok (.iload 5, 2) := by decide +kernel
theorem d_Ev_ofBinding_49 : decode c_Ev_ofBinding 49 = .ok (.iload 4, 2) := by decide +kernel
theorem d_Ev_ofBinding_51 : decode c_Ev_ofBinding 51 = .ok (.iastore, 1) := by decide +kernel
theorem d_Ev_ofBinding_52 : decode c_Ev_ofBinding 52 = .ok (.aload_n 0, 1) := by decide +kernel
theorem d_Ev_ofBinding_53 : decode c_Ev_ofBinding 53 = .ok (.aload_n 1, 1) := by decide +kernel
theorem d_Ev_ofBinding_54 : decode c_Ev_ofBinding 54 = .ok (.aload_n 1, 1) := by decide +kernel
theorem d_Ev_ofBinding_55 : decode c_Ev_ofBinding 55 = .ok (.getfield 40, 3) := by decide +kernel
theorem d_Ev_ofBinding_58 : decode c_Ev_ofBinding 58 = .ok (.iload_n 2, 1) := by decide +kernel
theorem d_Ev_ofBinding_59 : decode c_Ev_ofBinding 59 = .ok (.iconst 2, 1) := by decide +kernel
theorem d_Ev_ofBinding_60 : decode c_Ev_ofBinding 60 = .ok (.iadd, 1) := by decide +kernel
theorem d_Ev_ofBinding_61 : decode c_Ev_ofBinding 61 = .ok (.invokevirtual 111, 3) := by decide +kernel
theorem d_Ev_ofBinding_64 : decode c_Ev_ofBinding 64 = .ok (.iload_n 3, 1) := by decide +kernel
theorem d_Ev_ofBinding_65 : decode c_Ev_ofBinding 65 = .ok (.iconst 1, 1) := by decide +kernel
theorem d_Ev_ofBinding_66 : decode c_Ev_ofBinding 66 = .ok (.iadd, 1) := by decide +kernel
theorem d_Ev_ofBinding_67 : decode c_Ev_ofBinding 67 = .ok (.invokevirtual 46, 3) := by decide +kernel
theorem d_Ev_ofBinding_70 : decode c_Ev_ofBinding 70 = .ok (.istore 7, 2) := by decide +kernel
theorem d_Ev_ofBinding_72 : decode c_Ev_ofBinding 72 = .ok (.aload_n 1, 1) := by decide +kernel
theorem d_Ev_ofBinding_73 : decode c_Ev_ofBinding 73 = .ok (.getfield 100, 3) := by decide +kernel
theorem d_Ev_ofBinding_76 : decode c_Ev_ofBinding 76 = .ok (.iload 5, 2) := by decide +kernel
theorem d_Ev_ofBinding_78 : decode c_Ev_ofBinding 78 = .ok (.iload 6, 2) := by decide +kernel
theorem d_Ev_ofBinding_80 : decode c_Ev_ofBinding 80 = .ok (.iastore, 1) := by decide +kernel
theorem d_Ev_ofBinding_81 : decode c_Ev_ofBinding 81 = .ok (.iload 7, 2) := by decide +kernel
theorem d_Ev_ofBinding_83 : decode c_Ev_ofBinding 83 = .ok (.ireturn, 1) := by decide +kernel
theorem d_Ev_ofCall_0 : decode c_Ev_ofCall 0 = .ok (.aload_n 0, 1) := by decide +kernel
theorem d_Ev_ofCall_1 : decode c_Ev_ofCall 1 = .ok (.aload_n 1, 1) := by decide +kernel
theorem d_Ev_ofCall_2 : decode c_Ev_ofCall 2 = .ok (.iload_n 2, 1) := by decide +kernel
theorem d_Ev_ofCall_3 : decode c_Ev_ofCall 3 = .ok (.iconst 2, 1) := by decide +kernel
theorem d_Ev_ofCall_4 : decode c_Ev_ofCall 4 = .ok (.iadd, 1) := by decide +kernel
theorem d_Ev_ofCall_5 : decode c_Ev_ofCall 5 = .ok (.iload_n 3, 1) := by decide +kernel
theorem d_Ev_ofCall_6 : decode c_Ev_ofCall 6 = .ok (.iconst 1, 1) := by decide +kernel
theorem d_Ev_ofCall_7 : decode c_Ev_ofCall 7 = .ok (.iadd, 1) := by decide +kernel
theorem d_Ev_ofCall_8 : decode c_Ev_ofCall 8 = .ok (.invokevirtual 46, 3) := by decide +kernel
theorem d_Ev_ofCall_11 : decode c_Ev_ofCall 11 = .ok (.istore 4, 2) := by decide +kernel
theorem d_Ev_ofCall_13 : decode c_Ev_ofCall 13 = .ok (.aload_n 0, 1) := by decide +kernel
theorem d_Ev_ofCall_14 : decode c_Ev_ofCall 14 = .ok (.invokevirtual 56, 3) := by decide +kernel
theorem d_Ev_ofCall_17 : decode c_Ev_ofCall 17 = .ok (.ifCond .eq 5, 3) := by decide +kernel
theorem d_Ev_ofCall_20 : decode c_Ev_ofCall 20 = .ok (.iconst 0, 1) := by decide +kernel
theorem d_Ev_ofCall_21 : decode c_Ev_ofCall 21 = .ok (.ireturn, 1) := by decide +kernel
theorem d_Ev_ofCall_22 : decode c_Ev_ofCall 22 = .ok (.aload_n 1, 1) := by decide +kernel
theorem d_Ev_ofCall_23 : decode c_Ev_ofCall 23 = .ok (.getfield 121, 3) := by decide +kernel
theorem d_Ev_ofCall_26 : decode c_Ev_ofCall 26 = .ok (.iconst 5, 1) := by decide +kernel
theorem d_Ev_ofCall_27 : decode c_Ev_ofCall 27 = .ok (.if_icmp .lt 10, 3) := by decide +kernel
theorem d_Ev_ofCall_30 : decode c_Ev_ofCall 30 = .ok (.aload_n 0, 1) := by decide +kernel
theorem d_Ev_ofCall_31 : decode c_Ev_ofCall 31 = .ok (.bipush 9, 2) := by decide +kernel
theorem d_Ev_ofCall_33 : decode c_Ev_ofCall 33 = .ok (.invokevirtual 66, 3) := by decide +kernel
theorem d_Ev_ofCall_36 : decode c_Ev_ofCall 36 = .ok (.ireturn, 1) := by decide +kernel
theorem d_Ev_ofCall_37 : decode c_Ev_ofCall 37 = .ok (.aload_n 0, 1) := by decide +kernel
theorem d_Ev_ofCall_38 : decode c_Ev_ofCall 38 = .ok (.getfield 20, 3) := by decide +kernel
theorem d_Ev_ofCall_41 : decode c_Ev_ofCall 41 = .ok (.aload_n 1, 1) := by decide +kernel
theorem d_Ev_ofCall_42 : decode c_Ev_ofCall 42 = .ok (.getfield 40, 3) := by decide +kernel
theorem d_Ev_ofCall_45 : decode c_Ev_ofCall 45 = .ok (.iload_n 2, 1) := by decide +kernel
theorem d_Ev_ofCall_46 : decode c_Ev_ofCall 46 = .ok (.iconst 1, 1) := by decide +kernel
theorem d_Ev_ofCall_47 : decode c_Ev_ofCall 47 = .ok (.iadd, 1) := by decide +kernel
theorem d_Ev_ofCall_48 : decode c_Ev_ofCall 48 = .ok (.invokevirtual 70, 3) := by decide +kernel
theorem d_Ev_ofCall_51 : decode c_Ev_ofCall 51 = .ok (.invokestatic 107, 3) := by decide +kernel
theorem d_Ev_ofCall_54 : decode c_Ev_ofCall 54 = .ok (.astore 5, 2) := by decide +kernel
theorem d_Ev_ofCall_56 : decode c_Ev_ofCall 56 = .ok (.aload 5, 2) := by decide +kernel
theorem d_Ev_ofCall_58 : decode c_Ev_ofCall 58 = .ok (.ifnonnull 5, 3) := by decide +kernel
theorem d_Ev_ofCall_61 : decode c_Ev_ofCall 61 = .ok (.iconst 0, 1) := by decide +kernel
theorem d_Ev_ofCall_62 : decode c_Ev_ofCall 62 = .ok (.ireturn, 1) := by decide +kernel
theorem d_Ev_ofCall_63 : decode c_Ev_ofCall 63 = .ok (.aload_n 0, 1) := by decide +kernel
theorem d_Ev_ofCall_64 : decode c_Ev_ofCall 64 = .ok (.getfield 11, 3) := by decide +kernel
theorem d_Ev_ofCall_67 : decode c_Ev_ofCall 67 = .ok (.aload_n 1, 1) := by decide +kernel
theorem d_Ev_ofCall_68 : decode c_Ev_ofCall 68 = .ok (.getfield 121, 3) := by decide +kernel
theorem d_Ev_ofCall_71 : decode c_Ev_ofCall 71 = .ok (.iconst 1, 1) := by decide +kernel
theorem d_Ev_ofCall_72 : decode c_Ev_ofCall 72 = .ok (.iadd, 1) := by decide +kernel
theorem d_Ev_ofCall_73 : decode c_Ev_ofCall 73 = .ok (.aaload, 1) := by decide +kernel
theorem d_Ev_ofCall_74 : decode c_Ev_ofCall 74 = .ok (.astore 6, 2) := by decide +kernel
theorem d_Ev_ofCall_76 : decode c_Ev_ofCall 76 = .ok (.aload 6, 2) := by decide +kernel
theorem d_Ev_ofCall_78 : decode c_Ev_ofCall 78 = .ok (.aload 5, 2) := by decide +kernel
theorem d_Ev_ofCall_80 : decode c_Ev_ofCall 80 = .ok (.getfield 34, 3) := by decide +kernel
theorem d_Ev_ofCall_83 : decode c_Ev_ofCall 83 = .ok (.putfield 40, 3) := by decide +kernel
theorem d_Ev_ofCall_86 : decode c_Ev_ofCall 86 = .ok (.aload 6, 2) := by decide +kernel
theorem d_Ev_ofCall_88 : decode c_Ev_ofCall 88 = .ok (.getfield 100, 3) := by decide +kernel
theorem d_Ev_ofCall_91 : decode c_Ev_ofCall 91 = .ok (.aload 5, 2) := by decide +kernel
theorem d_Ev_ofCall_93 : decode c_Ev_ofCall 93 = .ok (.getfield 34, 3) := by decide +kernel
theorem d_Ev_ofCall_96 : decode c_Ev_ofCall 96 = .ok (.iconst 1, 1) := by decide +kernel
theorem d_Ev_ofCall_97 : decode c_Ev_ofCall 97 = .ok (.invokevirtual 118, 3) := by decide +kernel
theorem d_Ev_ofCall_100 : decode c_Ev_ofCall 100 = .ok (.iload 4, 2) := by decide +kernel
theorem d_Ev_ofCall_102 : decode c_Ev_ofCall 102 = .ok (.iastore, 1) := by decide +kernel
theorem d_Ev_ofCall_103 : decode c_Ev_ofCall 103 = .ok (.aload_n 0, 1) := by decide +kernel
theorem d_Ev_ofCall_104 : decode c_Ev_ofCall 104 = .ok (.aload 6, 2) := by decide +kernel
theorem d_Ev_ofCall_106 : decode c_Ev_ofCall 106 = .ok (.aload 5, 2) := by decide +kernel
theorem d_Ev_ofCall_108 : decode c_Ev_ofCall 108 = .ok (.getfield 34, 3) := by decide +kernel
theorem d_Ev_ofCall_111 : decode c_Ev_ofCall 111 = .ok (.getfield 41, 3) := by decide +kernel
theorem d_Ev_ofCall_114 : decode c_Ev_ofCall 114 = .ok (.iconst 0, 1) := by decide +kernel
theorem d_Ev_ofCall_115 : decode c_Ev_ofCall 115 = .ok (.invokevirtual 46, 3) := by decide +kernel
theorem d_Ev_ofCall_118 : decode c_Ev_ofCall 118 = .ok (.ireturn, 1) := by decide +kernel
theorem d_Ev_ofMatch_0 : decode c_Ev_ofMatch 0 = .ok (.aload_n 0, 1) := by decide +kernel
theorem d_Ev_ofMatch_1 : decode c_Ev_ofMatch 1 = .ok (.aload_n 1, 1) := by decide +kernel
theorem d_Ev_ofMatch_2 : decode c_Ev_ofMatch 2 = .ok (.iload_n 2, 1) := by decide +kernel
theorem d_Ev_ofMatch_3 : decode c_Ev_ofMatch 3 = .ok (.iconst 1, 1) := by decide +kernel
theorem d_Ev_ofMatch_4 : decode c_Ev_ofMatch 4 = .ok (.iadd, 1) := by decide +kernel
theorem d_Ev_ofMatch_5 : decode c_Ev_ofMatch 5 = .ok (.iload_n 3, 1) := by decide +kernel
theorem d_Ev_ofMatch_6 : decode c_Ev_ofMatch 6 = .ok (.iconst 1, 1) := by decide +kernel
theorem d_Ev_ofMatch_7 : decode c_Ev_ofMatch 7 = .ok (.iadd, 1) := by decide +kernel
theorem d_Ev_ofMatch_8 : decode c_Ev_ofMatch 8 = .ok (.invokevirtual 46, 3) := by decide +kernel
theorem d_Ev_ofMatch_11 : decode c_Ev_ofMatch 11 = .ok (.istore 4, 2) := by decide +kernel
theorem d_Ev_ofMatch_13 : decode c_Ev_ofMatch 13 = .ok (.aload_n 0, 1) := by decide +kernel
theorem d_Ev_ofMatch_14 : decode c_Ev_ofMatch 14 = .ok (.invokevirtual 56, 3) := by decide +kernel
theorem d_Ev_ofMatch_17 : decode c_Ev_ofMatch 17 = .ok (.ifCond .eq 5, 3) := by decide +kernel
theorem d_Ev_ofMatch_20 : decode c_Ev_ofMatch 20 = .ok (.iconst 0, 1) := by decide +kernel
theorem d_Ev_ofMatch_21 : decode c_Ev_ofMatch 21 = .ok (.ireturn, 1) := by decide +kernel
theorem d_Ev_ofMatch_22 : decode c_Ev_ofMatch 22 = .ok (.aload_n 1, 1) := by decide +kernel
theorem d_Ev_ofMatch_23 : decode c_Ev_ofMatch 23 = .ok (.getfield 40, 3) := by decide +kernel
theorem d_Ev_ofMatch_26 : decode c_Ev_ofMatch 26 = .ok (.iload_n 2, 1) := by decide +kernel
theorem d_Ev_ofMatch_27 : decode c_Ev_ofMatch 27 = .ok (.iconst 1, 1) := by decide +kernel
theorem d_Ev_ofMatch_28 : decode c_Ev_ofMatch 28 = .ok (.iadd, 1) := by decide +kernel
theorem d_Ev_ofMatch_29 : decode c_Ev_ofMatch 29 = .ok (.invokevirtual 111, 3) := by decide +kernel
theorem d_Ev_ofMatch_32 : decode c_Ev_ofMatch 32 = .ok (.istore 5, 2) := by decide +kernel
theorem d_Ev_ofMatch_34 : decode c_Ev_ofMatch 34 = .ok (.iconst 0, 1) := by decide +kernel
theorem d_Ev_ofMatch_35 : decode c_Ev_ofMatch 35 = .ok (.istore 6, 2) := by decide +kernel
theorem d_Ev_ofMatch_37 : decode c_Ev_ofMatch 37 = .ok (.iload 6, 2) := by decide +kernel
theorem d_Ev_ofMatch_39 : decode c_Ev_ofMatch 39 = .ok (.iconst 2, 1) := by decide +kernel
theorem d_Ev_ofMatch_40 : decode c_Ev_ofMatch 40 = .ok (.if_icmp .ge 52, 3) := by decide +kernel
theorem d_Ev_ofMatch_43 : decode c_Ev_ofMatch 43 = .ok (.aload_n 1, 1) := by decide +kernel
theorem d_Ev_ofMatch_44 : decode c_Ev_ofMatch 44 = .ok (.getfield 40, 3) := by decide +kernel
theorem d_Ev_ofMatch_47 : decode c_Ev_ofMatch 47 = .ok (.iload 5, 2) := by decide +kernel
theorem d_Ev_ofMatch_49 : decode c_Ev_ofMatch 49 = .ok (.invokevirtual 70, 3) := by decide +kernel
theorem d_Ev_ofMatch_52 : decode c_Ev_ofMatch 52 = .ok (.bipush 48, 2) := by decide +kernel
theorem d_Ev_ofMatch_54 : decode c_Ev_ofMatch 54 = .ok (.isub, 1) := by decide +kernel
theorem d_Ev_ofMatch_55 : decode c_Ev_ofMatch 55 = .ok (.iload 4, 2) := by decide +kernel
theorem d_Ev_ofMatch_57 : decode c_Ev_ofMatch 57 = .ok (.if_icmp .ne 16, 3) := by decide +kernel
theorem d_Ev_ofMatch_60 : decode c_Ev_ofMatch 60 = .ok (.aload_n 0, 1) := by decide +kernel
theorem d_Ev_ofMatch_61 : decode c_Ev_ofMatch 61 = .ok (.aload_n 1, 1) := by decide +kernel
theorem d_Ev_ofMatch_62 : decode c_Ev_ofMatch 62 = .ok (.iload 5, 2) := by decide +kernel
theorem d_Ev_ofMatch_64 : decode c_Ev_ofMatch 64 = .ok (.iconst 1, 1) := by decide +kernel
theorem d_Ev_ofMatch_65 : decode c_Ev_ofMatch 65 = .ok (.iadd, 1) := by decide +kernel
theorem d_Ev_ofMatch_66 : decode c_Ev_ofMatch 66 = .ok (.iload_n 3, 1) := by decide +kernel
theorem d_Ev_ofMatch_67 : decode c_Ev_ofMatch 67 = .ok (.iconst 1, 1) := by decide +kernel
theorem d_Ev_ofMatch_68 : decode c_Ev_ofMatch 68 = .ok (.iadd, 1) := by decide +kernel
theorem d_Ev_ofMatch_69 : decode c_Ev_ofMatch 69 = .ok (.invokevirtual 46, 3) := by decide +kernel
theorem d_Ev_ofMatch_72 : decode c_Ev_ofMatch 72 = .ok (.ireturn, 1) := by decide +kernel
theorem d_Ev_ofMatch_73 : decode c_Ev_ofMatch 73 = .ok (.aload_n 1, 1) := by decide +kernel
theorem d_Ev_ofMatch_74 : decode c_Ev_ofMatch 74 = .ok (.getfield 40, 3) := by decide +kernel
theorem d_Ev_ofMatch_77 : decode c_Ev_ofMatch 77 = .ok (.iload 5, 2) := by decide +kernel
theorem d_Ev_ofMatch_79 : decode c_Ev_ofMatch 79 = .ok (.iconst 1, 1) := by decide +kernel
theorem d_Ev_ofMatch_80 : decode c_Ev_ofMatch 80 = .ok (.iadd, 1) := by decide +kernel
theorem d_Ev_ofMatch_81 : decode c_Ev_ofMatch 81 = .ok (.invokevirtual 111, 3) := by decide +kernel
theorem d_Ev_ofMatch_84 : decode c_Ev_ofMatch 84 = .ok (.istore 5, 2) := by decide +kernel
theorem d_Ev_ofMatch_86 : decode c_Ev_ofMatch 86 = .ok (.iinc 6 1, 3) := by decide +kernel
theorem d_Ev_ofMatch_89 : decode c_Ev_ofMatch 89 = .ok (.goto (-52), 3) := by decide +kernel
theorem d_Ev_ofMatch_92 : decode c_Ev_ofMatch 92 = .ok (.aload_n 0, 1) := by decide +kernel
theorem d_Ev_ofMatch_93 : decode c_Ev_ofMatch 93 = .ok (.bipush 8, 2) := by decide +kernel
theorem d_Ev_ofMatch_95 : decode c_Ev_ofMatch 95 = .ok (.invokevirtual 66, 3) := by decide +kernel
theorem d_Ev_ofMatch_98 : decode c_Ev_ofMatch 98 = .ok (.ireturn, 1) := by decide +kernel
theorem d_Ev_ofPair_0 : decode c_Ev_ofPair 0 = .ok (.aload_n 0, 1) := by decide +kernel
theorem d_Ev_ofPair_1 : decode c_Ev_ofPair 1 = .ok (.aload_n 1, 1) := by decide +kernel
theorem d_Ev_ofPair_2 : decode c_Ev_ofPair 2 = .ok (.iload_n 2, 1) := by decide +kernel
theorem d_Ev_ofPair_3 : decode c_Ev_ofPair 3 = .ok (.iconst 1, 1) := by decide +kernel
theorem d_Ev_ofPair_4 : decode c_Ev_ofPair 4 = .ok (.iadd, 1) := by decide +kernel
theorem d_Ev_ofPair_5 : decode c_Ev_ofPair 5 = .ok (.iload_n 3, 1) := by decide +kernel
theorem d_Ev_ofPair_6 : decode c_Ev_ofPair 6 = .ok (.iconst 1, 1) := by decide +kernel
theorem d_Ev_ofPair_7 : decode c_Ev_ofPair 7 = .ok (.iadd, 1) := by decide +kernel
theorem d_Ev_ofPair_8 : decode c_Ev_ofPair 8 = .ok (.invokevirtual 46, 3) := by decide +kernel
theorem d_Ev_ofPair_11 : decode c_Ev_ofPair 11 = .ok (.istore 4, 2) := by decide +kernel
theorem d_Ev_ofPair_13 : decode c_Ev_ofPair 13 = .ok (.aload_n 0, 1) := by decide +kernel
theorem d_Ev_ofPair_14 : decode c_Ev_ofPair 14 = .ok (.invokevirtual 56, 3) := by decide +kernel
theorem d_Ev_ofPair_17 : decode c_Ev_ofPair 17 = .ok (.ifCond .eq 5, 3) := by decide +kernel
theorem d_Ev_ofPair_20 : decode c_Ev_ofPair 20 = .ok (.iconst 0, 1) := by decide +kernel
theorem d_Ev_ofPair_21 : decode c_Ev_ofPair 21 = .ok (.ireturn, 1) := by decide +kernel
theorem d_Ev_ofPair_22 : decode c_Ev_ofPair 22 = .ok (.aload_n 0, 1) := by decide +kernel
theorem d_Ev_ofPair_23 : decode c_Ev_ofPair 23 = .ok (.aload_n 1, 1) := by decide +kernel
theorem d_Ev_ofPair_24 : decode c_Ev_ofPair 24 = .ok (.aload_n 1, 1) := by decide +kernel
theorem d_Ev_ofPair_25 : decode c_Ev_ofPair 25 = .ok (.getfield 40, 3) := by decide +kernel
theorem d_Ev_ofPair_28 : decode c_Ev_ofPair 28 = .ok (.iload_n 2, 1) := by decide +kernel
theorem d_Ev_ofPair_29 : decode c_Ev_ofPair 29 = .ok (.iconst 1, 1) := by decide +kernel
theorem d_Ev_ofPair_30 : decode c_Ev_ofPair 30 = .ok (.iadd, 1) := by decide +kernel
theorem d_Ev_ofPair_31 : decode c_Ev_ofPair 31 = .ok (.invokevirtual 111, 3) := by decide +kernel
theorem d_Ev_ofPair_34 : decode c_Ev_ofPair 34 = .ok (.iload_n 3, 1) := by decide +kernel
theorem d_Ev_ofPair_35 : decode c_Ev_ofPair 35 = .ok (.iconst 1, 1) := by decide +kernel
theorem d_Ev_ofPair_36 : decode c_Ev_ofPair 36 = .ok (.iadd, 1) := by decide +kernel
theorem d_Ev_ofPair_37 : decode c_Ev_ofPair 37 = .ok (.invokevirtual 46, 3) := by decide +kernel
theorem d_Ev_ofPair_40 : decode c_Ev_ofPair 40 = .ok (.istore 5, 2) := by decide +kernel
theorem d_Ev_ofPair_42 : decode c_Ev_ofPair 42 = .ok (.aload_n 0, 1) := by decide +kernel
theorem d_Ev_ofPair_43 : decode c_Ev_ofPair 43 = .ok (.invokevirtual 56, 3) := by decide +kernel
theorem d_Ev_ofPair_46 : decode c_Ev_ofPair 46 = .ok (.ifCond .eq 5, 3) := by decide +kernel
theorem d_Ev_ofPair_49 : decode c_Ev_ofPair 49 = .ok (.iconst 0, 1) := by decide +kernel
theorem d_Ev_ofPair_50 : decode c_Ev_ofPair 50 = .ok (.ireturn, 1) := by decide +kernel
theorem d_Ev_ofPair_51 : decode c_Ev_ofPair 51 = .ok (.aload_n 0, 1) := by decide +kernel
theorem d_Ev_ofPair_52 : decode c_Ev_ofPair 52 = .ok (.aload_n 1, 1) := by decide +kernel
theorem d_Ev_ofPair_53 : decode c_Ev_ofPair 53 = .ok (.getfield 40, 3) := by decide +kernel
theorem d_Ev_ofPair_56 : decode c_Ev_ofPair 56 = .ok (.iload_n 2, 1) := by decide +kernel
theorem d_Ev_ofPair_57 : decode c_Ev_ofPair 57 = .ok (.invokevirtual 70, 3) := by decide +kernel
theorem d_Ev_ofPair_60 : decode c_Ev_ofPair 60 = .ok (.iload 4, 2) := by decide +kernel
theorem d_Ev_ofPair_62 : decode c_Ev_ofPair 62 = .ok (.iload 5, 2) := by decide +kernel
theorem d_Ev_ofPair_64 : decode c_Ev_ofPair 64 = .ok (.invokevirtual 114, 3) := by decide +kernel
theorem d_Ev_ofPair_67 : decode c_Ev_ofPair 67 = .ok (.ireturn, 1) := by decide +kernel
theorem d_Ev_combine_0 : decode c_Ev_combine 0 = .ok (.iload_n 1, 1) := by decide +kernel
theorem d_Ev_combine_1 : decode c_Ev_combine 1 = .ok (.lookupswitch 91 #[(42, 59), (43, 51), (45, 55), (47, 63), (60, 80)], 51) := by decide +kernel
theorem d_Ev_combine_52 : decode c_Ev_combine 52 = .ok (.iload_n 2, 1) := by decide +kernel
theorem d_Ev_combine_53 : decode c_Ev_combine 53 = .ok (.iload_n 3, 1) := by decide +kernel
theorem d_Ev_combine_54 : decode c_Ev_combine 54 = .ok (.iadd, 1) := by decide +kernel
theorem d_Ev_combine_55 : decode c_Ev_combine 55 = .ok (.ireturn, 1) := by decide +kernel
theorem d_Ev_combine_56 : decode c_Ev_combine 56 = .ok (.iload_n 2, 1) := by decide +kernel
theorem d_Ev_combine_57 : decode c_Ev_combine 57 = .ok (.iload_n 3, 1) := by decide +kernel
theorem d_Ev_combine_58 : decode c_Ev_combine 58 = .ok (.isub, 1) := by decide +kernel
theorem d_Ev_combine_59 : decode c_Ev_combine 59 = .ok (.ireturn, 1) := by decide +kernel
theorem d_Ev_combine_60 : decode c_Ev_combine 60 = .ok (.iload_n 2, 1) := by decide +kernel
theorem d_Ev_combine_61 : decode c_Ev_combine 61 = .ok (.iload_n 3, 1) := by decide +kernel
theorem d_Ev_combine_62 : decode c_Ev_combine 62 = .ok (.imul, 1) := by decide +kernel
theorem d_Ev_combine_63 : decode c_Ev_combine 63 = .ok (.ireturn, 1) := by decide +kernel
theorem d_Ev_combine_64 : decode c_Ev_combine 64 = .ok (.iload_n 3, 1) := by decide +kernel
theorem d_Ev_combine_65 : decode c_Ev_combine 65 = .ok (.ifCond .ne 12, 3) := by decide +kernel
theorem d_Ev_combine_68 : decode c_Ev_combine 68 = .ok (.aload_n 0, 1) := by decide +kernel
theorem d_Ev_combine_69 : decode c_Ev_combine 69 = .ok (.bipush 7, 2) := by decide +kernel
theorem d_Ev_combine_71 : decode c_Ev_combine 71 = .ok (.invokevirtual 66, 3) := by decide +kernel
theorem d_Ev_combine_74 : decode c_Ev_combine 74 = .ok (.goto 6, 3) := by decide +kernel
theorem d_Ev_combine_77 : decode c_Ev_combine 77 = .ok (.iload_n 2, 1) := by decide +kernel
theorem d_Ev_combine_78 : decode c_Ev_combine 78 = .ok (.iload_n 3, 1) := by decide +kernel
theorem d_Ev_combine_79 : decode c_Ev_combine 79 = .ok (.idiv, 1) := by decide +kernel
theorem d_Ev_combine_80 : decode c_Ev_combine 80 = .ok (.ireturn, 1) := by decide +kernel
theorem d_Ev_combine_81 : decode c_Ev_combine 81 = .ok (.iload_n 2, 1) := by decide +kernel
theorem d_Ev_combine_82 : decode c_Ev_combine 82 = .ok (.iload_n 3, 1) := by decide +kernel
theorem d_Ev_combine_83 : decode c_Ev_combine 83 = .ok (.if_icmp .ge 7, 3) := by decide +kernel
theorem d_Ev_combine_86 : decode c_Ev_combine 86 = .ok (.iconst 1, 1) := by decide +kernel
theorem d_Ev_combine_87 : decode c_Ev_combine 87 = .ok (.goto 4, 3) := by decide +kernel
theorem d_Ev_combine_90 : decode c_Ev_combine 90 = .ok (.iconst 0, 1) := by decide +kernel
theorem d_Ev_combine_91 : decode c_Ev_combine 91 = .ok (.ireturn, 1) := by decide +kernel
theorem d_Ev_combine_92 : decode c_Ev_combine 92 = .ok (.iload_n 2, 1) := by decide +kernel
theorem d_Ev_combine_93 : decode c_Ev_combine 93 = .ok (.iload_n 3, 1) := by decide +kernel
theorem d_Ev_combine_94 : decode c_Ev_combine 94 = .ok (.if_icmp .ne 7, 3) := by decide +kernel
theorem d_Ev_combine_97 : decode c_Ev_combine 97 = .ok (.iconst 1, 1) := by decide +kernel
theorem d_Ev_combine_98 : decode c_Ev_combine 98 = .ok (.goto 4, 3) := by decide +kernel
theorem d_Ev_combine_101 : decode c_Ev_combine 101 = .ok (.iconst 0, 1) := by decide +kernel
theorem d_Ev_combine_102 : decode c_Ev_combine 102 = .ok (.ireturn, 1) := by decide +kernel
theorem d_Ev_ofLeaf_0 : decode c_Ev_ofLeaf 0 = .ok (.aload_n 1, 1) := by decide +kernel
theorem d_Ev_ofLeaf_1 : decode c_Ev_ofLeaf 1 = .ok (.getfield 40, 3) := by decide +kernel
theorem d_Ev_ofLeaf_4 : decode c_Ev_ofLeaf 4 = .ok (.iload_n 2, 1) := by decide +kernel
theorem d_Ev_ofLeaf_5 : decode c_Ev_ofLeaf 5 = .ok (.invokevirtual 70, 3) := by decide +kernel
theorem d_Ev_ofLeaf_8 : decode c_Ev_ofLeaf 8 = .ok (.istore_n 3, 1) := by decide +kernel
theorem d_Ev_ofLeaf_9 : decode c_Ev_ofLeaf 9 = .ok (.iload_n 3, 1) := by decide +kernel
theorem d_Ev_ofLeaf_10 : decode c_Ev_ofLeaf 10 = .ok (.invokestatic 96, 3) := by decide +kernel
theorem d_Ev_ofLeaf_13 : decode c_Ev_ofLeaf 13 = .ok (.ifCond .eq 13, 3) := by decide +kernel
theorem d_Ev_ofLeaf_16 : decode c_Ev_ofLeaf 16 = .ok (.aload_n 1, 1) := by decide +kernel
theorem d_Ev_ofLeaf_17 : decode c_Ev_ofLeaf 17 = .ok (.getfield 100, 3) := by decide +kernel
theorem d_Ev_ofLeaf_20 : decode c_Ev_ofLeaf 20 = .ok (.iload_n 3, 1) := by decide +kernel
theorem d_Ev_ofLeaf_21 : decode c_Ev_ofLeaf 21 = .ok (.bipush 107, 2) := by decide +kernel
theorem d_Ev_ofLeaf_23 : decode c_Ev_ofLeaf 23 = .ok (.isub, 1) := by decide +kernel
theorem d_Ev_ofLeaf_24 : decode c_Ev_ofLeaf 24 = .ok (.iaload, 1) := by decide +kernel
theorem d_Ev_ofLeaf_25 : decode c_Ev_ofLeaf 25 = .ok (.ireturn, 1) := by decide +kernel
theorem d_Ev_ofLeaf_26 : decode c_Ev_ofLeaf 26 = .ok (.iload_n 3, 1) := by decide +kernel
theorem d_Ev_ofLeaf_27 : decode c_Ev_ofLeaf 27 = .ok (.invokestatic 104, 3) := by decide +kernel
theorem d_Ev_ofLeaf_30 : decode c_Ev_ofLeaf 30 = .ok (.ifCond .eq 8, 3) := by decide +kernel
theorem d_Ev_ofLeaf_33 : decode c_Ev_ofLeaf 33 = .ok (.iload_n 3, 1) := by decide +kernel
theorem d_Ev_ofLeaf_34 : decode c_Ev_ofLeaf 34 = .ok (.bipush 48, 2) := by decide +kernel
theorem d_Ev_ofLeaf_36 : decode c_Ev_ofLeaf 36 = .ok (.isub, 1) := by decide +kernel
theorem d_Ev_ofLeaf_37 : decode c_Ev_ofLeaf 37 = .ok (.ireturn, 1) := by decide +kernel
theorem d_Ev_ofLeaf_38 : decode c_Ev_ofLeaf 38 = .ok (.aload_n 0, 1) := by decide +kernel
theorem d_Ev_ofLeaf_39 : decode c_Ev_ofLeaf 39 = .ok (.getfield 20, 3) := by decide +kernel
theorem d_Ev_ofLeaf_42 : decode c_Ev_ofLeaf 42 = .ok (.iload_n 3, 1) := by decide +kernel
theorem d_Ev_ofLeaf_43 : decode c_Ev_ofLeaf 43 = .ok (.invokestatic 107, 3) := by decide +kernel
theorem d_Ev_ofLeaf_46 : decode c_Ev_ofLeaf 46 = .ok (.astore 4, 2) := by decide +kernel
theorem d_Ev_ofLeaf_48 : decode c_Ev_ofLeaf 48 = .ok (.aload 4, 2) := by decide +kernel
theorem d_Ev_ofLeaf_50 : decode c_Ev_ofLeaf 50 = .ok (.ifnonnull 7, 3) := by decide +kernel
theorem d_Ev_ofLeaf_53 : decode c_Ev_ofLeaf 53 = .ok (.iconst 0, 1) := by decide +kernel
theorem d_Ev_ofLeaf_54 : decode c_Ev_ofLeaf 54 = .ok (.goto 8, 3) := by decide +kernel
theorem d_Ev_ofLeaf_57 : decode c_Ev_ofLeaf 57 = .ok (.aload 4, 2) := by decide +kernel
theorem d_Ev_ofLeaf_59 : decode c_Ev_ofLeaf 59 = .ok (.getfield 50, 3) := by decide +kernel
theorem d_Ev_ofLeaf_62 : decode c_Ev_ofLeaf 62 = .ok (.ireturn, 1) := by decide +kernel
theorem d_B_cancel_0 : decode c_B_cancel 0 = .ok (.iload_n 1, 1) := by decide +kernel
theorem d_B_cancel_1 : decode c_B_cancel 1 = .ok (.invokestatic 46, 3) := by decide +kernel
theorem d_B_cancel_4 : decode c_B_cancel 4 = .ok (.ifCond .eq 17, 3) := by decide +kernel
theorem d_B_cancel_7 : decode c_B_cancel 7 = .ok (.aload_n 0, 1) := by decide +kernel
theorem d_B_cancel_8 : decode c_B_cancel 8 = .ok (.getfield 11, 3) := by decide +kernel
theorem d_B_cancel_11 : decode c_B_cancel 11 = .ok (.iload_n 1, 1) := by decide +kernel
theorem d_B_cancel_12 : decode c_B_cancel 12 = .ok (.aaload, 1) := by decide +kernel
theorem d_B_cancel_13 : decode c_B_cancel 13 = .ok (.invokevirtual 84, 3) := by decide +kernel
theorem d_B_cancel_16 : decode c_B_cancel 16 = .ok (.bipush 12, 2) := by decide +kernel
theorem d_B_cancel_18 : decode c_B_cancel 18 = .ok (.if_icmp .eq 5, 3) := by decide +kernel
theorem d_B_cancel_21 : decode c_B_cancel 21 = .ok (.iconst 0, 1) := by decide +kernel
theorem d_B_cancel_22 : decode c_B_cancel 22 = .ok (.ireturn, 1) := by decide +kernel
theorem d_B_cancel_23 : decode c_B_cancel 23 = .ok (.aload_n 0, 1) := by decide +kernel
theorem d_B_cancel_24 : decode c_B_cancel 24 = .ok (.getfield 11, 3) := by decide +kernel
theorem d_B_cancel_27 : decode c_B_cancel 27 = .ok (.iload_n 1, 1) := by decide +kernel
theorem d_B_cancel_28 : decode c_B_cancel 28 = .ok (.aaload, 1) := by decide +kernel
theorem d_B_cancel_29 : decode c_B_cancel 29 = .ok (.iconst 0, 1) := by decide +kernel
theorem d_B_cancel_30 : decode c_B_cancel 30 = .ok (.putfield 87, 3) := by decide +kernel
theorem d_B_cancel_33 : decode c_B_cancel 33 = .ok (.aload_n 0, 1) := by decide +kernel
theorem d_B_cancel_34 : decode c_B_cancel 34 = .ok (.getfield 11, 3) := by decide +kernel
theorem d_B_cancel_37 : decode c_B_cancel 37 = .ok (.iload_n 1, 1) := by decide +kernel
theorem d_B_cancel_38 : decode c_B_cancel 38 = .ok (.aaload, 1) := by decide +kernel
theorem d_B_cancel_39 : decode c_B_cancel 39 = .ok (.bipush 11, 2) := by decide +kernel
theorem d_B_cancel_41 : decode c_B_cancel 41 = .ok (.putfield 91, 3) := by decide +kernel
theorem d_B_cancel_44 : decode c_B_cancel 44 = .ok (.iconst 1, 1) := by decide +kernel
theorem d_B_cancel_45 : decode c_B_cancel 45 = .ok (.ireturn, 1) := by decide +kernel
theorem d_B_status_0 : decode c_B_status 0 = .ok (.iload_n 1, 1) := by decide +kernel
theorem d_B_status_1 : decode c_B_status 1 = .ok (.invokestatic 46, 3) := by decide +kernel
theorem d_B_status_4 : decode c_B_status 4 = .ok (.ifCond .eq 15, 3) := by decide +kernel
theorem d_B_status_7 : decode c_B_status 7 = .ok (.aload_n 0, 1) := by decide +kernel
theorem d_B_status_8 : decode c_B_status 8 = .ok (.getfield 11, 3) := by decide +kernel
theorem d_B_status_11 : decode c_B_status 11 = .ok (.iload_n 1, 1) := by decide +kernel
theorem d_B_status_12 : decode c_B_status 12 = .ok (.aaload, 1) := by decide +kernel
theorem d_B_status_13 : decode c_B_status 13 = .ok (.invokevirtual 84, 3) := by decide +kernel
theorem d_B_status_16 : decode c_B_status 16 = .ok (.goto 4, 3) := by decide +kernel
theorem d_B_status_19 : decode c_B_status 19 = .ok (.iconst 0, 1) := by decide +kernel
theorem d_B_status_20 : decode c_B_status 20 = .ok (.ireturn, 1) := by decide +kernel
theorem d_B_value_0 : decode c_B_value 0 = .ok (.iload_n 1, 1) := by decide +kernel
theorem d_B_value_1 : decode c_B_value 1 = .ok (.invokestatic 46, 3) := by decide +kernel
theorem d_B_value_4 : decode c_B_value 4 = .ok (.ifCond .eq 29, 3) := by decide +kernel
theorem d_B_value_7 : decode c_B_value 7 = .ok (.aload_n 0, 1) := by decide +kernel
theorem d_B_value_8 : decode c_B_value 8 = .ok (.getfield 11, 3) := by decide +kernel
theorem d_B_value_11 : decode c_B_value 11 = .ok (.iload_n 1, 1) := by decide +kernel
theorem d_B_value_12 : decode c_B_value 12 = .ok (.aaload, 1) := by decide +kernel
theorem d_B_value_13 : decode c_B_value 13 = .ok (.invokevirtual 84, 3) := by decide +kernel
theorem d_B_value_16 : decode c_B_value 16 = .ok (.bipush 14, 2) := by decide +kernel
theorem d_B_value_18 : decode c_B_value 18 = .ok (.if_icmp .ne 15, 3) := by decide +kernel
theorem d_B_value_21 : decode c_B_value 21 = .ok (.aload_n 0, 1) := by decide +kernel
theorem d_B_value_22 : decode c_B_value 22 = .ok (.getfield 11, 3) := by decide +kernel
theorem d_B_value_25 : decode c_B_value 25 = .ok (.iload_n 1, 1) := by decide +kernel
theorem d_B_value_26 : decode c_B_value 26 = .ok (.aaload, 1) := by decide +kernel
theorem d_B_value_27 : decode c_B_value 27 = .ok (.getfield 94, 3) := by decide +kernel
theorem d_B_value_30 : decode c_B_value 30 = .ok (.goto 4, 3) := by decide +kernel
theorem d_B_value_33 : decode c_B_value 33 = .ok (.iconst 0, 1) := by decide +kernel
theorem d_B_value_34 : decode c_B_value 34 = .ok (.ireturn, 1) := by decide +kernel
theorem d_B_kind_0 : decode c_B_kind 0 = .ok (.iload_n 1, 1) := by decide +kernel
theorem d_B_kind_1 : decode c_B_kind 1 = .ok (.invokestatic 46, 3) := by decide +kernel
theorem d_B_kind_4 : decode c_B_kind 4 = .ok (.ifCond .eq 29, 3) := by decide +kernel
theorem d_B_kind_7 : decode c_B_kind 7 = .ok (.aload_n 0, 1) := by decide +kernel
theorem d_B_kind_8 : decode c_B_kind 8 = .ok (.getfield 11, 3) := by decide +kernel
theorem d_B_kind_11 : decode c_B_kind 11 = .ok (.iload_n 1, 1) := by decide +kernel
theorem d_B_kind_12 : decode c_B_kind 12 = .ok (.aaload, 1) := by decide +kernel
theorem d_B_kind_13 : decode c_B_kind 13 = .ok (.invokevirtual 84, 3) := by decide +kernel
theorem d_B_kind_16 : decode c_B_kind 16 = .ok (.bipush 14, 2) := by decide +kernel
theorem d_B_kind_18 : decode c_B_kind 18 = .ok (.if_icmp .ne 15, 3) := by decide +kernel
theorem d_B_kind_21 : decode c_B_kind 21 = .ok (.aload_n 0, 1) := by decide +kernel
theorem d_B_kind_22 : decode c_B_kind 22 = .ok (.getfield 11, 3) := by decide +kernel
theorem d_B_kind_25 : decode c_B_kind 25 = .ok (.iload_n 1, 1) := by decide +kernel
theorem d_B_kind_26 : decode c_B_kind 26 = .ok (.aaload, 1) := by decide +kernel
theorem d_B_kind_27 : decode c_B_kind 27 = .ok (.getfield 97, 3) := by decide +kernel
theorem d_B_kind_30 : decode c_B_kind 30 = .ok (.goto 4, 3) := by decide +kernel
theorem d_B_kind_33 : decode c_B_kind 33 = .ok (.iconst 0, 1) := by decide +kernel
theorem d_B_kind_34 : decode c_B_kind 34 = .ok (.ireturn, 1) := by decide +kernel
theorem d_B_uses_0 : decode c_B_uses 0 = .ok (.iload_n 1, 1) := by decide +kernel
theorem d_B_uses_1 : decode c_B_uses 1 = .ok (.invokestatic 46, 3) := by decide +kernel
theorem d_B_uses_4 : decode c_B_uses 4 = .ok (.ifCond .eq 18, 3) := by decide +kernel
theorem d_B_uses_7 : decode c_B_uses 7 = .ok (.aload_n 0, 1) := by decide +kernel
theorem d_B_uses_8 : decode c_B_uses 8 = .ok (.getfield 11, 3) := by decide +kernel
theorem d_B_uses_11 : decode c_B_uses 11 = .ok (.iload_n 1, 1) := by decide +kernel
theorem d_B_uses_12 : decode c_B_uses 12 = .ok (.aaload, 1) := by decide +kernel
theorem d_B_uses_13 : decode c_B_uses 13 = .ok (.getfield 57, 3) := by decide +kernel
theorem d_B_uses_16 : decode c_B_uses 16 = .ok (.getfield 100, 3) := by decide +kernel
theorem d_B_uses_19 : decode c_B_uses 19 = .ok (.goto 4, 3) := by decide +kernel
theorem d_B_uses_22 : decode c_B_uses 22 = .ok (.iconst 0, 1) := by decide +kernel
theorem d_B_uses_23 : decode c_B_uses 23 = .ok (.ireturn, 1) := by decide +kernel
theorem d_B_runs_0 : decode c_B_runs 0 = .ok (.iload_n 1, 1) := by decide +kernel
theorem d_B_runs_1 : decode c_B_runs 1 = .ok (.invokestatic 46, 3) := by decide +kernel
theorem d_B_runs_4 : decode c_B_runs 4 = .ok (.ifCond .eq 15, 3) := by decide +kernel
theorem d_B_runs_7 : decode c_B_runs 7 = .ok (.aload_n 0, 1) := by decide +kernel
theorem d_B_runs_8 : decode c_B_runs 8 = .ok (.getfield 11, 3) := by decide +kernel
theorem d_B_runs_11 : decode c_B_runs 11 = .ok (.iload_n 1, 1) := by decide +kernel
theorem d_B_runs_12 : decode c_B_runs 12 = .ok (.aaload, 1) := by decide +kernel
theorem d_B_runs_13 : decode c_B_runs 13 = .ok (.getfield 103, 3) := by decide +kernel
theorem d_B_runs_16 : decode c_B_runs 16 = .ok (.goto 4, 3) := by decide +kernel
theorem d_B_runs_19 : decode c_B_runs 19 = .ok (.iconst 0, 1) := by decide +kernel
theorem d_B_runs_20 : decode c_B_runs 20 = .ok (.ireturn, 1) := by decide +kernel
theorem d_B_steps_0 : decode c_B_steps 0 = .ok (.aload_n 0, 1) := by decide +kernel
theorem d_B_steps_1 : decode c_B_steps 1 = .ok (.getfield 26, 3) := by decide +kernel
theorem d_B_steps_4 : decode c_B_steps 4 = .ok (.getfield 106, 3) := by decide +kernel
theorem d_B_steps_7 : decode c_B_steps 7 = .ok (.ireturn, 1) := by decide +kernel
theorem d_Mo_init_0 : decode c_Mo_init 0 = .ok (.aload_n 0, 1) := by decide +kernel
theorem d_Mo_init_1 : decode c_Mo_init 1 = .ok (.invokespecial 1, 3) := by decide +kernel
theorem d_Mo_init_4 : decode c_Mo_init 4 = .ok (.aload_n 0, 1) := by decide +kernel
theorem d_Mo_init_5 : decode c_Mo_init 5 = .ok (.bipush 24, 2) := by decide +kernel
theorem d_Mo_init_7 : decode c_Mo_init 7 = .ok (.newarray .char, 2) := by decide +kernel
theorem d_Mo_init_9 : decode c_Mo_init 9 = .ok (.putfield 7, 3) := by decide +kernel
theorem d_Mo_init_12 : decode c_Mo_init 12 = .ok (.aload_n 0, 1) := by decide +kernel
theorem d_Mo_init_13 : decode c_Mo_init 13 = .ok (.sipush 240, 3) := by decide +kernel
theorem d_Mo_init_16 : decode c_Mo_init 16 = .ok (.newarray .char, 2) := by decide +kernel
theorem d_Mo_init_18 : decode c_Mo_init 18 = .ok (.putfield 13, 3) := by decide +kernel
theorem d_Mo_init_21 : decode c_Mo_init 21 = .ok (.aload_n 0, 1) := by decide +kernel
theorem d_Mo_init_22 : decode c_Mo_init 22 = .ok (.bipush 10, 2) := by decide +kernel
theorem d_Mo_init_24 : decode c_Mo_init 24 = .ok (.newarray .int, 2) := by decide +kernel
theorem d_Mo_init_26 : decode c_Mo_init 26 = .ok (.putfield 16, 3) := by decide +kernel
theorem d_Mo_init_29 : decode c_Mo_init 29 = .ok (.aload_n 0, 1) := by decide +kernel
theorem d_Mo_init_30 : decode c_Mo_init 30 = .ok (.bipush 10, 2) := by decide +kernel
theorem d_Mo_init_32 : decode c_Mo_init 32 = .ok (.newarray .int, 2) := by decide +kernel
theorem d_Mo_init_34 : decode c_Mo_init 34 = .ok (.putfield 20, 3) := by decide +kernel
theorem d_Mo_init_37 : decode c_Mo_init 37 = .ok (.aload_n 0, 1) := by decide +kernel
theorem d_Mo_init_38 : decode c_Mo_init 38 = .ok (.sipush 240, 3) := by decide +kernel
theorem d_Mo_init_41 : decode c_Mo_init 41 = .ok (.newarray .int, 2) := by decide +kernel
theorem d_Mo_init_43 : decode c_Mo_init 43 = .ok (.putfield 23, 3) := by decide +kernel
theorem d_Mo_init_46 : decode c_Mo_init 46 = .ok (.aload_n 0, 1) := by decide +kernel
theorem d_Mo_init_47 : decode c_Mo_init 47 = .ok (.sipush 240, 3) := by decide +kernel
theorem d_Mo_init_50 : decode c_Mo_init 50 = .ok (.newarray .boolean, 2) := by decide +kernel
theorem d_Mo_init_52 : decode c_Mo_init 52 = .ok (.putfield 26, 3) := by decide +kernel
theorem d_Mo_init_55 : decode c_Mo_init 55 = .ok (.aload_n 0, 1) := by decide +kernel
theorem d_Mo_init_56 : decode c_Mo_init 56 = .ok (.bipush 10, 2) := by decide +kernel
theorem d_Mo_init_58 : decode c_Mo_init 58 = .ok (.newarray .boolean, 2) := by decide +kernel
theorem d_Mo_init_60 : decode c_Mo_init 60 = .ok (.putfield 30, 3) := by decide +kernel
theorem d_Mo_init_63 : decode c_Mo_init 63 = .ok (.aload_n 0, 1) := by decide +kernel
theorem d_Mo_init_64 : decode c_Mo_init 64 = .ok (.bipush 10, 2) := by decide +kernel
theorem d_Mo_init_66 : decode c_Mo_init 66 = .ok (.newarray .int, 2) := by decide +kernel
theorem d_Mo_init_68 : decode c_Mo_init 68 = .ok (.putfield 33, 3) := by decide +kernel
theorem d_Mo_init_71 : decode c_Mo_init 71 = .ok (.aload_n 0, 1) := by decide +kernel
theorem d_Mo_init_72 : decode c_Mo_init 72 = .ok (.bipush 10, 2) := by decide +kernel
theorem d_Mo_init_74 : decode c_Mo_init 74 = .ok (.newarray .boolean, 2) := by decide +kernel
theorem d_Mo_init_76 : decode c_Mo_init 76 = .ok (.putfield 36, 3) := by decide +kernel
theorem d_Mo_init_79 : decode c_Mo_init 79 = .ok (.aload_n 0, 1) := by decide +kernel
theorem d_Mo_init_80 : decode c_Mo_init 80 = .ok (.bipush 10, 2) := by decide +kernel
theorem d_Mo_init_82 : decode c_Mo_init 82 = .ok (.newarray .int, 2) := by decide +kernel
theorem d_Mo_init_84 : decode c_Mo_init 84 = .ok (.putfield 39, 3) := by decide +kernel
theorem d_Mo_init_87 : decode c_Mo_init 87 = .ok (.aload_n 0, 1) := by decide +kernel
theorem d_Mo_init_88 : decode c_Mo_init 88 = .ok (.bipush 10, 2) := by decide +kernel
theorem d_Mo_init_90 : decode c_Mo_init 90 = .ok (.newarray .int, 2) := by decide +kernel
theorem d_Mo_init_92 : decode c_Mo_init 92 = .ok (.putfield 42, 3) := by decide +kernel
theorem d_Mo_init_95 : decode c_Mo_init 95 = .ok (.aload_n 0, 1) := by decide +kernel
theorem d_Mo_init_96 : decode c_Mo_init 96 = .ok (.bipush 10, 2) := by decide +kernel
theorem d_Mo_init_98 : decode c_Mo_init 98 = .ok (.newarray .int, 2) := by decide +kernel
theorem d_Mo_init_100 : decode c_Mo_init 100 = .ok (.putfield 45, 3) := by decide +kernel
theorem d_Mo_init_103 : decode c_Mo_init 103 = .ok (.aload_n 0, 1) := by decide +kernel
theorem d_Mo_init_104 : decode c_Mo_init 104 = .ok (.bipush 10, 2) := by decide +kernel
theorem d_Mo_init_106 : decode c_Mo_init 106 = .ok (.newarray .int, 2) := by decide +kernel
theorem d_Mo_init_108 : decode c_Mo_init 108 = .ok (.putfield 48, 3) := by decide +kernel
theorem d_Mo_init_111 : decode c_Mo_init 111 = .ok (.aload_n 0, 1) := by decide +kernel
theorem d_Mo_init_112 : decode c_Mo_init 112 = .ok (.sipush 160, 3) := by decide +kernel
theorem d_Mo_init_115 : decode c_Mo_init 115 = .ok (.newarray .int, 2) := by decide +kernel
theorem d_Mo_init_117 : decode c_Mo_init 117 = .ok (.putfield 51, 3) := by decide +kernel
theorem d_Mo_init_120 : decode c_Mo_init 120 = .ok (.aload_n 0, 1) := by decide +kernel
theorem d_Mo_init_121 : decode c_Mo_init 121 = .ok (.bipush 6, 2) := by decide +kernel
theorem d_Mo_init_123 : decode c_Mo_init 123 = .ok (.newarray .int, 2) := by decide +kernel
theorem d_Mo_init_125 : decode c_Mo_init 125 = .ok (.putfield 54, 3) := by decide +kernel
theorem d_Mo_init_128 : decode c_Mo_init 128 = .ok (.aload_n 0, 1) := by decide +kernel
theorem d_Mo_init_129 : decode c_Mo_init 129 = .ok (.bipush 30, 2) := by decide +kernel
theorem d_Mo_init_131 : decode c_Mo_init 131 = .ok (.newarray .int, 2) := by decide +kernel
theorem d_Mo_init_133 : decode c_Mo_init 133 = .ok (.putfield 57, 3) := by decide +kernel
theorem d_Mo_init_136 : decode c_Mo_init 136 = .ok (.aload_n 0, 1) := by decide +kernel
theorem d_Mo_init_137 : decode c_Mo_init 137 = .ok (.sipush 320, 3) := by decide +kernel
theorem d_Mo_init_140 : decode c_Mo_init 140 = .ok (.newarray .int, 2) := by decide +kernel
theorem d_Mo_init_142 : decode c_Mo_init 142 = .ok (.putfield 60, 3) := by decide +kernel
theorem d_Mo_init_145 : decode c_Mo_init 145 = .ok (.aload_n 0, 1) := by decide +kernel
theorem d_Mo_init_146 : decode c_Mo_init 146 = .ok (.sipush 320, 3) := by decide +kernel
theorem d_Mo_init_149 : decode c_Mo_init 149 = .ok (.newarray .int, 2) := by decide +kernel
theorem d_Mo_init_151 : decode c_Mo_init 151 = .ok (.putfield 63, 3) := by decide +kernel
theorem d_Mo_init_154 : decode c_Mo_init 154 = .ok (.aload_n 0, 1) := by decide +kernel
theorem d_Mo_init_155 : decode c_Mo_init 155 = .ok (.sipush 320, 3) := by decide +kernel
theorem d_Mo_init_158 : decode c_Mo_init 158 = .ok (.newarray .int, 2) := by decide +kernel
theorem d_Mo_init_160 : decode c_Mo_init 160 = .ok (.putfield 66, 3) := by decide +kernel
theorem d_Mo_init_163 : decode c_Mo_init 163 = .ok (.aload_n 0, 1) := by decide +kernel
theorem d_Mo_init_164 : decode c_Mo_init 164 = .ok (.sipush 320, 3) := by decide +kernel
theorem d_Mo_init_167 : decode c_Mo_init 167 = .ok (.newarray .int, 2) := by decide +kernel
theorem d_Mo_init_169 : decode c_Mo_init 169 = .ok (.putfield 69, 3) := by decide +kernel
theorem d_Mo_init_172 : decode c_Mo_init 172 = .ok (.aload_n 0, 1) := by decide +kernel
theorem d_Mo_init_173 : decode c_Mo_init 173 = .ok (.bipush 36, 2) := by decide +kernel
theorem d_Mo_init_175 : decode c_Mo_init 175 = .ok (.newarray .int, 2) := by decide +kernel
theorem d_Mo_init_177 : decode c_Mo_init 177 = .ok (.putfield 72, 3) := by decide +kernel
theorem d_Mo_init_180 : decode c_Mo_init 180 = .ok (.iconst 0, 1) := by decide +kernel
theorem d_Mo_init_181 : decode c_Mo_init 181 = .ok (.istore_n 1, 1) := by decide +kernel
theorem d_Mo_init_182 : decode c_Mo_init 182 = .ok (.iload_n 1, 1) := by decide +kernel
theorem d_Mo_init_183 : decode c_Mo_init 183 = .ok (.bipush 10, 2) := by decide +kernel
theorem d_Mo_init_185 : decode c_Mo_init 185 = .ok (.if_icmp .ge 16, 3) := by decide +kernel
theorem d_Mo_init_188 : decode c_Mo_init 188 = .ok (.aload_n 0, 1) := by decide +kernel
theorem d_Mo_init_189 : decode c_Mo_init 189 = .ok (.getfield 20, 3) := by decide +kernel
theorem d_Mo_init_192 : decode c_Mo_init 192 = .ok (.iload_n 1, 1) := by decide +kernel
theorem d_Mo_init_193 : decode c_Mo_init 193 = .ok (.iconst (-1), 1) := by decide +kernel
theorem d_Mo_init_194 : decode c_Mo_init 194 = .ok (.iastore, 1) := by decide +kernel
theorem d_Mo_init_195 : decode c_Mo_init 195 = .ok (.iinc 1 1, 3) := by decide +kernel
theorem d_Mo_init_198 : decode c_Mo_init 198 = .ok (.goto (-16), 3) := by decide +kernel
theorem d_Mo_init_201 : decode c_Mo_init 201 = .ok (.return_, 1) := by decide +kernel
theorem d_Mo_type_0 : decode c_Mo_type 0 = .ok (.iload_n 3, 1) := by decide +kernel
theorem d_Mo_type_1 : decode c_Mo_type 1 = .ok (.iconst 1, 1) := by decide +kernel
theorem d_Mo_type_2 : decode c_Mo_type 2 = .ok (.if_icmp .lt 20, 3) := by decide +kernel
theorem d_Mo_type_5 : decode c_Mo_type 5 = .ok (.iload_n 3, 1) := by decide +kernel
theorem d_Mo_type_6 : decode c_Mo_type 6 = .ok (.bipush 8, 2) := by decide +kernel
theorem d_Mo_type_8 : decode c_Mo_type 8 = .ok (.if_icmp .gt 14, 3) := by decide +kernel
theorem d_Mo_type_11 : decode c_Mo_type 11 = .ok (.aload_n 0, 1) := by decide +kernel
theorem d_Mo_type_12 : decode c_Mo_type 12 = .ok (.getfield 75, 3) := by decide +kernel
theorem d_Mo_type_15 : decode c_Mo_type 15 = .ok (.iload_n 3, 1) := by decide +kernel
theorem d_Mo_type_16 : decode c_Mo_type 16 = .ok (.iadd, 1) := by decide +kernel
theorem d_Mo_type_17 : decode c_Mo_type 17 = .ok (.bipush 24, 2) := by decide +kernel
theorem d_Mo_type_19 : decode c_Mo_type 19 = .ok (.if_icmp .le 5, 3) := by decide +kernel
theorem d_Mo_type_22 : decode c_Mo_type 22 = .ok (.iconst (-1), 1) := by decide +kernel
theorem d_Mo_type_23 : decode c_Mo_type 23 = .ok (.ireturn, 1) := by decide +kernel
theorem d_Mo_type_24 : decode c_Mo_type 24 = .ok (.iconst 0, 1) := by decide +kernel
theorem d_Mo_type_25 : decode c_Mo_type 25 = .ok (.istore 4, 2) := by decide +kernel
theorem d_Mo_type_27 : decode c_Mo_type 27 = .ok (.iload 4, 2) := by decide +kernel
theorem d_Mo_type_29 : decode c_Mo_type 29 = .ok (.iload_n 3, 1) := by decide +kernel
theorem d_Mo_type_30 : decode c_Mo_type 30 = .ok (.if_icmp .ge 42, 3) := by decide +kernel
theorem d_Mo_type_33 : decode c_Mo_type 33 = .ok (.lload_n 1, 1) := by decide +kernel
theorem d_Mo_type_34 : decode c_Mo_type 34 = .ok (.bipush 8, 2) := by decide +kernel
theorem d_Mo_type_36 : decode c_Mo_type 36 = .ok (.iload 4, 2) := by decide +kernel
theorem d_Mo_type_38 : decode c_Mo_type 38 = .ok (.imul, 1) := by decide +kernel
theorem d_Mo_type_39 : decode c_Mo_type 39 = .ok (.lshr, 1) := by decide +kernel
theorem d_Mo_type_40 : decode c_Mo_type 40 = .ok (.ldc2_w 79, 3) := by decide +kernel
theorem d_Mo_type_43 : decode c_Mo_type 43 = .ok (.land, 1) := by decide +kernel
theorem d_Mo_type_44 : decode c_Mo_type 44 = .ok (.lstore 5, 2) := by decide +kernel
theorem d_Mo_type_46 : decode c_Mo_type 46 = .ok (.lload 5, 2) := by decide +kernel
theorem d_Mo_type_48 : decode c_Mo_type 48 = .ok (.ldc2_w 81, 3) := by decide +kernel
theorem d_Mo_type_51 : decode c_Mo_type 51 = .ok (.lcmp, 1) := by decide +kernel
theorem d_Mo_type_52 : decode c_Mo_type 52 = .ok (.ifCond .lt 12, 3) := by decide +kernel
theorem d_Mo_type_55 : decode c_Mo_type 55 = .ok (.lload 5, 2) := by decide +kernel
theorem d_Mo_type_57 : decode c_Mo_type 57 = .ok (.ldc2_w 83, 3) := by decide +kernel
theorem d_Mo_type_60 : decode c_Mo_type 60 = .ok (.lcmp, 1) := by decide +kernel
theorem d_Mo_type_61 : decode c_Mo_type 61 = .ok (.ifCond .le 5, 3) := by decide +kernel
theorem d_Mo_type_64 : decode c_Mo_type 64 = .ok (.iconst (-1), 1) := by decide +kernel
theorem d_Mo_type_65 : decode c_Mo_type 65 = .ok (.ireturn, 1) := by decide +kernel
theorem d_Mo_type_66 : decode c_Mo_type 66 = .ok (.iinc 4 1, 3) := by decide +kernel
theorem d_Mo_type_69 : decode c_Mo_type 69 = .ok (.goto (-42), 3) := by decide +kernel
theorem d_Mo_type_72 : decode c_Mo_type 72 = .ok (.iconst 0, 1) := by decide +kernel
theorem d_Mo_type_73 : decode c_Mo_type 73 = .ok (.istore 4, 2) := by decide +kernel
theorem d_Mo_type_75 : decode c_Mo_type 75 = .ok (.iload 4, 2) := by decide +kernel
theorem d_Mo_type_77 : decode c_Mo_type 77 = .ok (.iload_n 3, 1) := by decide +kernel
theorem d_Mo_type_78 : decode c_Mo_type 78 = .ok (.if_icmp .ge 41, 3) := by decide +kernel
theorem d_Mo_type_81 : decode c_Mo_type 81 = .ok (.aload_n 0, 1) := by decide +kernel
theorem d_Mo_type_82 : decode c_Mo_type 82 = .ok (.getfield 7, 3) := by decide +kernel
theorem d_Mo_type_85 : decode c_Mo_type 85 = .ok (.aload_n 0, 1) := by decide +kernel
theorem d_Mo_type_86 : decode c_Mo_type 86 = .ok (.getfield 75, 3) := by decide +kernel
theorem d_Mo_type_89 : decode c_Mo_type 89 = .ok (.lload_n 1, 1) := by decide +kernel
theorem d_Mo_type_90 : decode c_Mo_type 90 = .ok (.bipush 8, 2) := by decide +kernel
theorem d_Mo_type_92 : decode c_Mo_type 92 = .ok (.iload 4, 2) := by decide +kernel
theorem d_Mo_type_94 : decode c_Mo_type 94 = .ok (.imul, 1) := by decide +kernel
theorem d_Mo_type_95 : decode c_Mo_type 95 = .ok (.lshr, 1) := by decide +kernel
theorem d_Mo_type_96 : decode c_Mo_type 96 = .ok (.ldc2_w 79, 3) := by decide +kernel
theorem d_Mo_type_99 : decode c_Mo_type 99 = .ok (.land, 1) := by decide +kernel
theorem d_Mo_type_100 : decode c_Mo_type 100 = .ok (.l2i, 1) := by decide +kernel
theorem d_Mo_type_101 : decode c_Mo_type 101 = .ok (.i2c, 1) := by decide +kernel
theorem d_Mo_type_102 : decode c_Mo_type 102 = .ok (.castore, 1) := by decide +kernel
theorem d_Mo_type_103 : decode c_Mo_type 103 = .ok (.aload_n 0, 1) := by decide +kernel
theorem d_Mo_type_104 : decode c_Mo_type 104 = .ok (.dup, 1) := by decide +kernel
theorem d_Mo_type_105 : decode c_Mo_type 105 = .ok (.getfield 75, 3) := by decide +kernel
theorem d_Mo_type_108 : decode c_Mo_type 108 = .ok (.iconst 1, 1) := by decide +kernel
theorem d_Mo_type_109 : decode c_Mo_type 109 = .ok (.iadd, 1) := by decide +kernel
theorem d_Mo_type_110 : decode c_Mo_type 110 = .ok (.putfield 75, 3) := by decide +kernel
theorem d_Mo_type_113 : decode c_Mo_type 113 = .ok (.iinc 4 1, 3) := by decide +kernel
theorem d_Mo_type_116 : decode c_Mo_type 116 = .ok (.goto (-41), 3) := by decide +kernel
theorem d_Mo_type_119 : decode c_Mo_type 119 = .ok (.aload_n 0, 1) := by decide +kernel
theorem d_Mo_type_120 : decode c_Mo_type 120 = .ok (.getfield 75, 3) := by decide +kernel
theorem d_Mo_type_123 : decode c_Mo_type 123 = .ok (.ireturn, 1) := by decide +kernel
theorem d_Mo_set_0 : decode c_Mo_set 0 = .ok (.iload_n 1, 1) := by decide +kernel
theorem d_Mo_set_1 : decode c_Mo_set 1 = .ok (.invokestatic 138, 3) := by decide +kernel
theorem d_Mo_set_4 : decode c_Mo_set 4 = .ok (.ifCond .eq 20, 3) := by decide +kernel
theorem d_Mo_set_7 : decode c_Mo_set 7 = .ok (.iload_n 2, 1) := by decide +kernel
theorem d_Mo_set_8 : decode c_Mo_set 8 = .ok (.ifCond .lt 16, 3) := by decide +kernel
theorem d_Mo_set_11 : decode c_Mo_set 11 = .ok (.iload_n 2, 1) := by decide +kernel
theorem d_Mo_set_12 : decode c_Mo_set 12 = .ok (.bipush 9, 2) := by decide +kernel
theorem d_Mo_set_14 : decode c_Mo_set 14 = .ok (.if_icmp .gt 10, 3) := by decide +kernel
theorem d_Mo_set_17 : decode c_Mo_set 17 = .ok (.aload_n 0, 1) := by decide +kernel
theorem d_Mo_set_18 : decode c_Mo_set 18 = .ok (.getfield 75, 3) := by decide +kernel
theorem d_Mo_set_21 : decode c_Mo_set 21 = .ok (.ifCond .ne 5, 3) := by decide +kernel
theorem d_Mo_set_24 : decode c_Mo_set 24 = .ok (.iconst 0, 1) := by decide +kernel
theorem d_Mo_set_25 : decode c_Mo_set 25 = .ok (.ireturn, 1) := by decide +kernel
theorem d_Mo_set_26 : decode c_Mo_set 26 = .ok (.aload_n 0, 1) := by decide +kernel
theorem d_Mo_set_27 : decode c_Mo_set 27 = .ok (.getfield 20, 3) := by decide +kernel
theorem d_Mo_set_30 : decode c_Mo_set 30 = .ok (.iload_n 1, 1) := by decide +kernel
theorem d_Mo_set_31 : decode c_Mo_set 31 = .ok (.iaload, 1) := by decide +kernel
theorem d_Mo_set_32 : decode c_Mo_set 32 = .ok (.istore_n 3, 1) := by decide +kernel
theorem d_Mo_set_33 : decode c_Mo_set 33 = .ok (.aload_n 0, 1) := by decide +kernel
theorem d_Mo_set_34 : decode c_Mo_set 34 = .ok (.getfield 16, 3) := by decide +kernel
theorem d_Mo_set_37 : decode c_Mo_set 37 = .ok (.iload_n 1, 1) := by decide +kernel
theorem d_Mo_set_38 : decode c_Mo_set 38 = .ok (.aload_n 0, 1) := by decide +kernel
theorem d_Mo_set_39 : decode c_Mo_set 39 = .ok (.getfield 75, 3) := by decide +kernel
theorem d_Mo_set_42 : decode c_Mo_set 42 = .ok (.iastore, 1) := by decide +kernel
theorem d_Mo_set_43 : decode c_Mo_set 43 = .ok (.iconst 0, 1) := by decide +kernel
theorem d_Mo_set_44 : decode c_Mo_set 44 = .ok (.istore 4, 2) := by decide +kernel
theorem d_Mo_set_46 : decode c_Mo_set 46 = .ok (.iload 4, 2) := by decide +kernel
theorem d_Mo_set_48 : decode c_Mo_set 48 = .ok (.aload_n 0, 1) := by decide +kernel
theorem d_Mo_set_49 : decode c_Mo_set 49 = .ok (.getfield 75, 3) := by decide +kernel
theorem d_Mo_set_52 : decode c_Mo_set 52 = .ok (.if_icmp .ge 28, 3) := by decide +kernel
theorem d_Mo_set_55 : decode c_Mo_set 55 = .ok (.aload_n 0, 1) := by decide +kernel
theorem d_Mo_set_56 : decode c_Mo_set 56 = .ok (.getfield 13, 3) := by decide +kernel
theorem d_Mo_set_59 : decode c_Mo_set 59 = .ok (.bipush 24, 2) := by decide +kernel
theorem d_Mo_set_61 : decode c_Mo_set 61 = .ok (.iload_n 1, 1) := by decide +kernel
theorem d_Mo_set_62 : decode c_Mo_set 62 = .ok (.imul, 1) := by decide +kernel
theorem d_Mo_set_63 : decode c_Mo_set 63 = .ok (.iload 4, 2) := by decide +kernel
theorem d_Mo_set_65 : decode c_Mo_set 65 = .ok (.iadd, 1) := by decide +kernel
theorem d_Mo_set_66 : decode c_Mo_set 66 = .ok (.aload_n 0, 1) := by decide +kernel
theorem d_Mo_set_67 : decode c_Mo_set 67 = .ok (.getfield 7, 3) := by decide +kernel
theorem d_Mo_set_70 : decode c_Mo_set 70 = .ok (.iload 4, 2) := by decide +kernel
theorem d_Mo_set_72 : decode c_Mo_set 72 = .ok (.caload, 1) := by decide +kernel
theorem d_Mo_set_73 : decode c_Mo_set 73 = .ok (.castore, 1) := by decide +kernel
theorem d_Mo_set_74 : decode c_Mo_set 74 = .ok (.iinc 4 1, 3) := by decide +kernel
theorem d_Mo_set_77 : decode c_Mo_set 77 = .ok (.goto (-31), 3) := by decide +kernel
theorem d_Mo_set_80 : decode c_Mo_set 80 = .ok (.aload_n 0, 1) := by decide +kernel
theorem d_Mo_set_81 : decode c_Mo_set 81 = .ok (.iconst 0, 1) := by decide +kernel
theorem d_Mo_set_82 : decode c_Mo_set 82 = .ok (.putfield 75, 3) := by decide +kernel
theorem d_Mo_set_85 : decode c_Mo_set 85 = .ok (.aload_n 0, 1) := by decide +kernel
theorem d_Mo_set_86 : decode c_Mo_set 86 = .ok (.getfield 20, 3) := by decide +kernel
theorem d_Mo_set_89 : decode c_Mo_set 89 = .ok (.iload_n 1, 1) := by decide +kernel
theorem d_Mo_set_90 : decode c_Mo_set 90 = .ok (.iload_n 2, 1) := by decide +kernel
theorem d_Mo_set_91 : decode c_Mo_set 91 = .ok (.iastore, 1) := by decide +kernel
theorem d_Mo_set_92 : decode c_Mo_set 92 = .ok (.aload_n 0, 1) := by decide +kernel
theorem d_Mo_set_93 : decode c_Mo_set 93 = .ok (.getfield 30, 3) := by decide +kernel
theorem d_Mo_set_96 : decode c_Mo_set 96 = .ok (.iload_n 1, 1) := by decide +kernel
theorem d_Mo_set_97 : decode c_Mo_set 97 = .ok (.aload_n 0, 1) := by decide +kernel
theorem d_Mo_set_98 : decode c_Mo_set 98 = .ok (.iload_n 1, 1) := by decide +kernel
theorem d_Mo_set_99 : decode c_Mo_set 99 = .ok (.invokevirtual 141, 3) := by decide +kernel
theorem d_Mo_set_102 : decode c_Mo_set 102 = .ok (.bastore, 1) := by decide +kernel
theorem d_Mo_set_103 : decode c_Mo_set 103 = .ok (.aload_n 0, 1) := by decide +kernel
theorem d_Mo_set_104 : decode c_Mo_set 104 = .ok (.getfield 33, 3) := by decide +kernel
theorem d_Mo_set_107 : decode c_Mo_set 107 = .ok (.iload_n 1, 1) := by decide +kernel
theorem d_Mo_set_108 : decode c_Mo_set 108 = .ok (.aload_n 0, 1) := by decide +kernel
theorem d_Mo_set_109 : decode c_Mo_set 109 = .ok (.getfield 30, 3) := by decide +kernel
theorem d_Mo_set_112 : decode c_Mo_set 112 = .ok (.iload_n 1, 1) := by decide +kernel
theorem d_Mo_set_113 : decode c_Mo_set 113 = .ok (.baload, 1) := by decide +kernel
theorem d_Mo_set_114 : decode c_Mo_set 114 = .ok (.ifCond .eq 12, 3) := by decide +kernel
theorem d_Mo_set_117 : decode c_Mo_set 117 = .ok (.aload_n 0, 1) := by decide +kernel
theorem d_Mo_set_118 : decode c_Mo_set 118 = .ok (.getfield 33, 3) := by decide +kernel
theorem d_Mo_set_121 : decode c_Mo_set 121 = .ok (.iload_n 1, 1) := by decide +kernel
theorem d_Mo_set_122 : decode c_Mo_set 122 = .ok (.iaload, 1) := by decide +kernel
theorem d_Mo_set_123 : decode c_Mo_set 123 = .ok (.goto 4, 3) := by decide +kernel
theorem d_Mo_set_126 : decode c_Mo_set 126 = .ok (.iconst 0, 1) := by decide +kernel
theorem d_Mo_set_127 : decode c_Mo_set 127 = .ok (.iastore, 1) := by decide +kernel
theorem d_Mo_set_128 : decode c_Mo_set 128 = .ok (.aload_n 0, 1) := by decide +kernel
theorem d_Mo_set_129 : decode c_Mo_set 129 = .ok (.getfield 30, 3) := by decide +kernel
theorem d_Mo_set_132 : decode c_Mo_set 132 = .ok (.iload_n 1, 1) := by decide +kernel
theorem d_Mo_set_133 : decode c_Mo_set 133 = .ok (.baload, 1) := by decide +kernel
theorem d_Mo_set_134 : decode c_Mo_set 134 = .ok (.ifCond .eq 8, 3) := by decide +kernel
theorem d_Mo_set_137 : decode c_Mo_set 137 = .ok (.aload_n 0, 1) := by decide +kernel
theorem d_Mo_set_138 : decode c_Mo_set 138 = .ok (.iload_n 1, 1) := by decide +kernel
theorem d_Mo_set_139 : decode c_Mo_set 139 = .ok (.invokevirtual 144, 3) := by decide +kernel
theorem d_Mo_set_142 : decode c_Mo_set 142 = .ok (.aload_n 0, 1) := by decide +kernel
theorem d_Mo_set_143 : decode c_Mo_set 143 = .ok (.iload_n 1, 1) := by decide +kernel
theorem d_Mo_set_144 : decode c_Mo_set 144 = .ok (.iload_n 3, 1) := by decide +kernel
theorem d_Mo_set_145 : decode c_Mo_set 145 = .ok (.invokevirtual 147, 3) := by decide +kernel
theorem d_Mo_set_148 : decode c_Mo_set 148 = .ok (.iconst 1, 1) := by decide +kernel
theorem d_Mo_set_149 : decode c_Mo_set 149 = .ok (.ireturn, 1) := by decide +kernel
theorem d_Mo_isCell_0 : decode c_Mo_isCell 0 = .ok (.iload_n 0, 1) := by decide +kernel
theorem d_Mo_isCell_1 : decode c_Mo_isCell 1 = .ok (.ifCond .lt 13, 3) := by decide +kernel
theorem d_Mo_isCell_4 : decode c_Mo_isCell 4 = .ok (.iload_n 0, 1) := by decide +kernel
theorem d_Mo_isCell_5 : decode c_Mo_isCell 5 = .ok (.bipush 9, 2) := by decide +kernel
theorem d_Mo_isCell_7 : decode c_Mo_isCell 7 = .ok (.if_icmp .gt 7, 3) := by decide +kernel
theorem d_Mo_isCell_10 : decode c_Mo_isCell 10 = .ok (.iconst 1, 1) := by decide +kernel
theorem d_Mo_isCell_11 : decode c_Mo_isCell 11 = .ok (.goto 4, 3) := by decide +kernel
theorem d_Mo_isCell_14 : decode c_Mo_isCell 14 = .ok (.iconst 0, 1) := by decide +kernel
theorem d_Mo_isCell_15 : decode c_Mo_isCell 15 = .ok (.ireturn, 1) := by decide +kernel
theorem d_Mo_reads_0 : decode c_Mo_reads 0 = .ok (.iconst 0, 1) := by decide +kernel
theorem d_Mo_reads_1 : decode c_Mo_reads 1 = .ok (.istore_n 2, 1) := by decide +kernel
