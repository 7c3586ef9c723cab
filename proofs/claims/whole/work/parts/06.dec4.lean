theorem d_Mo_typeOf_48 : decode c_Mo_typeOf 48 = .ok (.baload, 1) := by decide +kernel
theorem d_Mo_typeOf_49 : decode c_Mo_typeOf 49 = .ok (.ifCond .ne 99, 3) := by decide +kernel
theorem d_Mo_typeOf_52 : decode c_Mo_typeOf 52 = .ok (.aload_n 0, 1) := by decide +kernel
theorem d_Mo_typeOf_53 : decode c_Mo_typeOf 53 = .ok (.iload_n 1, 1) := by decide +kernel
theorem d_Mo_typeOf_54 : decode c_Mo_typeOf 54 = .ok (.iload 4, 2) := by decide +kernel
theorem d_Mo_typeOf_56 : decode c_Mo_typeOf 56 = .ok (.invokevirtual 88, 3) := by decide +kernel
theorem d_Mo_typeOf_59 : decode c_Mo_typeOf 59 = .ok (.istore 5, 2) := by decide +kernel
theorem d_Mo_typeOf_61 : decode c_Mo_typeOf 61 = .ok (.iload 5, 2) := by decide +kernel
theorem d_Mo_typeOf_63 : decode c_Mo_typeOf 63 = .ok (.invokestatic 95, 3) := by decide +kernel
theorem d_Mo_typeOf_66 : decode c_Mo_typeOf 66 = .ok (.ifCond .ne 11, 3) := by decide +kernel
theorem d_Mo_typeOf_69 : decode c_Mo_typeOf 69 = .ok (.iload 5, 2) := by decide +kernel
theorem d_Mo_typeOf_71 : decode c_Mo_typeOf 71 = .ok (.invokestatic 102, 3) := by decide +kernel
theorem d_Mo_typeOf_74 : decode c_Mo_typeOf 74 = .ok (.ifCond .eq 7, 3) := by decide +kernel
theorem d_Mo_typeOf_77 : decode c_Mo_typeOf 77 = .ok (.iconst 1, 1) := by decide +kernel
theorem d_Mo_typeOf_78 : decode c_Mo_typeOf 78 = .ok (.goto 47, 3) := by decide +kernel
theorem d_Mo_typeOf_81 : decode c_Mo_typeOf 81 = .ok (.iload 5, 2) := by decide +kernel
theorem d_Mo_typeOf_83 : decode c_Mo_typeOf 83 = .ok (.invokestatic 99, 3) := by decide +kernel
theorem d_Mo_typeOf_86 : decode c_Mo_typeOf 86 = .ok (.ifCond .eq 32, 3) := by decide +kernel
theorem d_Mo_typeOf_89 : decode c_Mo_typeOf 89 = .ok (.aload_n 0, 1) := by decide +kernel
theorem d_Mo_typeOf_90 : decode c_Mo_typeOf 90 = .ok (.iload_n 1, 1) := by decide +kernel
theorem d_Mo_typeOf_91 : decode c_Mo_typeOf 91 = .ok (.iload 5, 2) := by decide +kernel
theorem d_Mo_typeOf_93 : decode c_Mo_typeOf 93 = .ok (.bipush 97, 2) := by decide +kernel
theorem d_Mo_typeOf_95 : decode c_Mo_typeOf 95 = .ok (.isub, 1) := by decide +kernel
theorem d_Mo_typeOf_96 : decode c_Mo_typeOf 96 = .ok (.invokevirtual 161, 3) := by decide +kernel
theorem d_Mo_typeOf_99 : decode c_Mo_typeOf 99 = .ok (.ifCond .eq 7, 3) := by decide +kernel
theorem d_Mo_typeOf_102 : decode c_Mo_typeOf 102 = .ok (.iconst 0, 1) := by decide +kernel
theorem d_Mo_typeOf_103 : decode c_Mo_typeOf 103 = .ok (.goto 22, 3) := by decide +kernel
theorem d_Mo_typeOf_106 : decode c_Mo_typeOf 106 = .ok (.aload_n 0, 1) := by decide +kernel
theorem d_Mo_typeOf_107 : decode c_Mo_typeOf 107 = .ok (.iload 5, 2) := by decide +kernel
theorem d_Mo_typeOf_109 : decode c_Mo_typeOf 109 = .ok (.bipush 97, 2) := by decide +kernel
theorem d_Mo_typeOf_111 : decode c_Mo_typeOf 111 = .ok (.isub, 1) := by decide +kernel
theorem d_Mo_typeOf_112 : decode c_Mo_typeOf 112 = .ok (.invokevirtual 164, 3) := by decide +kernel
theorem d_Mo_typeOf_115 : decode c_Mo_typeOf 115 = .ok (.goto 10, 3) := by decide +kernel
theorem d_Mo_typeOf_118 : decode c_Mo_typeOf 118 = .ok (.aload_n 0, 1) := by decide +kernel
theorem d_Mo_typeOf_119 : decode c_Mo_typeOf 119 = .ok (.iload_n 1, 1) := by decide +kernel
theorem d_Mo_typeOf_120 : decode c_Mo_typeOf 120 = .ok (.iload 4, 2) := by decide +kernel
theorem d_Mo_typeOf_122 : decode c_Mo_typeOf 122 = .ok (.invokevirtual 167, 3) := by decide +kernel
theorem d_Mo_typeOf_125 : decode c_Mo_typeOf 125 = .ok (.istore 6, 2) := by decide +kernel
theorem d_Mo_typeOf_127 : decode c_Mo_typeOf 127 = .ok (.iload_n 2, 1) := by decide +kernel
theorem d_Mo_typeOf_128 : decode c_Mo_typeOf 128 = .ok (.ifCond .eq 12, 3) := by decide +kernel
theorem d_Mo_typeOf_131 : decode c_Mo_typeOf 131 = .ok (.iload 6, 2) := by decide +kernel
theorem d_Mo_typeOf_133 : decode c_Mo_typeOf 133 = .ok (.ifCond .eq 7, 3) := by decide +kernel
theorem d_Mo_typeOf_136 : decode c_Mo_typeOf 136 = .ok (.iconst 1, 1) := by decide +kernel
theorem d_Mo_typeOf_137 : decode c_Mo_typeOf 137 = .ok (.goto 4, 3) := by decide +kernel
theorem d_Mo_typeOf_140 : decode c_Mo_typeOf 140 = .ok (.iconst 0, 1) := by decide +kernel
theorem d_Mo_typeOf_141 : decode c_Mo_typeOf 141 = .ok (.istore_n 2, 1) := by decide +kernel
theorem d_Mo_typeOf_142 : decode c_Mo_typeOf 142 = .ok (.aload_n 0, 1) := by decide +kernel
theorem d_Mo_typeOf_143 : decode c_Mo_typeOf 143 = .ok (.iload 6, 2) := by decide +kernel
theorem d_Mo_typeOf_145 : decode c_Mo_typeOf 145 = .ok (.invokevirtual 170, 3) := by decide +kernel
theorem d_Mo_typeOf_148 : decode c_Mo_typeOf 148 = .ok (.iinc 4 (-1), 3) := by decide +kernel
theorem d_Mo_typeOf_151 : decode c_Mo_typeOf 151 = .ok (.goto (-120), 3) := by decide +kernel
theorem d_Mo_typeOf_154 : decode c_Mo_typeOf 154 = .ok (.iload_n 2, 1) := by decide +kernel
theorem d_Mo_typeOf_155 : decode c_Mo_typeOf 155 = .ok (.ifCond .eq 12, 3) := by decide +kernel
theorem d_Mo_typeOf_158 : decode c_Mo_typeOf 158 = .ok (.aload_n 0, 1) := by decide +kernel
theorem d_Mo_typeOf_159 : decode c_Mo_typeOf 159 = .ok (.getfield 57, 3) := by decide +kernel
theorem d_Mo_typeOf_162 : decode c_Mo_typeOf 162 = .ok (.iconst 0, 1) := by decide +kernel
theorem d_Mo_typeOf_163 : decode c_Mo_typeOf 163 = .ok (.iaload, 1) := by decide +kernel
theorem d_Mo_typeOf_164 : decode c_Mo_typeOf 164 = .ok (.goto 4, 3) := by decide +kernel
theorem d_Mo_typeOf_167 : decode c_Mo_typeOf 167 = .ok (.iconst 0, 1) := by decide +kernel
theorem d_Mo_typeOf_168 : decode c_Mo_typeOf 168 = .ok (.ireturn, 1) := by decide +kernel
theorem d_Mo_ownName_0 : decode c_Mo_ownName 0 = .ok (.aload_n 0, 1) := by decide +kernel
theorem d_Mo_ownName_1 : decode c_Mo_ownName 1 = .ok (.getfield 20, 3) := by decide +kernel
theorem d_Mo_ownName_4 : decode c_Mo_ownName 4 = .ok (.iload_n 1, 1) := by decide +kernel
theorem d_Mo_ownName_5 : decode c_Mo_ownName 5 = .ok (.iaload, 1) := by decide +kernel
theorem d_Mo_ownName_6 : decode c_Mo_ownName 6 = .ok (.iload_n 2, 1) := by decide +kernel
theorem d_Mo_ownName_7 : decode c_Mo_ownName 7 = .ok (.if_icmp .ne 7, 3) := by decide +kernel
theorem d_Mo_ownName_10 : decode c_Mo_ownName 10 = .ok (.iconst 1, 1) := by decide +kernel
theorem d_Mo_ownName_11 : decode c_Mo_ownName 11 = .ok (.goto 4, 3) := by decide +kernel
theorem d_Mo_ownName_14 : decode c_Mo_ownName 14 = .ok (.iconst 0, 1) := by decide +kernel
theorem d_Mo_ownName_15 : decode c_Mo_ownName 15 = .ok (.ireturn, 1) := by decide +kernel
theorem d_Mo_typeOfName_0 : decode c_Mo_typeOfName 0 = .ok (.aload_n 0, 1) := by decide +kernel
theorem d_Mo_typeOfName_1 : decode c_Mo_typeOfName 1 = .ok (.iload_n 1, 1) := by decide +kernel
theorem d_Mo_typeOfName_2 : decode c_Mo_typeOfName 2 = .ok (.invokevirtual 131, 3) := by decide +kernel
theorem d_Mo_typeOfName_5 : decode c_Mo_typeOfName 5 = .ok (.istore_n 2, 1) := by decide +kernel
theorem d_Mo_typeOfName_6 : decode c_Mo_typeOfName 6 = .ok (.aload_n 0, 1) := by decide +kernel
theorem d_Mo_typeOfName_7 : decode c_Mo_typeOfName 7 = .ok (.getfield 39, 3) := by decide +kernel
theorem d_Mo_typeOfName_10 : decode c_Mo_typeOfName 10 = .ok (.iload_n 2, 1) := by decide +kernel
theorem d_Mo_typeOfName_11 : decode c_Mo_typeOfName 11 = .ok (.iaload, 1) := by decide +kernel
theorem d_Mo_typeOfName_12 : decode c_Mo_typeOfName 12 = .ok (.bipush 14, 2) := by decide +kernel
theorem d_Mo_typeOfName_14 : decode c_Mo_typeOfName 14 = .ok (.if_icmp .ne 12, 3) := by decide +kernel
theorem d_Mo_typeOfName_17 : decode c_Mo_typeOfName 17 = .ok (.aload_n 0, 1) := by decide +kernel
theorem d_Mo_typeOfName_18 : decode c_Mo_typeOfName 18 = .ok (.getfield 45, 3) := by decide +kernel
theorem d_Mo_typeOfName_21 : decode c_Mo_typeOfName 21 = .ok (.iload_n 2, 1) := by decide +kernel
theorem d_Mo_typeOfName_22 : decode c_Mo_typeOfName 22 = .ok (.iaload, 1) := by decide +kernel
theorem d_Mo_typeOfName_23 : decode c_Mo_typeOfName 23 = .ok (.goto 4, 3) := by decide +kernel
theorem d_Mo_typeOfName_26 : decode c_Mo_typeOfName 26 = .ok (.iconst 0, 1) := by decide +kernel
theorem d_Mo_typeOfName_27 : decode c_Mo_typeOfName 27 = .ok (.ireturn, 1) := by decide +kernel
theorem d_Mo_typeOver_0 : decode c_Mo_typeOver 0 = .ok (.aload_n 0, 1) := by decide +kernel
theorem d_Mo_typeOver_1 : decode c_Mo_typeOver 1 = .ok (.iload_n 1, 1) := by decide +kernel
theorem d_Mo_typeOver_2 : decode c_Mo_typeOver 2 = .ok (.iload_n 2, 1) := by decide +kernel
theorem d_Mo_typeOver_3 : decode c_Mo_typeOver 3 = .ok (.invokevirtual 88, 3) := by decide +kernel
theorem d_Mo_typeOver_6 : decode c_Mo_typeOver 6 = .ok (.istore_n 3, 1) := by decide +kernel
theorem d_Mo_typeOver_7 : decode c_Mo_typeOver 7 = .ok (.aload_n 0, 1) := by decide +kernel
theorem d_Mo_typeOver_8 : decode c_Mo_typeOver 8 = .ok (.invokevirtual 154, 3) := by decide +kernel
theorem d_Mo_typeOver_11 : decode c_Mo_typeOver 11 = .ok (.istore 4, 2) := by decide +kernel
theorem d_Mo_typeOver_13 : decode c_Mo_typeOver 13 = .ok (.iload_n 3, 1) := by decide +kernel
theorem d_Mo_typeOver_14 : decode c_Mo_typeOver 14 = .ok (.bipush 126, 2) := by decide +kernel
theorem d_Mo_typeOver_16 : decode c_Mo_typeOver 16 = .ok (.if_icmp .ne 15, 3) := by decide +kernel
theorem d_Mo_typeOver_19 : decode c_Mo_typeOver 19 = .ok (.iload 4, 2) := by decide +kernel
theorem d_Mo_typeOver_21 : decode c_Mo_typeOver 21 = .ok (.iconst 2, 1) := by decide +kernel
theorem d_Mo_typeOver_22 : decode c_Mo_typeOver 22 = .ok (.if_icmp .ne 7, 3) := by decide +kernel
theorem d_Mo_typeOver_25 : decode c_Mo_typeOver 25 = .ok (.iconst 2, 1) := by decide +kernel
theorem d_Mo_typeOver_26 : decode c_Mo_typeOver 26 = .ok (.goto 4, 3) := by decide +kernel
theorem d_Mo_typeOver_29 : decode c_Mo_typeOver 29 = .ok (.iconst 0, 1) := by decide +kernel
theorem d_Mo_typeOver_30 : decode c_Mo_typeOver 30 = .ok (.ireturn, 1) := by decide +kernel
theorem d_Mo_typeOver_31 : decode c_Mo_typeOver 31 = .ok (.iload_n 3, 1) := by decide +kernel
theorem d_Mo_typeOver_32 : decode c_Mo_typeOver 32 = .ok (.bipush 33, 2) := by decide +kernel
theorem d_Mo_typeOver_34 : decode c_Mo_typeOver 34 = .ok (.if_icmp .ne 34, 3) := by decide +kernel
theorem d_Mo_typeOver_37 : decode c_Mo_typeOver 37 = .ok (.iload 4, 2) := by decide +kernel
theorem d_Mo_typeOver_39 : decode c_Mo_typeOver 39 = .ok (.iconst 1, 1) := by decide +kernel
theorem d_Mo_typeOver_40 : decode c_Mo_typeOver 40 = .ok (.if_icmp .ne 26, 3) := by decide +kernel
theorem d_Mo_typeOver_43 : decode c_Mo_typeOver 43 = .ok (.aload_n 0, 1) := by decide +kernel
theorem d_Mo_typeOver_44 : decode c_Mo_typeOver 44 = .ok (.iload_n 1, 1) := by decide +kernel
theorem d_Mo_typeOver_45 : decode c_Mo_typeOver 45 = .ok (.aload_n 0, 1) := by decide +kernel
theorem d_Mo_typeOver_46 : decode c_Mo_typeOver 46 = .ok (.iload_n 1, 1) := by decide +kernel
theorem d_Mo_typeOver_47 : decode c_Mo_typeOver 47 = .ok (.iload_n 2, 1) := by decide +kernel
theorem d_Mo_typeOver_48 : decode c_Mo_typeOver 48 = .ok (.iconst 1, 1) := by decide +kernel
theorem d_Mo_typeOver_49 : decode c_Mo_typeOver 49 = .ok (.iadd, 1) := by decide +kernel
theorem d_Mo_typeOver_50 : decode c_Mo_typeOver 50 = .ok (.invokevirtual 88, 3) := by decide +kernel
theorem d_Mo_typeOver_53 : decode c_Mo_typeOver 53 = .ok (.bipush 97, 2) := by decide +kernel
theorem d_Mo_typeOver_55 : decode c_Mo_typeOver 55 = .ok (.isub, 1) := by decide +kernel
theorem d_Mo_typeOver_56 : decode c_Mo_typeOver 56 = .ok (.invokevirtual 158, 3) := by decide +kernel
theorem d_Mo_typeOver_59 : decode c_Mo_typeOver 59 = .ok (.ifCond .eq 7, 3) := by decide +kernel
theorem d_Mo_typeOver_62 : decode c_Mo_typeOver 62 = .ok (.iconst 1, 1) := by decide +kernel
theorem d_Mo_typeOver_63 : decode c_Mo_typeOver 63 = .ok (.goto 4, 3) := by decide +kernel
theorem d_Mo_typeOver_66 : decode c_Mo_typeOver 66 = .ok (.iconst 0, 1) := by decide +kernel
theorem d_Mo_typeOver_67 : decode c_Mo_typeOver 67 = .ok (.ireturn, 1) := by decide +kernel
theorem d_Mo_typeOver_68 : decode c_Mo_typeOver 68 = .ok (.aload_n 0, 1) := by decide +kernel
theorem d_Mo_typeOver_69 : decode c_Mo_typeOver 69 = .ok (.invokevirtual 154, 3) := by decide +kernel
theorem d_Mo_typeOver_72 : decode c_Mo_typeOver 72 = .ok (.istore 5, 2) := by decide +kernel
theorem d_Mo_typeOver_74 : decode c_Mo_typeOver 74 = .ok (.iload_n 3, 1) := by decide +kernel
theorem d_Mo_typeOver_75 : decode c_Mo_typeOver 75 = .ok (.bipush 36, 2) := by decide +kernel
theorem d_Mo_typeOver_77 : decode c_Mo_typeOver 77 = .ok (.if_icmp .ne 16, 3) := by decide +kernel
theorem d_Mo_typeOver_80 : decode c_Mo_typeOver 80 = .ok (.iload 4, 2) := by decide +kernel
theorem d_Mo_typeOver_82 : decode c_Mo_typeOver 82 = .ok (.iconst 1, 1) := by decide +kernel
theorem d_Mo_typeOver_83 : decode c_Mo_typeOver 83 = .ok (.if_icmp .ne 8, 3) := by decide +kernel
theorem d_Mo_typeOver_86 : decode c_Mo_typeOver 86 = .ok (.iload 5, 2) := by decide +kernel
theorem d_Mo_typeOver_88 : decode c_Mo_typeOver 88 = .ok (.goto 4, 3) := by decide +kernel
theorem d_Mo_typeOver_91 : decode c_Mo_typeOver 91 = .ok (.iconst 0, 1) := by decide +kernel
theorem d_Mo_typeOver_92 : decode c_Mo_typeOver 92 = .ok (.ireturn, 1) := by decide +kernel
theorem d_Mo_typeOver_93 : decode c_Mo_typeOver 93 = .ok (.iload_n 3, 1) := by decide +kernel
theorem d_Mo_typeOver_94 : decode c_Mo_typeOver 94 = .ok (.bipush 38, 2) := by decide +kernel
theorem d_Mo_typeOver_96 : decode c_Mo_typeOver 96 = .ok (.if_icmp .ne 21, 3) := by decide +kernel
theorem d_Mo_typeOver_99 : decode c_Mo_typeOver 99 = .ok (.iload 4, 2) := by decide +kernel
theorem d_Mo_typeOver_101 : decode c_Mo_typeOver 101 = .ok (.iconst 2, 1) := by decide +kernel
theorem d_Mo_typeOver_102 : decode c_Mo_typeOver 102 = .ok (.if_icmp .ne 13, 3) := by decide +kernel
theorem d_Mo_typeOver_105 : decode c_Mo_typeOver 105 = .ok (.iload 5, 2) := by decide +kernel
theorem d_Mo_typeOver_107 : decode c_Mo_typeOver 107 = .ok (.iconst 2, 1) := by decide +kernel
theorem d_Mo_typeOver_108 : decode c_Mo_typeOver 108 = .ok (.if_icmp .ne 7, 3) := by decide +kernel
theorem d_Mo_typeOver_111 : decode c_Mo_typeOver 111 = .ok (.iconst 2, 1) := by decide +kernel
theorem d_Mo_typeOver_112 : decode c_Mo_typeOver 112 = .ok (.goto 4, 3) := by decide +kernel
theorem d_Mo_typeOver_115 : decode c_Mo_typeOver 115 = .ok (.iconst 0, 1) := by decide +kernel
theorem d_Mo_typeOver_116 : decode c_Mo_typeOver 116 = .ok (.ireturn, 1) := by decide +kernel
theorem d_Mo_typeOver_117 : decode c_Mo_typeOver 117 = .ok (.iload_n 3, 1) := by decide +kernel
theorem d_Mo_typeOver_118 : decode c_Mo_typeOver 118 = .ok (.bipush 63, 2) := by decide +kernel
theorem d_Mo_typeOver_120 : decode c_Mo_typeOver 120 = .ok (.if_icmp .ne 29, 3) := by decide +kernel
theorem d_Mo_typeOver_123 : decode c_Mo_typeOver 123 = .ok (.aload_n 0, 1) := by decide +kernel
theorem d_Mo_typeOver_124 : decode c_Mo_typeOver 124 = .ok (.invokevirtual 154, 3) := by decide +kernel
theorem d_Mo_typeOver_127 : decode c_Mo_typeOver 127 = .ok (.istore 6, 2) := by decide +kernel
theorem d_Mo_typeOver_129 : decode c_Mo_typeOver 129 = .ok (.iload 4, 2) := by decide +kernel
theorem d_Mo_typeOver_131 : decode c_Mo_typeOver 131 = .ok (.iconst 2, 1) := by decide +kernel
theorem d_Mo_typeOver_132 : decode c_Mo_typeOver 132 = .ok (.if_icmp .ne 15, 3) := by decide +kernel
theorem d_Mo_typeOver_135 : decode c_Mo_typeOver 135 = .ok (.iload 5, 2) := by decide +kernel
theorem d_Mo_typeOver_137 : decode c_Mo_typeOver 137 = .ok (.iload 6, 2) := by decide +kernel
theorem d_Mo_typeOver_139 : decode c_Mo_typeOver 139 = .ok (.if_icmp .ne 8, 3) := by decide +kernel
theorem d_Mo_typeOver_142 : decode c_Mo_typeOver 142 = .ok (.iload 5, 2) := by decide +kernel
theorem d_Mo_typeOver_144 : decode c_Mo_typeOver 144 = .ok (.goto 4, 3) := by decide +kernel
theorem d_Mo_typeOver_147 : decode c_Mo_typeOver 147 = .ok (.iconst 0, 1) := by decide +kernel
theorem d_Mo_typeOver_148 : decode c_Mo_typeOver 148 = .ok (.ireturn, 1) := by decide +kernel
theorem d_Mo_typeOver_149 : decode c_Mo_typeOver 149 = .ok (.iload_n 3, 1) := by decide +kernel
theorem d_Mo_typeOver_150 : decode c_Mo_typeOver 150 = .ok (.bipush 35, 2) := by decide +kernel
theorem d_Mo_typeOver_152 : decode c_Mo_typeOver 152 = .ok (.if_icmp .ne 33, 3) := by decide +kernel
theorem d_Mo_typeOver_155 : decode c_Mo_typeOver 155 = .ok (.aload_n 0, 1) := by decide +kernel
theorem d_Mo_typeOver_156 : decode c_Mo_typeOver 156 = .ok (.invokevirtual 154, 3) := by decide +kernel
theorem d_Mo_typeOver_159 : decode c_Mo_typeOver 159 = .ok (.istore 6, 2) := by decide +kernel
theorem d_Mo_typeOver_161 : decode c_Mo_typeOver 161 = .ok (.iload 4, 2) := by decide +kernel
theorem d_Mo_typeOver_163 : decode c_Mo_typeOver 163 = .ok (.iconst 1, 1) := by decide +kernel
theorem d_Mo_typeOver_164 : decode c_Mo_typeOver 164 = .ok (.if_icmp .ne 19, 3) := by decide +kernel
theorem d_Mo_typeOver_167 : decode c_Mo_typeOver 167 = .ok (.iload 5, 2) := by decide +kernel
theorem d_Mo_typeOver_169 : decode c_Mo_typeOver 169 = .ok (.iconst 1, 1) := by decide +kernel
theorem d_Mo_typeOver_170 : decode c_Mo_typeOver 170 = .ok (.if_icmp .ne 13, 3) := by decide +kernel
theorem d_Mo_typeOver_173 : decode c_Mo_typeOver 173 = .ok (.iload 6, 2) := by decide +kernel
theorem d_Mo_typeOver_175 : decode c_Mo_typeOver 175 = .ok (.iconst 1, 1) := by decide +kernel
theorem d_Mo_typeOver_176 : decode c_Mo_typeOver 176 = .ok (.if_icmp .ne 7, 3) := by decide +kernel
theorem d_Mo_typeOver_179 : decode c_Mo_typeOver 179 = .ok (.iconst 1, 1) := by decide +kernel
theorem d_Mo_typeOver_180 : decode c_Mo_typeOver 180 = .ok (.goto 4, 3) := by decide +kernel
theorem d_Mo_typeOver_183 : decode c_Mo_typeOver 183 = .ok (.iconst 0, 1) := by decide +kernel
theorem d_Mo_typeOver_184 : decode c_Mo_typeOver 184 = .ok (.ireturn, 1) := by decide +kernel
theorem d_Mo_typeOver_185 : decode c_Mo_typeOver 185 = .ok (.iload 4, 2) := by decide +kernel
theorem d_Mo_typeOver_187 : decode c_Mo_typeOver 187 = .ok (.iconst 1, 1) := by decide +kernel
theorem d_Mo_typeOver_188 : decode c_Mo_typeOver 188 = .ok (.if_icmp .ne 9, 3) := by decide +kernel
theorem d_Mo_typeOver_191 : decode c_Mo_typeOver 191 = .ok (.iload 5, 2) := by decide +kernel
theorem d_Mo_typeOver_193 : decode c_Mo_typeOver 193 = .ok (.iconst 1, 1) := by decide +kernel
theorem d_Mo_typeOver_194 : decode c_Mo_typeOver 194 = .ok (.if_icmp .eq 7, 3) := by decide +kernel
theorem d_Mo_typeOver_197 : decode c_Mo_typeOver 197 = .ok (.iconst 0, 1) := by decide +kernel
theorem d_Mo_typeOver_198 : decode c_Mo_typeOver 198 = .ok (.goto 20, 3) := by decide +kernel
theorem d_Mo_typeOver_201 : decode c_Mo_typeOver 201 = .ok (.iload_n 3, 1) := by decide +kernel
theorem d_Mo_typeOver_202 : decode c_Mo_typeOver 202 = .ok (.bipush 60, 2) := by decide +kernel
theorem d_Mo_typeOver_204 : decode c_Mo_typeOver 204 = .ok (.if_icmp .eq 9, 3) := by decide +kernel
theorem d_Mo_typeOver_207 : decode c_Mo_typeOver 207 = .ok (.iload_n 3, 1) := by decide +kernel
theorem d_Mo_typeOver_208 : decode c_Mo_typeOver 208 = .ok (.bipush 61, 2) := by decide +kernel
theorem d_Mo_typeOver_210 : decode c_Mo_typeOver 210 = .ok (.if_icmp .ne 7, 3) := by decide +kernel
theorem d_Mo_typeOver_213 : decode c_Mo_typeOver 213 = .ok (.iconst 2, 1) := by decide +kernel
theorem d_Mo_typeOver_214 : decode c_Mo_typeOver 214 = .ok (.goto 4, 3) := by decide +kernel
theorem d_Mo_typeOver_217 : decode c_Mo_typeOver 217 = .ok (.iconst 1, 1) := by decide +kernel
theorem d_Mo_typeOver_218 : decode c_Mo_typeOver 218 = .ok (.ireturn, 1) := by decide +kernel
theorem d_Mo_popType_0 : decode c_Mo_popType 0 = .ok (.aload_n 0, 1) := by decide +kernel
theorem d_Mo_popType_1 : decode c_Mo_popType 1 = .ok (.dup, 1) := by decide +kernel
theorem d_Mo_popType_2 : decode c_Mo_popType 2 = .ok (.getfield 151, 3) := by decide +kernel
theorem d_Mo_popType_5 : decode c_Mo_popType 5 = .ok (.iconst 1, 1) := by decide +kernel
theorem d_Mo_popType_6 : decode c_Mo_popType 6 = .ok (.isub, 1) := by decide +kernel
theorem d_Mo_popType_7 : decode c_Mo_popType 7 = .ok (.putfield 151, 3) := by decide +kernel
theorem d_Mo_popType_10 : decode c_Mo_popType 10 = .ok (.aload_n 0, 1) := by decide +kernel
theorem d_Mo_popType_11 : decode c_Mo_popType 11 = .ok (.getfield 57, 3) := by decide +kernel
theorem d_Mo_popType_14 : decode c_Mo_popType 14 = .ok (.aload_n 0, 1) := by decide +kernel
theorem d_Mo_popType_15 : decode c_Mo_popType 15 = .ok (.getfield 151, 3) := by decide +kernel
theorem d_Mo_popType_18 : decode c_Mo_popType 18 = .ok (.iaload, 1) := by decide +kernel
theorem d_Mo_popType_19 : decode c_Mo_popType 19 = .ok (.ireturn, 1) := by decide +kernel
theorem d_Mo_isFunctionName_0 : decode c_Mo_isFunctionName 0 = .ok (.aload_n 0, 1) := by decide +kernel
theorem d_Mo_isFunctionName_1 : decode c_Mo_isFunctionName 1 = .ok (.iload_n 2, 1) := by decide +kernel
theorem d_Mo_isFunctionName_2 : decode c_Mo_isFunctionName 2 = .ok (.invokevirtual 131, 3) := by decide +kernel
theorem d_Mo_isFunctionName_5 : decode c_Mo_isFunctionName 5 = .ok (.istore_n 3, 1) := by decide +kernel
theorem d_Mo_isFunctionName_6 : decode c_Mo_isFunctionName 6 = .ok (.iload_n 3, 1) := by decide +kernel
theorem d_Mo_isFunctionName_7 : decode c_Mo_isFunctionName 7 = .ok (.iload_n 1, 1) := by decide +kernel
theorem d_Mo_isFunctionName_8 : decode c_Mo_isFunctionName 8 = .ok (.if_icmp .ne 11, 3) := by decide +kernel
theorem d_Mo_isFunctionName_11 : decode c_Mo_isFunctionName 11 = .ok (.aload_n 0, 1) := by decide +kernel
theorem d_Mo_isFunctionName_12 : decode c_Mo_isFunctionName 12 = .ok (.iload_n 1, 1) := by decide +kernel
theorem d_Mo_isFunctionName_13 : decode c_Mo_isFunctionName 13 = .ok (.invokevirtual 116, 3) := by decide +kernel
theorem d_Mo_isFunctionName_16 : decode c_Mo_isFunctionName 16 = .ok (.goto 19, 3) := by decide +kernel
theorem d_Mo_isFunctionName_19 : decode c_Mo_isFunctionName 19 = .ok (.aload_n 0, 1) := by decide +kernel
theorem d_Mo_isFunctionName_20 : decode c_Mo_isFunctionName 20 = .ok (.getfield 39, 3) := by decide +kernel
theorem d_Mo_isFunctionName_23 : decode c_Mo_isFunctionName 23 = .ok (.iload_n 3, 1) := by decide +kernel
theorem d_Mo_isFunctionName_24 : decode c_Mo_isFunctionName 24 = .ok (.iaload, 1) := by decide +kernel
theorem d_Mo_isFunctionName_25 : decode c_Mo_isFunctionName 25 = .ok (.bipush 13, 2) := by decide +kernel
theorem d_Mo_isFunctionName_27 : decode c_Mo_isFunctionName 27 = .ok (.if_icmp .ne 7, 3) := by decide +kernel
theorem d_Mo_isFunctionName_30 : decode c_Mo_isFunctionName 30 = .ok (.iconst 1, 1) := by decide +kernel
theorem d_Mo_isFunctionName_31 : decode c_Mo_isFunctionName 31 = .ok (.goto 4, 3) := by decide +kernel
theorem d_Mo_isFunctionName_34 : decode c_Mo_isFunctionName 34 = .ok (.iconst 0, 1) := by decide +kernel
theorem d_Mo_isFunctionName_35 : decode c_Mo_isFunctionName 35 = .ok (.ireturn, 1) := by decide +kernel
theorem d_Mo_pushType_0 : decode c_Mo_pushType 0 = .ok (.aload_n 0, 1) := by decide +kernel
theorem d_Mo_pushType_1 : decode c_Mo_pushType 1 = .ok (.getfield 57, 3) := by decide +kernel
theorem d_Mo_pushType_4 : decode c_Mo_pushType 4 = .ok (.aload_n 0, 1) := by decide +kernel
theorem d_Mo_pushType_5 : decode c_Mo_pushType 5 = .ok (.getfield 151, 3) := by decide +kernel
theorem d_Mo_pushType_8 : decode c_Mo_pushType 8 = .ok (.iload_n 1, 1) := by decide +kernel
theorem d_Mo_pushType_9 : decode c_Mo_pushType 9 = .ok (.iastore, 1) := by decide +kernel
theorem d_Mo_pushType_10 : decode c_Mo_pushType 10 = .ok (.aload_n 0, 1) := by decide +kernel
theorem d_Mo_pushType_11 : decode c_Mo_pushType 11 = .ok (.dup, 1) := by decide +kernel
theorem d_Mo_pushType_12 : decode c_Mo_pushType 12 = .ok (.getfield 151, 3) := by decide +kernel
theorem d_Mo_pushType_15 : decode c_Mo_pushType 15 = .ok (.iconst 1, 1) := by decide +kernel
theorem d_Mo_pushType_16 : decode c_Mo_pushType 16 = .ok (.iadd, 1) := by decide +kernel
theorem d_Mo_pushType_17 : decode c_Mo_pushType 17 = .ok (.putfield 151, 3) := by decide +kernel
theorem d_Mo_pushType_20 : decode c_Mo_pushType 20 = .ok (.return_, 1) := by decide +kernel
theorem d_Mo_evaluate_0 : decode c_Mo_evaluate 0 = .ok (.aload_n 0, 1) := by decide +kernel
theorem d_Mo_evaluate_1 : decode c_Mo_evaluate 1 = .ok (.getfield 48, 3) := by decide +kernel
theorem d_Mo_evaluate_4 : decode c_Mo_evaluate 4 = .ok (.iload_n 1, 1) := by decide +kernel
theorem d_Mo_evaluate_5 : decode c_Mo_evaluate 5 = .ok (.dup2, 1) := by decide +kernel
theorem d_Mo_evaluate_6 : decode c_Mo_evaluate 6 = .ok (.iaload, 1) := by decide +kernel
theorem d_Mo_evaluate_7 : decode c_Mo_evaluate 7 = .ok (.iconst 1, 1) := by decide +kernel
theorem d_Mo_evaluate_8 : decode c_Mo_evaluate 8 = .ok (.iadd, 1) := by decide +kernel
theorem d_Mo_evaluate_9 : decode c_Mo_evaluate 9 = .ok (.iastore, 1) := by decide +kernel
theorem d_Mo_evaluate_10 : decode c_Mo_evaluate 10 = .ok (.aload_n 0, 1) := by decide +kernel
theorem d_Mo_evaluate_11 : decode c_Mo_evaluate 11 = .ok (.iconst 0, 1) := by decide +kernel
theorem d_Mo_evaluate_12 : decode c_Mo_evaluate 12 = .ok (.putfield 182, 3) := by decide +kernel
theorem d_Mo_evaluate_15 : decode c_Mo_evaluate 15 = .ok (.aload_n 0, 1) := by decide +kernel
theorem d_Mo_evaluate_16 : decode c_Mo_evaluate 16 = .ok (.iconst 0, 1) := by decide +kernel
theorem d_Mo_evaluate_17 : decode c_Mo_evaluate 17 = .ok (.putfield 191, 3) := by decide +kernel
theorem d_Mo_evaluate_20 : decode c_Mo_evaluate 20 = .ok (.aload_n 0, 1) := by decide +kernel
theorem d_Mo_evaluate_21 : decode c_Mo_evaluate 21 = .ok (.iconst 0, 1) := by decide +kernel
theorem d_Mo_evaluate_22 : decode c_Mo_evaluate 22 = .ok (.putfield 173, 3) := by decide +kernel
theorem d_Mo_evaluate_25 : decode c_Mo_evaluate 25 = .ok (.aload_n 0, 1) := by decide +kernel
theorem d_Mo_evaluate_26 : decode c_Mo_evaluate 26 = .ok (.iconst 0, 1) := by decide +kernel
theorem d_Mo_evaluate_27 : decode c_Mo_evaluate 27 = .ok (.putfield 176, 3) := by decide +kernel
theorem d_Mo_evaluate_30 : decode c_Mo_evaluate 30 = .ok (.aload_n 0, 1) := by decide +kernel
theorem d_Mo_evaluate_31 : decode c_Mo_evaluate 31 = .ok (.iload_n 1, 1) := by decide +kernel
theorem d_Mo_evaluate_32 : decode c_Mo_evaluate 32 = .ok (.iconst 0, 1) := by decide +kernel
theorem d_Mo_evaluate_33 : decode c_Mo_evaluate 33 = .ok (.invokevirtual 194, 3) := by decide +kernel
theorem d_Mo_evaluate_36 : decode c_Mo_evaluate 36 = .ok (.aload_n 0, 1) := by decide +kernel
theorem d_Mo_evaluate_37 : decode c_Mo_evaluate 37 = .ok (.getfield 182, 3) := by decide +kernel
theorem d_Mo_evaluate_40 : decode c_Mo_evaluate 40 = .ok (.ifCond .le 17, 3) := by decide +kernel
theorem d_Mo_evaluate_43 : decode c_Mo_evaluate 43 = .ok (.aload_n 0, 1) := by decide +kernel
theorem d_Mo_evaluate_44 : decode c_Mo_evaluate 44 = .ok (.getfield 176, 3) := by decide +kernel
theorem d_Mo_evaluate_47 : decode c_Mo_evaluate 47 = .ok (.ifCond .ne 10, 3) := by decide +kernel
theorem d_Mo_evaluate_50 : decode c_Mo_evaluate 50 = .ok (.aload_n 0, 1) := by decide +kernel
theorem d_Mo_evaluate_51 : decode c_Mo_evaluate 51 = .ok (.invokevirtual 215, 3) := by decide +kernel
theorem d_Mo_evaluate_54 : decode c_Mo_evaluate 54 = .ok (.goto (-18), 3) := by decide +kernel
theorem d_Mo_evaluate_57 : decode c_Mo_evaluate 57 = .ok (.aload_n 0, 1) := by decide +kernel
theorem d_Mo_evaluate_58 : decode c_Mo_evaluate 58 = .ok (.getfield 39, 3) := by decide +kernel
theorem d_Mo_evaluate_61 : decode c_Mo_evaluate 61 = .ok (.iload_n 1, 1) := by decide +kernel
theorem d_Mo_evaluate_62 : decode c_Mo_evaluate 62 = .ok (.aload_n 0, 1) := by decide +kernel
theorem d_Mo_evaluate_63 : decode c_Mo_evaluate 63 = .ok (.getfield 176, 3) := by decide +kernel
theorem d_Mo_evaluate_66 : decode c_Mo_evaluate 66 = .ok (.ifCond .eq 10, 3) := by decide +kernel
theorem d_Mo_evaluate_69 : decode c_Mo_evaluate 69 = .ok (.aload_n 0, 1) := by decide +kernel
theorem d_Mo_evaluate_70 : decode c_Mo_evaluate 70 = .ok (.getfield 176, 3) := by decide +kernel
theorem d_Mo_evaluate_73 : decode c_Mo_evaluate 73 = .ok (.goto 5, 3) := by decide +kernel
theorem d_Mo_evaluate_76 : decode c_Mo_evaluate 76 = .ok (.bipush 14, 2) := by decide +kernel
theorem d_Mo_evaluate_78 : decode c_Mo_evaluate 78 = .ok (.iastore, 1) := by decide +kernel
theorem d_Mo_evaluate_79 : decode c_Mo_evaluate 79 = .ok (.aload_n 0, 1) := by decide +kernel
theorem d_Mo_evaluate_80 : decode c_Mo_evaluate 80 = .ok (.getfield 42, 3) := by decide +kernel
theorem d_Mo_evaluate_83 : decode c_Mo_evaluate 83 = .ok (.iload_n 1, 1) := by decide +kernel
theorem d_Mo_evaluate_84 : decode c_Mo_evaluate 84 = .ok (.aload_n 0, 1) := by decide +kernel
theorem d_Mo_evaluate_85 : decode c_Mo_evaluate 85 = .ok (.getfield 185, 3) := by decide +kernel
theorem d_Mo_evaluate_88 : decode c_Mo_evaluate 88 = .ok (.iastore, 1) := by decide +kernel
theorem d_Mo_evaluate_89 : decode c_Mo_evaluate 89 = .ok (.aload_n 0, 1) := by decide +kernel
theorem d_Mo_evaluate_90 : decode c_Mo_evaluate 90 = .ok (.getfield 45, 3) := by decide +kernel
theorem d_Mo_evaluate_93 : decode c_Mo_evaluate 93 = .ok (.iload_n 1, 1) := by decide +kernel
theorem d_Mo_evaluate_94 : decode c_Mo_evaluate 94 = .ok (.iload_n 2, 1) := by decide +kernel
theorem d_Mo_evaluate_95 : decode c_Mo_evaluate 95 = .ok (.iastore, 1) := by decide +kernel
theorem d_Mo_evaluate_96 : decode c_Mo_evaluate 96 = .ok (.return_, 1) := by decide +kernel
theorem d_Mo_enter_0 : decode c_Mo_enter 0 = .ok (.aload_n 0, 1) := by decide +kernel
theorem d_Mo_enter_1 : decode c_Mo_enter 1 = .ok (.getfield 173, 3) := by decide +kernel
theorem d_Mo_enter_4 : decode c_Mo_enter 4 = .ok (.sipush 2000, 3) := by decide +kernel
theorem d_Mo_enter_7 : decode c_Mo_enter 7 = .ok (.if_icmp .ne 10, 3) := by decide +kernel
theorem d_Mo_enter_10 : decode c_Mo_enter 10 = .ok (.aload_n 0, 1) := by decide +kernel
theorem d_Mo_enter_11 : decode c_Mo_enter 11 = .ok (.bipush 10, 2) := by decide +kernel
theorem d_Mo_enter_13 : decode c_Mo_enter 13 = .ok (.putfield 176, 3) := by decide +kernel
theorem d_Mo_enter_16 : decode c_Mo_enter 16 = .ok (.return_, 1) := by decide +kernel
theorem d_Mo_enter_17 : decode c_Mo_enter 17 = .ok (.aload_n 0, 1) := by decide +kernel
theorem d_Mo_enter_18 : decode c_Mo_enter 18 = .ok (.dup, 1) := by decide +kernel
theorem d_Mo_enter_19 : decode c_Mo_enter 19 = .ok (.getfield 173, 3) := by decide +kernel
theorem d_Mo_enter_22 : decode c_Mo_enter 22 = .ok (.iconst 1, 1) := by decide +kernel
theorem d_Mo_enter_23 : decode c_Mo_enter 23 = .ok (.iadd, 1) := by decide +kernel
theorem d_Mo_enter_24 : decode c_Mo_enter 24 = .ok (.putfield 173, 3) := by decide +kernel
theorem d_Mo_enter_27 : decode c_Mo_enter 27 = .ok (.aload_n 0, 1) := by decide +kernel
theorem d_Mo_enter_28 : decode c_Mo_enter 28 = .ok (.dup, 1) := by decide +kernel
theorem d_Mo_enter_29 : decode c_Mo_enter 29 = .ok (.getfield 179, 3) := by decide +kernel
theorem d_Mo_enter_32 : decode c_Mo_enter 32 = .ok (.iconst 1, 1) := by decide +kernel
theorem d_Mo_enter_33 : decode c_Mo_enter 33 = .ok (.iadd, 1) := by decide +kernel
theorem d_Mo_enter_34 : decode c_Mo_enter 34 = .ok (.putfield 179, 3) := by decide +kernel
theorem d_Mo_enter_37 : decode c_Mo_enter 37 = .ok (.aload_n 0, 1) := by decide +kernel
theorem d_Mo_enter_38 : decode c_Mo_enter 38 = .ok (.getfield 60, 3) := by decide +kernel
theorem d_Mo_enter_41 : decode c_Mo_enter 41 = .ok (.aload_n 0, 1) := by decide +kernel
theorem d_Mo_enter_42 : decode c_Mo_enter 42 = .ok (.getfield 182, 3) := by decide +kernel
theorem d_Mo_enter_45 : decode c_Mo_enter 45 = .ok (.iload_n 1, 1) := by decide +kernel
theorem d_Mo_enter_46 : decode c_Mo_enter 46 = .ok (.iastore, 1) := by decide +kernel
theorem d_Mo_enter_47 : decode c_Mo_enter 47 = .ok (.aload_n 0, 1) := by decide +kernel
theorem d_Mo_enter_48 : decode c_Mo_enter 48 = .ok (.getfield 63, 3) := by decide +kernel
theorem d_Mo_enter_51 : decode c_Mo_enter 51 = .ok (.aload_n 0, 1) := by decide +kernel
theorem d_Mo_enter_52 : decode c_Mo_enter 52 = .ok (.getfield 182, 3) := by decide +kernel
theorem d_Mo_enter_55 : decode c_Mo_enter 55 = .ok (.iload_n 2, 1) := by decide +kernel
theorem d_Mo_enter_56 : decode c_Mo_enter 56 = .ok (.iastore, 1) := by decide +kernel
theorem d_Mo_enter_57 : decode c_Mo_enter 57 = .ok (.aload_n 0, 1) := by decide +kernel
theorem d_Mo_enter_58 : decode c_Mo_enter 58 = .ok (.getfield 66, 3) := by decide +kernel
theorem d_Mo_enter_61 : decode c_Mo_enter 61 = .ok (.aload_n 0, 1) := by decide +kernel
theorem d_Mo_enter_62 : decode c_Mo_enter 62 = .ok (.getfield 182, 3) := by decide +kernel
theorem d_Mo_enter_65 : decode c_Mo_enter 65 = .ok (.iconst 0, 1) := by decide +kernel
theorem d_Mo_enter_66 : decode c_Mo_enter 66 = .ok (.iastore, 1) := by decide +kernel
theorem d_Mo_enter_67 : decode c_Mo_enter 67 = .ok (.aload_n 0, 1) := by decide +kernel
theorem d_Mo_enter_68 : decode c_Mo_enter 68 = .ok (.dup, 1) := by decide +kernel
theorem d_Mo_enter_69 : decode c_Mo_enter 69 = .ok (.getfield 182, 3) := by decide +kernel
theorem d_Mo_enter_72 : decode c_Mo_enter 72 = .ok (.iconst 1, 1) := by decide +kernel
theorem d_Mo_enter_73 : decode c_Mo_enter 73 = .ok (.iadd, 1) := by decide +kernel
theorem d_Mo_enter_74 : decode c_Mo_enter 74 = .ok (.putfield 182, 3) := by decide +kernel
theorem d_Mo_enter_77 : decode c_Mo_enter 77 = .ok (.return_, 1) := by decide +kernel
theorem d_Mo_goOn_0 : decode c_Mo_goOn 0 = .ok (.aload_n 0, 1) := by decide +kernel
theorem d_Mo_goOn_1 : decode c_Mo_goOn 1 = .ok (.getfield 182, 3) := by decide +kernel
theorem d_Mo_goOn_4 : decode c_Mo_goOn 4 = .ok (.iconst 1, 1) := by decide +kernel
theorem d_Mo_goOn_5 : decode c_Mo_goOn 5 = .ok (.isub, 1) := by decide +kernel
theorem d_Mo_goOn_6 : decode c_Mo_goOn 6 = .ok (.istore_n 1, 1) := by decide +kernel
theorem d_Mo_goOn_7 : decode c_Mo_goOn 7 = .ok (.aload_n 0, 1) := by decide +kernel
theorem d_Mo_goOn_8 : decode c_Mo_goOn 8 = .ok (.getfield 60, 3) := by decide +kernel
theorem d_Mo_goOn_11 : decode c_Mo_goOn 11 = .ok (.iload_n 1, 1) := by decide +kernel
theorem d_Mo_goOn_12 : decode c_Mo_goOn 12 = .ok (.iaload, 1) := by decide +kernel
theorem d_Mo_goOn_13 : decode c_Mo_goOn 13 = .ok (.istore_n 2, 1) := by decide +kernel
theorem d_Mo_goOn_14 : decode c_Mo_goOn 14 = .ok (.aload_n 0, 1) := by decide +kernel
theorem d_Mo_goOn_15 : decode c_Mo_goOn 15 = .ok (.getfield 63, 3) := by decide +kernel
theorem d_Mo_goOn_18 : decode c_Mo_goOn 18 = .ok (.iload_n 1, 1) := by decide +kernel
theorem d_Mo_goOn_19 : decode c_Mo_goOn 19 = .ok (.iaload, 1) := by decide +kernel
theorem d_Mo_goOn_20 : decode c_Mo_goOn 20 = .ok (.istore_n 3, 1) := by decide +kernel
theorem d_Mo_goOn_21 : decode c_Mo_goOn 21 = .ok (.aload_n 0, 1) := by decide +kernel
theorem d_Mo_goOn_22 : decode c_Mo_goOn 22 = .ok (.iload_n 2, 1) := by decide +kernel
theorem d_Mo_goOn_23 : decode c_Mo_goOn 23 = .ok (.iload_n 3, 1) := by decide +kernel
theorem d_Mo_goOn_24 : decode c_Mo_goOn 24 = .ok (.invokevirtual 88, 3) := by decide +kernel
theorem d_Mo_goOn_27 : decode c_Mo_goOn 27 = .ok (.istore 4, 2) := by decide +kernel
theorem d_Mo_goOn_29 : decode c_Mo_goOn 29 = .ok (.aload_n 0, 1) := by decide +kernel
theorem d_Mo_goOn_30 : decode c_Mo_goOn 30 = .ok (.getfield 66, 3) := by decide +kernel
theorem d_Mo_goOn_33 : decode c_Mo_goOn 33 = .ok (.iload_n 1, 1) := by decide +kernel
theorem d_Mo_goOn_34 : decode c_Mo_goOn 34 = .ok (.iaload, 1) := by decide +kernel
theorem d_Mo_goOn_35 : decode c_Mo_goOn 35 = .ok (.istore 5, 2) := by decide +kernel
theorem d_Mo_goOn_37 : decode c_Mo_goOn 37 = .ok (.aload_n 0, 1) := by decide +kernel
theorem d_Mo_goOn_38 : decode c_Mo_goOn 38 = .ok (.getfield 66, 3) := by decide +kernel
theorem d_Mo_goOn_41 : decode c_Mo_goOn 41 = .ok (.iload_n 1, 1) := by decide +kernel
theorem d_Mo_goOn_42 : decode c_Mo_goOn 42 = .ok (.iload 5, 2) := by decide +kernel
theorem d_Mo_goOn_44 : decode c_Mo_goOn 44 = .ok (.iconst 1, 1) := by decide +kernel
theorem d_Mo_goOn_45 : decode c_Mo_goOn 45 = .ok (.iadd, 1) := by decide +kernel
theorem d_Mo_goOn_46 : decode c_Mo_goOn 46 = .ok (.iastore, 1) := by decide +kernel
theorem d_Mo_goOn_47 : decode c_Mo_goOn 47 = .ok (.iload 4, 2) := by decide +kernel
theorem d_Mo_goOn_49 : decode c_Mo_goOn 49 = .ok (.invokestatic 95, 3) := by decide +kernel
theorem d_Mo_goOn_52 : decode c_Mo_goOn 52 = .ok (.ifCond .eq 15, 3) := by decide +kernel
theorem d_Mo_goOn_55 : decode c_Mo_goOn 55 = .ok (.aload_n 0, 1) := by decide +kernel
theorem d_Mo_goOn_56 : decode c_Mo_goOn 56 = .ok (.iload 4, 2) := by decide +kernel
theorem d_Mo_goOn_58 : decode c_Mo_goOn 58 = .ok (.bipush 48, 2) := by decide +kernel
theorem d_Mo_goOn_60 : decode c_Mo_goOn 60 = .ok (.isub, 1) := by decide +kernel
theorem d_Mo_goOn_61 : decode c_Mo_goOn 61 = .ok (.invokevirtual 188, 3) := by decide +kernel
theorem d_Mo_goOn_64 : decode c_Mo_goOn 64 = .ok (.goto 284, 3) := by decide +kernel
theorem d_Mo_goOn_67 : decode c_Mo_goOn 67 = .ok (.iload 4, 2) := by decide +kernel
theorem d_Mo_goOn_69 : decode c_Mo_goOn 69 = .ok (.invokestatic 99, 3) := by decide +kernel
theorem d_Mo_goOn_72 : decode c_Mo_goOn 72 = .ok (.ifCond .eq 24, 3) := by decide +kernel
theorem d_Mo_goOn_75 : decode c_Mo_goOn 75 = .ok (.aload_n 0, 1) := by decide +kernel
theorem d_Mo_goOn_76 : decode c_Mo_goOn 76 = .ok (.aload_n 0, 1) := by decide +kernel
theorem d_Mo_goOn_77 : decode c_Mo_goOn 77 = .ok (.getfield 42, 3) := by decide +kernel
theorem d_Mo_goOn_80 : decode c_Mo_goOn 80 = .ok (.aload_n 0, 1) := by decide +kernel
theorem d_Mo_goOn_81 : decode c_Mo_goOn 81 = .ok (.iload 4, 2) := by decide +kernel
theorem d_Mo_goOn_83 : decode c_Mo_goOn 83 = .ok (.bipush 97, 2) := by decide +kernel
theorem d_Mo_goOn_85 : decode c_Mo_goOn 85 = .ok (.isub, 1) := by decide +kernel
theorem d_Mo_goOn_86 : decode c_Mo_goOn 86 = .ok (.invokevirtual 131, 3) := by decide +kernel
theorem d_Mo_goOn_89 : decode c_Mo_goOn 89 = .ok (.iaload, 1) := by decide +kernel
theorem d_Mo_goOn_90 : decode c_Mo_goOn 90 = .ok (.invokevirtual 188, 3) := by decide +kernel
theorem d_Mo_goOn_93 : decode c_Mo_goOn 93 = .ok (.goto 255, 3) := by decide +kernel
theorem d_Mo_goOn_96 : decode c_Mo_goOn 96 = .ok (.iload 4, 2) := by decide +kernel
theorem d_Mo_goOn_98 : decode c_Mo_goOn 98 = .ok (.invokestatic 102, 3) := by decide +kernel
theorem d_Mo_goOn_101 : decode c_Mo_goOn 101 = .ok (.ifCond .eq 28, 3) := by decide +kernel
theorem d_Mo_goOn_104 : decode c_Mo_goOn 104 = .ok (.aload_n 0, 1) := by decide +kernel
theorem d_Mo_goOn_105 : decode c_Mo_goOn 105 = .ok (.aload_n 0, 1) := by decide +kernel
theorem d_Mo_goOn_106 : decode c_Mo_goOn 106 = .ok (.getfield 72, 3) := by decide +kernel
theorem d_Mo_goOn_109 : decode c_Mo_goOn 109 = .ok (.bipush 6, 2) := by decide +kernel
theorem d_Mo_goOn_111 : decode c_Mo_goOn 111 = .ok (.aload_n 0, 1) := by decide +kernel
theorem d_Mo_goOn_112 : decode c_Mo_goOn 112 = .ok (.getfield 191, 3) := by decide +kernel
theorem d_Mo_goOn_115 : decode c_Mo_goOn 115 = .ok (.imul, 1) := by decide +kernel
theorem d_Mo_goOn_116 : decode c_Mo_goOn 116 = .ok (.iload 4, 2) := by decide +kernel
theorem d_Mo_goOn_118 : decode c_Mo_goOn 118 = .ok (.iadd, 1) := by decide +kernel
theorem d_Mo_goOn_119 : decode c_Mo_goOn 119 = .ok (.bipush 107, 2) := by decide +kernel
theorem d_Mo_goOn_121 : decode c_Mo_goOn 121 = .ok (.isub, 1) := by decide +kernel
theorem d_Mo_goOn_122 : decode c_Mo_goOn 122 = .ok (.iaload, 1) := by decide +kernel
theorem d_Mo_goOn_123 : decode c_Mo_goOn 123 = .ok (.invokevirtual 188, 3) := by decide +kernel
theorem d_Mo_goOn_126 : decode c_Mo_goOn 126 = .ok (.goto 222, 3) := by decide +kernel
theorem d_Mo_goOn_129 : decode c_Mo_goOn 129 = .ok (.iload 5, 2) := by decide +kernel
theorem d_Mo_goOn_131 : decode c_Mo_goOn 131 = .ok (.ifCond .ne 34, 3) := by decide +kernel
theorem d_Mo_goOn_134 : decode c_Mo_goOn 134 = .ok (.aload_n 0, 1) := by decide +kernel
theorem d_Mo_goOn_135 : decode c_Mo_goOn 135 = .ok (.iload_n 2, 1) := by decide +kernel
theorem d_Mo_goOn_136 : decode c_Mo_goOn 136 = .ok (.iload 4, 2) := by decide +kernel
theorem d_Mo_goOn_138 : decode c_Mo_goOn 138 = .ok (.bipush 36, 2) := by decide +kernel
theorem d_Mo_goOn_140 : decode c_Mo_goOn 140 = .ok (.if_icmp .eq 10, 3) := by decide +kernel
theorem d_Mo_goOn_143 : decode c_Mo_goOn 143 = .ok (.iload 4, 2) := by decide +kernel
theorem d_Mo_goOn_145 : decode c_Mo_goOn 145 = .ok (.bipush 33, 2) := by decide +kernel
theorem d_Mo_goOn_147 : decode c_Mo_goOn 147 = .ok (.if_icmp .ne 9, 3) := by decide +kernel
theorem d_Mo_goOn_150 : decode c_Mo_goOn 150 = .ok (.iload_n 3, 1) := by decide +kernel
theorem d_Mo_goOn_151 : decode c_Mo_goOn 151 = .ok (.iconst 2, 1) := by decide +kernel
theorem d_Mo_goOn_152 : decode c_Mo_goOn 152 = .ok (.iadd, 1) := by decide +kernel
theorem d_Mo_goOn_153 : decode c_Mo_goOn 153 = .ok (.goto 6, 3) := by decide +kernel
theorem d_Mo_goOn_156 : decode c_Mo_goOn 156 = .ok (.iload_n 3, 1) := by decide +kernel
theorem d_Mo_goOn_157 : decode c_Mo_goOn 157 = .ok (.iconst 1, 1) := by decide +kernel
theorem d_Mo_goOn_158 : decode c_Mo_goOn 158 = .ok (.iadd, 1) := by decide +kernel
theorem d_Mo_goOn_159 : decode c_Mo_goOn 159 = .ok (.invokevirtual 194, 3) := by decide +kernel
theorem d_Mo_goOn_162 : decode c_Mo_goOn 162 = .ok (.goto 186, 3) := by decide +kernel
theorem d_Mo_goOn_165 : decode c_Mo_goOn 165 = .ok (.iload 4, 2) := by decide +kernel
theorem d_Mo_goOn_167 : decode c_Mo_goOn 167 = .ok (.bipush 126, 2) := by decide +kernel
theorem d_Mo_goOn_169 : decode c_Mo_goOn 169 = .ok (.if_icmp .ne 16, 3) := by decide +kernel
theorem d_Mo_goOn_172 : decode c_Mo_goOn 172 = .ok (.aload_n 0, 1) := by decide +kernel
theorem d_Mo_goOn_173 : decode c_Mo_goOn 173 = .ok (.iconst 1, 1) := by decide +kernel
theorem d_Mo_goOn_174 : decode c_Mo_goOn 174 = .ok (.aload_n 0, 1) := by decide +kernel
theorem d_Mo_goOn_175 : decode c_Mo_goOn 175 = .ok (.getfield 185, 3) := by decide +kernel
theorem d_Mo_goOn_178 : decode c_Mo_goOn 178 = .ok (.isub, 1) := by decide +kernel
theorem d_Mo_goOn_179 : decode c_Mo_goOn 179 = .ok (.invokevirtual 188, 3) := by decide +kernel
theorem d_Mo_goOn_182 : decode c_Mo_goOn 182 = .ok (.goto 166, 3) := by decide +kernel
theorem d_Mo_goOn_185 : decode c_Mo_goOn 185 = .ok (.iload 4, 2) := by decide +kernel
theorem d_Mo_goOn_187 : decode c_Mo_goOn 187 = .ok (.bipush 63, 2) := by decide +kernel
theorem d_Mo_goOn_189 : decode c_Mo_goOn 189 = .ok (.if_icmp .ne 15, 3) := by decide +kernel
theorem d_Mo_goOn_192 : decode c_Mo_goOn 192 = .ok (.aload_n 0, 1) := by decide +kernel
theorem d_Mo_goOn_193 : decode c_Mo_goOn 193 = .ok (.iload_n 1, 1) := by decide +kernel
theorem d_Mo_goOn_194 : decode c_Mo_goOn 194 = .ok (.iload_n 2, 1) := by decide +kernel
theorem d_Mo_goOn_195 : decode c_Mo_goOn 195 = .ok (.iload_n 3, 1) := by decide +kernel
theorem d_Mo_goOn_196 : decode c_Mo_goOn 196 = .ok (.iload 5, 2) := by decide +kernel
theorem d_Mo_goOn_198 : decode c_Mo_goOn 198 = .ok (.invokevirtual 197, 3) := by decide +kernel
theorem d_Mo_goOn_201 : decode c_Mo_goOn 201 = .ok (.goto 147, 3) := by decide +kernel
theorem d_Mo_goOn_204 : decode c_Mo_goOn 204 = .ok (.iload 4, 2) := by decide +kernel
theorem d_Mo_goOn_206 : decode c_Mo_goOn 206 = .ok (.bipush 36, 2) := by decide +kernel
theorem d_Mo_goOn_208 : decode c_Mo_goOn 208 = .ok (.if_icmp .ne 15, 3) := by decide +kernel
theorem d_Mo_goOn_211 : decode c_Mo_goOn 211 = .ok (.aload_n 0, 1) := by decide +kernel
theorem d_Mo_goOn_212 : decode c_Mo_goOn 212 = .ok (.iload_n 1, 1) := by decide +kernel
theorem d_Mo_goOn_213 : decode c_Mo_goOn 213 = .ok (.iload_n 2, 1) := by decide +kernel
theorem d_Mo_goOn_214 : decode c_Mo_goOn 214 = .ok (.iload_n 3, 1) := by decide +kernel
theorem d_Mo_goOn_215 : decode c_Mo_goOn 215 = .ok (.iload 5, 2) := by decide +kernel
theorem d_Mo_goOn_217 : decode c_Mo_goOn 217 = .ok (.invokevirtual 201, 3) := by decide +kernel
theorem d_Mo_goOn_220 : decode c_Mo_goOn 220 = .ok (.goto 128, 3) := by decide +kernel
theorem d_Mo_goOn_223 : decode c_Mo_goOn 223 = .ok (.iload 4, 2) := by decide +kernel
theorem d_Mo_goOn_225 : decode c_Mo_goOn 225 = .ok (.bipush 33, 2) := by decide +kernel
theorem d_Mo_goOn_227 : decode c_Mo_goOn 227 = .ok (.if_icmp .ne 14, 3) := by decide +kernel
theorem d_Mo_goOn_230 : decode c_Mo_goOn 230 = .ok (.aload_n 0, 1) := by decide +kernel
theorem d_Mo_goOn_231 : decode c_Mo_goOn 231 = .ok (.iload_n 2, 1) := by decide +kernel
theorem d_Mo_goOn_232 : decode c_Mo_goOn 232 = .ok (.iload_n 3, 1) := by decide +kernel
theorem d_Mo_goOn_233 : decode c_Mo_goOn 233 = .ok (.iload 5, 2) := by decide +kernel
theorem d_Mo_goOn_235 : decode c_Mo_goOn 235 = .ok (.invokevirtual 204, 3) := by decide +kernel
theorem d_Mo_goOn_238 : decode c_Mo_goOn 238 = .ok (.goto 110, 3) := by decide +kernel
theorem d_Mo_goOn_241 : decode c_Mo_goOn 241 = .ok (.iload 4, 2) := by decide +kernel
theorem d_Mo_goOn_243 : decode c_Mo_goOn 243 = .ok (.bipush 35, 2) := by decide +kernel
theorem d_Mo_goOn_245 : decode c_Mo_goOn 245 = .ok (.if_icmp .ne 15, 3) := by decide +kernel
theorem d_Mo_goOn_248 : decode c_Mo_goOn 248 = .ok (.aload_n 0, 1) := by decide +kernel
theorem d_Mo_goOn_249 : decode c_Mo_goOn 249 = .ok (.iload_n 1, 1) := by decide +kernel
theorem d_Mo_goOn_250 : decode c_Mo_goOn 250 = .ok (.iload_n 2, 1) := by decide +kernel
theorem d_Mo_goOn_251 : decode c_Mo_goOn 251 = .ok (.iload_n 3, 1) := by decide +kernel
theorem d_Mo_goOn_252 : decode c_Mo_goOn 252 = .ok (.iload 5, 2) := by decide +kernel
theorem d_Mo_goOn_254 : decode c_Mo_goOn 254 = .ok (.invokevirtual 208, 3) := by decide +kernel
theorem d_Mo_goOn_257 : decode c_Mo_goOn 257 = .ok (.goto 91, 3) := by decide +kernel
theorem d_Mo_goOn_260 : decode c_Mo_goOn 260 = .ok (.iload 4, 2) := by decide +kernel
theorem d_Mo_goOn_262 : decode c_Mo_goOn 262 = .ok (.bipush 38, 2) := by decide +kernel
theorem d_Mo_goOn_264 : decode c_Mo_goOn 264 = .ok (.if_icmp .ne 27, 3) := by decide +kernel
theorem d_Mo_goOn_267 : decode c_Mo_goOn 267 = .ok (.iload 5, 2) := by decide +kernel
theorem d_Mo_goOn_269 : decode c_Mo_goOn 269 = .ok (.iconst 2, 1) := by decide +kernel
theorem d_Mo_goOn_270 : decode c_Mo_goOn 270 = .ok (.if_icmp .eq 10, 3) := by decide +kernel
theorem d_Mo_goOn_273 : decode c_Mo_goOn 273 = .ok (.aload_n 0, 1) := by decide +kernel
theorem d_Mo_goOn_274 : decode c_Mo_goOn 274 = .ok (.getfield 185, 3) := by decide +kernel
theorem d_Mo_goOn_277 : decode c_Mo_goOn 277 = .ok (.ifCond .ne 14, 3) := by decide +kernel
theorem d_Mo_goOn_280 : decode c_Mo_goOn 280 = .ok (.aload_n 0, 1) := by decide +kernel
theorem d_Mo_goOn_281 : decode c_Mo_goOn 281 = .ok (.aload_n 0, 1) := by decide +kernel
theorem d_Mo_goOn_282 : decode c_Mo_goOn 282 = .ok (.getfield 185, 3) := by decide +kernel
theorem d_Mo_goOn_285 : decode c_Mo_goOn 285 = .ok (.invokevirtual 188, 3) := by decide +kernel
theorem d_Mo_goOn_288 : decode c_Mo_goOn 288 = .ok (.goto 60, 3) := by decide +kernel
theorem d_Mo_goOn_291 : decode c_Mo_goOn 291 = .ok (.iload 5, 2) := by decide +kernel
theorem d_Mo_goOn_293 : decode c_Mo_goOn 293 = .ok (.iconst 1, 1) := by decide +kernel
theorem d_Mo_goOn_294 : decode c_Mo_goOn 294 = .ok (.if_icmp .ne 34, 3) := by decide +kernel
theorem d_Mo_goOn_297 : decode c_Mo_goOn 297 = .ok (.aload_n 0, 1) := by decide +kernel
theorem d_Mo_goOn_298 : decode c_Mo_goOn 298 = .ok (.getfield 69, 3) := by decide +kernel
theorem d_Mo_goOn_301 : decode c_Mo_goOn 301 = .ok (.iload_n 1, 1) := by decide +kernel
theorem d_Mo_goOn_302 : decode c_Mo_goOn 302 = .ok (.aload_n 0, 1) := by decide +kernel
theorem d_Mo_goOn_303 : decode c_Mo_goOn 303 = .ok (.getfield 185, 3) := by decide +kernel
theorem d_Mo_goOn_306 : decode c_Mo_goOn 306 = .ok (.iastore, 1) := by decide +kernel
theorem d_Mo_goOn_307 : decode c_Mo_goOn 307 = .ok (.aload_n 0, 1) := by decide +kernel
theorem d_Mo_goOn_308 : decode c_Mo_goOn 308 = .ok (.iload_n 2, 1) := by decide +kernel
theorem d_Mo_goOn_309 : decode c_Mo_goOn 309 = .ok (.aload_n 0, 1) := by decide +kernel
theorem d_Mo_goOn_310 : decode c_Mo_goOn 310 = .ok (.getfield 23, 3) := by decide +kernel
theorem d_Mo_goOn_313 : decode c_Mo_goOn 313 = .ok (.bipush 24, 2) := by decide +kernel
theorem d_Mo_goOn_315 : decode c_Mo_goOn 315 = .ok (.iload_n 2, 1) := by decide +kernel
theorem d_Mo_goOn_316 : decode c_Mo_goOn 316 = .ok (.imul, 1) := by decide +kernel
theorem d_Mo_goOn_317 : decode c_Mo_goOn 317 = .ok (.iload_n 3, 1) := by decide +kernel
theorem d_Mo_goOn_318 : decode c_Mo_goOn 318 = .ok (.iadd, 1) := by decide +kernel
theorem d_Mo_goOn_319 : decode c_Mo_goOn 319 = .ok (.iconst 1, 1) := by decide +kernel
theorem d_Mo_goOn_320 : decode c_Mo_goOn 320 = .ok (.iadd, 1) := by decide +kernel
theorem d_Mo_goOn_321 : decode c_Mo_goOn 321 = .ok (.iaload, 1) := by decide +kernel
theorem d_Mo_goOn_322 : decode c_Mo_goOn 322 = .ok (.invokevirtual 194, 3) := by decide +kernel
theorem d_Mo_goOn_325 : decode c_Mo_goOn 325 = .ok (.goto 23, 3) := by decide +kernel
theorem d_Mo_goOn_328 : decode c_Mo_goOn 328 = .ok (.aload_n 0, 1) := by decide +kernel
theorem d_Mo_goOn_329 : decode c_Mo_goOn 329 = .ok (.aload_n 0, 1) := by decide +kernel
theorem d_Mo_goOn_330 : decode c_Mo_goOn 330 = .ok (.iload 4, 2) := by decide +kernel
theorem d_Mo_goOn_332 : decode c_Mo_goOn 332 = .ok (.aload_n 0, 1) := by decide +kernel
theorem d_Mo_goOn_333 : decode c_Mo_goOn 333 = .ok (.getfield 69, 3) := by decide +kernel
theorem d_Mo_goOn_336 : decode c_Mo_goOn 336 = .ok (.iload_n 1, 1) := by decide +kernel
theorem d_Mo_goOn_337 : decode c_Mo_goOn 337 = .ok (.iaload, 1) := by decide +kernel
theorem d_Mo_goOn_338 : decode c_Mo_goOn 338 = .ok (.aload_n 0, 1) := by decide +kernel
theorem d_Mo_goOn_339 : decode c_Mo_goOn 339 = .ok (.getfield 185, 3) := by decide +kernel
theorem d_Mo_goOn_342 : decode c_Mo_goOn 342 = .ok (.invokevirtual 211, 3) := by decide +kernel
theorem d_Mo_goOn_345 : decode c_Mo_goOn 345 = .ok (.invokevirtual 188, 3) := by decide +kernel
theorem d_Mo_goOn_348 : decode c_Mo_goOn 348 = .ok (.return_, 1) := by decide +kernel
theorem d_Mo_leave_0 : decode c_Mo_leave 0 = .ok (.aload_n 0, 1) := by decide +kernel
theorem d_Mo_leave_1 : decode c_Mo_leave 1 = .ok (.iload_n 1, 1) := by decide +kernel
theorem d_Mo_leave_2 : decode c_Mo_leave 2 = .ok (.putfield 185, 3) := by decide +kernel
theorem d_Mo_leave_5 : decode c_Mo_leave 5 = .ok (.aload_n 0, 1) := by decide +kernel
theorem d_Mo_leave_6 : decode c_Mo_leave 6 = .ok (.dup, 1) := by decide +kernel
theorem d_Mo_leave_7 : decode c_Mo_leave 7 = .ok (.getfield 182, 3) := by decide +kernel
theorem d_Mo_leave_10 : decode c_Mo_leave 10 = .ok (.iconst 1, 1) := by decide +kernel
theorem d_Mo_leave_11 : decode c_Mo_leave 11 = .ok (.isub, 1) := by decide +kernel
theorem d_Mo_leave_12 : decode c_Mo_leave 12 = .ok (.putfield 182, 3) := by decide +kernel
theorem d_Mo_leave_15 : decode c_Mo_leave 15 = .ok (.return_, 1) := by decide +kernel
theorem d_Mo_branch_0 : decode c_Mo_branch 0 = .ok (.iload 4, 2) := by decide +kernel
theorem d_Mo_branch_2 : decode c_Mo_branch 2 = .ok (.iconst 2, 1) := by decide +kernel
theorem d_Mo_branch_3 : decode c_Mo_branch 3 = .ok (.if_icmp .ne 12, 3) := by decide +kernel
theorem d_Mo_branch_6 : decode c_Mo_branch 6 = .ok (.aload_n 0, 1) := by decide +kernel
theorem d_Mo_branch_7 : decode c_Mo_branch 7 = .ok (.aload_n 0, 1) := by decide +kernel
theorem d_Mo_branch_8 : decode c_Mo_branch 8 = .ok (.getfield 185, 3) := by decide +kernel
theorem d_Mo_branch_11 : decode c_Mo_branch 11 = .ok (.invokevirtual 188, 3) := by decide +kernel
theorem d_Mo_branch_14 : decode c_Mo_branch 14 = .ok (.return_, 1) := by decide +kernel
theorem d_Mo_branch_15 : decode c_Mo_branch 15 = .ok (.aload_n 0, 1) := by decide +kernel
theorem d_Mo_branch_16 : decode c_Mo_branch 16 = .ok (.getfield 23, 3) := by decide +kernel
theorem d_Mo_branch_19 : decode c_Mo_branch 19 = .ok (.bipush 24, 2) := by decide +kernel
theorem d_Mo_branch_21 : decode c_Mo_branch 21 = .ok (.iload_n 2, 1) := by decide +kernel
theorem d_Mo_branch_22 : decode c_Mo_branch 22 = .ok (.imul, 1) := by decide +kernel
theorem d_Mo_branch_23 : decode c_Mo_branch 23 = .ok (.iload_n 3, 1) := by decide +kernel
theorem d_Mo_branch_24 : decode c_Mo_branch 24 = .ok (.iadd, 1) := by decide +kernel
theorem d_Mo_branch_25 : decode c_Mo_branch 25 = .ok (.iconst 1, 1) := by decide +kernel
theorem d_Mo_branch_26 : decode c_Mo_branch 26 = .ok (.iadd, 1) := by decide +kernel
theorem d_Mo_branch_27 : decode c_Mo_branch 27 = .ok (.iaload, 1) := by decide +kernel
theorem d_Mo_branch_28 : decode c_Mo_branch 28 = .ok (.istore 5, 2) := by decide +kernel
theorem d_Mo_branch_30 : decode c_Mo_branch 30 = .ok (.aload_n 0, 1) := by decide +kernel
theorem d_Mo_branch_31 : decode c_Mo_branch 31 = .ok (.getfield 23, 3) := by decide +kernel
theorem d_Mo_branch_34 : decode c_Mo_branch 34 = .ok (.bipush 24, 2) := by decide +kernel
theorem d_Mo_branch_36 : decode c_Mo_branch 36 = .ok (.iload_n 2, 1) := by decide +kernel
theorem d_Mo_branch_37 : decode c_Mo_branch 37 = .ok (.imul, 1) := by decide +kernel
theorem d_Mo_branch_38 : decode c_Mo_branch 38 = .ok (.iload 5, 2) := by decide +kernel
theorem d_Mo_branch_40 : decode c_Mo_branch 40 = .ok (.iadd, 1) := by decide +kernel
theorem d_Mo_branch_41 : decode c_Mo_branch 41 = .ok (.iaload, 1) := by decide +kernel
theorem d_Mo_branch_42 : decode c_Mo_branch 42 = .ok (.istore 6, 2) := by decide +kernel
theorem d_Mo_branch_44 : decode c_Mo_branch 44 = .ok (.aload_n 0, 1) := by decide +kernel
theorem d_Mo_branch_45 : decode c_Mo_branch 45 = .ok (.iload_n 2, 1) := by decide +kernel
theorem d_Mo_branch_46 : decode c_Mo_branch 46 = .ok (.aload_n 0, 1) := by decide +kernel
theorem d_Mo_branch_47 : decode c_Mo_branch 47 = .ok (.getfield 185, 3) := by decide +kernel
theorem d_Mo_branch_50 : decode c_Mo_branch 50 = .ok (.ifCond .eq 8, 3) := by decide +kernel
theorem d_Mo_branch_53 : decode c_Mo_branch 53 = .ok (.iload 5, 2) := by decide +kernel
theorem d_Mo_branch_55 : decode c_Mo_branch 55 = .ok (.goto 5, 3) := by decide +kernel
theorem d_Mo_branch_58 : decode c_Mo_branch 58 = .ok (.iload 6, 2) := by decide +kernel
theorem d_Mo_branch_60 : decode c_Mo_branch 60 = .ok (.invokevirtual 194, 3) := by decide +kernel
theorem d_Mo_branch_63 : decode c_Mo_branch 63 = .ok (.return_, 1) := by decide +kernel
theorem d_Mo_let_0 : decode c_Mo_let 0 = .ok (.bipush 6, 2) := by decide +kernel
theorem d_Mo_let_2 : decode c_Mo_let 2 = .ok (.aload_n 0, 1) := by decide +kernel
theorem d_Mo_let_3 : decode c_Mo_let 3 = .ok (.getfield 191, 3) := by decide +kernel
theorem d_Mo_let_6 : decode c_Mo_let 6 = .ok (.imul, 1) := by decide +kernel
theorem d_Mo_let_7 : decode c_Mo_let 7 = .ok (.aload_n 0, 1) := by decide +kernel
theorem d_Mo_let_8 : decode c_Mo_let 8 = .ok (.iload_n 2, 1) := by decide +kernel
theorem d_Mo_let_9 : decode c_Mo_let 9 = .ok (.iload_n 3, 1) := by decide +kernel
theorem d_Mo_let_10 : decode c_Mo_let 10 = .ok (.iconst 1, 1) := by decide +kernel
theorem d_Mo_let_11 : decode c_Mo_let 11 = .ok (.iadd, 1) := by decide +kernel
theorem d_Mo_let_12 : decode c_Mo_let 12 = .ok (.invokevirtual 88, 3) := by decide +kernel
theorem d_Mo_let_15 : decode c_Mo_let 15 = .ok (.iadd, 1) := by decide +kernel
theorem d_Mo_let_16 : decode c_Mo_let 16 = .ok (.bipush 107, 2) := by decide +kernel
theorem d_Mo_let_18 : decode c_Mo_let 18 = .ok (.isub, 1) := by decide +kernel
theorem d_Mo_let_19 : decode c_Mo_let 19 = .ok (.istore 5, 2) := by decide +kernel
theorem d_Mo_let_21 : decode c_Mo_let 21 = .ok (.iload 4, 2) := by decide +kernel
theorem d_Mo_let_23 : decode c_Mo_let 23 = .ok (.iconst 2, 1) := by decide +kernel
theorem d_Mo_let_24 : decode c_Mo_let 24 = .ok (.if_icmp .ne 25, 3) := by decide +kernel
theorem d_Mo_let_27 : decode c_Mo_let 27 = .ok (.aload_n 0, 1) := by decide +kernel
theorem d_Mo_let_28 : decode c_Mo_let 28 = .ok (.getfield 72, 3) := by decide +kernel
theorem d_Mo_let_31 : decode c_Mo_let 31 = .ok (.iload 5, 2) := by decide +kernel
theorem d_Mo_let_33 : decode c_Mo_let 33 = .ok (.aload_n 0, 1) := by decide +kernel
theorem d_Mo_let_34 : decode c_Mo_let 34 = .ok (.getfield 69, 3) := by decide +kernel
theorem d_Mo_let_37 : decode c_Mo_let 37 = .ok (.iload_n 1, 1) := by decide +kernel
theorem d_Mo_let_38 : decode c_Mo_let 38 = .ok (.iaload, 1) := by decide +kernel
theorem d_Mo_let_39 : decode c_Mo_let 39 = .ok (.iastore, 1) := by decide +kernel
theorem d_Mo_let_40 : decode c_Mo_let 40 = .ok (.aload_n 0, 1) := by decide +kernel
theorem d_Mo_let_41 : decode c_Mo_let 41 = .ok (.aload_n 0, 1) := by decide +kernel
theorem d_Mo_let_42 : decode c_Mo_let 42 = .ok (.getfield 185, 3) := by decide +kernel
theorem d_Mo_let_45 : decode c_Mo_let 45 = .ok (.invokevirtual 188, 3) := by decide +kernel
theorem d_Mo_let_48 : decode c_Mo_let 48 = .ok (.return_, 1) := by decide +kernel
theorem d_Mo_let_49 : decode c_Mo_let 49 = .ok (.aload_n 0, 1) := by decide +kernel
theorem d_Mo_let_50 : decode c_Mo_let 50 = .ok (.getfield 69, 3) := by decide +kernel
theorem d_Mo_let_53 : decode c_Mo_let 53 = .ok (.iload_n 1, 1) := by decide +kernel
theorem d_Mo_let_54 : decode c_Mo_let 54 = .ok (.aload_n 0, 1) := by decide +kernel
theorem d_Mo_let_55 : decode c_Mo_let 55 = .ok (.getfield 72, 3) := by decide +kernel
theorem d_Mo_let_58 : decode c_Mo_let 58 = .ok (.iload 5, 2) := by decide +kernel
theorem d_Mo_let_60 : decode c_Mo_let 60 = .ok (.iaload, 1) := by decide +kernel
theorem d_Mo_let_61 : decode c_Mo_let 61 = .ok (.iastore, 1) := by decide +kernel
theorem d_Mo_let_62 : decode c_Mo_let 62 = .ok (.aload_n 0, 1) := by decide +kernel
theorem d_Mo_let_63 : decode c_Mo_let 63 = .ok (.getfield 72, 3) := by decide +kernel
theorem d_Mo_let_66 : decode c_Mo_let 66 = .ok (.iload 5, 2) := by decide +kernel
theorem d_Mo_let_68 : decode c_Mo_let 68 = .ok (.aload_n 0, 1) := by decide +kernel
theorem d_Mo_let_69 : decode c_Mo_let 69 = .ok (.getfield 185, 3) := by decide +kernel
theorem d_Mo_let_72 : decode c_Mo_let 72 = .ok (.iastore, 1) := by decide +kernel
theorem d_Mo_let_73 : decode c_Mo_let 73 = .ok (.aload_n 0, 1) := by decide +kernel
theorem d_Mo_let_74 : decode c_Mo_let 74 = .ok (.iload_n 2, 1) := by decide +kernel
theorem d_Mo_let_75 : decode c_Mo_let 75 = .ok (.aload_n 0, 1) := by decide +kernel
theorem d_Mo_let_76 : decode c_Mo_let 76 = .ok (.getfield 23, 3) := by decide +kernel
theorem d_Mo_let_79 : decode c_Mo_let 79 = .ok (.bipush 24, 2) := by decide +kernel
theorem d_Mo_let_81 : decode c_Mo_let 81 = .ok (.iload_n 2, 1) := by decide +kernel
theorem d_Mo_let_82 : decode c_Mo_let 82 = .ok (.imul, 1) := by decide +kernel
theorem d_Mo_let_83 : decode c_Mo_let 83 = .ok (.iload_n 3, 1) := by decide +kernel
theorem d_Mo_let_84 : decode c_Mo_let 84 = .ok (.iadd, 1) := by decide +kernel
theorem d_Mo_let_85 : decode c_Mo_let 85 = .ok (.iconst 2, 1) := by decide +kernel
theorem d_Mo_let_86 : decode c_Mo_let 86 = .ok (.iadd, 1) := by decide +kernel
theorem d_Mo_let_87 : decode c_Mo_let 87 = .ok (.iaload, 1) := by decide +kernel
theorem d_Mo_let_88 : decode c_Mo_let 88 = .ok (.invokevirtual 194, 3) := by decide +kernel
theorem d_Mo_let_91 : decode c_Mo_let 91 = .ok (.return_, 1) := by decide +kernel
theorem d_Mo_call_0 : decode c_Mo_call 0 = .ok (.iload_n 3, 1) := by decide +kernel
theorem d_Mo_call_1 : decode c_Mo_call 1 = .ok (.iconst 2, 1) := by decide +kernel
theorem d_Mo_call_2 : decode c_Mo_call 2 = .ok (.if_icmp .ne 22, 3) := by decide +kernel
theorem d_Mo_call_5 : decode c_Mo_call 5 = .ok (.aload_n 0, 1) := by decide +kernel
theorem d_Mo_call_6 : decode c_Mo_call 6 = .ok (.dup, 1) := by decide +kernel
theorem d_Mo_call_7 : decode c_Mo_call 7 = .ok (.getfield 191, 3) := by decide +kernel
theorem d_Mo_call_10 : decode c_Mo_call 10 = .ok (.iconst 1, 1) := by decide +kernel
theorem d_Mo_call_11 : decode c_Mo_call 11 = .ok (.isub, 1) := by decide +kernel
theorem d_Mo_call_12 : decode c_Mo_call 12 = .ok (.putfield 191, 3) := by decide +kernel
theorem d_Mo_call_15 : decode c_Mo_call 15 = .ok (.aload_n 0, 1) := by decide +kernel
theorem d_Mo_call_16 : decode c_Mo_call 16 = .ok (.aload_n 0, 1) := by decide +kernel
theorem d_Mo_call_17 : decode c_Mo_call 17 = .ok (.getfield 185, 3) := by decide +kernel
theorem d_Mo_call_20 : decode c_Mo_call 20 = .ok (.invokevirtual 188, 3) := by decide +kernel
theorem d_Mo_call_23 : decode c_Mo_call 23 = .ok (.return_, 1) := by decide +kernel
theorem d_Mo_call_24 : decode c_Mo_call 24 = .ok (.aload_n 0, 1) := by decide +kernel
theorem d_Mo_call_25 : decode c_Mo_call 25 = .ok (.getfield 191, 3) := by decide +kernel
theorem d_Mo_call_28 : decode c_Mo_call 28 = .ok (.iconst 5, 1) := by decide +kernel
theorem d_Mo_call_29 : decode c_Mo_call 29 = .ok (.if_icmp .ne 10, 3) := by decide +kernel
theorem d_Mo_call_32 : decode c_Mo_call 32 = .ok (.aload_n 0, 1) := by decide +kernel
theorem d_Mo_call_33 : decode c_Mo_call 33 = .ok (.bipush 9, 2) := by decide +kernel
theorem d_Mo_call_35 : decode c_Mo_call 35 = .ok (.putfield 176, 3) := by decide +kernel
theorem d_Mo_call_38 : decode c_Mo_call 38 = .ok (.return_, 1) := by decide +kernel
theorem d_Mo_call_39 : decode c_Mo_call 39 = .ok (.aload_n 0, 1) := by decide +kernel
theorem d_Mo_call_40 : decode c_Mo_call 40 = .ok (.aload_n 0, 1) := by decide +kernel
theorem d_Mo_call_41 : decode c_Mo_call 41 = .ok (.iload_n 1, 1) := by decide +kernel
theorem d_Mo_call_42 : decode c_Mo_call 42 = .ok (.iload_n 2, 1) := by decide +kernel
theorem d_Mo_call_43 : decode c_Mo_call 43 = .ok (.iconst 1, 1) := by decide +kernel
theorem d_Mo_call_44 : decode c_Mo_call 44 = .ok (.iadd, 1) := by decide +kernel
theorem d_Mo_call_45 : decode c_Mo_call 45 = .ok (.invokevirtual 88, 3) := by decide +kernel
theorem d_Mo_call_48 : decode c_Mo_call 48 = .ok (.bipush 97, 2) := by decide +kernel
theorem d_Mo_call_50 : decode c_Mo_call 50 = .ok (.isub, 1) := by decide +kernel
theorem d_Mo_call_51 : decode c_Mo_call 51 = .ok (.invokevirtual 131, 3) := by decide +kernel
theorem d_Mo_call_54 : decode c_Mo_call 54 = .ok (.istore 4, 2) := by decide +kernel
theorem d_Mo_call_56 : decode c_Mo_call 56 = .ok (.aload_n 0, 1) := by decide +kernel
theorem d_Mo_call_57 : decode c_Mo_call 57 = .ok (.dup, 1) := by decide +kernel
theorem d_Mo_call_58 : decode c_Mo_call 58 = .ok (.getfield 191, 3) := by decide +kernel
theorem d_Mo_call_61 : decode c_Mo_call 61 = .ok (.iconst 1, 1) := by decide +kernel
theorem d_Mo_call_62 : decode c_Mo_call 62 = .ok (.iadd, 1) := by decide +kernel
theorem d_Mo_call_63 : decode c_Mo_call 63 = .ok (.putfield 191, 3) := by decide +kernel
theorem d_Mo_call_66 : decode c_Mo_call 66 = .ok (.aload_n 0, 1) := by decide +kernel
theorem d_Mo_call_67 : decode c_Mo_call 67 = .ok (.getfield 72, 3) := by decide +kernel
theorem d_Mo_call_70 : decode c_Mo_call 70 = .ok (.bipush 6, 2) := by decide +kernel
theorem d_Mo_call_72 : decode c_Mo_call 72 = .ok (.aload_n 0, 1) := by decide +kernel
theorem d_Mo_call_73 : decode c_Mo_call 73 = .ok (.getfield 191, 3) := by decide +kernel
theorem d_Mo_call_76 : decode c_Mo_call 76 = .ok (.imul, 1) := by decide +kernel
theorem d_Mo_call_77 : decode c_Mo_call 77 = .ok (.aload_n 0, 1) := by decide +kernel
theorem d_Mo_call_78 : decode c_Mo_call 78 = .ok (.iload 4, 2) := by decide +kernel
theorem d_Mo_call_80 : decode c_Mo_call 80 = .ok (.iconst 1, 1) := by decide +kernel
theorem d_Mo_call_81 : decode c_Mo_call 81 = .ok (.invokevirtual 88, 3) := by decide +kernel
theorem d_Mo_call_84 : decode c_Mo_call 84 = .ok (.iadd, 1) := by decide +kernel
theorem d_Mo_call_85 : decode c_Mo_call 85 = .ok (.bipush 107, 2) := by decide +kernel
theorem d_Mo_call_87 : decode c_Mo_call 87 = .ok (.isub, 1) := by decide +kernel
theorem d_Mo_call_88 : decode c_Mo_call 88 = .ok (.aload_n 0, 1) := by decide +kernel
theorem d_Mo_call_89 : decode c_Mo_call 89 = .ok (.getfield 185, 3) := by decide +kernel
theorem d_Mo_call_92 : decode c_Mo_call 92 = .ok (.iastore, 1) := by decide +kernel
theorem d_Mo_call_93 : decode c_Mo_call 93 = .ok (.aload_n 0, 1) := by decide +kernel
theorem d_Mo_call_94 : decode c_Mo_call 94 = .ok (.iload 4, 2) := by decide +kernel
theorem d_Mo_call_96 : decode c_Mo_call 96 = .ok (.iconst 2, 1) := by decide +kernel
theorem d_Mo_call_97 : decode c_Mo_call 97 = .ok (.invokevirtual 194, 3) := by decide +kernel
theorem d_Mo_call_100 : decode c_Mo_call 100 = .ok (.return_, 1) := by decide +kernel
theorem d_Mo_match_0 : decode c_Mo_match 0 = .ok (.iload 4, 2) := by decide +kernel
theorem d_Mo_match_2 : decode c_Mo_match 2 = .ok (.iconst 2, 1) := by decide +kernel
theorem d_Mo_match_3 : decode c_Mo_match 3 = .ok (.if_icmp .ne 12, 3) := by decide +kernel
theorem d_Mo_match_6 : decode c_Mo_match 6 = .ok (.aload_n 0, 1) := by decide +kernel
theorem d_Mo_match_7 : decode c_Mo_match 7 = .ok (.aload_n 0, 1) := by decide +kernel
theorem d_Mo_match_8 : decode c_Mo_match 8 = .ok (.getfield 185, 3) := by decide +kernel
theorem d_Mo_match_11 : decode c_Mo_match 11 = .ok (.invokevirtual 188, 3) := by decide +kernel
theorem d_Mo_match_14 : decode c_Mo_match 14 = .ok (.return_, 1) := by decide +kernel
theorem d_Mo_match_15 : decode c_Mo_match 15 = .ok (.aload_n 0, 1) := by decide +kernel
theorem d_Mo_match_16 : decode c_Mo_match 16 = .ok (.getfield 23, 3) := by decide +kernel
theorem d_Mo_match_19 : decode c_Mo_match 19 = .ok (.bipush 24, 2) := by decide +kernel
theorem d_Mo_match_21 : decode c_Mo_match 21 = .ok (.iload_n 2, 1) := by decide +kernel
theorem d_Mo_match_22 : decode c_Mo_match 22 = .ok (.imul, 1) := by decide +kernel
theorem d_Mo_match_23 : decode c_Mo_match 23 = .ok (.iload_n 3, 1) := by decide +kernel
theorem d_Mo_match_24 : decode c_Mo_match 24 = .ok (.iadd, 1) := by decide +kernel
theorem d_Mo_match_25 : decode c_Mo_match 25 = .ok (.iconst 1, 1) := by decide +kernel
theorem d_Mo_match_26 : decode c_Mo_match 26 = .ok (.iadd, 1) := by decide +kernel
theorem d_Mo_match_27 : decode c_Mo_match 27 = .ok (.iaload, 1) := by decide +kernel
theorem d_Mo_match_28 : decode c_Mo_match 28 = .ok (.istore 5, 2) := by decide +kernel
theorem d_Mo_match_30 : decode c_Mo_match 30 = .ok (.aload_n 0, 1) := by decide +kernel
theorem d_Mo_match_31 : decode c_Mo_match 31 = .ok (.getfield 23, 3) := by decide +kernel
theorem d_Mo_match_34 : decode c_Mo_match 34 = .ok (.bipush 24, 2) := by decide +kernel
theorem d_Mo_match_36 : decode c_Mo_match 36 = .ok (.iload_n 2, 1) := by decide +kernel
theorem d_Mo_match_37 : decode c_Mo_match 37 = .ok (.imul, 1) := by decide +kernel
theorem d_Mo_match_38 : decode c_Mo_match 38 = .ok (.iload 5, 2) := by decide +kernel
theorem d_Mo_match_40 : decode c_Mo_match 40 = .ok (.iadd, 1) := by decide +kernel
theorem d_Mo_match_41 : decode c_Mo_match 41 = .ok (.iconst 1, 1) := by decide +kernel
theorem d_Mo_match_42 : decode c_Mo_match 42 = .ok (.iadd, 1) := by decide +kernel
theorem d_Mo_match_43 : decode c_Mo_match 43 = .ok (.iaload, 1) := by decide +kernel
theorem d_Mo_match_44 : decode c_Mo_match 44 = .ok (.istore 6, 2) := by decide +kernel
theorem d_Mo_match_46 : decode c_Mo_match 46 = .ok (.aload_n 0, 1) := by decide +kernel
theorem d_Mo_match_47 : decode c_Mo_match 47 = .ok (.getfield 185, 3) := by decide +kernel
theorem d_Mo_match_50 : decode c_Mo_match 50 = .ok (.aload_n 0, 1) := by decide +kernel
theorem d_Mo_match_51 : decode c_Mo_match 51 = .ok (.iload_n 2, 1) := by decide +kernel
theorem d_Mo_match_52 : decode c_Mo_match 52 = .ok (.iload 5, 2) := by decide +kernel
theorem d_Mo_match_54 : decode c_Mo_match 54 = .ok (.invokevirtual 88, 3) := by decide +kernel
theorem d_Mo_match_57 : decode c_Mo_match 57 = .ok (.bipush 48, 2) := by decide +kernel
theorem d_Mo_match_59 : decode c_Mo_match 59 = .ok (.isub, 1) := by decide +kernel
theorem d_Mo_match_60 : decode c_Mo_match 60 = .ok (.if_icmp .ne 15, 3) := by decide +kernel
theorem d_Mo_match_63 : decode c_Mo_match 63 = .ok (.aload_n 0, 1) := by decide +kernel
theorem d_Mo_match_64 : decode c_Mo_match 64 = .ok (.iload_n 2, 1) := by decide +kernel
theorem d_Mo_match_65 : decode c_Mo_match 65 = .ok (.iload 5, 2) := by decide +kernel
theorem d_Mo_match_67 : decode c_Mo_match 67 = .ok (.iconst 1, 1) := by decide +kernel
theorem d_Mo_match_68 : decode c_Mo_match 68 = .ok (.iadd, 1) := by decide +kernel
theorem d_Mo_match_69 : decode c_Mo_match 69 = .ok (.invokevirtual 194, 3) := by decide +kernel
theorem d_Mo_match_72 : decode c_Mo_match 72 = .ok (.goto 38, 3) := by decide +kernel
theorem d_Mo_match_75 : decode c_Mo_match 75 = .ok (.aload_n 0, 1) := by decide +kernel
theorem d_Mo_match_76 : decode c_Mo_match 76 = .ok (.getfield 185, 3) := by decide +kernel
theorem d_Mo_match_79 : decode c_Mo_match 79 = .ok (.aload_n 0, 1) := by decide +kernel
theorem d_Mo_match_80 : decode c_Mo_match 80 = .ok (.iload_n 2, 1) := by decide +kernel
theorem d_Mo_match_81 : decode c_Mo_match 81 = .ok (.iload 6, 2) := by decide +kernel
theorem d_Mo_match_83 : decode c_Mo_match 83 = .ok (.invokevirtual 88, 3) := by decide +kernel
theorem d_Mo_match_86 : decode c_Mo_match 86 = .ok (.bipush 48, 2) := by decide +kernel
theorem d_Mo_match_88 : decode c_Mo_match 88 = .ok (.isub, 1) := by decide +kernel
theorem d_Mo_match_89 : decode c_Mo_match 89 = .ok (.if_icmp .ne 15, 3) := by decide +kernel
theorem d_Mo_match_92 : decode c_Mo_match 92 = .ok (.aload_n 0, 1) := by decide +kernel
theorem d_Mo_match_93 : decode c_Mo_match 93 = .ok (.iload_n 2, 1) := by decide +kernel
theorem d_Mo_match_94 : decode c_Mo_match 94 = .ok (.iload 6, 2) := by decide +kernel
theorem d_Mo_match_96 : decode c_Mo_match 96 = .ok (.iconst 1, 1) := by decide +kernel
theorem d_Mo_match_97 : decode c_Mo_match 97 = .ok (.iadd, 1) := by decide +kernel
theorem d_Mo_match_98 : decode c_Mo_match 98 = .ok (.invokevirtual 194, 3) := by decide +kernel
theorem d_Mo_match_101 : decode c_Mo_match 101 = .ok (.goto 9, 3) := by decide +kernel
theorem d_Mo_match_104 : decode c_Mo_match 104 = .ok (.aload_n 0, 1) := by decide +kernel
theorem d_Mo_match_105 : decode c_Mo_match 105 = .ok (.bipush 8, 2) := by decide +kernel
theorem d_Mo_match_107 : decode c_Mo_match 107 = .ok (.putfield 176, 3) := by decide +kernel
theorem d_Mo_match_110 : decode c_Mo_match 110 = .ok (.return_, 1) := by decide +kernel
theorem d_Mo_joined_0 : decode c_Mo_joined 0 = .ok (.iload_n 1, 1) := by decide +kernel
theorem d_Mo_joined_1 : decode c_Mo_joined 1 = .ok (.bipush 47, 2) := by decide +kernel
theorem d_Mo_joined_3 : decode c_Mo_joined 3 = .ok (.if_icmp .ne 15, 3) := by decide +kernel
theorem d_Mo_joined_6 : decode c_Mo_joined 6 = .ok (.iload_n 3, 1) := by decide +kernel
theorem d_Mo_joined_7 : decode c_Mo_joined 7 = .ok (.ifCond .ne 11, 3) := by decide +kernel
theorem d_Mo_joined_10 : decode c_Mo_joined 10 = .ok (.aload_n 0, 1) := by decide +kernel
theorem d_Mo_joined_11 : decode c_Mo_joined 11 = .ok (.bipush 7, 2) := by decide +kernel
theorem d_Mo_joined_13 : decode c_Mo_joined 13 = .ok (.putfield 176, 3) := by decide +kernel
theorem d_Mo_joined_16 : decode c_Mo_joined 16 = .ok (.iconst 0, 1) := by decide +kernel
theorem d_Mo_joined_17 : decode c_Mo_joined 17 = .ok (.ireturn, 1) := by decide +kernel
theorem d_Mo_joined_18 : decode c_Mo_joined 18 = .ok (.iload_n 1, 1) := by decide +kernel
theorem d_Mo_joined_19 : decode c_Mo_joined 19 = .ok (.lookupswitch 76 #[(42, 57), (43, 49), (45, 53), (47, 61), (60, 65)], 49) := by decide +kernel
theorem d_Mo_joined_68 : decode c_Mo_joined 68 = .ok (.iload_n 2, 1) := by decide +kernel
theorem d_Mo_joined_69 : decode c_Mo_joined 69 = .ok (.iload_n 3, 1) := by decide +kernel
theorem d_Mo_joined_70 : decode c_Mo_joined 70 = .ok (.iadd, 1) := by decide +kernel
theorem d_Mo_joined_71 : decode c_Mo_joined 71 = .ok (.ireturn, 1) := by decide +kernel
theorem d_Mo_joined_72 : decode c_Mo_joined 72 = .ok (.iload_n 2, 1) := by decide +kernel
theorem d_Mo_joined_73 : decode c_Mo_joined 73 = .ok (.iload_n 3, 1) := by decide +kernel
theorem d_Mo_joined_74 : decode c_Mo_joined 74 = .ok (.isub, 1) := by decide +kernel
theorem d_Mo_joined_75 : decode c_Mo_joined 75 = .ok (.ireturn, 1) := by decide +kernel
theorem d_Mo_joined_76 : decode c_Mo_joined 76 = .ok (.iload_n 2, 1) := by decide +kernel
theorem d_Mo_joined_77 : decode c_Mo_joined 77 = .ok (.iload_n 3, 1) := by decide +kernel
theorem d_Mo_joined_78 : decode c_Mo_joined 78 = .ok (.imul, 1) := by decide +kernel
theorem d_Mo_joined_79 : decode c_Mo_joined 79 = .ok (.ireturn, 1) := by decide +kernel
theorem d_Mo_joined_80 : decode c_Mo_joined 80 = .ok (.iload_n 2, 1) := by decide +kernel
theorem d_Mo_joined_81 : decode c_Mo_joined 81 = .ok (.iload_n 3, 1) := by decide +kernel
theorem d_Mo_joined_82 : decode c_Mo_joined 82 = .ok (.idiv, 1) := by decide +kernel
theorem d_Mo_joined_83 : decode c_Mo_joined 83 = .ok (.ireturn, 1) := by decide +kernel
theorem d_Mo_joined_84 : decode c_Mo_joined 84 = .ok (.iload_n 2, 1) := by decide +kernel
theorem d_Mo_joined_85 : decode c_Mo_joined 85 = .ok (.iload_n 3, 1) := by decide +kernel
theorem d_Mo_joined_86 : decode c_Mo_joined 86 = .ok (.if_icmp .ge 7, 3) := by decide +kernel
theorem d_Mo_joined_89 : decode c_Mo_joined 89 = .ok (.iconst 1, 1) := by decide +kernel
theorem d_Mo_joined_90 : decode c_Mo_joined 90 = .ok (.goto 4, 3) := by decide +kernel
theorem d_Mo_joined_93 : decode c_Mo_joined 93 = .ok (.iconst 0, 1) := by decide +kernel
theorem d_Mo_joined_94 : decode c_Mo_joined 94 = .ok (.ireturn, 1) := by decide +kernel
theorem d_Mo_joined_95 : decode c_Mo_joined 95 = .ok (.iload_n 2, 1) := by decide +kernel
theorem d_Mo_joined_96 : decode c_Mo_joined 96 = .ok (.iload_n 3, 1) := by decide +kernel
theorem d_Mo_joined_97 : decode c_Mo_joined 97 = .ok (.if_icmp .ne 7, 3) := by decide +kernel
theorem d_Mo_joined_100 : decode c_Mo_joined 100 = .ok (.iconst 1, 1) := by decide +kernel
theorem d_Mo_joined_101 : decode c_Mo_joined 101 = .ok (.goto 4, 3) := by decide +kernel
theorem d_Mo_joined_104 : decode c_Mo_joined 104 = .ok (.iconst 0, 1) := by decide +kernel
theorem d_Mo_joined_105 : decode c_Mo_joined 105 = .ok (.ireturn, 1) := by decide +kernel
theorem d_Mo_cancel_0 : decode c_Mo_cancel 0 = .ok (.iload_n 1, 1) := by decide +kernel
theorem d_Mo_cancel_1 : decode c_Mo_cancel 1 = .ok (.invokestatic 138, 3) := by decide +kernel
theorem d_Mo_cancel_4 : decode c_Mo_cancel 4 = .ok (.ifCond .eq 28, 3) := by decide +kernel
theorem d_Mo_cancel_7 : decode c_Mo_cancel 7 = .ok (.aload_n 0, 1) := by decide +kernel
theorem d_Mo_cancel_8 : decode c_Mo_cancel 8 = .ok (.iload_n 1, 1) := by decide +kernel
theorem d_Mo_cancel_9 : decode c_Mo_cancel 9 = .ok (.invokevirtual 124, 3) := by decide +kernel
theorem d_Mo_cancel_12 : decode c_Mo_cancel 12 = .ok (.ifCond .eq 20, 3) := by decide +kernel
theorem d_Mo_cancel_15 : decode c_Mo_cancel 15 = .ok (.aload_n 0, 1) := by decide +kernel
theorem d_Mo_cancel_16 : decode c_Mo_cancel 16 = .ok (.getfield 36, 3) := by decide +kernel
theorem d_Mo_cancel_19 : decode c_Mo_cancel 19 = .ok (.iload_n 1, 1) := by decide +kernel
theorem d_Mo_cancel_20 : decode c_Mo_cancel 20 = .ok (.baload, 1) := by decide +kernel
theorem d_Mo_cancel_21 : decode c_Mo_cancel 21 = .ok (.ifCond .eq 11, 3) := by decide +kernel
theorem d_Mo_cancel_24 : decode c_Mo_cancel 24 = .ok (.aload_n 0, 1) := by decide +kernel
theorem d_Mo_cancel_25 : decode c_Mo_cancel 25 = .ok (.iload_n 1, 1) := by decide +kernel
theorem d_Mo_cancel_26 : decode c_Mo_cancel 26 = .ok (.invokevirtual 218, 3) := by decide +kernel
theorem d_Mo_cancel_29 : decode c_Mo_cancel 29 = .ok (.ifCond .eq 5, 3) := by decide +kernel
theorem d_Mo_cancel_32 : decode c_Mo_cancel 32 = .ok (.iconst 0, 1) := by decide +kernel
theorem d_Mo_cancel_33 : decode c_Mo_cancel 33 = .ok (.ireturn, 1) := by decide +kernel
theorem d_Mo_cancel_34 : decode c_Mo_cancel 34 = .ok (.aload_n 0, 1) := by decide +kernel
theorem d_Mo_cancel_35 : decode c_Mo_cancel 35 = .ok (.getfield 36, 3) := by decide +kernel
theorem d_Mo_cancel_38 : decode c_Mo_cancel 38 = .ok (.iload_n 1, 1) := by decide +kernel
theorem d_Mo_cancel_39 : decode c_Mo_cancel 39 = .ok (.iconst 0, 1) := by decide +kernel
theorem d_Mo_cancel_40 : decode c_Mo_cancel 40 = .ok (.bastore, 1) := by decide +kernel
theorem d_Mo_cancel_41 : decode c_Mo_cancel 41 = .ok (.aload_n 0, 1) := by decide +kernel
theorem d_Mo_cancel_42 : decode c_Mo_cancel 42 = .ok (.getfield 39, 3) := by decide +kernel
theorem d_Mo_cancel_45 : decode c_Mo_cancel 45 = .ok (.iload_n 1, 1) := by decide +kernel
theorem d_Mo_cancel_46 : decode c_Mo_cancel 46 = .ok (.bipush 11, 2) := by decide +kernel
theorem d_Mo_cancel_48 : decode c_Mo_cancel 48 = .ok (.iastore, 1) := by decide +kernel
theorem d_Mo_cancel_49 : decode c_Mo_cancel 49 = .ok (.iconst 1, 1) := by decide +kernel
theorem d_Mo_cancel_50 : decode c_Mo_cancel 50 = .ok (.ireturn, 1) := by decide +kernel
theorem d_Mo_status_0 : decode c_Mo_status 0 = .ok (.iload_n 1, 1) := by decide +kernel
theorem d_Mo_status_1 : decode c_Mo_status 1 = .ok (.invokestatic 138, 3) := by decide +kernel
theorem d_Mo_status_4 : decode c_Mo_status 4 = .ok (.ifCond .eq 11, 3) := by decide +kernel
theorem d_Mo_status_7 : decode c_Mo_status 7 = .ok (.aload_n 0, 1) := by decide +kernel
theorem d_Mo_status_8 : decode c_Mo_status 8 = .ok (.iload_n 1, 1) := by decide +kernel
theorem d_Mo_status_9 : decode c_Mo_status 9 = .ok (.invokevirtual 124, 3) := by decide +kernel
theorem d_Mo_status_12 : decode c_Mo_status 12 = .ok (.ifCond .ne 5, 3) := by decide +kernel
theorem d_Mo_status_15 : decode c_Mo_status 15 = .ok (.iconst 0, 1) := by decide +kernel
theorem d_Mo_status_16 : decode c_Mo_status 16 = .ok (.ireturn, 1) := by decide +kernel
theorem d_Mo_status_17 : decode c_Mo_status 17 = .ok (.aload_n 0, 1) := by decide +kernel
theorem d_Mo_status_18 : decode c_Mo_status 18 = .ok (.iload_n 1, 1) := by decide +kernel
theorem d_Mo_status_19 : decode c_Mo_status 19 = .ok (.invokevirtual 218, 3) := by decide +kernel
theorem d_Mo_status_22 : decode c_Mo_status 22 = .ok (.istore_n 2, 1) := by decide +kernel
theorem d_Mo_status_23 : decode c_Mo_status 23 = .ok (.iload_n 2, 1) := by decide +kernel
theorem d_Mo_status_24 : decode c_Mo_status 24 = .ok (.ifCond .eq 7, 3) := by decide +kernel
theorem d_Mo_status_27 : decode c_Mo_status 27 = .ok (.iload_n 2, 1) := by decide +kernel
theorem d_Mo_status_28 : decode c_Mo_status 28 = .ok (.goto 23, 3) := by decide +kernel
theorem d_Mo_status_31 : decode c_Mo_status 31 = .ok (.aload_n 0, 1) := by decide +kernel
theorem d_Mo_status_32 : decode c_Mo_status 32 = .ok (.getfield 36, 3) := by decide +kernel
theorem d_Mo_status_35 : decode c_Mo_status 35 = .ok (.iload_n 1, 1) := by decide +kernel
theorem d_Mo_status_36 : decode c_Mo_status 36 = .ok (.baload, 1) := by decide +kernel
theorem d_Mo_status_37 : decode c_Mo_status 37 = .ok (.ifCond .eq 8, 3) := by decide +kernel
theorem d_Mo_status_40 : decode c_Mo_status 40 = .ok (.bipush 12, 2) := by decide +kernel
theorem d_Mo_status_42 : decode c_Mo_status 42 = .ok (.goto 9, 3) := by decide +kernel
theorem d_Mo_status_45 : decode c_Mo_status 45 = .ok (.aload_n 0, 1) := by decide +kernel
theorem d_Mo_status_46 : decode c_Mo_status 46 = .ok (.getfield 39, 3) := by decide +kernel
theorem d_Mo_status_49 : decode c_Mo_status 49 = .ok (.iload_n 1, 1) := by decide +kernel
theorem d_Mo_status_50 : decode c_Mo_status 50 = .ok (.iaload, 1) := by decide +kernel
theorem d_Mo_status_51 : decode c_Mo_status 51 = .ok (.ireturn, 1) := by decide +kernel
theorem d_Mo_value_0 : decode c_Mo_value 0 = .ok (.aload_n 0, 1) := by decide +kernel
theorem d_Mo_value_1 : decode c_Mo_value 1 = .ok (.iload_n 1, 1) := by decide +kernel
theorem d_Mo_value_2 : decode c_Mo_value 2 = .ok (.invokevirtual 240, 3) := by decide +kernel
theorem d_Mo_value_5 : decode c_Mo_value 5 = .ok (.bipush 14, 2) := by decide +kernel
theorem d_Mo_value_7 : decode c_Mo_value 7 = .ok (.if_icmp .ne 12, 3) := by decide +kernel
theorem d_Mo_value_10 : decode c_Mo_value 10 = .ok (.aload_n 0, 1) := by decide +kernel
theorem d_Mo_value_11 : decode c_Mo_value 11 = .ok (.getfield 42, 3) := by decide +kernel
theorem d_Mo_value_14 : decode c_Mo_value 14 = .ok (.iload_n 1, 1) := by decide +kernel
theorem d_Mo_value_15 : decode c_Mo_value 15 = .ok (.iaload, 1) := by decide +kernel
theorem d_Mo_value_16 : decode c_Mo_value 16 = .ok (.goto 4, 3) := by decide +kernel
theorem d_Mo_value_19 : decode c_Mo_value 19 = .ok (.iconst 0, 1) := by decide +kernel
theorem d_Mo_value_20 : decode c_Mo_value 20 = .ok (.ireturn, 1) := by decide +kernel
theorem d_Mo_kind_0 : decode c_Mo_kind 0 = .ok (.aload_n 0, 1) := by decide +kernel
theorem d_Mo_kind_1 : decode c_Mo_kind 1 = .ok (.iload_n 1, 1) := by decide +kernel
theorem d_Mo_kind_2 : decode c_Mo_kind 2 = .ok (.invokevirtual 240, 3) := by decide +kernel
theorem d_Mo_kind_5 : decode c_Mo_kind 5 = .ok (.bipush 14, 2) := by decide +kernel
theorem d_Mo_kind_7 : decode c_Mo_kind 7 = .ok (.if_icmp .ne 12, 3) := by decide +kernel
theorem d_Mo_kind_10 : decode c_Mo_kind 10 = .ok (.aload_n 0, 1) := by decide +kernel
theorem d_Mo_kind_11 : decode c_Mo_kind 11 = .ok (.getfield 45, 3) := by decide +kernel
theorem d_Mo_kind_14 : decode c_Mo_kind 14 = .ok (.iload_n 1, 1) := by decide +kernel
theorem d_Mo_kind_15 : decode c_Mo_kind 15 = .ok (.iaload, 1) := by decide +kernel
theorem d_Mo_kind_16 : decode c_Mo_kind 16 = .ok (.goto 4, 3) := by decide +kernel
theorem d_Mo_kind_19 : decode c_Mo_kind 19 = .ok (.iconst 0, 1) := by decide +kernel
theorem d_Mo_kind_20 : decode c_Mo_kind 20 = .ok (.ireturn, 1) := by decide +kernel
theorem d_Mo_uses_0 : decode c_Mo_uses 0 = .ok (.iload_n 1, 1) := by decide +kernel
theorem d_Mo_uses_1 : decode c_Mo_uses 1 = .ok (.invokestatic 138, 3) := by decide +kernel
theorem d_Mo_uses_4 : decode c_Mo_uses 4 = .ok (.ifCond .eq 12, 3) := by decide +kernel
theorem d_Mo_uses_7 : decode c_Mo_uses 7 = .ok (.aload_n 0, 1) := by decide +kernel
theorem d_Mo_uses_8 : decode c_Mo_uses 8 = .ok (.getfield 33, 3) := by decide +kernel
theorem d_Mo_uses_11 : decode c_Mo_uses 11 = .ok (.iload_n 1, 1) := by decide +kernel
theorem d_Mo_uses_12 : decode c_Mo_uses 12 = .ok (.iaload, 1) := by decide +kernel
theorem d_Mo_uses_13 : decode c_Mo_uses 13 = .ok (.goto 4, 3) := by decide +kernel
theorem d_Mo_uses_16 : decode c_Mo_uses 16 = .ok (.iconst 0, 1) := by decide +kernel
theorem d_Mo_uses_17 : decode c_Mo_uses 17 = .ok (.ireturn, 1) := by decide +kernel
theorem d_Mo_runs_0 : decode c_Mo_runs 0 = .ok (.iload_n 1, 1) := by decide +kernel
theorem d_Mo_runs_1 : decode c_Mo_runs 1 = .ok (.invokestatic 138, 3) := by decide +kernel
theorem d_Mo_runs_4 : decode c_Mo_runs 4 = .ok (.ifCond .eq 12, 3) := by decide +kernel
theorem d_Mo_runs_7 : decode c_Mo_runs 7 = .ok (.aload_n 0, 1) := by decide +kernel
theorem d_Mo_runs_8 : decode c_Mo_runs 8 = .ok (.getfield 48, 3) := by decide +kernel
theorem d_Mo_runs_11 : decode c_Mo_runs 11 = .ok (.iload_n 1, 1) := by decide +kernel
theorem d_Mo_runs_12 : decode c_Mo_runs 12 = .ok (.iaload, 1) := by decide +kernel
theorem d_Mo_runs_13 : decode c_Mo_runs 13 = .ok (.goto 4, 3) := by decide +kernel
theorem d_Mo_runs_16 : decode c_Mo_runs 16 = .ok (.iconst 0, 1) := by decide +kernel
theorem d_Mo_runs_17 : decode c_Mo_runs 17 = .ok (.ireturn, 1) := by decide +kernel
theorem d_Mo_steps_0 : decode c_Mo_steps 0 = .ok (.aload_n 0, 1) := by decide +kernel
theorem d_Mo_steps_1 : decode c_Mo_steps 1 = .ok (.getfield 179, 3) := by decide +kernel
theorem d_Mo_steps_4 : decode c_Mo_steps 4 = .ok (.ireturn, 1) := by decide +kernel
