/-! rows by their places (2) -/
theorem r_170_0 : xrow 170 0 = some (.iload_n 0, 1, 0, 0, 0, 0) := by decide +kernel
theorem r_170_1 : xrow 170 1 = some (.bipush 97, 2, 0, 0, 0, 0) := by decide +kernel
theorem r_170_3 : xrow 170 3 = some (.if_icmp .lt 13, 3, 16, 0, 0, 0) := by decide +kernel
theorem r_170_6 : xrow 170 6 = some (.iload_n 0, 1, 0, 0, 0, 0) := by decide +kernel
theorem r_170_7 : xrow 170 7 = some (.bipush 122, 2, 0, 0, 0, 0) := by decide +kernel
theorem r_170_9 : xrow 170 9 = some (.if_icmp .gt 7, 3, 16, 0, 0, 0) := by decide +kernel
theorem r_170_12 : xrow 170 12 = some (.iconst 1, 1, 0, 0, 0, 0) := by decide +kernel
theorem r_170_13 : xrow 170 13 = some (.goto 4, 3, 17, 0, 0, 0) := by decide +kernel
theorem r_170_16 : xrow 170 16 = some (.iconst 0, 1, 0, 0, 0, 0) := by decide +kernel
theorem r_170_17 : xrow 170 17 = some (.ireturn, 1, 1, 0, 0, 0) := by decide +kernel
theorem r_171_0 : xrow 171 0 = some (.iload_n 0, 1, 0, 0, 0, 0) := by decide +kernel
theorem r_171_1 : xrow 171 1 = some (.bipush 48, 2, 0, 0, 0, 0) := by decide +kernel
theorem r_171_3 : xrow 171 3 = some (.if_icmp .lt 13, 3, 16, 0, 0, 0) := by decide +kernel
theorem r_171_6 : xrow 171 6 = some (.iload_n 0, 1, 0, 0, 0, 0) := by decide +kernel
theorem r_171_7 : xrow 171 7 = some (.bipush 57, 2, 0, 0, 0, 0) := by decide +kernel
theorem r_171_9 : xrow 171 9 = some (.if_icmp .gt 7, 3, 16, 0, 0, 0) := by decide +kernel
theorem r_171_12 : xrow 171 12 = some (.iconst 1, 1, 0, 0, 0, 0) := by decide +kernel
theorem r_171_13 : xrow 171 13 = some (.goto 4, 3, 17, 0, 0, 0) := by decide +kernel
theorem r_171_16 : xrow 171 16 = some (.iconst 0, 1, 0, 0, 0, 0) := by decide +kernel
theorem r_171_17 : xrow 171 17 = some (.ireturn, 1, 1, 0, 0, 0) := by decide +kernel
theorem r_172_0 : xrow 172 0 = some (.aload_n 0, 1, 0, 0, 0, 0) := by decide +kernel
theorem r_172_1 : xrow 172 1 = some (.getfield 143, 3, 22, 5, 0, 1026) := by decide +kernel
theorem r_172_4 : xrow 172 4 = some (.istore_n 1, 1, 0, 0, 0, 0) := by decide +kernel
theorem r_172_5 : xrow 172 5 = some (.aload_n 0, 1, 0, 0, 0, 0) := by decide +kernel
theorem r_172_6 : xrow 172 6 = some (.iload_n 1, 1, 0, 0, 0, 0) := by decide +kernel
theorem r_172_7 : xrow 172 7 = some (.invokevirtual 146, 3, 169, 0, 0, 1027) := by decide +kernel
theorem r_172_10 : xrow 172 10 = some (.bipush 32, 2, 0, 0, 0, 0) := by decide +kernel
theorem r_172_12 : xrow 172 12 = some (.if_icmp .ne 9, 3, 21, 0, 0, 0) := by decide +kernel
theorem r_172_15 : xrow 172 15 = some (.iinc 1 1, 3, 0, 0, 0, 0) := by decide +kernel
theorem r_172_18 : xrow 172 18 = some (.goto (-13), 3, 5, 0, 0, 0) := by decide +kernel
theorem r_172_21 : xrow 172 21 = some (.aload_n 0, 1, 0, 0, 0, 0) := by decide +kernel
theorem r_172_22 : xrow 172 22 = some (.iload_n 1, 1, 0, 0, 0, 0) := by decide +kernel
theorem r_172_23 : xrow 172 23 = some (.putfield 150, 3, 22, 4, 0, 1028) := by decide +kernel
theorem r_172_26 : xrow 172 26 = some (.aload_n 0, 1, 0, 0, 0, 0) := by decide +kernel
theorem r_172_27 : xrow 172 27 = some (.iload_n 1, 1, 0, 0, 0, 0) := by decide +kernel
theorem r_172_28 : xrow 172 28 = some (.invokevirtual 146, 3, 169, 0, 0, 1027) := by decide +kernel
theorem r_172_31 : xrow 172 31 = some (.istore_n 2, 1, 0, 0, 0, 0) := by decide +kernel
theorem r_172_32 : xrow 172 32 = some (.aload_n 0, 1, 0, 0, 0, 0) := by decide +kernel
theorem r_172_33 : xrow 172 33 = some (.iconst 0, 1, 0, 0, 0, 0) := by decide +kernel
theorem r_172_34 : xrow 172 34 = some (.putfield 153, 3, 22, 8, 0, 1029) := by decide +kernel
theorem r_172_37 : xrow 172 37 = some (.aload_n 0, 1, 0, 0, 0, 0) := by decide +kernel
theorem r_172_38 : xrow 172 38 = some (.iconst 0, 1, 0, 0, 0, 0) := by decide +kernel
theorem r_172_39 : xrow 172 39 = some (.putfield 156, 3, 22, 7, 0, 1030) := by decide +kernel
theorem r_172_42 : xrow 172 42 = some (.iload_n 2, 1, 0, 0, 0, 0) := by decide +kernel
theorem r_172_43 : xrow 172 43 = some (.iconst (-1), 1, 0, 0, 0, 0) := by decide +kernel
theorem r_172_44 : xrow 172 44 = some (.if_icmp .ne 16, 3, 60, 0, 0, 0) := by decide +kernel
theorem r_172_47 : xrow 172 47 = some (.aload_n 0, 1, 0, 0, 0, 0) := by decide +kernel
theorem r_172_48 : xrow 172 48 = some (.iconst 0, 1, 0, 0, 0, 0) := by decide +kernel
theorem r_172_49 : xrow 172 49 = some (.putfield 159, 3, 22, 6, 0, 1031) := by decide +kernel
theorem r_172_52 : xrow 172 52 = some (.aload_n 0, 1, 0, 0, 0, 0) := by decide +kernel
theorem r_172_53 : xrow 172 53 = some (.iload_n 1, 1, 0, 0, 0, 0) := by decide +kernel
theorem r_172_54 : xrow 172 54 = some (.putfield 143, 3, 22, 5, 0, 1026) := by decide +kernel
theorem r_172_57 : xrow 172 57 = some (.goto 208, 3, 265, 0, 0, 0) := by decide +kernel
theorem r_172_60 : xrow 172 60 = some (.iload_n 2, 1, 0, 0, 0, 0) := by decide +kernel
theorem r_172_61 : xrow 172 61 = some (.invokestatic 162, 3, 170, 0, 0, 1032) := by decide +kernel
theorem r_172_64 : xrow 172 64 = some (.ifCond .eq 79, 3, 143, 0, 0, 0) := by decide +kernel
theorem r_172_67 : xrow 172 67 = some (.aload_n 0, 1, 0, 0, 0, 0) := by decide +kernel
theorem r_172_68 : xrow 172 68 = some (.iload_n 1, 1, 0, 0, 0, 0) := by decide +kernel
theorem r_172_69 : xrow 172 69 = some (.invokevirtual 146, 3, 169, 0, 0, 1027) := by decide +kernel
theorem r_172_72 : xrow 172 72 = some (.invokestatic 162, 3, 170, 0, 0, 1032) := by decide +kernel
theorem r_172_75 : xrow 172 75 = some (.ifCond .eq 42, 3, 117, 0, 0, 0) := by decide +kernel
theorem r_172_78 : xrow 172 78 = some (.aload_n 0, 1, 0, 0, 0, 0) := by decide +kernel
theorem r_172_79 : xrow 172 79 = some (.getfield 153, 3, 22, 8, 0, 1029) := by decide +kernel
theorem r_172_82 : xrow 172 82 = some (.bipush 8, 2, 0, 0, 0, 0) := by decide +kernel
theorem r_172_84 : xrow 172 84 = some (.if_icmp .ge 17, 3, 101, 0, 0, 0) := by decide +kernel
theorem r_172_87 : xrow 172 87 = some (.aload_n 0, 1, 0, 0, 0, 0) := by decide +kernel
theorem r_172_88 : xrow 172 88 = some (.getfield 13, 3, 22, 11, 2, 983) := by decide +kernel
theorem r_172_91 : xrow 172 91 = some (.aload_n 0, 1, 0, 0, 0, 0) := by decide +kernel
theorem r_172_92 : xrow 172 92 = some (.getfield 153, 3, 22, 8, 0, 1029) := by decide +kernel
theorem r_172_95 : xrow 172 95 = some (.aload_n 0, 1, 0, 0, 0, 0) := by decide +kernel
theorem r_172_96 : xrow 172 96 = some (.iload_n 1, 1, 0, 0, 0, 0) := by decide +kernel
theorem r_172_97 : xrow 172 97 = some (.invokevirtual 146, 3, 169, 0, 0, 1027) := by decide +kernel
theorem r_172_100 : xrow 172 100 = some (.iastore, 1, 0, 0, 0, 0) := by decide +kernel
theorem r_172_101 : xrow 172 101 = some (.aload_n 0, 1, 0, 0, 0, 0) := by decide +kernel
theorem r_172_102 : xrow 172 102 = some (.dup, 1, 0, 0, 0, 0) := by decide +kernel
theorem r_172_103 : xrow 172 103 = some (.getfield 153, 3, 22, 8, 0, 1029) := by decide +kernel
theorem r_172_106 : xrow 172 106 = some (.iconst 1, 1, 0, 0, 0, 0) := by decide +kernel
theorem r_172_107 : xrow 172 107 = some (.iadd, 1, 0, 0, 0, 0) := by decide +kernel
theorem r_172_108 : xrow 172 108 = some (.putfield 153, 3, 22, 8, 0, 1029) := by decide +kernel
theorem r_172_111 : xrow 172 111 = some (.iinc 1 1, 3, 0, 0, 0, 0) := by decide +kernel
theorem r_172_114 : xrow 172 114 = some (.goto (-47), 3, 67, 0, 0, 0) := by decide +kernel
theorem r_172_117 : xrow 172 117 = some (.aload_n 0, 1, 0, 0, 0, 0) := by decide +kernel
theorem r_172_118 : xrow 172 118 = some (.iload_n 1, 1, 0, 0, 0, 0) := by decide +kernel
theorem r_172_119 : xrow 172 119 = some (.putfield 143, 3, 22, 5, 0, 1026) := by decide +kernel
theorem r_172_122 : xrow 172 122 = some (.aload_n 0, 1, 0, 0, 0, 0) := by decide +kernel
theorem r_172_123 : xrow 172 123 = some (.aload_n 0, 1, 0, 0, 0, 0) := by decide +kernel
theorem r_172_124 : xrow 172 124 = some (.getfield 153, 3, 22, 8, 0, 1029) := by decide +kernel
theorem r_172_127 : xrow 172 127 = some (.bipush 8, 2, 0, 0, 0, 0) := by decide +kernel
theorem r_172_129 : xrow 172 129 = some (.if_icmp .le 7, 3, 136, 0, 0, 0) := by decide +kernel
theorem r_172_132 : xrow 172 132 = some (.iconst 1, 1, 0, 0, 0, 0) := by decide +kernel
theorem r_172_133 : xrow 172 133 = some (.goto 4, 3, 137, 0, 0, 0) := by decide +kernel
theorem r_172_136 : xrow 172 136 = some (.iconst 2, 1, 0, 0, 0, 0) := by decide +kernel
theorem r_172_137 : xrow 172 137 = some (.putfield 159, 3, 22, 6, 0, 1031) := by decide +kernel
theorem r_172_140 : xrow 172 140 = some (.goto 125, 3, 265, 0, 0, 0) := by decide +kernel
theorem r_172_143 : xrow 172 143 = some (.iload_n 2, 1, 0, 0, 0, 0) := by decide +kernel
theorem r_172_144 : xrow 172 144 = some (.invokestatic 166, 3, 171, 0, 0, 1033) := by decide +kernel
theorem r_172_147 : xrow 172 147 = some (.ifCond .eq 72, 3, 219, 0, 0, 0) := by decide +kernel
theorem r_172_150 : xrow 172 150 = some (.iconst 0, 1, 0, 0, 0, 0) := by decide +kernel
theorem r_172_151 : xrow 172 151 = some (.istore_n 3, 1, 0, 0, 0, 0) := by decide +kernel
theorem r_172_152 : xrow 172 152 = some (.aload_n 0, 1, 0, 0, 0, 0) := by decide +kernel
theorem r_172_153 : xrow 172 153 = some (.iload_n 1, 1, 0, 0, 0, 0) := by decide +kernel
theorem r_172_154 : xrow 172 154 = some (.invokevirtual 146, 3, 169, 0, 0, 1027) := by decide +kernel
theorem r_172_157 : xrow 172 157 = some (.invokestatic 166, 3, 171, 0, 0, 1033) := by decide +kernel
theorem r_172_160 : xrow 172 160 = some (.ifCond .eq 37, 3, 197, 0, 0, 0) := by decide +kernel
theorem r_172_163 : xrow 172 163 = some (.iload_n 3, 1, 0, 0, 0, 0) := by decide +kernel
theorem r_172_164 : xrow 172 164 = some (.iconst 4, 1, 0, 0, 0, 0) := by decide +kernel
theorem r_172_165 : xrow 172 165 = some (.if_icmp .ge 23, 3, 188, 0, 0, 0) := by decide +kernel
theorem r_172_168 : xrow 172 168 = some (.aload_n 0, 1, 0, 0, 0, 0) := by decide +kernel
theorem r_172_169 : xrow 172 169 = some (.bipush 10, 2, 0, 0, 0, 0) := by decide +kernel
theorem r_172_171 : xrow 172 171 = some (.aload_n 0, 1, 0, 0, 0, 0) := by decide +kernel
theorem r_172_172 : xrow 172 172 = some (.getfield 156, 3, 22, 7, 0, 1030) := by decide +kernel
theorem r_172_175 : xrow 172 175 = some (.imul, 1, 0, 0, 0, 0) := by decide +kernel
theorem r_172_176 : xrow 172 176 = some (.aload_n 0, 1, 0, 0, 0, 0) := by decide +kernel
theorem r_172_177 : xrow 172 177 = some (.iload_n 1, 1, 0, 0, 0, 0) := by decide +kernel
theorem r_172_178 : xrow 172 178 = some (.invokevirtual 146, 3, 169, 0, 0, 1027) := by decide +kernel
theorem r_172_181 : xrow 172 181 = some (.iadd, 1, 0, 0, 0, 0) := by decide +kernel
theorem r_172_182 : xrow 172 182 = some (.bipush 48, 2, 0, 0, 0, 0) := by decide +kernel
theorem r_172_184 : xrow 172 184 = some (.isub, 1, 0, 0, 0, 0) := by decide +kernel
theorem r_172_185 : xrow 172 185 = some (.putfield 156, 3, 22, 7, 0, 1030) := by decide +kernel
theorem r_172_188 : xrow 172 188 = some (.iinc 3 1, 3, 0, 0, 0, 0) := by decide +kernel
theorem r_172_191 : xrow 172 191 = some (.iinc 1 1, 3, 0, 0, 0, 0) := by decide +kernel
theorem r_172_194 : xrow 172 194 = some (.goto (-42), 3, 152, 0, 0, 0) := by decide +kernel
theorem r_172_197 : xrow 172 197 = some (.aload_n 0, 1, 0, 0, 0, 0) := by decide +kernel
theorem r_172_198 : xrow 172 198 = some (.iload_n 1, 1, 0, 0, 0, 0) := by decide +kernel
theorem r_172_199 : xrow 172 199 = some (.putfield 143, 3, 22, 5, 0, 1026) := by decide +kernel
theorem r_172_202 : xrow 172 202 = some (.aload_n 0, 1, 0, 0, 0, 0) := by decide +kernel
theorem r_172_203 : xrow 172 203 = some (.iload_n 3, 1, 0, 0, 0, 0) := by decide +kernel
theorem r_172_204 : xrow 172 204 = some (.iconst 4, 1, 0, 0, 0, 0) := by decide +kernel
theorem r_172_205 : xrow 172 205 = some (.if_icmp .le 7, 3, 212, 0, 0, 0) := by decide +kernel
theorem r_172_208 : xrow 172 208 = some (.iconst 1, 1, 0, 0, 0, 0) := by decide +kernel
theorem r_172_209 : xrow 172 209 = some (.goto 4, 3, 213, 0, 0, 0) := by decide +kernel
theorem r_172_212 : xrow 172 212 = some (.iconst 3, 1, 0, 0, 0, 0) := by decide +kernel
theorem r_172_213 : xrow 172 213 = some (.putfield 159, 3, 22, 6, 0, 1031) := by decide +kernel
theorem r_172_216 : xrow 172 216 = some (.goto 49, 3, 265, 0, 0, 0) := by decide +kernel
theorem r_172_219 : xrow 172 219 = some (.aload_n 0, 1, 0, 0, 0, 0) := by decide +kernel
theorem r_172_220 : xrow 172 220 = some (.iload_n 1, 1, 0, 0, 0, 0) := by decide +kernel
theorem r_172_221 : xrow 172 221 = some (.iconst 1, 1, 0, 0, 0, 0) := by decide +kernel
theorem r_172_222 : xrow 172 222 = some (.iadd, 1, 0, 0, 0, 0) := by decide +kernel
theorem r_172_223 : xrow 172 223 = some (.putfield 143, 3, 22, 5, 0, 1026) := by decide +kernel
theorem r_172_226 : xrow 172 226 = some (.aload_n 0, 1, 0, 0, 0, 0) := by decide +kernel
theorem r_172_227 : xrow 172 227 = some (.iload_n 2, 1, 0, 0, 0, 0) := by decide +kernel
theorem r_172_228 : xrow 172 228 = some (.bipush 59, 2, 0, 0, 0, 0) := by decide +kernel
theorem r_172_230 : xrow 172 230 = some (.if_icmp .eq 27, 3, 257, 0, 0, 0) := by decide +kernel
theorem r_172_233 : xrow 172 233 = some (.iload_n 2, 1, 0, 0, 0, 0) := by decide +kernel
theorem r_172_234 : xrow 172 234 = some (.bipush 44, 2, 0, 0, 0, 0) := by decide +kernel
theorem r_172_236 : xrow 172 236 = some (.if_icmp .eq 21, 3, 257, 0, 0, 0) := by decide +kernel
theorem r_172_239 : xrow 172 239 = some (.iload_n 2, 1, 0, 0, 0, 0) := by decide +kernel
theorem r_172_240 : xrow 172 240 = some (.bipush 45, 2, 0, 0, 0, 0) := by decide +kernel
theorem r_172_242 : xrow 172 242 = some (.if_icmp .eq 15, 3, 257, 0, 0, 0) := by decide +kernel
theorem r_172_245 : xrow 172 245 = some (.iload_n 2, 1, 0, 0, 0, 0) := by decide +kernel
theorem r_172_246 : xrow 172 246 = some (.bipush 40, 2, 0, 0, 0, 0) := by decide +kernel
theorem r_172_248 : xrow 172 248 = some (.if_icmp .eq 9, 3, 257, 0, 0, 0) := by decide +kernel
theorem r_172_251 : xrow 172 251 = some (.iload_n 2, 1, 0, 0, 0, 0) := by decide +kernel
theorem r_172_252 : xrow 172 252 = some (.bipush 41, 2, 0, 0, 0, 0) := by decide +kernel
theorem r_172_254 : xrow 172 254 = some (.if_icmp .ne 7, 3, 261, 0, 0, 0) := by decide +kernel
theorem r_172_257 : xrow 172 257 = some (.iload_n 2, 1, 0, 0, 0, 0) := by decide +kernel
theorem r_172_258 : xrow 172 258 = some (.goto 4, 3, 262, 0, 0, 0) := by decide +kernel
theorem r_172_261 : xrow 172 261 = some (.iconst 1, 1, 0, 0, 0, 0) := by decide +kernel
theorem r_172_262 : xrow 172 262 = some (.putfield 159, 3, 22, 6, 0, 1031) := by decide +kernel
theorem r_172_265 : xrow 172 265 = some (.return_, 1, 0, 0, 0, 0) := by decide +kernel
theorem r_173_0 : xrow 173 0 = some (.aload_n 0, 1, 0, 0, 0, 0) := by decide +kernel
theorem r_173_1 : xrow 173 1 = some (.iload_n 1, 1, 0, 0, 0, 0) := by decide +kernel
theorem r_173_2 : xrow 173 2 = some (.putfield 140, 3, 22, 3, 0, 1025) := by decide +kernel
theorem r_173_5 : xrow 173 5 = some (.aload_n 0, 1, 0, 0, 0, 0) := by decide +kernel
theorem r_173_6 : xrow 173 6 = some (.iconst 0, 1, 0, 0, 0, 0) := by decide +kernel
theorem r_173_7 : xrow 173 7 = some (.putfield 143, 3, 22, 5, 0, 1026) := by decide +kernel
theorem r_173_10 : xrow 173 10 = some (.aload_n 0, 1, 0, 0, 0, 0) := by decide +kernel
theorem r_173_11 : xrow 173 11 = some (.iconst 0, 1, 0, 0, 0, 0) := by decide +kernel
theorem r_173_12 : xrow 173 12 = some (.putfield 169, 3, 22, 13, 3, 1034) := by decide +kernel
theorem r_173_15 : xrow 173 15 = some (.aload_n 0, 1, 0, 0, 0, 0) := by decide +kernel
theorem r_173_16 : xrow 173 16 = some (.invokevirtual 173, 3, 172, 0, 0, 1035) := by decide +kernel
theorem r_173_19 : xrow 173 19 = some (.return_, 1, 0, 0, 0, 0) := by decide +kernel
theorem r_174_0 : xrow 174 0 = some (.aload_n 0, 1, 0, 0, 0, 0) := by decide +kernel
theorem r_174_1 : xrow 174 1 = some (.getfield 169, 3, 22, 13, 0, 1034) := by decide +kernel
theorem r_174_4 : xrow 174 4 = some (.ifCond .ne 18, 3, 22, 0, 0, 0) := by decide +kernel
theorem r_174_7 : xrow 174 7 = some (.aload_n 0, 1, 0, 0, 0, 0) := by decide +kernel
theorem r_174_8 : xrow 174 8 = some (.iconst 1, 1, 0, 0, 0, 0) := by decide +kernel
theorem r_174_9 : xrow 174 9 = some (.putfield 169, 3, 22, 13, 3, 1034) := by decide +kernel
theorem r_174_12 : xrow 174 12 = some (.aload_n 0, 1, 0, 0, 0, 0) := by decide +kernel
theorem r_174_13 : xrow 174 13 = some (.iload_n 1, 1, 0, 0, 0, 0) := by decide +kernel
theorem r_174_14 : xrow 174 14 = some (.putfield 176, 3, 22, 9, 0, 1036) := by decide +kernel
theorem r_174_17 : xrow 174 17 = some (.aload_n 0, 1, 0, 0, 0, 0) := by decide +kernel
theorem r_174_18 : xrow 174 18 = some (.iload_n 2, 1, 0, 0, 0, 0) := by decide +kernel
theorem r_174_19 : xrow 174 19 = some (.putfield 179, 3, 22, 10, 0, 1037) := by decide +kernel
theorem r_174_22 : xrow 174 22 = some (.iconst 0, 1, 0, 0, 0, 0) := by decide +kernel
theorem r_174_23 : xrow 174 23 = some (.ireturn, 1, 1, 0, 0, 0) := by decide +kernel
theorem r_175_0 : xrow 175 0 = some (.aload_n 0, 1, 0, 0, 0, 0) := by decide +kernel
theorem r_175_1 : xrow 175 1 = some (.getfield 169, 3, 22, 13, 0, 1034) := by decide +kernel
theorem r_175_4 : xrow 175 4 = some (.ifCond .ne 22, 3, 26, 0, 0, 0) := by decide +kernel
theorem r_175_7 : xrow 175 7 = some (.aload_n 0, 1, 0, 0, 0, 0) := by decide +kernel
theorem r_175_8 : xrow 175 8 = some (.getfield 159, 3, 22, 6, 0, 1031) := by decide +kernel
theorem r_175_11 : xrow 175 11 = some (.iconst 2, 1, 0, 0, 0, 0) := by decide +kernel
theorem r_175_12 : xrow 175 12 = some (.if_icmp .ne 14, 3, 26, 0, 0, 0) := by decide +kernel
theorem r_175_15 : xrow 175 15 = some (.aload_n 0, 1, 0, 0, 0, 0) := by decide +kernel
theorem r_175_16 : xrow 175 16 = some (.getfield 153, 3, 22, 8, 0, 1029) := by decide +kernel
theorem r_175_19 : xrow 175 19 = some (.aload_n 1, 1, 0, 0, 0, 0) := by decide +kernel
theorem r_175_20 : xrow 175 20 = some (.invokevirtual 182, 3, 271, 0, 0, 1038) := by decide +kernel
theorem r_175_23 : xrow 175 23 = some (.if_icmp .eq 5, 3, 28, 0, 0, 0) := by decide +kernel
theorem r_175_26 : xrow 175 26 = some (.iconst 0, 1, 0, 0, 0, 0) := by decide +kernel
theorem r_175_27 : xrow 175 27 = some (.ireturn, 1, 1, 0, 0, 0) := by decide +kernel
theorem r_175_28 : xrow 175 28 = some (.iconst 1, 1, 0, 0, 0, 0) := by decide +kernel
theorem r_175_29 : xrow 175 29 = some (.istore_n 2, 1, 0, 0, 0, 0) := by decide +kernel
theorem r_175_30 : xrow 175 30 = some (.iconst 0, 1, 0, 0, 0, 0) := by decide +kernel
theorem r_175_31 : xrow 175 31 = some (.istore_n 3, 1, 0, 0, 0, 0) := by decide +kernel
theorem r_175_32 : xrow 175 32 = some (.iload_n 3, 1, 0, 0, 0, 0) := by decide +kernel
theorem r_175_33 : xrow 175 33 = some (.aload_n 0, 1, 0, 0, 0, 0) := by decide +kernel
theorem r_175_34 : xrow 175 34 = some (.getfield 153, 3, 22, 8, 0, 1029) := by decide +kernel
theorem r_175_37 : xrow 175 37 = some (.if_icmp .ge 33, 3, 70, 0, 0, 0) := by decide +kernel
theorem r_175_40 : xrow 175 40 = some (.iload_n 2, 1, 0, 0, 0, 0) := by decide +kernel
theorem r_175_41 : xrow 175 41 = some (.ifCond .eq 21, 3, 62, 0, 0, 0) := by decide +kernel
theorem r_175_44 : xrow 175 44 = some (.aload_n 0, 1, 0, 0, 0, 0) := by decide +kernel
theorem r_175_45 : xrow 175 45 = some (.getfield 13, 3, 22, 11, 2, 983) := by decide +kernel
theorem r_175_48 : xrow 175 48 = some (.iload_n 3, 1, 0, 0, 0, 0) := by decide +kernel
theorem r_175_49 : xrow 175 49 = some (.iaload, 1, 0, 0, 0, 0) := by decide +kernel
theorem r_175_50 : xrow 175 50 = some (.aload_n 1, 1, 0, 0, 0, 0) := by decide +kernel
theorem r_175_51 : xrow 175 51 = some (.iload_n 3, 1, 0, 0, 0, 0) := by decide +kernel
theorem r_175_52 : xrow 175 52 = some (.invokevirtual 188, 3, 272, 0, 0, 1039) := by decide +kernel
theorem r_175_55 : xrow 175 55 = some (.if_icmp .ne 7, 3, 62, 0, 0, 0) := by decide +kernel
theorem r_175_58 : xrow 175 58 = some (.iconst 1, 1, 0, 0, 0, 0) := by decide +kernel
theorem r_175_59 : xrow 175 59 = some (.goto 4, 3, 63, 0, 0, 0) := by decide +kernel
theorem r_175_62 : xrow 175 62 = some (.iconst 0, 1, 0, 0, 0, 0) := by decide +kernel
theorem r_175_63 : xrow 175 63 = some (.istore_n 2, 1, 0, 0, 0, 0) := by decide +kernel
theorem r_175_64 : xrow 175 64 = some (.iinc 3 1, 3, 0, 0, 0, 0) := by decide +kernel
theorem r_175_67 : xrow 175 67 = some (.goto (-35), 3, 32, 0, 0, 0) := by decide +kernel
theorem r_175_70 : xrow 175 70 = some (.iload_n 2, 1, 0, 0, 0, 0) := by decide +kernel
theorem r_175_71 : xrow 175 71 = some (.ireturn, 1, 1, 0, 0, 0) := by decide +kernel
theorem r_176_0 : xrow 176 0 = some (.aload_n 0, 1, 0, 0, 0, 0) := by decide +kernel
theorem r_176_1 : xrow 176 1 = some (.getfield 169, 3, 22, 13, 0, 1034) := by decide +kernel
theorem r_176_4 : xrow 176 4 = some (.ifCond .eq 5, 3, 9, 0, 0, 0) := by decide +kernel
theorem r_176_7 : xrow 176 7 = some (.iconst 0, 1, 0, 0, 0, 0) := by decide +kernel
theorem r_176_8 : xrow 176 8 = some (.ireturn, 1, 1, 0, 0, 0) := by decide +kernel
theorem r_176_9 : xrow 176 9 = some (.aload_n 0, 1, 0, 0, 0, 0) := by decide +kernel
theorem r_176_10 : xrow 176 10 = some (.aload_n 1, 1, 0, 0, 0, 0) := by decide +kernel
theorem r_176_11 : xrow 176 11 = some (.invokevirtual 192, 3, 175, 0, 0, 1040) := by decide +kernel
theorem r_176_14 : xrow 176 14 = some (.ifCond .ne 13, 3, 27, 0, 0, 0) := by decide +kernel
theorem r_176_17 : xrow 176 17 = some (.aload_n 0, 1, 0, 0, 0, 0) := by decide +kernel
theorem r_176_18 : xrow 176 18 = some (.iconst 1, 1, 0, 0, 0, 0) := by decide +kernel
theorem r_176_19 : xrow 176 19 = some (.aload_n 0, 1, 0, 0, 0, 0) := by decide +kernel
theorem r_176_20 : xrow 176 20 = some (.getfield 150, 3, 22, 4, 0, 1028) := by decide +kernel
theorem r_176_23 : xrow 176 23 = some (.invokevirtual 196, 3, 174, 0, 0, 1041) := by decide +kernel
theorem r_176_26 : xrow 176 26 = some (.ireturn, 1, 1, 0, 0, 0) := by decide +kernel
theorem r_176_27 : xrow 176 27 = some (.aload_n 0, 1, 0, 0, 0, 0) := by decide +kernel
theorem r_176_28 : xrow 176 28 = some (.invokevirtual 173, 3, 172, 0, 0, 1035) := by decide +kernel
theorem r_176_31 : xrow 176 31 = some (.iconst 1, 1, 0, 0, 0, 0) := by decide +kernel
theorem r_176_32 : xrow 176 32 = some (.ireturn, 1, 1, 0, 0, 0) := by decide +kernel
theorem r_177_0 : xrow 177 0 = some (.aload_n 0, 1, 0, 0, 0, 0) := by decide +kernel
theorem r_177_1 : xrow 177 1 = some (.ldc 200, 2, 27, 1, 0, 0) := by decide +kernel
theorem r_177_3 : xrow 177 3 = some (.invokevirtual 192, 3, 175, 0, 0, 1040) := by decide +kernel
theorem r_177_6 : xrow 177 6 = some (.ifCond .ne 84, 3, 90, 0, 0, 0) := by decide +kernel
theorem r_177_9 : xrow 177 9 = some (.aload_n 0, 1, 0, 0, 0, 0) := by decide +kernel
theorem r_177_10 : xrow 177 10 = some (.ldc 202, 2, 28, 1, 0, 0) := by decide +kernel
theorem r_177_12 : xrow 177 12 = some (.invokevirtual 192, 3, 175, 0, 0, 1040) := by decide +kernel
theorem r_177_15 : xrow 177 15 = some (.ifCond .ne 75, 3, 90, 0, 0, 0) := by decide +kernel
theorem r_177_18 : xrow 177 18 = some (.aload_n 0, 1, 0, 0, 0, 0) := by decide +kernel
theorem r_177_19 : xrow 177 19 = some (.ldc 204, 2, 29, 1, 0, 0) := by decide +kernel
theorem r_177_21 : xrow 177 21 = some (.invokevirtual 192, 3, 175, 0, 0, 1040) := by decide +kernel
theorem r_177_24 : xrow 177 24 = some (.ifCond .ne 66, 3, 90, 0, 0, 0) := by decide +kernel
theorem r_177_27 : xrow 177 27 = some (.aload_n 0, 1, 0, 0, 0, 0) := by decide +kernel
theorem r_177_28 : xrow 177 28 = some (.ldc 206, 2, 30, 1, 0, 0) := by decide +kernel
theorem r_177_30 : xrow 177 30 = some (.invokevirtual 192, 3, 175, 0, 0, 1040) := by decide +kernel
theorem r_177_33 : xrow 177 33 = some (.ifCond .ne 57, 3, 90, 0, 0, 0) := by decide +kernel
theorem r_177_36 : xrow 177 36 = some (.aload_n 0, 1, 0, 0, 0, 0) := by decide +kernel
theorem r_177_37 : xrow 177 37 = some (.ldc 208, 2, 31, 1, 0, 0) := by decide +kernel
theorem r_177_39 : xrow 177 39 = some (.invokevirtual 192, 3, 175, 0, 0, 1040) := by decide +kernel
theorem r_177_42 : xrow 177 42 = some (.ifCond .ne 48, 3, 90, 0, 0, 0) := by decide +kernel
theorem r_177_45 : xrow 177 45 = some (.aload_n 0, 1, 0, 0, 0, 0) := by decide +kernel
theorem r_177_46 : xrow 177 46 = some (.ldc 210, 2, 32, 1, 0, 0) := by decide +kernel
theorem r_177_48 : xrow 177 48 = some (.invokevirtual 192, 3, 175, 0, 0, 1040) := by decide +kernel
theorem r_177_51 : xrow 177 51 = some (.ifCond .ne 39, 3, 90, 0, 0, 0) := by decide +kernel
theorem r_177_54 : xrow 177 54 = some (.aload_n 0, 1, 0, 0, 0, 0) := by decide +kernel
theorem r_177_55 : xrow 177 55 = some (.ldc 212, 2, 33, 1, 0, 0) := by decide +kernel
theorem r_177_57 : xrow 177 57 = some (.invokevirtual 192, 3, 175, 0, 0, 1040) := by decide +kernel
theorem r_177_60 : xrow 177 60 = some (.ifCond .ne 30, 3, 90, 0, 0, 0) := by decide +kernel
theorem r_177_63 : xrow 177 63 = some (.aload_n 0, 1, 0, 0, 0, 0) := by decide +kernel
theorem r_177_64 : xrow 177 64 = some (.ldc 214, 2, 34, 1, 0, 0) := by decide +kernel
theorem r_177_66 : xrow 177 66 = some (.invokevirtual 192, 3, 175, 0, 0, 1040) := by decide +kernel
theorem r_177_69 : xrow 177 69 = some (.ifCond .ne 21, 3, 90, 0, 0, 0) := by decide +kernel
theorem r_177_72 : xrow 177 72 = some (.aload_n 0, 1, 0, 0, 0, 0) := by decide +kernel
theorem r_177_73 : xrow 177 73 = some (.ldc 216, 2, 35, 1, 0, 0) := by decide +kernel
theorem r_177_75 : xrow 177 75 = some (.invokevirtual 192, 3, 175, 0, 0, 1040) := by decide +kernel
theorem r_177_78 : xrow 177 78 = some (.ifCond .ne 12, 3, 90, 0, 0, 0) := by decide +kernel
theorem r_177_81 : xrow 177 81 = some (.aload_n 0, 1, 0, 0, 0, 0) := by decide +kernel
theorem r_177_82 : xrow 177 82 = some (.ldc 218, 2, 36, 1, 0, 0) := by decide +kernel
theorem r_177_84 : xrow 177 84 = some (.invokevirtual 192, 3, 175, 0, 0, 1040) := by decide +kernel
theorem r_177_87 : xrow 177 87 = some (.ifCond .eq 7, 3, 94, 0, 0, 0) := by decide +kernel
theorem r_177_90 : xrow 177 90 = some (.iconst 1, 1, 0, 0, 0, 0) := by decide +kernel
theorem r_177_91 : xrow 177 91 = some (.goto 4, 3, 95, 0, 0, 0) := by decide +kernel
theorem r_177_94 : xrow 177 94 = some (.iconst 0, 1, 0, 0, 0, 0) := by decide +kernel
theorem r_177_95 : xrow 177 95 = some (.istore_n 1, 1, 0, 0, 0, 0) := by decide +kernel
theorem r_177_96 : xrow 177 96 = some (.aload_n 0, 1, 0, 0, 0, 0) := by decide +kernel
theorem r_177_97 : xrow 177 97 = some (.getfield 159, 3, 22, 6, 0, 1031) := by decide +kernel
theorem r_177_100 : xrow 177 100 = some (.iconst 2, 1, 0, 0, 0, 0) := by decide +kernel
theorem r_177_101 : xrow 177 101 = some (.if_icmp .ne 11, 3, 112, 0, 0, 0) := by decide +kernel
theorem r_177_104 : xrow 177 104 = some (.iload_n 1, 1, 0, 0, 0, 0) := by decide +kernel
theorem r_177_105 : xrow 177 105 = some (.ifCond .ne 7, 3, 112, 0, 0, 0) := by decide +kernel
theorem r_177_108 : xrow 177 108 = some (.iconst 1, 1, 0, 0, 0, 0) := by decide +kernel
theorem r_177_109 : xrow 177 109 = some (.goto 4, 3, 113, 0, 0, 0) := by decide +kernel
theorem r_177_112 : xrow 177 112 = some (.iconst 0, 1, 0, 0, 0, 0) := by decide +kernel
theorem r_177_113 : xrow 177 113 = some (.ireturn, 1, 1, 0, 0, 0) := by decide +kernel
theorem r_178_0 : xrow 178 0 = some (.iconst 0, 1, 0, 0, 0, 0) := by decide +kernel
theorem r_178_1 : xrow 178 1 = some (.istore 4, 2, 0, 0, 0, 0) := by decide +kernel
theorem r_178_3 : xrow 178 3 = some (.iload 4, 2, 0, 0, 0, 0) := by decide +kernel
theorem r_178_5 : xrow 178 5 = some (.iload_n 3, 1, 0, 0, 0, 0) := by decide +kernel
theorem r_178_6 : xrow 178 6 = some (.if_icmp .ge 85, 3, 91, 0, 0, 0) := by decide +kernel
theorem r_178_9 : xrow 178 9 = some (.aload_n 2, 1, 0, 0, 0, 0) := by decide +kernel
theorem r_178_10 : xrow 178 10 = some (.iload 4, 2, 0, 0, 0, 0) := by decide +kernel
theorem r_178_12 : xrow 178 12 = some (.iaload, 1, 0, 0, 0, 0) := by decide +kernel
theorem r_178_13 : xrow 178 13 = some (.aload_n 0, 1, 0, 0, 0, 0) := by decide +kernel
theorem r_178_14 : xrow 178 14 = some (.getfield 153, 3, 22, 8, 0, 1029) := by decide +kernel
theorem r_178_17 : xrow 178 17 = some (.if_icmp .ne 7, 3, 24, 0, 0, 0) := by decide +kernel
theorem r_178_20 : xrow 178 20 = some (.iconst 1, 1, 0, 0, 0, 0) := by decide +kernel
theorem r_178_21 : xrow 178 21 = some (.goto 4, 3, 25, 0, 0, 0) := by decide +kernel
theorem r_178_24 : xrow 178 24 = some (.iconst 0, 1, 0, 0, 0, 0) := by decide +kernel
theorem r_178_25 : xrow 178 25 = some (.istore 5, 2, 0, 0, 0, 0) := by decide +kernel
theorem r_178_27 : xrow 178 27 = some (.iconst 0, 1, 0, 0, 0, 0) := by decide +kernel
theorem r_178_28 : xrow 178 28 = some (.istore 6, 2, 0, 0, 0, 0) := by decide +kernel
theorem r_178_30 : xrow 178 30 = some (.iload 6, 2, 0, 0, 0, 0) := by decide +kernel
theorem r_178_32 : xrow 178 32 = some (.aload_n 0, 1, 0, 0, 0, 0) := by decide +kernel
theorem r_178_33 : xrow 178 33 = some (.getfield 153, 3, 22, 8, 0, 1029) := by decide +kernel
theorem r_178_36 : xrow 178 36 = some (.if_icmp .ge 41, 3, 77, 0, 0, 0) := by decide +kernel
theorem r_178_39 : xrow 178 39 = some (.iload 5, 2, 0, 0, 0, 0) := by decide +kernel
theorem r_178_41 : xrow 178 41 = some (.ifCond .eq 36, 3, 77, 0, 0, 0) := by decide +kernel
theorem r_178_44 : xrow 178 44 = some (.aload_n 1, 1, 0, 0, 0, 0) := by decide +kernel
theorem r_178_45 : xrow 178 45 = some (.bipush 8, 2, 0, 0, 0, 0) := by decide +kernel
theorem r_178_47 : xrow 178 47 = some (.iload 4, 2, 0, 0, 0, 0) := by decide +kernel
theorem r_178_49 : xrow 178 49 = some (.imul, 1, 0, 0, 0, 0) := by decide +kernel
theorem r_178_50 : xrow 178 50 = some (.iload 6, 2, 0, 0, 0, 0) := by decide +kernel
theorem r_178_52 : xrow 178 52 = some (.iadd, 1, 0, 0, 0, 0) := by decide +kernel
theorem r_178_53 : xrow 178 53 = some (.iaload, 1, 0, 0, 0, 0) := by decide +kernel
theorem r_178_54 : xrow 178 54 = some (.aload_n 0, 1, 0, 0, 0, 0) := by decide +kernel
theorem r_178_55 : xrow 178 55 = some (.getfield 13, 3, 22, 11, 2, 983) := by decide +kernel
theorem r_178_58 : xrow 178 58 = some (.iload 6, 2, 0, 0, 0, 0) := by decide +kernel
theorem r_178_60 : xrow 178 60 = some (.iaload, 1, 0, 0, 0, 0) := by decide +kernel
theorem r_178_61 : xrow 178 61 = some (.if_icmp .ne 7, 3, 68, 0, 0, 0) := by decide +kernel
theorem r_178_64 : xrow 178 64 = some (.iconst 1, 1, 0, 0, 0, 0) := by decide +kernel
theorem r_178_65 : xrow 178 65 = some (.goto 4, 3, 69, 0, 0, 0) := by decide +kernel
theorem r_178_68 : xrow 178 68 = some (.iconst 0, 1, 0, 0, 0, 0) := by decide +kernel
theorem r_178_69 : xrow 178 69 = some (.istore 5, 2, 0, 0, 0, 0) := by decide +kernel
theorem r_178_71 : xrow 178 71 = some (.iinc 6 1, 3, 0, 0, 0, 0) := by decide +kernel
theorem r_178_74 : xrow 178 74 = some (.goto (-44), 3, 30, 0, 0, 0) := by decide +kernel
theorem r_178_77 : xrow 178 77 = some (.iload 5, 2, 0, 0, 0, 0) := by decide +kernel
theorem r_178_79 : xrow 178 79 = some (.ifCond .eq 6, 3, 85, 0, 0, 0) := by decide +kernel
theorem r_178_82 : xrow 178 82 = some (.iload 4, 2, 0, 0, 0, 0) := by decide +kernel
theorem r_178_84 : xrow 178 84 = some (.ireturn, 1, 0, 0, 0, 0) := by decide +kernel
theorem r_178_85 : xrow 178 85 = some (.iinc 4 1, 3, 0, 0, 0, 0) := by decide +kernel
theorem r_178_88 : xrow 178 88 = some (.goto (-85), 3, 3, 0, 0, 0) := by decide +kernel
theorem r_178_91 : xrow 178 91 = some (.iconst (-1), 1, 0, 0, 0, 0) := by decide +kernel
theorem r_178_92 : xrow 178 92 = some (.ireturn, 1, 0, 0, 0, 0) := by decide +kernel
theorem r_179_0 : xrow 179 0 = some (.aload_n 0, 1, 0, 0, 0, 0) := by decide +kernel
theorem r_179_1 : xrow 179 1 = some (.getfield 169, 3, 22, 13, 0, 1034) := by decide +kernel
theorem r_179_4 : xrow 179 4 = some (.ifCond .eq 5, 3, 9, 0, 0, 0) := by decide +kernel
theorem r_179_7 : xrow 179 7 = some (.iload_n 1, 1, 0, 0, 0, 0) := by decide +kernel
theorem r_179_8 : xrow 179 8 = some (.ireturn, 1, 0, 0, 0, 0) := by decide +kernel
theorem r_179_9 : xrow 179 9 = some (.aload_n 0, 1, 0, 0, 0, 0) := by decide +kernel
theorem r_179_10 : xrow 179 10 = some (.getfield 159, 3, 22, 6, 0, 1031) := by decide +kernel
theorem r_179_13 : xrow 179 13 = some (.iconst 3, 1, 0, 0, 0, 0) := by decide +kernel
theorem r_179_14 : xrow 179 14 = some (.if_icmp .eq 15, 3, 29, 0, 0, 0) := by decide +kernel
theorem r_179_17 : xrow 179 17 = some (.aload_n 0, 1, 0, 0, 0, 0) := by decide +kernel
theorem r_179_18 : xrow 179 18 = some (.iconst 1, 1, 0, 0, 0, 0) := by decide +kernel
theorem r_179_19 : xrow 179 19 = some (.aload_n 0, 1, 0, 0, 0, 0) := by decide +kernel
theorem r_179_20 : xrow 179 20 = some (.getfield 150, 3, 22, 4, 0, 1028) := by decide +kernel
theorem r_179_23 : xrow 179 23 = some (.invokevirtual 196, 3, 174, 0, 0, 1041) := by decide +kernel
theorem r_179_26 : xrow 179 26 = some (.pop, 1, 0, 0, 0, 0) := by decide +kernel
theorem r_179_27 : xrow 179 27 = some (.iload_n 1, 1, 0, 0, 0, 0) := by decide +kernel
theorem r_179_28 : xrow 179 28 = some (.ireturn, 1, 0, 0, 0, 0) := by decide +kernel
theorem r_179_29 : xrow 179 29 = some (.aload_n 0, 1, 0, 0, 0, 0) := by decide +kernel
theorem r_179_30 : xrow 179 30 = some (.getfield 156, 3, 22, 7, 0, 1030) := by decide +kernel
theorem r_179_33 : xrow 179 33 = some (.istore_n 3, 1, 0, 0, 0, 0) := by decide +kernel
theorem r_179_34 : xrow 179 34 = some (.iload_n 3, 1, 0, 0, 0, 0) := by decide +kernel
theorem r_179_35 : xrow 179 35 = some (.iload_n 1, 1, 0, 0, 0, 0) := by decide +kernel
theorem r_179_36 : xrow 179 36 = some (.iload_n 2, 1, 0, 0, 0, 0) := by decide +kernel
theorem r_179_37 : xrow 179 37 = some (.invokestatic 220, 3, 167, 0, 0, 1042) := by decide +kernel
theorem r_179_40 : xrow 179 40 = some (.ifCond .ne 15, 3, 55, 0, 0, 0) := by decide +kernel
theorem r_179_43 : xrow 179 43 = some (.aload_n 0, 1, 0, 0, 0, 0) := by decide +kernel
theorem r_179_44 : xrow 179 44 = some (.iconst 4, 1, 0, 0, 0, 0) := by decide +kernel
theorem r_179_45 : xrow 179 45 = some (.aload_n 0, 1, 0, 0, 0, 0) := by decide +kernel
theorem r_179_46 : xrow 179 46 = some (.getfield 150, 3, 22, 4, 0, 1028) := by decide +kernel
theorem r_179_49 : xrow 179 49 = some (.invokevirtual 196, 3, 174, 0, 0, 1041) := by decide +kernel
theorem r_179_52 : xrow 179 52 = some (.pop, 1, 0, 0, 0, 0) := by decide +kernel
theorem r_179_53 : xrow 179 53 = some (.iload_n 1, 1, 0, 0, 0, 0) := by decide +kernel
theorem r_179_54 : xrow 179 54 = some (.ireturn, 1, 0, 0, 0, 0) := by decide +kernel
theorem r_179_55 : xrow 179 55 = some (.aload_n 0, 1, 0, 0, 0, 0) := by decide +kernel
theorem r_179_56 : xrow 179 56 = some (.invokevirtual 173, 3, 172, 0, 0, 1035) := by decide +kernel
theorem r_179_59 : xrow 179 59 = some (.iload_n 3, 1, 0, 0, 0, 0) := by decide +kernel
theorem r_179_60 : xrow 179 60 = some (.ireturn, 1, 0, 0, 0, 0) := by decide +kernel
theorem r_180_0 : xrow 180 0 = some (.aload_n 0, 1, 0, 0, 0, 0) := by decide +kernel
theorem r_180_1 : xrow 180 1 = some (.getfield 169, 3, 22, 13, 0, 1034) := by decide +kernel
theorem r_180_4 : xrow 180 4 = some (.ifCond .eq 5, 3, 9, 0, 0, 0) := by decide +kernel
theorem r_180_7 : xrow 180 7 = some (.iconst 0, 1, 0, 0, 0, 0) := by decide +kernel
theorem r_180_8 : xrow 180 8 = some (.ireturn, 1, 0, 0, 0, 0) := by decide +kernel
theorem r_180_9 : xrow 180 9 = some (.aload_n 0, 1, 0, 0, 0, 0) := by decide +kernel
theorem r_180_10 : xrow 180 10 = some (.getfield 150, 3, 22, 4, 0, 1028) := by decide +kernel
theorem r_180_13 : xrow 180 13 = some (.istore_n 3, 1, 0, 0, 0, 0) := by decide +kernel
theorem r_180_14 : xrow 180 14 = some (.aload_n 0, 1, 0, 0, 0, 0) := by decide +kernel
theorem r_180_15 : xrow 180 15 = some (.getfield 159, 3, 22, 6, 0, 1031) := by decide +kernel
theorem r_180_18 : xrow 180 18 = some (.bipush 45, 2, 0, 0, 0, 0) := by decide +kernel
theorem r_180_20 : xrow 180 20 = some (.if_icmp .ne 7, 3, 27, 0, 0, 0) := by decide +kernel
theorem r_180_23 : xrow 180 23 = some (.iconst 1, 1, 0, 0, 0, 0) := by decide +kernel
theorem r_180_24 : xrow 180 24 = some (.goto 4, 3, 28, 0, 0, 0) := by decide +kernel
theorem r_180_27 : xrow 180 27 = some (.iconst 0, 1, 0, 0, 0, 0) := by decide +kernel
theorem r_180_28 : xrow 180 28 = some (.istore 4, 2, 0, 0, 0, 0) := by decide +kernel
theorem r_180_30 : xrow 180 30 = some (.iload 4, 2, 0, 0, 0, 0) := by decide +kernel
theorem r_180_32 : xrow 180 32 = some (.ifCond .eq 7, 3, 39, 0, 0, 0) := by decide +kernel
theorem r_180_35 : xrow 180 35 = some (.aload_n 0, 1, 0, 0, 0, 0) := by decide +kernel
theorem r_180_36 : xrow 180 36 = some (.invokevirtual 173, 3, 172, 0, 0, 1035) := by decide +kernel
theorem r_180_39 : xrow 180 39 = some (.aload_n 0, 1, 0, 0, 0, 0) := by decide +kernel
theorem r_180_40 : xrow 180 40 = some (.getfield 159, 3, 22, 6, 0, 1031) := by decide +kernel
theorem r_180_43 : xrow 180 43 = some (.iconst 3, 1, 0, 0, 0, 0) := by decide +kernel
theorem r_180_44 : xrow 180 44 = some (.if_icmp .eq 15, 3, 59, 0, 0, 0) := by decide +kernel
theorem r_180_47 : xrow 180 47 = some (.aload_n 0, 1, 0, 0, 0, 0) := by decide +kernel
theorem r_180_48 : xrow 180 48 = some (.iconst 1, 1, 0, 0, 0, 0) := by decide +kernel
theorem r_180_49 : xrow 180 49 = some (.aload_n 0, 1, 0, 0, 0, 0) := by decide +kernel
theorem r_180_50 : xrow 180 50 = some (.getfield 150, 3, 22, 4, 0, 1028) := by decide +kernel
theorem r_180_53 : xrow 180 53 = some (.invokevirtual 196, 3, 174, 0, 0, 1041) := by decide +kernel
theorem r_180_56 : xrow 180 56 = some (.pop, 1, 0, 0, 0, 0) := by decide +kernel
theorem r_180_57 : xrow 180 57 = some (.iconst 0, 1, 0, 0, 0, 0) := by decide +kernel
theorem r_180_58 : xrow 180 58 = some (.ireturn, 1, 0, 0, 0, 0) := by decide +kernel
theorem r_180_59 : xrow 180 59 = some (.iload 4, 2, 0, 0, 0, 0) := by decide +kernel
theorem r_180_61 : xrow 180 61 = some (.ifCond .eq 11, 3, 72, 0, 0, 0) := by decide +kernel
theorem r_180_64 : xrow 180 64 = some (.aload_n 0, 1, 0, 0, 0, 0) := by decide +kernel
theorem r_180_65 : xrow 180 65 = some (.getfield 156, 3, 22, 7, 0, 1030) := by decide +kernel
theorem r_180_68 : xrow 180 68 = some (.ineg, 1, 0, 0, 0, 0) := by decide +kernel
theorem r_180_69 : xrow 180 69 = some (.goto 7, 3, 76, 0, 0, 0) := by decide +kernel
theorem r_180_72 : xrow 180 72 = some (.aload_n 0, 1, 0, 0, 0, 0) := by decide +kernel
theorem r_180_73 : xrow 180 73 = some (.getfield 156, 3, 22, 7, 0, 1030) := by decide +kernel
theorem r_180_76 : xrow 180 76 = some (.istore 5, 2, 0, 0, 0, 0) := by decide +kernel
theorem r_180_78 : xrow 180 78 = some (.iload 5, 2, 0, 0, 0, 0) := by decide +kernel
theorem r_180_80 : xrow 180 80 = some (.iload_n 1, 1, 0, 0, 0, 0) := by decide +kernel
theorem r_180_81 : xrow 180 81 = some (.iload_n 2, 1, 0, 0, 0, 0) := by decide +kernel
theorem r_180_82 : xrow 180 82 = some (.invokestatic 220, 3, 167, 0, 0, 1042) := by decide +kernel
theorem r_180_85 : xrow 180 85 = some (.ifCond .ne 12, 3, 97, 0, 0, 0) := by decide +kernel
theorem r_180_88 : xrow 180 88 = some (.aload_n 0, 1, 0, 0, 0, 0) := by decide +kernel
theorem r_180_89 : xrow 180 89 = some (.iconst 4, 1, 0, 0, 0, 0) := by decide +kernel
theorem r_180_90 : xrow 180 90 = some (.iload_n 3, 1, 0, 0, 0, 0) := by decide +kernel
theorem r_180_91 : xrow 180 91 = some (.invokevirtual 196, 3, 174, 0, 0, 1041) := by decide +kernel
theorem r_180_94 : xrow 180 94 = some (.pop, 1, 0, 0, 0, 0) := by decide +kernel
theorem r_180_95 : xrow 180 95 = some (.iconst 0, 1, 0, 0, 0, 0) := by decide +kernel
theorem r_180_96 : xrow 180 96 = some (.ireturn, 1, 0, 0, 0, 0) := by decide +kernel
theorem r_180_97 : xrow 180 97 = some (.aload_n 0, 1, 0, 0, 0, 0) := by decide +kernel
theorem r_180_98 : xrow 180 98 = some (.invokevirtual 173, 3, 172, 0, 0, 1035) := by decide +kernel
theorem r_180_101 : xrow 180 101 = some (.iload 5, 2, 0, 0, 0, 0) := by decide +kernel
theorem r_180_103 : xrow 180 103 = some (.ireturn, 1, 0, 0, 0, 0) := by decide +kernel
theorem r_181_0 : xrow 181 0 = some (.iconst 0, 1, 0, 0, 0, 0) := by decide +kernel
theorem r_181_1 : xrow 181 1 = some (.istore_n 2, 1, 0, 0, 0, 0) := by decide +kernel
theorem r_181_2 : xrow 181 2 = some (.iconst 0, 1, 0, 0, 0, 0) := by decide +kernel
theorem r_181_3 : xrow 181 3 = some (.istore_n 3, 1, 0, 0, 0, 0) := by decide +kernel
theorem r_181_4 : xrow 181 4 = some (.iload_n 3, 1, 0, 0, 0, 0) := by decide +kernel
theorem r_181_5 : xrow 181 5 = some (.bipush 64, 2, 0, 0, 0, 0) := by decide +kernel
theorem r_181_7 : xrow 181 7 = some (.if_icmp .ge 57, 3, 64, 0, 0, 0) := by decide +kernel
theorem r_181_10 : xrow 181 10 = some (.aload_n 0, 1, 0, 0, 0, 0) := by decide +kernel
theorem r_181_11 : xrow 181 11 = some (.aload_n 0, 1, 0, 0, 0, 0) := by decide +kernel
theorem r_181_12 : xrow 181 12 = some (.getfield 16, 3, 22, 14, 2, 984) := by decide +kernel
theorem r_181_15 : xrow 181 15 = some (.iload_n 3, 1, 0, 0, 0, 0) := by decide +kernel
theorem r_181_16 : xrow 181 16 = some (.iload_n 2, 1, 0, 0, 0, 0) := by decide +kernel
theorem r_181_17 : xrow 181 17 = some (.iload_n 1, 1, 0, 0, 0, 0) := by decide +kernel
theorem r_181_18 : xrow 181 18 = some (.invokevirtual 224, 3, 182, 0, 0, 1043) := by decide +kernel
theorem r_181_21 : xrow 181 21 = some (.istore_n 2, 1, 0, 0, 0, 0) := by decide +kernel
theorem r_181_22 : xrow 181 22 = some (.aload_n 0, 1, 0, 0, 0, 0) := by decide +kernel
theorem r_181_23 : xrow 181 23 = some (.aload_n 0, 1, 0, 0, 0, 0) := by decide +kernel
theorem r_181_24 : xrow 181 24 = some (.getfield 22, 3, 22, 16, 2, 986) := by decide +kernel
theorem r_181_27 : xrow 181 27 = some (.iload_n 3, 1, 0, 0, 0, 0) := by decide +kernel
theorem r_181_28 : xrow 181 28 = some (.iload_n 2, 1, 0, 0, 0, 0) := by decide +kernel
theorem r_181_29 : xrow 181 29 = some (.iload_n 1, 1, 0, 0, 0, 0) := by decide +kernel
theorem r_181_30 : xrow 181 30 = some (.invokevirtual 224, 3, 182, 0, 0, 1043) := by decide +kernel
theorem r_181_33 : xrow 181 33 = some (.istore_n 2, 1, 0, 0, 0, 0) := by decide +kernel
theorem r_181_34 : xrow 181 34 = some (.aload_n 0, 1, 0, 0, 0, 0) := by decide +kernel
theorem r_181_35 : xrow 181 35 = some (.aload_n 0, 1, 0, 0, 0, 0) := by decide +kernel
theorem r_181_36 : xrow 181 36 = some (.getfield 34, 3, 22, 20, 2, 990) := by decide +kernel
theorem r_181_39 : xrow 181 39 = some (.iload_n 3, 1, 0, 0, 0, 0) := by decide +kernel
theorem r_181_40 : xrow 181 40 = some (.iload_n 2, 1, 0, 0, 0, 0) := by decide +kernel
theorem r_181_41 : xrow 181 41 = some (.iload_n 1, 1, 0, 0, 0, 0) := by decide +kernel
theorem r_181_42 : xrow 181 42 = some (.invokevirtual 224, 3, 182, 0, 0, 1043) := by decide +kernel
theorem r_181_45 : xrow 181 45 = some (.istore_n 2, 1, 0, 0, 0, 0) := by decide +kernel
theorem r_181_46 : xrow 181 46 = some (.aload_n 0, 1, 0, 0, 0, 0) := by decide +kernel
theorem r_181_47 : xrow 181 47 = some (.aload_n 0, 1, 0, 0, 0, 0) := by decide +kernel
theorem r_181_48 : xrow 181 48 = some (.getfield 37, 3, 22, 21, 2, 991) := by decide +kernel
theorem r_181_51 : xrow 181 51 = some (.iload_n 3, 1, 0, 0, 0, 0) := by decide +kernel
theorem r_181_52 : xrow 181 52 = some (.iload_n 2, 1, 0, 0, 0, 0) := by decide +kernel
theorem r_181_53 : xrow 181 53 = some (.iload_n 1, 1, 0, 0, 0, 0) := by decide +kernel
theorem r_181_54 : xrow 181 54 = some (.invokevirtual 224, 3, 182, 0, 0, 1043) := by decide +kernel
theorem r_181_57 : xrow 181 57 = some (.istore_n 2, 1, 0, 0, 0, 0) := by decide +kernel
theorem r_181_58 : xrow 181 58 = some (.iinc 3 1, 3, 0, 0, 0, 0) := by decide +kernel
theorem r_181_61 : xrow 181 61 = some (.goto (-57), 3, 4, 0, 0, 0) := by decide +kernel
theorem r_181_64 : xrow 181 64 = some (.iconst 0, 1, 0, 0, 0, 0) := by decide +kernel
theorem r_181_65 : xrow 181 65 = some (.istore_n 3, 1, 0, 0, 0, 0) := by decide +kernel
theorem r_181_66 : xrow 181 66 = some (.iload_n 3, 1, 0, 0, 0, 0) := by decide +kernel
theorem r_181_67 : xrow 181 67 = some (.bipush 8, 2, 0, 0, 0, 0) := by decide +kernel
theorem r_181_69 : xrow 181 69 = some (.if_icmp .ge 57, 3, 126, 0, 0, 0) := by decide +kernel
theorem r_181_72 : xrow 181 72 = some (.aload_n 0, 1, 0, 0, 0, 0) := by decide +kernel
theorem r_181_73 : xrow 181 73 = some (.aload_n 0, 1, 0, 0, 0, 0) := by decide +kernel
theorem r_181_74 : xrow 181 74 = some (.getfield 19, 3, 22, 15, 2, 985) := by decide +kernel
theorem r_181_77 : xrow 181 77 = some (.iload_n 3, 1, 0, 0, 0, 0) := by decide +kernel
theorem r_181_78 : xrow 181 78 = some (.iload_n 2, 1, 0, 0, 0, 0) := by decide +kernel
theorem r_181_79 : xrow 181 79 = some (.iload_n 1, 1, 0, 0, 0, 0) := by decide +kernel
theorem r_181_80 : xrow 181 80 = some (.invokevirtual 224, 3, 182, 0, 0, 1043) := by decide +kernel
theorem r_181_83 : xrow 181 83 = some (.istore_n 2, 1, 0, 0, 0, 0) := by decide +kernel
theorem r_181_84 : xrow 181 84 = some (.aload_n 0, 1, 0, 0, 0, 0) := by decide +kernel
theorem r_181_85 : xrow 181 85 = some (.aload_n 0, 1, 0, 0, 0, 0) := by decide +kernel
theorem r_181_86 : xrow 181 86 = some (.getfield 25, 3, 22, 17, 2, 987) := by decide +kernel
theorem r_181_89 : xrow 181 89 = some (.iload_n 3, 1, 0, 0, 0, 0) := by decide +kernel
theorem r_181_90 : xrow 181 90 = some (.iload_n 2, 1, 0, 0, 0, 0) := by decide +kernel
theorem r_181_91 : xrow 181 91 = some (.iload_n 1, 1, 0, 0, 0, 0) := by decide +kernel
theorem r_181_92 : xrow 181 92 = some (.invokevirtual 224, 3, 182, 0, 0, 1043) := by decide +kernel
theorem r_181_95 : xrow 181 95 = some (.istore_n 2, 1, 0, 0, 0, 0) := by decide +kernel
theorem r_181_96 : xrow 181 96 = some (.aload_n 0, 1, 0, 0, 0, 0) := by decide +kernel
theorem r_181_97 : xrow 181 97 = some (.aload_n 0, 1, 0, 0, 0, 0) := by decide +kernel
theorem r_181_98 : xrow 181 98 = some (.getfield 28, 3, 22, 18, 2, 988) := by decide +kernel
theorem r_181_101 : xrow 181 101 = some (.iload_n 3, 1, 0, 0, 0, 0) := by decide +kernel
theorem r_181_102 : xrow 181 102 = some (.iload_n 2, 1, 0, 0, 0, 0) := by decide +kernel
theorem r_181_103 : xrow 181 103 = some (.iload_n 1, 1, 0, 0, 0, 0) := by decide +kernel
theorem r_181_104 : xrow 181 104 = some (.invokevirtual 224, 3, 182, 0, 0, 1043) := by decide +kernel
theorem r_181_107 : xrow 181 107 = some (.istore_n 2, 1, 0, 0, 0, 0) := by decide +kernel
theorem r_181_108 : xrow 181 108 = some (.aload_n 0, 1, 0, 0, 0, 0) := by decide +kernel
theorem r_181_109 : xrow 181 109 = some (.aload_n 0, 1, 0, 0, 0, 0) := by decide +kernel
theorem r_181_110 : xrow 181 110 = some (.getfield 31, 3, 22, 19, 2, 989) := by decide +kernel
theorem r_181_113 : xrow 181 113 = some (.iload_n 3, 1, 0, 0, 0, 0) := by decide +kernel
theorem r_181_114 : xrow 181 114 = some (.iload_n 2, 1, 0, 0, 0, 0) := by decide +kernel
theorem r_181_115 : xrow 181 115 = some (.iload_n 1, 1, 0, 0, 0, 0) := by decide +kernel
theorem r_181_116 : xrow 181 116 = some (.invokevirtual 224, 3, 182, 0, 0, 1043) := by decide +kernel
theorem r_181_119 : xrow 181 119 = some (.istore_n 2, 1, 0, 0, 0, 0) := by decide +kernel
theorem r_181_120 : xrow 181 120 = some (.iinc 3 1, 3, 0, 0, 0, 0) := by decide +kernel
theorem r_181_123 : xrow 181 123 = some (.goto (-57), 3, 66, 0, 0, 0) := by decide +kernel
theorem r_181_126 : xrow 181 126 = some (.iconst 0, 1, 0, 0, 0, 0) := by decide +kernel
theorem r_181_127 : xrow 181 127 = some (.istore_n 3, 1, 0, 0, 0, 0) := by decide +kernel
theorem r_181_128 : xrow 181 128 = some (.iload_n 3, 1, 0, 0, 0, 0) := by decide +kernel
theorem r_181_129 : xrow 181 129 = some (.bipush 6, 2, 0, 0, 0, 0) := by decide +kernel
theorem r_181_131 : xrow 181 131 = some (.if_icmp .ge 45, 3, 176, 0, 0, 0) := by decide +kernel
theorem r_181_134 : xrow 181 134 = some (.aload_n 0, 1, 0, 0, 0, 0) := by decide +kernel
theorem r_181_135 : xrow 181 135 = some (.aload_n 0, 1, 0, 0, 0, 0) := by decide +kernel
theorem r_181_136 : xrow 181 136 = some (.getfield 40, 3, 22, 30, 2, 992) := by decide +kernel
theorem r_181_139 : xrow 181 139 = some (.iload_n 3, 1, 0, 0, 0, 0) := by decide +kernel
theorem r_181_140 : xrow 181 140 = some (.iload_n 2, 1, 0, 0, 0, 0) := by decide +kernel
theorem r_181_141 : xrow 181 141 = some (.iload_n 1, 1, 0, 0, 0, 0) := by decide +kernel
theorem r_181_142 : xrow 181 142 = some (.invokevirtual 224, 3, 182, 0, 0, 1043) := by decide +kernel
theorem r_181_145 : xrow 181 145 = some (.istore_n 2, 1, 0, 0, 0, 0) := by decide +kernel
theorem r_181_146 : xrow 181 146 = some (.aload_n 0, 1, 0, 0, 0, 0) := by decide +kernel
theorem r_181_147 : xrow 181 147 = some (.aload_n 0, 1, 0, 0, 0, 0) := by decide +kernel
theorem r_181_148 : xrow 181 148 = some (.getfield 43, 3, 22, 31, 2, 993) := by decide +kernel
theorem r_181_151 : xrow 181 151 = some (.iload_n 3, 1, 0, 0, 0, 0) := by decide +kernel
theorem r_181_152 : xrow 181 152 = some (.iload_n 2, 1, 0, 0, 0, 0) := by decide +kernel
theorem r_181_153 : xrow 181 153 = some (.iload_n 1, 1, 0, 0, 0, 0) := by decide +kernel
theorem r_181_154 : xrow 181 154 = some (.invokevirtual 224, 3, 182, 0, 0, 1043) := by decide +kernel
theorem r_181_157 : xrow 181 157 = some (.istore_n 2, 1, 0, 0, 0, 0) := by decide +kernel
theorem r_181_158 : xrow 181 158 = some (.aload_n 0, 1, 0, 0, 0, 0) := by decide +kernel
theorem r_181_159 : xrow 181 159 = some (.aload_n 0, 1, 0, 0, 0, 0) := by decide +kernel
theorem r_181_160 : xrow 181 160 = some (.getfield 46, 3, 22, 32, 2, 994) := by decide +kernel
theorem r_181_163 : xrow 181 163 = some (.iload_n 3, 1, 0, 0, 0, 0) := by decide +kernel
theorem r_181_164 : xrow 181 164 = some (.iload_n 2, 1, 0, 0, 0, 0) := by decide +kernel
theorem r_181_165 : xrow 181 165 = some (.iload_n 1, 1, 0, 0, 0, 0) := by decide +kernel
theorem r_181_166 : xrow 181 166 = some (.invokevirtual 224, 3, 182, 0, 0, 1043) := by decide +kernel
theorem r_181_169 : xrow 181 169 = some (.istore_n 2, 1, 0, 0, 0, 0) := by decide +kernel
theorem r_181_170 : xrow 181 170 = some (.iinc 3 1, 3, 0, 0, 0, 0) := by decide +kernel
theorem r_181_173 : xrow 181 173 = some (.goto (-45), 3, 128, 0, 0, 0) := by decide +kernel
theorem r_181_176 : xrow 181 176 = some (.iload_n 1, 1, 0, 0, 0, 0) := by decide +kernel
theorem r_181_177 : xrow 181 177 = some (.ifCond .eq 89, 3, 266, 0, 0, 0) := by decide +kernel
theorem r_181_180 : xrow 181 180 = some (.aload_n 0, 1, 0, 0, 0, 0) := by decide +kernel
theorem r_181_181 : xrow 181 181 = some (.aload_n 0, 1, 0, 0, 0, 0) := by decide +kernel
theorem r_181_182 : xrow 181 182 = some (.getfield 49, 3, 22, 33, 2, 995) := by decide +kernel
theorem r_181_185 : xrow 181 185 = some (.iload_n 2, 1, 0, 0, 0, 0) := by decide +kernel
theorem r_181_186 : xrow 181 186 = some (.iaload, 1, 0, 0, 0, 0) := by decide +kernel
theorem r_181_187 : xrow 181 187 = some (.putfield 228, 3, 22, 22, 0, 1044) := by decide +kernel
theorem r_181_190 : xrow 181 190 = some (.aload_n 0, 1, 0, 0, 0, 0) := by decide +kernel
theorem r_181_191 : xrow 181 191 = some (.aload_n 0, 1, 0, 0, 0, 0) := by decide +kernel
theorem r_181_192 : xrow 181 192 = some (.getfield 49, 3, 22, 33, 2, 995) := by decide +kernel
theorem r_181_195 : xrow 181 195 = some (.iload_n 2, 1, 0, 0, 0, 0) := by decide +kernel
theorem r_181_196 : xrow 181 196 = some (.iconst 1, 1, 0, 0, 0, 0) := by decide +kernel
theorem r_181_197 : xrow 181 197 = some (.iadd, 1, 0, 0, 0, 0) := by decide +kernel
theorem r_181_198 : xrow 181 198 = some (.iaload, 1, 0, 0, 0, 0) := by decide +kernel
theorem r_181_199 : xrow 181 199 = some (.putfield 231, 3, 22, 23, 0, 1045) := by decide +kernel
theorem r_181_202 : xrow 181 202 = some (.aload_n 0, 1, 0, 0, 0, 0) := by decide +kernel
theorem r_181_203 : xrow 181 203 = some (.aload_n 0, 1, 0, 0, 0, 0) := by decide +kernel
theorem r_181_204 : xrow 181 204 = some (.getfield 49, 3, 22, 33, 2, 995) := by decide +kernel
theorem r_181_207 : xrow 181 207 = some (.iload_n 2, 1, 0, 0, 0, 0) := by decide +kernel
theorem r_181_208 : xrow 181 208 = some (.iconst 2, 1, 0, 0, 0, 0) := by decide +kernel
theorem r_181_209 : xrow 181 209 = some (.iadd, 1, 0, 0, 0, 0) := by decide +kernel
theorem r_181_210 : xrow 181 210 = some (.iaload, 1, 0, 0, 0, 0) := by decide +kernel
theorem r_181_211 : xrow 181 211 = some (.putfield 234, 3, 22, 24, 0, 1046) := by decide +kernel
theorem r_181_214 : xrow 181 214 = some (.aload_n 0, 1, 0, 0, 0, 0) := by decide +kernel
theorem r_181_215 : xrow 181 215 = some (.aload_n 0, 1, 0, 0, 0, 0) := by decide +kernel
theorem r_181_216 : xrow 181 216 = some (.getfield 49, 3, 22, 33, 2, 995) := by decide +kernel
theorem r_181_219 : xrow 181 219 = some (.iload_n 2, 1, 0, 0, 0, 0) := by decide +kernel
theorem r_181_220 : xrow 181 220 = some (.iconst 3, 1, 0, 0, 0, 0) := by decide +kernel
theorem r_181_221 : xrow 181 221 = some (.iadd, 1, 0, 0, 0, 0) := by decide +kernel
theorem r_181_222 : xrow 181 222 = some (.iaload, 1, 0, 0, 0, 0) := by decide +kernel
theorem r_181_223 : xrow 181 223 = some (.putfield 237, 3, 22, 25, 0, 1047) := by decide +kernel
theorem r_181_226 : xrow 181 226 = some (.aload_n 0, 1, 0, 0, 0, 0) := by decide +kernel
theorem r_181_227 : xrow 181 227 = some (.aload_n 0, 1, 0, 0, 0, 0) := by decide +kernel
theorem r_181_228 : xrow 181 228 = some (.getfield 49, 3, 22, 33, 2, 995) := by decide +kernel
theorem r_181_231 : xrow 181 231 = some (.iload_n 2, 1, 0, 0, 0, 0) := by decide +kernel
theorem r_181_232 : xrow 181 232 = some (.iconst 4, 1, 0, 0, 0, 0) := by decide +kernel
theorem r_181_233 : xrow 181 233 = some (.iadd, 1, 0, 0, 0, 0) := by decide +kernel
theorem r_181_234 : xrow 181 234 = some (.iaload, 1, 0, 0, 0, 0) := by decide +kernel
theorem r_181_235 : xrow 181 235 = some (.putfield 240, 3, 22, 26, 0, 1048) := by decide +kernel
theorem r_181_238 : xrow 181 238 = some (.aload_n 0, 1, 0, 0, 0, 0) := by decide +kernel
theorem r_181_239 : xrow 181 239 = some (.aload_n 0, 1, 0, 0, 0, 0) := by decide +kernel
theorem r_181_240 : xrow 181 240 = some (.getfield 49, 3, 22, 33, 2, 995) := by decide +kernel
theorem r_181_243 : xrow 181 243 = some (.iload_n 2, 1, 0, 0, 0, 0) := by decide +kernel
theorem r_181_244 : xrow 181 244 = some (.iconst 5, 1, 0, 0, 0, 0) := by decide +kernel
theorem r_181_245 : xrow 181 245 = some (.iadd, 1, 0, 0, 0, 0) := by decide +kernel
theorem r_181_246 : xrow 181 246 = some (.iaload, 1, 0, 0, 0, 0) := by decide +kernel
theorem r_181_247 : xrow 181 247 = some (.putfield 243, 3, 22, 27, 0, 1049) := by decide +kernel
theorem r_181_250 : xrow 181 250 = some (.aload_n 0, 1, 0, 0, 0, 0) := by decide +kernel
theorem r_181_251 : xrow 181 251 = some (.aload_n 0, 1, 0, 0, 0, 0) := by decide +kernel
theorem r_181_252 : xrow 181 252 = some (.getfield 49, 3, 22, 33, 2, 995) := by decide +kernel
theorem r_181_255 : xrow 181 255 = some (.iload_n 2, 1, 0, 0, 0, 0) := by decide +kernel
theorem r_181_256 : xrow 181 256 = some (.bipush 6, 2, 0, 0, 0, 0) := by decide +kernel
theorem r_181_258 : xrow 181 258 = some (.iadd, 1, 0, 0, 0, 0) := by decide +kernel
theorem r_181_259 : xrow 181 259 = some (.iaload, 1, 0, 0, 0, 0) := by decide +kernel
theorem r_181_260 : xrow 181 260 = some (.putfield 246, 3, 22, 28, 0, 1050) := by decide +kernel
theorem r_181_263 : xrow 181 263 = some (.goto 86, 3, 349, 0, 0, 0) := by decide +kernel
theorem r_181_266 : xrow 181 266 = some (.aload_n 0, 1, 0, 0, 0, 0) := by decide +kernel
theorem r_181_267 : xrow 181 267 = some (.getfield 49, 3, 22, 33, 2, 995) := by decide +kernel
theorem r_181_270 : xrow 181 270 = some (.iload_n 2, 1, 0, 0, 0, 0) := by decide +kernel
theorem r_181_271 : xrow 181 271 = some (.aload_n 0, 1, 0, 0, 0, 0) := by decide +kernel
theorem r_181_272 : xrow 181 272 = some (.getfield 228, 3, 22, 22, 0, 1044) := by decide +kernel
theorem r_181_275 : xrow 181 275 = some (.iastore, 1, 0, 0, 0, 0) := by decide +kernel
theorem r_181_276 : xrow 181 276 = some (.aload_n 0, 1, 0, 0, 0, 0) := by decide +kernel
theorem r_181_277 : xrow 181 277 = some (.getfield 49, 3, 22, 33, 2, 995) := by decide +kernel
theorem r_181_280 : xrow 181 280 = some (.iload_n 2, 1, 0, 0, 0, 0) := by decide +kernel
theorem r_181_281 : xrow 181 281 = some (.iconst 1, 1, 0, 0, 0, 0) := by decide +kernel
theorem r_181_282 : xrow 181 282 = some (.iadd, 1, 0, 0, 0, 0) := by decide +kernel
theorem r_181_283 : xrow 181 283 = some (.aload_n 0, 1, 0, 0, 0, 0) := by decide +kernel
theorem r_181_284 : xrow 181 284 = some (.getfield 231, 3, 22, 23, 0, 1045) := by decide +kernel
theorem r_181_287 : xrow 181 287 = some (.iastore, 1, 0, 0, 0, 0) := by decide +kernel
theorem r_181_288 : xrow 181 288 = some (.aload_n 0, 1, 0, 0, 0, 0) := by decide +kernel
theorem r_181_289 : xrow 181 289 = some (.getfield 49, 3, 22, 33, 2, 995) := by decide +kernel
theorem r_181_292 : xrow 181 292 = some (.iload_n 2, 1, 0, 0, 0, 0) := by decide +kernel
theorem r_181_293 : xrow 181 293 = some (.iconst 2, 1, 0, 0, 0, 0) := by decide +kernel
theorem r_181_294 : xrow 181 294 = some (.iadd, 1, 0, 0, 0, 0) := by decide +kernel
theorem r_181_295 : xrow 181 295 = some (.aload_n 0, 1, 0, 0, 0, 0) := by decide +kernel
theorem r_181_296 : xrow 181 296 = some (.getfield 234, 3, 22, 24, 0, 1046) := by decide +kernel
theorem r_181_299 : xrow 181 299 = some (.iastore, 1, 0, 0, 0, 0) := by decide +kernel
theorem r_181_300 : xrow 181 300 = some (.aload_n 0, 1, 0, 0, 0, 0) := by decide +kernel
theorem r_181_301 : xrow 181 301 = some (.getfield 49, 3, 22, 33, 2, 995) := by decide +kernel
theorem r_181_304 : xrow 181 304 = some (.iload_n 2, 1, 0, 0, 0, 0) := by decide +kernel
theorem r_181_305 : xrow 181 305 = some (.iconst 3, 1, 0, 0, 0, 0) := by decide +kernel
theorem r_181_306 : xrow 181 306 = some (.iadd, 1, 0, 0, 0, 0) := by decide +kernel
theorem r_181_307 : xrow 181 307 = some (.aload_n 0, 1, 0, 0, 0, 0) := by decide +kernel
theorem r_181_308 : xrow 181 308 = some (.getfield 237, 3, 22, 25, 0, 1047) := by decide +kernel
theorem r_181_311 : xrow 181 311 = some (.iastore, 1, 0, 0, 0, 0) := by decide +kernel
theorem r_181_312 : xrow 181 312 = some (.aload_n 0, 1, 0, 0, 0, 0) := by decide +kernel
theorem r_181_313 : xrow 181 313 = some (.getfield 49, 3, 22, 33, 2, 995) := by decide +kernel
theorem r_181_316 : xrow 181 316 = some (.iload_n 2, 1, 0, 0, 0, 0) := by decide +kernel
theorem r_181_317 : xrow 181 317 = some (.iconst 4, 1, 0, 0, 0, 0) := by decide +kernel
theorem r_181_318 : xrow 181 318 = some (.iadd, 1, 0, 0, 0, 0) := by decide +kernel
theorem r_181_319 : xrow 181 319 = some (.aload_n 0, 1, 0, 0, 0, 0) := by decide +kernel
theorem r_181_320 : xrow 181 320 = some (.getfield 240, 3, 22, 26, 0, 1048) := by decide +kernel
theorem r_181_323 : xrow 181 323 = some (.iastore, 1, 0, 0, 0, 0) := by decide +kernel
theorem r_181_324 : xrow 181 324 = some (.aload_n 0, 1, 0, 0, 0, 0) := by decide +kernel
theorem r_181_325 : xrow 181 325 = some (.getfield 49, 3, 22, 33, 2, 995) := by decide +kernel
theorem r_181_328 : xrow 181 328 = some (.iload_n 2, 1, 0, 0, 0, 0) := by decide +kernel
theorem r_181_329 : xrow 181 329 = some (.iconst 5, 1, 0, 0, 0, 0) := by decide +kernel
theorem r_181_330 : xrow 181 330 = some (.iadd, 1, 0, 0, 0, 0) := by decide +kernel
theorem r_181_331 : xrow 181 331 = some (.aload_n 0, 1, 0, 0, 0, 0) := by decide +kernel
theorem r_181_332 : xrow 181 332 = some (.getfield 243, 3, 22, 27, 0, 1049) := by decide +kernel
theorem r_181_335 : xrow 181 335 = some (.iastore, 1, 0, 0, 0, 0) := by decide +kernel
theorem r_181_336 : xrow 181 336 = some (.aload_n 0, 1, 0, 0, 0, 0) := by decide +kernel
theorem r_181_337 : xrow 181 337 = some (.getfield 49, 3, 22, 33, 2, 995) := by decide +kernel
theorem r_181_340 : xrow 181 340 = some (.iload_n 2, 1, 0, 0, 0, 0) := by decide +kernel
theorem r_181_341 : xrow 181 341 = some (.bipush 6, 2, 0, 0, 0, 0) := by decide +kernel
theorem r_181_343 : xrow 181 343 = some (.iadd, 1, 0, 0, 0, 0) := by decide +kernel
theorem r_181_344 : xrow 181 344 = some (.aload_n 0, 1, 0, 0, 0, 0) := by decide +kernel
theorem r_181_345 : xrow 181 345 = some (.getfield 246, 3, 22, 28, 0, 1050) := by decide +kernel
theorem r_181_348 : xrow 181 348 = some (.iastore, 1, 0, 0, 0, 0) := by decide +kernel
theorem r_181_349 : xrow 181 349 = some (.return_, 1, 0, 0, 0, 0) := by decide +kernel
theorem r_182_0 : xrow 182 0 = some (.iload 4, 2, 0, 0, 0, 0) := by decide +kernel
theorem r_182_2 : xrow 182 2 = some (.ifCond .eq 15, 3, 17, 0, 0, 0) := by decide +kernel
theorem r_182_5 : xrow 182 5 = some (.aload_n 1, 1, 0, 0, 0, 0) := by decide +kernel
theorem r_182_6 : xrow 182 6 = some (.iload_n 2, 1, 0, 0, 0, 0) := by decide +kernel
theorem r_182_7 : xrow 182 7 = some (.aload_n 0, 1, 0, 0, 0, 0) := by decide +kernel
theorem r_182_8 : xrow 182 8 = some (.getfield 49, 3, 22, 33, 2, 995) := by decide +kernel
theorem r_182_11 : xrow 182 11 = some (.iload_n 3, 1, 0, 0, 0, 0) := by decide +kernel
theorem r_182_12 : xrow 182 12 = some (.iaload, 1, 0, 0, 0, 0) := by decide +kernel
theorem r_182_13 : xrow 182 13 = some (.iastore, 1, 0, 0, 0, 0) := by decide +kernel
theorem r_182_14 : xrow 182 14 = some (.goto 12, 3, 26, 0, 0, 0) := by decide +kernel
theorem r_182_17 : xrow 182 17 = some (.aload_n 0, 1, 0, 0, 0, 0) := by decide +kernel
theorem r_182_18 : xrow 182 18 = some (.getfield 49, 3, 22, 33, 2, 995) := by decide +kernel
theorem r_182_21 : xrow 182 21 = some (.iload_n 3, 1, 0, 0, 0, 0) := by decide +kernel
theorem r_182_22 : xrow 182 22 = some (.aload_n 1, 1, 0, 0, 0, 0) := by decide +kernel
theorem r_182_23 : xrow 182 23 = some (.iload_n 2, 1, 0, 0, 0, 0) := by decide +kernel
theorem r_182_24 : xrow 182 24 = some (.iaload, 1, 0, 0, 0, 0) := by decide +kernel
theorem r_182_25 : xrow 182 25 = some (.iastore, 1, 0, 0, 0, 0) := by decide +kernel
theorem r_182_26 : xrow 182 26 = some (.iload_n 3, 1, 0, 0, 0, 0) := by decide +kernel
theorem r_182_27 : xrow 182 27 = some (.iconst 1, 1, 0, 0, 0, 0) := by decide +kernel
theorem r_182_28 : xrow 182 28 = some (.iadd, 1, 0, 0, 0, 0) := by decide +kernel
theorem r_182_29 : xrow 182 29 = some (.ireturn, 1, 0, 0, 0, 0) := by decide +kernel
theorem r_183_0 : xrow 183 0 = some (.aload_n 0, 1, 0, 0, 0, 0) := by decide +kernel
theorem r_183_1 : xrow 183 1 = some (.invokevirtual 249, 3, 164, 0, 0, 1051) := by decide +kernel
theorem r_183_4 : xrow 183 4 = some (.iload_n 1, 1, 0, 0, 0, 0) := by decide +kernel
theorem r_183_5 : xrow 183 5 = some (.iconst 0, 1, 0, 0, 0, 0) := by decide +kernel
theorem r_183_6 : xrow 183 6 = some (.aload_n 0, 1, 0, 0, 0, 0) := by decide +kernel
theorem r_183_7 : xrow 183 7 = some (.getfield 137, 3, 22, 2, 0, 1024) := by decide +kernel
theorem r_183_10 : xrow 183 10 = some (.invokestatic 220, 3, 167, 0, 0, 1042) := by decide +kernel
theorem r_183_13 : xrow 183 13 = some (.ifCond .ne 9, 3, 22, 0, 0, 0) := by decide +kernel
theorem r_183_16 : xrow 183 16 = some (.aload_n 0, 1, 0, 0, 0, 0) := by decide +kernel
theorem r_183_17 : xrow 183 17 = some (.iconst 2, 1, 0, 0, 0, 0) := by decide +kernel
theorem r_183_18 : xrow 183 18 = some (.invokevirtual 252, 3, 165, 0, 0, 1052) := by decide +kernel
theorem r_183_21 : xrow 183 21 = some (.ireturn, 1, 0, 0, 0, 0) := by decide +kernel
theorem r_183_22 : xrow 183 22 = some (.aload_n 0, 1, 0, 0, 0, 0) := by decide +kernel
theorem r_183_23 : xrow 183 23 = some (.iconst 0, 1, 0, 0, 0, 0) := by decide +kernel
theorem r_183_24 : xrow 183 24 = some (.putfield 137, 3, 22, 2, 0, 1024) := by decide +kernel
theorem r_183_27 : xrow 183 27 = some (.aload_n 0, 1, 0, 0, 0, 0) := by decide +kernel
theorem r_183_28 : xrow 183 28 = some (.iconst 0, 1, 0, 0, 0, 0) := by decide +kernel
theorem r_183_29 : xrow 183 29 = some (.putfield 176, 3, 22, 9, 0, 1036) := by decide +kernel
theorem r_183_32 : xrow 183 32 = some (.aload_n 0, 1, 0, 0, 0, 0) := by decide +kernel
theorem r_183_33 : xrow 183 33 = some (.iconst 0, 1, 0, 0, 0, 0) := by decide +kernel
theorem r_183_34 : xrow 183 34 = some (.invokevirtual 255, 3, 181, 0, 0, 1053) := by decide +kernel
theorem r_183_37 : xrow 183 37 = some (.aload_n 0, 1, 0, 0, 0, 0) := by decide +kernel
theorem r_183_38 : xrow 183 38 = some (.iconst 0, 1, 0, 0, 0, 0) := by decide +kernel
theorem r_183_39 : xrow 183 39 = some (.putfield 228, 3, 22, 22, 0, 1044) := by decide +kernel
theorem r_183_42 : xrow 183 42 = some (.aload_n 0, 1, 0, 0, 0, 0) := by decide +kernel
theorem r_183_43 : xrow 183 43 = some (.iconst 0, 1, 0, 0, 0, 0) := by decide +kernel
theorem r_183_44 : xrow 183 44 = some (.putfield 231, 3, 22, 23, 0, 1045) := by decide +kernel
theorem r_183_47 : xrow 183 47 = some (.aload_n 0, 1, 0, 0, 0, 0) := by decide +kernel
theorem r_183_48 : xrow 183 48 = some (.iconst 4, 1, 0, 0, 0, 0) := by decide +kernel
theorem r_183_49 : xrow 183 49 = some (.putfield 234, 3, 22, 24, 0, 1046) := by decide +kernel
theorem r_183_52 : xrow 183 52 = some (.aload_n 0, 1, 0, 0, 0, 0) := by decide +kernel
theorem r_183_53 : xrow 183 53 = some (.bipush 100, 2, 0, 0, 0, 0) := by decide +kernel
theorem r_183_55 : xrow 183 55 = some (.putfield 237, 3, 22, 25, 0, 1047) := by decide +kernel
theorem r_183_58 : xrow 183 58 = some (.aload_n 0, 1, 0, 0, 0, 0) := by decide +kernel
theorem r_183_59 : xrow 183 59 = some (.bipush 100, 2, 0, 0, 0, 0) := by decide +kernel
theorem r_183_61 : xrow 183 61 = some (.putfield 240, 3, 22, 26, 0, 1048) := by decide +kernel
theorem r_183_64 : xrow 183 64 = some (.aload_n 0, 1, 0, 0, 0, 0) := by decide +kernel
theorem r_183_65 : xrow 183 65 = some (.bipush 100, 2, 0, 0, 0, 0) := by decide +kernel
theorem r_183_67 : xrow 183 67 = some (.putfield 243, 3, 22, 27, 0, 1049) := by decide +kernel
theorem r_183_70 : xrow 183 70 = some (.aload_n 0, 1, 0, 0, 0, 0) := by decide +kernel
theorem r_183_71 : xrow 183 71 = some (.iconst 0, 1, 0, 0, 0, 0) := by decide +kernel
theorem r_183_72 : xrow 183 72 = some (.putfield 246, 3, 22, 28, 0, 1050) := by decide +kernel
theorem r_183_75 : xrow 183 75 = some (.aload_n 0, 1, 0, 0, 0, 0) := by decide +kernel
theorem r_183_76 : xrow 183 76 = some (.iconst 0, 1, 0, 0, 0, 0) := by decide +kernel
theorem r_183_77 : xrow 183 77 = some (.putfield 259, 3, 22, 29, 3, 1054) := by decide +kernel
theorem r_183_80 : xrow 183 80 = some (.aload_n 0, 1, 0, 0, 0, 0) := by decide +kernel
theorem r_183_81 : xrow 183 81 = some (.iload_n 1, 1, 0, 0, 0, 0) := by decide +kernel
theorem r_183_82 : xrow 183 82 = some (.invokevirtual 262, 3, 173, 0, 0, 1055) := by decide +kernel
theorem r_183_85 : xrow 183 85 = some (.aload_n 0, 1, 0, 0, 0, 0) := by decide +kernel
theorem r_183_86 : xrow 183 86 = some (.invokevirtual 266, 3, 184, 0, 0, 1056) := by decide +kernel
theorem r_183_89 : xrow 183 89 = some (.aload_n 0, 1, 0, 0, 0, 0) := by decide +kernel
theorem r_183_90 : xrow 183 90 = some (.getfield 169, 3, 22, 13, 0, 1034) := by decide +kernel
theorem r_183_93 : xrow 183 93 = some (.ifCond .ne 23, 3, 116, 0, 0, 0) := by decide +kernel
theorem r_183_96 : xrow 183 96 = some (.aload_n 0, 1, 0, 0, 0, 0) := by decide +kernel
theorem r_183_97 : xrow 183 97 = some (.getfield 159, 3, 22, 6, 0, 1031) := by decide +kernel
theorem r_183_100 : xrow 183 100 = some (.bipush 59, 2, 0, 0, 0, 0) := by decide +kernel
theorem r_183_102 : xrow 183 102 = some (.if_icmp .ne 14, 3, 116, 0, 0, 0) := by decide +kernel
theorem r_183_105 : xrow 183 105 = some (.aload_n 0, 1, 0, 0, 0, 0) := by decide +kernel
theorem r_183_106 : xrow 183 106 = some (.invokevirtual 173, 3, 172, 0, 0, 1035) := by decide +kernel
theorem r_183_109 : xrow 183 109 = some (.aload_n 0, 1, 0, 0, 0, 0) := by decide +kernel
theorem r_183_110 : xrow 183 110 = some (.invokevirtual 266, 3, 184, 0, 0, 1056) := by decide +kernel
theorem r_183_113 : xrow 183 113 = some (.goto (-24), 3, 89, 0, 0, 0) := by decide +kernel
theorem r_183_116 : xrow 183 116 = some (.aload_n 0, 1, 0, 0, 0, 0) := by decide +kernel
theorem r_183_117 : xrow 183 117 = some (.getfield 169, 3, 22, 13, 0, 1034) := by decide +kernel
theorem r_183_120 : xrow 183 120 = some (.ifCond .ne 20, 3, 140, 0, 0, 0) := by decide +kernel
theorem r_183_123 : xrow 183 123 = some (.aload_n 0, 1, 0, 0, 0, 0) := by decide +kernel
theorem r_183_124 : xrow 183 124 = some (.getfield 159, 3, 22, 6, 0, 1031) := by decide +kernel
theorem r_183_127 : xrow 183 127 = some (.ifCond .eq 13, 3, 140, 0, 0, 0) := by decide +kernel
theorem r_183_130 : xrow 183 130 = some (.aload_n 0, 1, 0, 0, 0, 0) := by decide +kernel
theorem r_183_131 : xrow 183 131 = some (.iconst 1, 1, 0, 0, 0, 0) := by decide +kernel
theorem r_183_132 : xrow 183 132 = some (.aload_n 0, 1, 0, 0, 0, 0) := by decide +kernel
theorem r_183_133 : xrow 183 133 = some (.getfield 150, 3, 22, 4, 0, 1028) := by decide +kernel
theorem r_183_136 : xrow 183 136 = some (.invokevirtual 196, 3, 174, 0, 0, 1041) := by decide +kernel
theorem r_183_139 : xrow 183 139 = some (.pop, 1, 0, 0, 0, 0) := by decide +kernel
theorem r_183_140 : xrow 183 140 = some (.aload_n 0, 1, 0, 0, 0, 0) := by decide +kernel
theorem r_183_141 : xrow 183 141 = some (.getfield 169, 3, 22, 13, 0, 1034) := by decide +kernel
theorem r_183_144 : xrow 183 144 = some (.ifCond .eq 14, 3, 158, 0, 0, 0) := by decide +kernel
theorem r_183_147 : xrow 183 147 = some (.aload_n 0, 1, 0, 0, 0, 0) := by decide +kernel
theorem r_183_148 : xrow 183 148 = some (.iconst 1, 1, 0, 0, 0, 0) := by decide +kernel
theorem r_183_149 : xrow 183 149 = some (.invokevirtual 255, 3, 181, 0, 0, 1053) := by decide +kernel
theorem r_183_152 : xrow 183 152 = some (.aload_n 0, 1, 0, 0, 0, 0) := by decide +kernel
theorem r_183_153 : xrow 183 153 = some (.iconst 4, 1, 0, 0, 0, 0) := by decide +kernel
theorem r_183_154 : xrow 183 154 = some (.invokevirtual 252, 3, 165, 0, 0, 1052) := by decide +kernel
theorem r_183_157 : xrow 183 157 = some (.ireturn, 1, 0, 0, 0, 0) := by decide +kernel
theorem r_183_158 : xrow 183 158 = some (.aload_n 0, 1, 0, 0, 0, 0) := by decide +kernel
theorem r_183_159 : xrow 183 159 = some (.iconst 1, 1, 0, 0, 0, 0) := by decide +kernel
theorem r_183_160 : xrow 183 160 = some (.putfield 269, 3, 22, 12, 3, 1057) := by decide +kernel
theorem r_183_163 : xrow 183 163 = some (.aload_n 0, 1, 0, 0, 0, 0) := by decide +kernel
theorem r_183_164 : xrow 183 164 = some (.iconst 0, 1, 0, 0, 0, 0) := by decide +kernel
theorem r_183_165 : xrow 183 165 = some (.putfield 272, 3, 22, 69, 3, 1058) := by decide +kernel
theorem r_183_168 : xrow 183 168 = some (.aload_n 0, 1, 0, 0, 0, 0) := by decide +kernel
theorem r_183_169 : xrow 183 169 = some (.iconst 0, 1, 0, 0, 0, 0) := by decide +kernel
theorem r_183_170 : xrow 183 170 = some (.putfield 275, 3, 22, 34, 3, 1059) := by decide +kernel
theorem r_183_173 : xrow 183 173 = some (.aload_n 0, 1, 0, 0, 0, 0) := by decide +kernel
theorem r_183_174 : xrow 183 174 = some (.iconst 0, 1, 0, 0, 0, 0) := by decide +kernel
theorem r_183_175 : xrow 183 175 = some (.putfield 278, 3, 22, 40, 0, 1060) := by decide +kernel
theorem r_183_178 : xrow 183 178 = some (.aload_n 0, 1, 0, 0, 0, 0) := by decide +kernel
theorem r_183_179 : xrow 183 179 = some (.iconst 0, 1, 0, 0, 0, 0) := by decide +kernel
theorem r_183_180 : xrow 183 180 = some (.putfield 281, 3, 22, 37, 0, 1061) := by decide +kernel
theorem r_183_183 : xrow 183 183 = some (.aload_n 0, 1, 0, 0, 0, 0) := by decide +kernel
theorem r_183_184 : xrow 183 184 = some (.iconst 0, 1, 0, 0, 0, 0) := by decide +kernel
theorem r_183_185 : xrow 183 185 = some (.putfield 284, 3, 22, 38, 0, 1062) := by decide +kernel
theorem r_183_188 : xrow 183 188 = some (.aload_n 0, 1, 0, 0, 0, 0) := by decide +kernel
theorem r_183_189 : xrow 183 189 = some (.iconst 0, 1, 0, 0, 0, 0) := by decide +kernel
theorem r_183_190 : xrow 183 190 = some (.putfield 287, 3, 22, 51, 3, 1063) := by decide +kernel
theorem r_183_193 : xrow 183 193 = some (.iconst 0, 1, 0, 0, 0, 0) := by decide +kernel
theorem r_183_194 : xrow 183 194 = some (.istore_n 2, 1, 0, 0, 0, 0) := by decide +kernel
theorem r_183_195 : xrow 183 195 = some (.iload_n 2, 1, 0, 0, 0, 0) := by decide +kernel
theorem r_183_196 : xrow 183 196 = some (.bipush 6, 2, 0, 0, 0, 0) := by decide +kernel
theorem r_183_198 : xrow 183 198 = some (.if_icmp .ge 16, 3, 214, 0, 0, 0) := by decide +kernel
theorem r_183_201 : xrow 183 201 = some (.aload_n 0, 1, 0, 0, 0, 0) := by decide +kernel
theorem r_183_202 : xrow 183 202 = some (.getfield 70, 3, 22, 47, 2, 1002) := by decide +kernel
theorem r_183_205 : xrow 183 205 = some (.iload_n 2, 1, 0, 0, 0, 0) := by decide +kernel
theorem r_183_206 : xrow 183 206 = some (.iconst 0, 1, 0, 0, 0, 0) := by decide +kernel
theorem r_183_207 : xrow 183 207 = some (.iastore, 1, 0, 0, 0, 0) := by decide +kernel
theorem r_183_208 : xrow 183 208 = some (.iinc 2 1, 3, 0, 0, 0, 0) := by decide +kernel
theorem r_183_211 : xrow 183 211 = some (.goto (-16), 3, 195, 0, 0, 0) := by decide +kernel
theorem r_183_214 : xrow 183 214 = some (.aload_n 0, 1, 0, 0, 0, 0) := by decide +kernel
theorem r_183_215 : xrow 183 215 = some (.getfield 228, 3, 22, 22, 0, 1044) := by decide +kernel
theorem r_183_218 : xrow 183 218 = some (.ireturn, 1, 0, 0, 0, 0) := by decide +kernel
theorem r_184_0 : xrow 184 0 = some (.aload_n 0, 1, 0, 0, 0, 0) := by decide +kernel
theorem r_184_1 : xrow 184 1 = some (.ldc 200, 2, 27, 1, 0, 0) := by decide +kernel
theorem r_184_3 : xrow 184 3 = some (.invokevirtual 192, 3, 175, 0, 0, 1040) := by decide +kernel
theorem r_184_6 : xrow 184 6 = some (.ifCond .eq 14, 3, 20, 0, 0, 0) := by decide +kernel
theorem r_184_9 : xrow 184 9 = some (.aload_n 0, 1, 0, 0, 0, 0) := by decide +kernel
theorem r_184_10 : xrow 184 10 = some (.invokevirtual 173, 3, 172, 0, 0, 1035) := by decide +kernel
theorem r_184_13 : xrow 184 13 = some (.aload_n 0, 1, 0, 0, 0, 0) := by decide +kernel
theorem r_184_14 : xrow 184 14 = some (.invokevirtual 290, 3, 185, 0, 0, 1064) := by decide +kernel
theorem r_184_17 : xrow 184 17 = some (.goto 170, 3, 187, 0, 0, 0) := by decide +kernel
theorem r_184_20 : xrow 184 20 = some (.aload_n 0, 1, 0, 0, 0, 0) := by decide +kernel
theorem r_184_21 : xrow 184 21 = some (.ldc 202, 2, 28, 1, 0, 0) := by decide +kernel
theorem r_184_23 : xrow 184 23 = some (.invokevirtual 192, 3, 175, 0, 0, 1040) := by decide +kernel
theorem r_184_26 : xrow 184 26 = some (.ifCond .eq 131, 3, 157, 0, 0, 0) := by decide +kernel
theorem r_184_29 : xrow 184 29 = some (.aload_n 0, 1, 0, 0, 0, 0) := by decide +kernel
theorem r_184_30 : xrow 184 30 = some (.getfield 259, 3, 22, 29, 0, 1054) := by decide +kernel
theorem r_184_33 : xrow 184 33 = some (.ifCond .eq 14, 3, 47, 0, 0, 0) := by decide +kernel
theorem r_184_36 : xrow 184 36 = some (.aload_n 0, 1, 0, 0, 0, 0) := by decide +kernel
theorem r_184_37 : xrow 184 37 = some (.iconst 3, 1, 0, 0, 0, 0) := by decide +kernel
theorem r_184_38 : xrow 184 38 = some (.aload_n 0, 1, 0, 0, 0, 0) := by decide +kernel
theorem r_184_39 : xrow 184 39 = some (.getfield 150, 3, 22, 4, 0, 1028) := by decide +kernel
theorem r_184_42 : xrow 184 42 = some (.invokevirtual 196, 3, 174, 0, 0, 1041) := by decide +kernel
theorem r_184_45 : xrow 184 45 = some (.pop, 1, 0, 0, 0, 0) := by decide +kernel
theorem r_184_46 : xrow 184 46 = some (.return_, 1, 0, 0, 0, 0) := by decide +kernel
theorem r_184_47 : xrow 184 47 = some (.aload_n 0, 1, 0, 0, 0, 0) := by decide +kernel
theorem r_184_48 : xrow 184 48 = some (.invokevirtual 173, 3, 172, 0, 0, 1035) := by decide +kernel
theorem r_184_51 : xrow 184 51 = some (.aload_n 0, 1, 0, 0, 0, 0) := by decide +kernel
theorem r_184_52 : xrow 184 52 = some (.iconst 1, 1, 0, 0, 0, 0) := by decide +kernel
theorem r_184_53 : xrow 184 53 = some (.putfield 259, 3, 22, 29, 3, 1054) := by decide +kernel
theorem r_184_56 : xrow 184 56 = some (.aload_n 0, 1, 0, 0, 0, 0) := by decide +kernel
theorem r_184_57 : xrow 184 57 = some (.ldc_w 293, 3, 39, 1, 0, 0) := by decide +kernel
theorem r_184_60 : xrow 184 60 = some (.invokevirtual 294, 3, 176, 0, 0, 1065) := by decide +kernel
theorem r_184_63 : xrow 184 63 = some (.pop, 1, 0, 0, 0, 0) := by decide +kernel
theorem r_184_64 : xrow 184 64 = some (.aload_n 0, 1, 0, 0, 0, 0) := by decide +kernel
theorem r_184_65 : xrow 184 65 = some (.aload_n 0, 1, 0, 0, 0, 0) := by decide +kernel
theorem r_184_66 : xrow 184 66 = some (.iconst 2, 1, 0, 0, 0, 0) := by decide +kernel
theorem r_184_67 : xrow 184 67 = some (.bipush 6, 2, 0, 0, 0, 0) := by decide +kernel
theorem r_184_69 : xrow 184 69 = some (.invokevirtual 297, 3, 179, 0, 0, 1066) := by decide +kernel
theorem r_184_72 : xrow 184 72 = some (.putfield 234, 3, 22, 24, 0, 1046) := by decide +kernel
theorem r_184_75 : xrow 184 75 = some (.aload_n 0, 1, 0, 0, 0, 0) := by decide +kernel
theorem r_184_76 : xrow 184 76 = some (.ldc_w 301, 3, 40, 1, 0, 0) := by decide +kernel
theorem r_184_79 : xrow 184 79 = some (.invokevirtual 294, 3, 176, 0, 0, 1065) := by decide +kernel
theorem r_184_82 : xrow 184 82 = some (.pop, 1, 0, 0, 0, 0) := by decide +kernel
theorem r_184_83 : xrow 184 83 = some (.aload_n 0, 1, 0, 0, 0, 0) := by decide +kernel
theorem r_184_84 : xrow 184 84 = some (.aload_n 0, 1, 0, 0, 0, 0) := by decide +kernel
theorem r_184_85 : xrow 184 85 = some (.iconst 1, 1, 0, 0, 0, 0) := by decide +kernel
theorem r_184_86 : xrow 184 86 = some (.sipush 999, 3, 0, 0, 0, 0) := by decide +kernel
theorem r_184_89 : xrow 184 89 = some (.invokevirtual 297, 3, 179, 0, 0, 1066) := by decide +kernel
theorem r_184_92 : xrow 184 92 = some (.putfield 237, 3, 22, 25, 0, 1047) := by decide +kernel
theorem r_184_95 : xrow 184 95 = some (.aload_n 0, 1, 0, 0, 0, 0) := by decide +kernel
theorem r_184_96 : xrow 184 96 = some (.ldc_w 302, 3, 41, 1, 0, 0) := by decide +kernel
theorem r_184_99 : xrow 184 99 = some (.invokevirtual 294, 3, 176, 0, 0, 1065) := by decide +kernel
theorem r_184_102 : xrow 184 102 = some (.pop, 1, 0, 0, 0, 0) := by decide +kernel
theorem r_184_103 : xrow 184 103 = some (.aload_n 0, 1, 0, 0, 0, 0) := by decide +kernel
theorem r_184_104 : xrow 184 104 = some (.aload_n 0, 1, 0, 0, 0, 0) := by decide +kernel
theorem r_184_105 : xrow 184 105 = some (.iconst 1, 1, 0, 0, 0, 0) := by decide +kernel
theorem r_184_106 : xrow 184 106 = some (.sipush 300, 3, 0, 0, 0, 0) := by decide +kernel
theorem r_184_109 : xrow 184 109 = some (.invokevirtual 297, 3, 179, 0, 0, 1066) := by decide +kernel
theorem r_184_112 : xrow 184 112 = some (.putfield 240, 3, 22, 26, 0, 1048) := by decide +kernel
theorem r_184_115 : xrow 184 115 = some (.aload_n 0, 1, 0, 0, 0, 0) := by decide +kernel
theorem r_184_116 : xrow 184 116 = some (.ldc_w 303, 3, 42, 1, 0, 0) := by decide +kernel
theorem r_184_119 : xrow 184 119 = some (.invokevirtual 294, 3, 176, 0, 0, 1065) := by decide +kernel
theorem r_184_122 : xrow 184 122 = some (.pop, 1, 0, 0, 0, 0) := by decide +kernel
theorem r_184_123 : xrow 184 123 = some (.aload_n 0, 1, 0, 0, 0, 0) := by decide +kernel
theorem r_184_124 : xrow 184 124 = some (.aload_n 0, 1, 0, 0, 0, 0) := by decide +kernel
theorem r_184_125 : xrow 184 125 = some (.iconst 0, 1, 0, 0, 0, 0) := by decide +kernel
theorem r_184_126 : xrow 184 126 = some (.sipush 300, 3, 0, 0, 0, 0) := by decide +kernel
theorem r_184_129 : xrow 184 129 = some (.invokevirtual 297, 3, 179, 0, 0, 1066) := by decide +kernel
theorem r_184_132 : xrow 184 132 = some (.putfield 243, 3, 22, 27, 0, 1049) := by decide +kernel
theorem r_184_135 : xrow 184 135 = some (.aload_n 0, 1, 0, 0, 0, 0) := by decide +kernel
theorem r_184_136 : xrow 184 136 = some (.ldc_w 304, 3, 43, 1, 0, 0) := by decide +kernel
theorem r_184_139 : xrow 184 139 = some (.invokevirtual 294, 3, 176, 0, 0, 1065) := by decide +kernel
theorem r_184_142 : xrow 184 142 = some (.pop, 1, 0, 0, 0, 0) := by decide +kernel
theorem r_184_143 : xrow 184 143 = some (.aload_n 0, 1, 0, 0, 0, 0) := by decide +kernel
theorem r_184_144 : xrow 184 144 = some (.aload_n 0, 1, 0, 0, 0, 0) := by decide +kernel
theorem r_184_145 : xrow 184 145 = some (.iconst 0, 1, 0, 0, 0, 0) := by decide +kernel
theorem r_184_146 : xrow 184 146 = some (.bipush 99, 2, 0, 0, 0, 0) := by decide +kernel
theorem r_184_148 : xrow 184 148 = some (.invokevirtual 297, 3, 179, 0, 0, 1066) := by decide +kernel
theorem r_184_151 : xrow 184 151 = some (.putfield 246, 3, 22, 28, 0, 1050) := by decide +kernel
theorem r_184_154 : xrow 184 154 = some (.goto 33, 3, 187, 0, 0, 0) := by decide +kernel
theorem r_184_157 : xrow 184 157 = some (.aload_n 0, 1, 0, 0, 0, 0) := by decide +kernel
theorem r_184_158 : xrow 184 158 = some (.ldc 204, 2, 29, 1, 0, 0) := by decide +kernel
theorem r_184_160 : xrow 184 160 = some (.invokevirtual 192, 3, 175, 0, 0, 1040) := by decide +kernel
theorem r_184_163 : xrow 184 163 = some (.ifCond .eq 14, 3, 177, 0, 0, 0) := by decide +kernel
theorem r_184_166 : xrow 184 166 = some (.aload_n 0, 1, 0, 0, 0, 0) := by decide +kernel
theorem r_184_167 : xrow 184 167 = some (.invokevirtual 173, 3, 172, 0, 0, 1035) := by decide +kernel
theorem r_184_170 : xrow 184 170 = some (.aload_n 0, 1, 0, 0, 0, 0) := by decide +kernel
theorem r_184_171 : xrow 184 171 = some (.invokevirtual 305, 3, 187, 0, 0, 1067) := by decide +kernel
theorem r_184_174 : xrow 184 174 = some (.goto 13, 3, 187, 0, 0, 0) := by decide +kernel
theorem r_184_177 : xrow 184 177 = some (.aload_n 0, 1, 0, 0, 0, 0) := by decide +kernel
theorem r_184_178 : xrow 184 178 = some (.iconst 1, 1, 0, 0, 0, 0) := by decide +kernel
theorem r_184_179 : xrow 184 179 = some (.aload_n 0, 1, 0, 0, 0, 0) := by decide +kernel
theorem r_184_180 : xrow 184 180 = some (.getfield 150, 3, 22, 4, 0, 1028) := by decide +kernel
theorem r_184_183 : xrow 184 183 = some (.invokevirtual 196, 3, 174, 0, 0, 1041) := by decide +kernel
theorem r_184_186 : xrow 184 186 = some (.pop, 1, 0, 0, 0, 0) := by decide +kernel
theorem r_184_187 : xrow 184 187 = some (.return_, 1, 0, 0, 0, 0) := by decide +kernel
theorem r_185_0 : xrow 185 0 = some (.aload_n 0, 1, 0, 0, 0, 0) := by decide +kernel
theorem r_185_1 : xrow 185 1 = some (.invokevirtual 308, 3, 177, 0, 0, 1068) := by decide +kernel
theorem r_185_4 : xrow 185 4 = some (.ifCond .ne 14, 3, 18, 0, 0, 0) := by decide +kernel
theorem r_185_7 : xrow 185 7 = some (.aload_n 0, 1, 0, 0, 0, 0) := by decide +kernel
theorem r_185_8 : xrow 185 8 = some (.iconst 1, 1, 0, 0, 0, 0) := by decide +kernel
theorem r_185_9 : xrow 185 9 = some (.aload_n 0, 1, 0, 0, 0, 0) := by decide +kernel
theorem r_185_10 : xrow 185 10 = some (.getfield 150, 3, 22, 4, 0, 1028) := by decide +kernel
theorem r_185_13 : xrow 185 13 = some (.invokevirtual 196, 3, 174, 0, 0, 1041) := by decide +kernel
theorem r_185_16 : xrow 185 16 = some (.pop, 1, 0, 0, 0, 0) := by decide +kernel
theorem r_185_17 : xrow 185 17 = some (.return_, 1, 0, 0, 0, 0) := by decide +kernel
theorem r_185_18 : xrow 185 18 = some (.aload_n 0, 1, 0, 0, 0, 0) := by decide +kernel
theorem r_185_19 : xrow 185 19 = some (.aload_n 0, 1, 0, 0, 0, 0) := by decide +kernel
theorem r_185_20 : xrow 185 20 = some (.getfield 16, 3, 22, 14, 2, 984) := by decide +kernel
theorem r_185_23 : xrow 185 23 = some (.aload_n 0, 1, 0, 0, 0, 0) := by decide +kernel
theorem r_185_24 : xrow 185 24 = some (.getfield 19, 3, 22, 15, 2, 985) := by decide +kernel
theorem r_185_27 : xrow 185 27 = some (.aload_n 0, 1, 0, 0, 0, 0) := by decide +kernel
theorem r_185_28 : xrow 185 28 = some (.getfield 228, 3, 22, 22, 0, 1044) := by decide +kernel
theorem r_185_31 : xrow 185 31 = some (.invokevirtual 312, 3, 178, 0, 0, 1069) := by decide +kernel
theorem r_185_34 : xrow 185 34 = some (.ifCond .lt 13, 3, 47, 0, 0, 0) := by decide +kernel
theorem r_185_37 : xrow 185 37 = some (.aload_n 0, 1, 0, 0, 0, 0) := by decide +kernel
theorem r_185_38 : xrow 185 38 = some (.iconst 3, 1, 0, 0, 0, 0) := by decide +kernel
theorem r_185_39 : xrow 185 39 = some (.aload_n 0, 1, 0, 0, 0, 0) := by decide +kernel
theorem r_185_40 : xrow 185 40 = some (.getfield 150, 3, 22, 4, 0, 1028) := by decide +kernel
theorem r_185_43 : xrow 185 43 = some (.invokevirtual 196, 3, 174, 0, 0, 1041) := by decide +kernel
theorem r_185_46 : xrow 185 46 = some (.pop, 1, 0, 0, 0, 0) := by decide +kernel
theorem r_185_47 : xrow 185 47 = some (.aload_n 0, 1, 0, 0, 0, 0) := by decide +kernel
theorem r_185_48 : xrow 185 48 = some (.getfield 169, 3, 22, 13, 0, 1034) := by decide +kernel
theorem r_185_51 : xrow 185 51 = some (.ifCond .ne 22, 3, 73, 0, 0, 0) := by decide +kernel
theorem r_185_54 : xrow 185 54 = some (.aload_n 0, 1, 0, 0, 0, 0) := by decide +kernel
theorem r_185_55 : xrow 185 55 = some (.getfield 228, 3, 22, 22, 0, 1044) := by decide +kernel
theorem r_185_58 : xrow 185 58 = some (.bipush 8, 2, 0, 0, 0, 0) := by decide +kernel
theorem r_185_60 : xrow 185 60 = some (.if_icmp .ne 13, 3, 73, 0, 0, 0) := by decide +kernel
theorem r_185_63 : xrow 185 63 = some (.aload_n 0, 1, 0, 0, 0, 0) := by decide +kernel
theorem r_185_64 : xrow 185 64 = some (.iconst 5, 1, 0, 0, 0, 0) := by decide +kernel
theorem r_185_65 : xrow 185 65 = some (.aload_n 0, 1, 0, 0, 0, 0) := by decide +kernel
theorem r_185_66 : xrow 185 66 = some (.getfield 150, 3, 22, 4, 0, 1028) := by decide +kernel
theorem r_185_69 : xrow 185 69 = some (.invokevirtual 196, 3, 174, 0, 0, 1041) := by decide +kernel
theorem r_185_72 : xrow 185 72 = some (.pop, 1, 0, 0, 0, 0) := by decide +kernel
theorem r_185_73 : xrow 185 73 = some (.aload_n 0, 1, 0, 0, 0, 0) := by decide +kernel
theorem r_185_74 : xrow 185 74 = some (.getfield 169, 3, 22, 13, 0, 1034) := by decide +kernel
theorem r_185_77 : xrow 185 77 = some (.ifCond .eq 4, 3, 81, 0, 0, 0) := by decide +kernel
theorem r_185_80 : xrow 185 80 = some (.return_, 1, 0, 0, 0, 0) := by decide +kernel
theorem r_185_81 : xrow 185 81 = some (.iconst 0, 1, 0, 0, 0, 0) := by decide +kernel
theorem r_185_82 : xrow 185 82 = some (.istore_n 1, 1, 0, 0, 0, 0) := by decide +kernel
theorem r_185_83 : xrow 185 83 = some (.iload_n 1, 1, 0, 0, 0, 0) := by decide +kernel
theorem r_185_84 : xrow 185 84 = some (.aload_n 0, 1, 0, 0, 0, 0) := by decide +kernel
theorem r_185_85 : xrow 185 85 = some (.getfield 153, 3, 22, 8, 0, 1029) := by decide +kernel
theorem r_185_88 : xrow 185 88 = some (.if_icmp .ge 29, 3, 117, 0, 0, 0) := by decide +kernel
theorem r_185_91 : xrow 185 91 = some (.aload_n 0, 1, 0, 0, 0, 0) := by decide +kernel
theorem r_185_92 : xrow 185 92 = some (.getfield 16, 3, 22, 14, 2, 984) := by decide +kernel
theorem r_185_95 : xrow 185 95 = some (.bipush 8, 2, 0, 0, 0, 0) := by decide +kernel
theorem r_185_97 : xrow 185 97 = some (.aload_n 0, 1, 0, 0, 0, 0) := by decide +kernel
theorem r_185_98 : xrow 185 98 = some (.getfield 228, 3, 22, 22, 0, 1044) := by decide +kernel
theorem r_185_101 : xrow 185 101 = some (.imul, 1, 0, 0, 0, 0) := by decide +kernel
theorem r_185_102 : xrow 185 102 = some (.iload_n 1, 1, 0, 0, 0, 0) := by decide +kernel
theorem r_185_103 : xrow 185 103 = some (.iadd, 1, 0, 0, 0, 0) := by decide +kernel
theorem r_185_104 : xrow 185 104 = some (.aload_n 0, 1, 0, 0, 0, 0) := by decide +kernel
theorem r_185_105 : xrow 185 105 = some (.getfield 13, 3, 22, 11, 2, 983) := by decide +kernel
theorem r_185_108 : xrow 185 108 = some (.iload_n 1, 1, 0, 0, 0, 0) := by decide +kernel
theorem r_185_109 : xrow 185 109 = some (.iaload, 1, 0, 0, 0, 0) := by decide +kernel
theorem r_185_110 : xrow 185 110 = some (.iastore, 1, 0, 0, 0, 0) := by decide +kernel
theorem r_185_111 : xrow 185 111 = some (.iinc 1 1, 3, 0, 0, 0, 0) := by decide +kernel
theorem r_185_114 : xrow 185 114 = some (.goto (-31), 3, 83, 0, 0, 0) := by decide +kernel
theorem r_185_117 : xrow 185 117 = some (.aload_n 0, 1, 0, 0, 0, 0) := by decide +kernel
theorem r_185_118 : xrow 185 118 = some (.getfield 19, 3, 22, 15, 2, 985) := by decide +kernel
theorem r_185_121 : xrow 185 121 = some (.aload_n 0, 1, 0, 0, 0, 0) := by decide +kernel
theorem r_185_122 : xrow 185 122 = some (.getfield 228, 3, 22, 22, 0, 1044) := by decide +kernel
theorem r_185_125 : xrow 185 125 = some (.aload_n 0, 1, 0, 0, 0, 0) := by decide +kernel
theorem r_185_126 : xrow 185 126 = some (.getfield 153, 3, 22, 8, 0, 1029) := by decide +kernel
theorem r_185_129 : xrow 185 129 = some (.iastore, 1, 0, 0, 0, 0) := by decide +kernel
theorem r_185_130 : xrow 185 130 = some (.aload_n 0, 1, 0, 0, 0, 0) := by decide +kernel
theorem r_185_131 : xrow 185 131 = some (.invokevirtual 173, 3, 172, 0, 0, 1035) := by decide +kernel
theorem r_185_134 : xrow 185 134 = some (.aload_n 0, 1, 0, 0, 0, 0) := by decide +kernel
theorem r_185_135 : xrow 185 135 = some (.ldc_w 316, 3, 37, 1, 0, 0) := by decide +kernel
theorem r_185_138 : xrow 185 138 = some (.invokevirtual 294, 3, 176, 0, 0, 1065) := by decide +kernel
theorem r_185_141 : xrow 185 141 = some (.pop, 1, 0, 0, 0, 0) := by decide +kernel
theorem r_185_142 : xrow 185 142 = some (.aload_n 0, 1, 0, 0, 0, 0) := by decide +kernel
theorem r_185_143 : xrow 185 143 = some (.getfield 28, 3, 22, 18, 2, 988) := by decide +kernel
theorem r_185_146 : xrow 185 146 = some (.aload_n 0, 1, 0, 0, 0, 0) := by decide +kernel
theorem r_185_147 : xrow 185 147 = some (.getfield 228, 3, 22, 22, 0, 1044) := by decide +kernel
theorem r_185_150 : xrow 185 150 = some (.aload_n 0, 1, 0, 0, 0, 0) := by decide +kernel
theorem r_185_151 : xrow 185 151 = some (.aload_n 0, 1, 0, 0, 0, 0) := by decide +kernel
theorem r_185_152 : xrow 185 152 = some (.getfield 34, 3, 22, 20, 2, 990) := by decide +kernel
theorem r_185_155 : xrow 185 155 = some (.iconst 1, 1, 0, 0, 0, 0) := by decide +kernel
theorem r_185_156 : xrow 185 156 = some (.invokevirtual 317, 3, 186, 0, 0, 1070) := by decide +kernel
theorem r_185_159 : xrow 185 159 = some (.iastore, 1, 0, 0, 0, 0) := by decide +kernel
theorem r_185_160 : xrow 185 160 = some (.aload_n 0, 1, 0, 0, 0, 0) := by decide +kernel
theorem r_185_161 : xrow 185 161 = some (.ldc_w 321, 3, 38, 1, 0, 0) := by decide +kernel
theorem r_185_164 : xrow 185 164 = some (.invokevirtual 294, 3, 176, 0, 0, 1065) := by decide +kernel
theorem r_185_167 : xrow 185 167 = some (.pop, 1, 0, 0, 0, 0) := by decide +kernel
theorem r_185_168 : xrow 185 168 = some (.aload_n 0, 1, 0, 0, 0, 0) := by decide +kernel
theorem r_185_169 : xrow 185 169 = some (.getfield 31, 3, 22, 19, 2, 989) := by decide +kernel
theorem r_185_172 : xrow 185 172 = some (.aload_n 0, 1, 0, 0, 0, 0) := by decide +kernel
theorem r_185_173 : xrow 185 173 = some (.getfield 228, 3, 22, 22, 0, 1044) := by decide +kernel
theorem r_185_176 : xrow 185 176 = some (.aload_n 0, 1, 0, 0, 0, 0) := by decide +kernel
theorem r_185_177 : xrow 185 177 = some (.aload_n 0, 1, 0, 0, 0, 0) := by decide +kernel
theorem r_185_178 : xrow 185 178 = some (.getfield 37, 3, 22, 21, 2, 991) := by decide +kernel
theorem r_185_181 : xrow 185 181 = some (.iconst 0, 1, 0, 0, 0, 0) := by decide +kernel
theorem r_185_182 : xrow 185 182 = some (.invokevirtual 317, 3, 186, 0, 0, 1070) := by decide +kernel
theorem r_185_185 : xrow 185 185 = some (.iastore, 1, 0, 0, 0, 0) := by decide +kernel
theorem r_185_186 : xrow 185 186 = some (.aload_n 0, 1, 0, 0, 0, 0) := by decide +kernel
theorem r_185_187 : xrow 185 187 = some (.getfield 169, 3, 22, 13, 0, 1034) := by decide +kernel
theorem r_185_190 : xrow 185 190 = some (.ifCond .ne 13, 3, 203, 0, 0, 0) := by decide +kernel
theorem r_185_193 : xrow 185 193 = some (.aload_n 0, 1, 0, 0, 0, 0) := by decide +kernel
theorem r_185_194 : xrow 185 194 = some (.dup, 1, 0, 0, 0, 0) := by decide +kernel
theorem r_185_195 : xrow 185 195 = some (.getfield 228, 3, 22, 22, 0, 1044) := by decide +kernel
theorem r_185_198 : xrow 185 198 = some (.iconst 1, 1, 0, 0, 0, 0) := by decide +kernel
theorem r_185_199 : xrow 185 199 = some (.iadd, 1, 0, 0, 0, 0) := by decide +kernel
theorem r_185_200 : xrow 185 200 = some (.putfield 228, 3, 22, 22, 0, 1044) := by decide +kernel
theorem r_185_203 : xrow 185 203 = some (.return_, 1, 0, 0, 0, 0) := by decide +kernel
theorem r_186_0 : xrow 186 0 = some (.iconst 0, 1, 0, 0, 0, 0) := by decide +kernel
theorem r_186_1 : xrow 186 1 = some (.istore_n 3, 1, 0, 0, 0, 0) := by decide +kernel
theorem r_186_2 : xrow 186 2 = some (.aload_n 0, 1, 0, 0, 0, 0) := by decide +kernel
theorem r_186_3 : xrow 186 3 = some (.getfield 169, 3, 22, 13, 0, 1034) := by decide +kernel
theorem r_186_6 : xrow 186 6 = some (.ifCond .ne 7, 3, 13, 0, 0, 0) := by decide +kernel
theorem r_186_9 : xrow 186 9 = some (.iconst 1, 1, 0, 0, 0, 0) := by decide +kernel
theorem r_186_10 : xrow 186 10 = some (.goto 4, 3, 14, 0, 0, 0) := by decide +kernel
theorem r_186_13 : xrow 186 13 = some (.iconst 0, 1, 0, 0, 0, 0) := by decide +kernel
theorem r_186_14 : xrow 186 14 = some (.istore 4, 2, 0, 0, 0, 0) := by decide +kernel
theorem r_186_16 : xrow 186 16 = some (.iload 4, 2, 0, 0, 0, 0) := by decide +kernel
theorem r_186_18 : xrow 186 18 = some (.ifCond .eq 205, 3, 223, 0, 0, 0) := by decide +kernel
theorem r_186_21 : xrow 186 21 = some (.bipush 8, 2, 0, 0, 0, 0) := by decide +kernel
theorem r_186_23 : xrow 186 23 = some (.aload_n 0, 1, 0, 0, 0, 0) := by decide +kernel
theorem r_186_24 : xrow 186 24 = some (.getfield 228, 3, 22, 22, 0, 1044) := by decide +kernel
theorem r_186_27 : xrow 186 27 = some (.imul, 1, 0, 0, 0, 0) := by decide +kernel
theorem r_186_28 : xrow 186 28 = some (.iconst 2, 1, 0, 0, 0, 0) := by decide +kernel
theorem r_186_29 : xrow 186 29 = some (.iload_n 3, 1, 0, 0, 0, 0) := by decide +kernel
theorem r_186_30 : xrow 186 30 = some (.iconst 4, 1, 0, 0, 0, 0) := by decide +kernel
theorem r_186_31 : xrow 186 31 = some (.if_icmp .ge 7, 3, 38, 0, 0, 0) := by decide +kernel
theorem r_186_34 : xrow 186 34 = some (.iload_n 3, 1, 0, 0, 0, 0) := by decide +kernel
theorem r_186_35 : xrow 186 35 = some (.goto 4, 3, 39, 0, 0, 0) := by decide +kernel
theorem r_186_38 : xrow 186 38 = some (.iconst 3, 1, 0, 0, 0, 0) := by decide +kernel
theorem r_186_39 : xrow 186 39 = some (.imul, 1, 0, 0, 0, 0) := by decide +kernel
theorem r_186_40 : xrow 186 40 = some (.iadd, 1, 0, 0, 0, 0) := by decide +kernel
theorem r_186_41 : xrow 186 41 = some (.istore 5, 2, 0, 0, 0, 0) := by decide +kernel
theorem r_186_43 : xrow 186 43 = some (.iload_n 3, 1, 0, 0, 0, 0) := by decide +kernel
theorem r_186_44 : xrow 186 44 = some (.ifCond .ne 7, 3, 51, 0, 0, 0) := by decide +kernel
theorem r_186_47 : xrow 186 47 = some (.iconst 0, 1, 0, 0, 0, 0) := by decide +kernel
theorem r_186_48 : xrow 186 48 = some (.goto 20, 3, 68, 0, 0, 0) := by decide +kernel
theorem r_186_51 : xrow 186 51 = some (.aload_n 1, 1, 0, 0, 0, 0) := by decide +kernel
theorem r_186_52 : xrow 186 52 = some (.bipush 8, 2, 0, 0, 0, 0) := by decide +kernel
theorem r_186_54 : xrow 186 54 = some (.aload_n 0, 1, 0, 0, 0, 0) := by decide +kernel
theorem r_186_55 : xrow 186 55 = some (.getfield 228, 3, 22, 22, 0, 1044) := by decide +kernel
theorem r_186_58 : xrow 186 58 = some (.imul, 1, 0, 0, 0, 0) := by decide +kernel
theorem r_186_59 : xrow 186 59 = some (.iconst 2, 1, 0, 0, 0, 0) := by decide +kernel
theorem r_186_60 : xrow 186 60 = some (.iload_n 3, 1, 0, 0, 0, 0) := by decide +kernel
theorem r_186_61 : xrow 186 61 = some (.imul, 1, 0, 0, 0, 0) := by decide +kernel
theorem r_186_62 : xrow 186 62 = some (.iadd, 1, 0, 0, 0, 0) := by decide +kernel
theorem r_186_63 : xrow 186 63 = some (.iconst 2, 1, 0, 0, 0, 0) := by decide +kernel
theorem r_186_64 : xrow 186 64 = some (.isub, 1, 0, 0, 0, 0) := by decide +kernel
theorem r_186_65 : xrow 186 65 = some (.iaload, 1, 0, 0, 0, 0) := by decide +kernel
theorem r_186_66 : xrow 186 66 = some (.iconst 1, 1, 0, 0, 0, 0) := by decide +kernel
theorem r_186_67 : xrow 186 67 = some (.iadd, 1, 0, 0, 0, 0) := by decide +kernel
theorem r_186_68 : xrow 186 68 = some (.istore 6, 2, 0, 0, 0, 0) := by decide +kernel
theorem r_186_70 : xrow 186 70 = some (.aload_n 0, 1, 0, 0, 0, 0) := by decide +kernel
theorem r_186_71 : xrow 186 71 = some (.getfield 150, 3, 22, 4, 0, 1028) := by decide +kernel
theorem r_186_74 : xrow 186 74 = some (.istore 7, 2, 0, 0, 0, 0) := by decide +kernel
theorem r_186_76 : xrow 186 76 = some (.aload_n 0, 1, 0, 0, 0, 0) := by decide +kernel
theorem r_186_77 : xrow 186 77 = some (.iload 6, 2, 0, 0, 0, 0) := by decide +kernel
theorem r_186_79 : xrow 186 79 = some (.iload_n 2, 1, 0, 0, 0, 0) := by decide +kernel
theorem r_186_80 : xrow 186 80 = some (.ifCond .eq 9, 3, 89, 0, 0, 0) := by decide +kernel
theorem r_186_83 : xrow 186 83 = some (.sipush 999, 3, 0, 0, 0, 0) := by decide +kernel
theorem r_186_86 : xrow 186 86 = some (.goto 5, 3, 91, 0, 0, 0) := by decide +kernel
theorem r_186_89 : xrow 186 89 = some (.bipush 90, 2, 0, 0, 0, 0) := by decide +kernel
theorem r_186_91 : xrow 186 91 = some (.invokevirtual 297, 3, 179, 0, 0, 1066) := by decide +kernel
theorem r_186_94 : xrow 186 94 = some (.istore 8, 2, 0, 0, 0, 0) := by decide +kernel
theorem r_186_96 : xrow 186 96 = some (.aload_n 0, 1, 0, 0, 0, 0) := by decide +kernel
theorem r_186_97 : xrow 186 97 = some (.getfield 169, 3, 22, 13, 0, 1034) := by decide +kernel
theorem r_186_100 : xrow 186 100 = some (.ifCond .ne 16, 3, 116, 0, 0, 0) := by decide +kernel
theorem r_186_103 : xrow 186 103 = some (.iload_n 3, 1, 0, 0, 0, 0) := by decide +kernel
theorem r_186_104 : xrow 186 104 = some (.iconst 4, 1, 0, 0, 0, 0) := by decide +kernel
theorem r_186_105 : xrow 186 105 = some (.if_icmp .ne 11, 3, 116, 0, 0, 0) := by decide +kernel
theorem r_186_108 : xrow 186 108 = some (.aload_n 0, 1, 0, 0, 0, 0) := by decide +kernel
theorem r_186_109 : xrow 186 109 = some (.iconst 5, 1, 0, 0, 0, 0) := by decide +kernel
theorem r_186_110 : xrow 186 110 = some (.iload 7, 2, 0, 0, 0, 0) := by decide +kernel
theorem r_186_112 : xrow 186 112 = some (.invokevirtual 196, 3, 174, 0, 0, 1041) := by decide +kernel
theorem r_186_115 : xrow 186 115 = some (.pop, 1, 0, 0, 0, 0) := by decide +kernel
theorem r_186_116 : xrow 186 116 = some (.aload_n 0, 1, 0, 0, 0, 0) := by decide +kernel
theorem r_186_117 : xrow 186 117 = some (.iload_n 2, 1, 0, 0, 0, 0) := by decide +kernel
theorem r_186_118 : xrow 186 118 = some (.ifCond .eq 32, 3, 150, 0, 0, 0) := by decide +kernel
theorem r_186_121 : xrow 186 121 = some (.iload_n 3, 1, 0, 0, 0, 0) := by decide +kernel
theorem r_186_122 : xrow 186 122 = some (.ifCond .le 28, 3, 150, 0, 0, 0) := by decide +kernel
theorem r_186_125 : xrow 186 125 = some (.aload_n 0, 1, 0, 0, 0, 0) := by decide +kernel
theorem r_186_126 : xrow 186 126 = some (.getfield 169, 3, 22, 13, 0, 1034) := by decide +kernel
theorem r_186_129 : xrow 186 129 = some (.ifCond .ne 21, 3, 150, 0, 0, 0) := by decide +kernel
theorem r_186_132 : xrow 186 132 = some (.aload_n 1, 1, 0, 0, 0, 0) := by decide +kernel
theorem r_186_133 : xrow 186 133 = some (.bipush 8, 2, 0, 0, 0, 0) := by decide +kernel
theorem r_186_135 : xrow 186 135 = some (.aload_n 0, 1, 0, 0, 0, 0) := by decide +kernel
theorem r_186_136 : xrow 186 136 = some (.getfield 228, 3, 22, 22, 0, 1044) := by decide +kernel
theorem r_186_139 : xrow 186 139 = some (.imul, 1, 0, 0, 0, 0) := by decide +kernel
theorem r_186_140 : xrow 186 140 = some (.iconst 2, 1, 0, 0, 0, 0) := by decide +kernel
theorem r_186_141 : xrow 186 141 = some (.iload_n 3, 1, 0, 0, 0, 0) := by decide +kernel
theorem r_186_142 : xrow 186 142 = some (.imul, 1, 0, 0, 0, 0) := by decide +kernel
theorem r_186_143 : xrow 186 143 = some (.iadd, 1, 0, 0, 0, 0) := by decide +kernel
theorem r_186_144 : xrow 186 144 = some (.iconst 1, 1, 0, 0, 0, 0) := by decide +kernel
theorem r_186_145 : xrow 186 145 = some (.isub, 1, 0, 0, 0, 0) := by decide +kernel
theorem r_186_146 : xrow 186 146 = some (.iaload, 1, 0, 0, 0, 0) := by decide +kernel
theorem r_186_147 : xrow 186 147 = some (.goto 4, 3, 151, 0, 0, 0) := by decide +kernel
theorem r_186_150 : xrow 186 150 = some (.iconst 0, 1, 0, 0, 0, 0) := by decide +kernel
theorem r_186_151 : xrow 186 151 = some (.iload_n 2, 1, 0, 0, 0, 0) := by decide +kernel
theorem r_186_152 : xrow 186 152 = some (.ifCond .eq 9, 3, 161, 0, 0, 0) := by decide +kernel
theorem r_186_155 : xrow 186 155 = some (.sipush 300, 3, 0, 0, 0, 0) := by decide +kernel
theorem r_186_158 : xrow 186 158 = some (.goto 6, 3, 164, 0, 0, 0) := by decide +kernel
theorem r_186_161 : xrow 186 161 = some (.sipush 150, 3, 0, 0, 0, 0) := by decide +kernel
theorem r_186_164 : xrow 186 164 = some (.invokevirtual 297, 3, 179, 0, 0, 1066) := by decide +kernel
theorem r_186_167 : xrow 186 167 = some (.istore 9, 2, 0, 0, 0, 0) := by decide +kernel
theorem r_186_169 : xrow 186 169 = some (.aload_n 0, 1, 0, 0, 0, 0) := by decide +kernel
theorem r_186_170 : xrow 186 170 = some (.getfield 169, 3, 22, 13, 0, 1034) := by decide +kernel
theorem r_186_173 : xrow 186 173 = some (.ifCond .eq 5, 3, 178, 0, 0, 0) := by decide +kernel
theorem r_186_176 : xrow 186 176 = some (.iload_n 3, 1, 0, 0, 0, 0) := by decide +kernel
theorem r_186_177 : xrow 186 177 = some (.ireturn, 1, 0, 0, 0, 0) := by decide +kernel
theorem r_186_178 : xrow 186 178 = some (.aload_n 1, 1, 0, 0, 0, 0) := by decide +kernel
theorem r_186_179 : xrow 186 179 = some (.iload 5, 2, 0, 0, 0, 0) := by decide +kernel
theorem r_186_181 : xrow 186 181 = some (.iload 8, 2, 0, 0, 0, 0) := by decide +kernel
theorem r_186_183 : xrow 186 183 = some (.iastore, 1, 0, 0, 0, 0) := by decide +kernel
theorem r_186_184 : xrow 186 184 = some (.aload_n 1, 1, 0, 0, 0, 0) := by decide +kernel
theorem r_186_185 : xrow 186 185 = some (.iload 5, 2, 0, 0, 0, 0) := by decide +kernel
theorem r_186_187 : xrow 186 187 = some (.iconst 1, 1, 0, 0, 0, 0) := by decide +kernel
theorem r_186_188 : xrow 186 188 = some (.iadd, 1, 0, 0, 0, 0) := by decide +kernel
theorem r_186_189 : xrow 186 189 = some (.iload 9, 2, 0, 0, 0, 0) := by decide +kernel
theorem r_186_191 : xrow 186 191 = some (.iastore, 1, 0, 0, 0, 0) := by decide +kernel
theorem r_186_192 : xrow 186 192 = some (.iinc 3 1, 3, 0, 0, 0, 0) := by decide +kernel
theorem r_186_195 : xrow 186 195 = some (.aload_n 0, 1, 0, 0, 0, 0) := by decide +kernel
theorem r_186_196 : xrow 186 196 = some (.getfield 159, 3, 22, 6, 0, 1031) := by decide +kernel
theorem r_186_199 : xrow 186 199 = some (.bipush 44, 2, 0, 0, 0, 0) := by decide +kernel
theorem r_186_201 : xrow 186 201 = some (.if_icmp .ne 7, 3, 208, 0, 0, 0) := by decide +kernel
theorem r_186_204 : xrow 186 204 = some (.iconst 1, 1, 0, 0, 0, 0) := by decide +kernel
theorem r_186_205 : xrow 186 205 = some (.goto 4, 3, 209, 0, 0, 0) := by decide +kernel
theorem r_186_208 : xrow 186 208 = some (.iconst 0, 1, 0, 0, 0, 0) := by decide +kernel
theorem r_186_209 : xrow 186 209 = some (.istore 4, 2, 0, 0, 0, 0) := by decide +kernel
theorem r_186_211 : xrow 186 211 = some (.iload 4, 2, 0, 0, 0, 0) := by decide +kernel
theorem r_186_213 : xrow 186 213 = some (.ifCond .eq 7, 3, 220, 0, 0, 0) := by decide +kernel
theorem r_186_216 : xrow 186 216 = some (.aload_n 0, 1, 0, 0, 0, 0) := by decide +kernel
theorem r_186_217 : xrow 186 217 = some (.invokevirtual 173, 3, 172, 0, 0, 1035) := by decide +kernel
theorem r_186_220 : xrow 186 220 = some (.goto (-204), 3, 16, 0, 0, 0) := by decide +kernel
theorem r_186_223 : xrow 186 223 = some (.iload_n 3, 1, 0, 0, 0, 0) := by decide +kernel
theorem r_186_224 : xrow 186 224 = some (.ireturn, 1, 0, 0, 0, 0) := by decide +kernel
theorem r_187_0 : xrow 187 0 = some (.aload_n 0, 1, 0, 0, 0, 0) := by decide +kernel
theorem r_187_1 : xrow 187 1 = some (.invokevirtual 308, 3, 177, 0, 0, 1068) := by decide +kernel
theorem r_187_4 : xrow 187 4 = some (.ifCond .ne 14, 3, 18, 0, 0, 0) := by decide +kernel
theorem r_187_7 : xrow 187 7 = some (.aload_n 0, 1, 0, 0, 0, 0) := by decide +kernel
theorem r_187_8 : xrow 187 8 = some (.iconst 1, 1, 0, 0, 0, 0) := by decide +kernel
theorem r_187_9 : xrow 187 9 = some (.aload_n 0, 1, 0, 0, 0, 0) := by decide +kernel
theorem r_187_10 : xrow 187 10 = some (.getfield 150, 3, 22, 4, 0, 1028) := by decide +kernel
theorem r_187_13 : xrow 187 13 = some (.invokevirtual 196, 3, 174, 0, 0, 1041) := by decide +kernel
theorem r_187_16 : xrow 187 16 = some (.pop, 1, 0, 0, 0, 0) := by decide +kernel
theorem r_187_17 : xrow 187 17 = some (.return_, 1, 0, 0, 0, 0) := by decide +kernel
theorem r_187_18 : xrow 187 18 = some (.aload_n 0, 1, 0, 0, 0, 0) := by decide +kernel
theorem r_187_19 : xrow 187 19 = some (.aload_n 0, 1, 0, 0, 0, 0) := by decide +kernel
theorem r_187_20 : xrow 187 20 = some (.getfield 22, 3, 22, 16, 2, 986) := by decide +kernel
theorem r_187_23 : xrow 187 23 = some (.aload_n 0, 1, 0, 0, 0, 0) := by decide +kernel
theorem r_187_24 : xrow 187 24 = some (.getfield 25, 3, 22, 17, 2, 987) := by decide +kernel
theorem r_187_27 : xrow 187 27 = some (.aload_n 0, 1, 0, 0, 0, 0) := by decide +kernel
theorem r_187_28 : xrow 187 28 = some (.getfield 231, 3, 22, 23, 0, 1045) := by decide +kernel
theorem r_187_31 : xrow 187 31 = some (.invokevirtual 312, 3, 178, 0, 0, 1069) := by decide +kernel
theorem r_187_34 : xrow 187 34 = some (.ifCond .lt 13, 3, 47, 0, 0, 0) := by decide +kernel
theorem r_187_37 : xrow 187 37 = some (.aload_n 0, 1, 0, 0, 0, 0) := by decide +kernel
theorem r_187_38 : xrow 187 38 = some (.iconst 3, 1, 0, 0, 0, 0) := by decide +kernel
theorem r_187_39 : xrow 187 39 = some (.aload_n 0, 1, 0, 0, 0, 0) := by decide +kernel
theorem r_187_40 : xrow 187 40 = some (.getfield 150, 3, 22, 4, 0, 1028) := by decide +kernel
theorem r_187_43 : xrow 187 43 = some (.invokevirtual 196, 3, 174, 0, 0, 1041) := by decide +kernel
theorem r_187_46 : xrow 187 46 = some (.pop, 1, 0, 0, 0, 0) := by decide +kernel
theorem r_187_47 : xrow 187 47 = some (.aload_n 0, 1, 0, 0, 0, 0) := by decide +kernel
theorem r_187_48 : xrow 187 48 = some (.getfield 169, 3, 22, 13, 0, 1034) := by decide +kernel
theorem r_187_51 : xrow 187 51 = some (.ifCond .ne 22, 3, 73, 0, 0, 0) := by decide +kernel
theorem r_187_54 : xrow 187 54 = some (.aload_n 0, 1, 0, 0, 0, 0) := by decide +kernel
theorem r_187_55 : xrow 187 55 = some (.getfield 231, 3, 22, 23, 0, 1045) := by decide +kernel
theorem r_187_58 : xrow 187 58 = some (.bipush 6, 2, 0, 0, 0, 0) := by decide +kernel
theorem r_187_60 : xrow 187 60 = some (.if_icmp .ne 13, 3, 73, 0, 0, 0) := by decide +kernel
theorem r_187_63 : xrow 187 63 = some (.aload_n 0, 1, 0, 0, 0, 0) := by decide +kernel
theorem r_187_64 : xrow 187 64 = some (.iconst 5, 1, 0, 0, 0, 0) := by decide +kernel
theorem r_187_65 : xrow 187 65 = some (.aload_n 0, 1, 0, 0, 0, 0) := by decide +kernel
theorem r_187_66 : xrow 187 66 = some (.getfield 150, 3, 22, 4, 0, 1028) := by decide +kernel
theorem r_187_69 : xrow 187 69 = some (.invokevirtual 196, 3, 174, 0, 0, 1041) := by decide +kernel
theorem r_187_72 : xrow 187 72 = some (.pop, 1, 0, 0, 0, 0) := by decide +kernel
theorem r_187_73 : xrow 187 73 = some (.aload_n 0, 1, 0, 0, 0, 0) := by decide +kernel
theorem r_187_74 : xrow 187 74 = some (.getfield 169, 3, 22, 13, 0, 1034) := by decide +kernel
theorem r_187_77 : xrow 187 77 = some (.ifCond .eq 4, 3, 81, 0, 0, 0) := by decide +kernel
theorem r_187_80 : xrow 187 80 = some (.return_, 1, 0, 0, 0, 0) := by decide +kernel
theorem r_187_81 : xrow 187 81 = some (.iconst 0, 1, 0, 0, 0, 0) := by decide +kernel
theorem r_187_82 : xrow 187 82 = some (.istore_n 1, 1, 0, 0, 0, 0) := by decide +kernel
theorem r_187_83 : xrow 187 83 = some (.iload_n 1, 1, 0, 0, 0, 0) := by decide +kernel
theorem r_187_84 : xrow 187 84 = some (.aload_n 0, 1, 0, 0, 0, 0) := by decide +kernel
theorem r_187_85 : xrow 187 85 = some (.getfield 153, 3, 22, 8, 0, 1029) := by decide +kernel
theorem r_187_88 : xrow 187 88 = some (.if_icmp .ge 29, 3, 117, 0, 0, 0) := by decide +kernel
theorem r_187_91 : xrow 187 91 = some (.aload_n 0, 1, 0, 0, 0, 0) := by decide +kernel
theorem r_187_92 : xrow 187 92 = some (.getfield 22, 3, 22, 16, 2, 986) := by decide +kernel
theorem r_187_95 : xrow 187 95 = some (.bipush 8, 2, 0, 0, 0, 0) := by decide +kernel
theorem r_187_97 : xrow 187 97 = some (.aload_n 0, 1, 0, 0, 0, 0) := by decide +kernel
theorem r_187_98 : xrow 187 98 = some (.getfield 231, 3, 22, 23, 0, 1045) := by decide +kernel
theorem r_187_101 : xrow 187 101 = some (.imul, 1, 0, 0, 0, 0) := by decide +kernel
theorem r_187_102 : xrow 187 102 = some (.iload_n 1, 1, 0, 0, 0, 0) := by decide +kernel
theorem r_187_103 : xrow 187 103 = some (.iadd, 1, 0, 0, 0, 0) := by decide +kernel
theorem r_187_104 : xrow 187 104 = some (.aload_n 0, 1, 0, 0, 0, 0) := by decide +kernel
theorem r_187_105 : xrow 187 105 = some (.getfield 13, 3, 22, 11, 2, 983) := by decide +kernel
theorem r_187_108 : xrow 187 108 = some (.iload_n 1, 1, 0, 0, 0, 0) := by decide +kernel
theorem r_187_109 : xrow 187 109 = some (.iaload, 1, 0, 0, 0, 0) := by decide +kernel
theorem r_187_110 : xrow 187 110 = some (.iastore, 1, 0, 0, 0, 0) := by decide +kernel
theorem r_187_111 : xrow 187 111 = some (.iinc 1 1, 3, 0, 0, 0, 0) := by decide +kernel
theorem r_187_114 : xrow 187 114 = some (.goto (-31), 3, 83, 0, 0, 0) := by decide +kernel
theorem r_187_117 : xrow 187 117 = some (.aload_n 0, 1, 0, 0, 0, 0) := by decide +kernel
theorem r_187_118 : xrow 187 118 = some (.getfield 25, 3, 22, 17, 2, 987) := by decide +kernel
theorem r_187_121 : xrow 187 121 = some (.aload_n 0, 1, 0, 0, 0, 0) := by decide +kernel
theorem r_187_122 : xrow 187 122 = some (.getfield 231, 3, 22, 23, 0, 1045) := by decide +kernel
theorem r_187_125 : xrow 187 125 = some (.aload_n 0, 1, 0, 0, 0, 0) := by decide +kernel
theorem r_187_126 : xrow 187 126 = some (.getfield 153, 3, 22, 8, 0, 1029) := by decide +kernel
theorem r_187_129 : xrow 187 129 = some (.iastore, 1, 0, 0, 0, 0) := by decide +kernel
theorem r_187_130 : xrow 187 130 = some (.aload_n 0, 1, 0, 0, 0, 0) := by decide +kernel
theorem r_187_131 : xrow 187 131 = some (.invokevirtual 173, 3, 172, 0, 0, 1035) := by decide +kernel
theorem r_187_134 : xrow 187 134 = some (.aload_n 0, 1, 0, 0, 0, 0) := by decide +kernel
theorem r_187_135 : xrow 187 135 = some (.ldc_w 322, 3, 44, 1, 0, 0) := by decide +kernel
theorem r_187_138 : xrow 187 138 = some (.invokevirtual 294, 3, 176, 0, 0, 1065) := by decide +kernel
theorem r_187_141 : xrow 187 141 = some (.pop, 1, 0, 0, 0, 0) := by decide +kernel
theorem r_187_142 : xrow 187 142 = some (.aload_n 0, 1, 0, 0, 0, 0) := by decide +kernel
theorem r_187_143 : xrow 187 143 = some (.getfield 40, 3, 22, 30, 2, 992) := by decide +kernel
theorem r_187_146 : xrow 187 146 = some (.aload_n 0, 1, 0, 0, 0, 0) := by decide +kernel
theorem r_187_147 : xrow 187 147 = some (.getfield 231, 3, 22, 23, 0, 1045) := by decide +kernel
theorem r_187_150 : xrow 187 150 = some (.aload_n 0, 1, 0, 0, 0, 0) := by decide +kernel
theorem r_187_151 : xrow 187 151 = some (.bipush (-4), 2, 0, 0, 0, 0) := by decide +kernel
theorem r_187_153 : xrow 187 153 = some (.iconst 4, 1, 0, 0, 0, 0) := by decide +kernel
theorem r_187_154 : xrow 187 154 = some (.invokevirtual 323, 3, 180, 0, 0, 1071) := by decide +kernel
theorem r_187_157 : xrow 187 157 = some (.iastore, 1, 0, 0, 0, 0) := by decide +kernel
theorem r_187_158 : xrow 187 158 = some (.aload_n 0, 1, 0, 0, 0, 0) := by decide +kernel
theorem r_187_159 : xrow 187 159 = some (.ldc_w 326, 3, 45, 1, 0, 0) := by decide +kernel
theorem r_187_162 : xrow 187 162 = some (.invokevirtual 294, 3, 176, 0, 0, 1065) := by decide +kernel
theorem r_187_165 : xrow 187 165 = some (.pop, 1, 0, 0, 0, 0) := by decide +kernel
theorem r_187_166 : xrow 187 166 = some (.aload_n 0, 1, 0, 0, 0, 0) := by decide +kernel
theorem r_187_167 : xrow 187 167 = some (.getfield 43, 3, 22, 31, 2, 993) := by decide +kernel
theorem r_187_170 : xrow 187 170 = some (.aload_n 0, 1, 0, 0, 0, 0) := by decide +kernel
theorem r_187_171 : xrow 187 171 = some (.getfield 231, 3, 22, 23, 0, 1045) := by decide +kernel
theorem r_187_174 : xrow 187 174 = some (.aload_n 0, 1, 0, 0, 0, 0) := by decide +kernel
theorem r_187_175 : xrow 187 175 = some (.bipush (-4), 2, 0, 0, 0, 0) := by decide +kernel
theorem r_187_177 : xrow 187 177 = some (.iconst 4, 1, 0, 0, 0, 0) := by decide +kernel
theorem r_187_178 : xrow 187 178 = some (.invokevirtual 323, 3, 180, 0, 0, 1071) := by decide +kernel
theorem r_187_181 : xrow 187 181 = some (.iastore, 1, 0, 0, 0, 0) := by decide +kernel
theorem r_187_182 : xrow 187 182 = some (.aload_n 0, 1, 0, 0, 0, 0) := by decide +kernel
theorem r_187_183 : xrow 187 183 = some (.ldc_w 327, 3, 46, 1, 0, 0) := by decide +kernel
theorem r_187_186 : xrow 187 186 = some (.invokevirtual 294, 3, 176, 0, 0, 1065) := by decide +kernel
theorem r_187_189 : xrow 187 189 = some (.pop, 1, 0, 0, 0, 0) := by decide +kernel
theorem r_187_190 : xrow 187 190 = some (.aload_n 0, 1, 0, 0, 0, 0) := by decide +kernel
theorem r_187_191 : xrow 187 191 = some (.getfield 46, 3, 22, 32, 2, 994) := by decide +kernel
theorem r_187_194 : xrow 187 194 = some (.aload_n 0, 1, 0, 0, 0, 0) := by decide +kernel
theorem r_187_195 : xrow 187 195 = some (.getfield 231, 3, 22, 23, 0, 1045) := by decide +kernel
theorem r_187_198 : xrow 187 198 = some (.aload_n 0, 1, 0, 0, 0, 0) := by decide +kernel
theorem r_187_199 : xrow 187 199 = some (.iconst 1, 1, 0, 0, 0, 0) := by decide +kernel
theorem r_187_200 : xrow 187 200 = some (.bipush 99, 2, 0, 0, 0, 0) := by decide +kernel
theorem r_187_202 : xrow 187 202 = some (.invokevirtual 297, 3, 179, 0, 0, 1066) := by decide +kernel
theorem r_187_205 : xrow 187 205 = some (.iastore, 1, 0, 0, 0, 0) := by decide +kernel
theorem r_187_206 : xrow 187 206 = some (.aload_n 0, 1, 0, 0, 0, 0) := by decide +kernel
theorem r_187_207 : xrow 187 207 = some (.getfield 169, 3, 22, 13, 0, 1034) := by decide +kernel
theorem r_187_210 : xrow 187 210 = some (.ifCond .ne 13, 3, 223, 0, 0, 0) := by decide +kernel
theorem r_187_213 : xrow 187 213 = some (.aload_n 0, 1, 0, 0, 0, 0) := by decide +kernel
theorem r_187_214 : xrow 187 214 = some (.dup, 1, 0, 0, 0, 0) := by decide +kernel
theorem r_187_215 : xrow 187 215 = some (.getfield 231, 3, 22, 23, 0, 1045) := by decide +kernel
theorem r_187_218 : xrow 187 218 = some (.iconst 1, 1, 0, 0, 0, 0) := by decide +kernel
theorem r_187_219 : xrow 187 219 = some (.iadd, 1, 0, 0, 0, 0) := by decide +kernel
theorem r_187_220 : xrow 187 220 = some (.putfield 231, 3, 22, 23, 0, 1045) := by decide +kernel
theorem r_187_223 : xrow 187 223 = some (.return_, 1, 0, 0, 0, 0) := by decide +kernel
theorem r_188_0 : xrow 188 0 = some (.aload_n 0, 1, 0, 0, 0, 0) := by decide +kernel
theorem r_188_1 : xrow 188 1 = some (.iconst 0, 1, 0, 0, 0, 0) := by decide +kernel
theorem r_188_2 : xrow 188 2 = some (.putfield 131, 3, 22, 0, 0, 1022) := by decide +kernel
theorem r_188_5 : xrow 188 5 = some (.aload_n 0, 1, 0, 0, 0, 0) := by decide +kernel
theorem r_188_6 : xrow 188 6 = some (.getfield 176, 3, 22, 9, 0, 1036) := by decide +kernel
theorem r_188_9 : xrow 188 9 = some (.ireturn, 1, 0, 0, 0, 0) := by decide +kernel
theorem r_189_0 : xrow 189 0 = some (.aload_n 0, 1, 0, 0, 0, 0) := by decide +kernel
theorem r_189_1 : xrow 189 1 = some (.iconst 0, 1, 0, 0, 0, 0) := by decide +kernel
theorem r_189_2 : xrow 189 2 = some (.putfield 131, 3, 22, 0, 0, 1022) := by decide +kernel
theorem r_189_5 : xrow 189 5 = some (.aload_n 0, 1, 0, 0, 0, 0) := by decide +kernel
theorem r_189_6 : xrow 189 6 = some (.getfield 134, 3, 22, 39, 0, 1023) := by decide +kernel
theorem r_189_9 : xrow 189 9 = some (.iconst 4, 1, 0, 0, 0, 0) := by decide +kernel
theorem r_189_10 : xrow 189 10 = some (.if_icmp .ne 10, 3, 20, 0, 0, 0) := by decide +kernel
theorem r_189_13 : xrow 189 13 = some (.aload_n 0, 1, 0, 0, 0, 0) := by decide +kernel
theorem r_189_14 : xrow 189 14 = some (.getfield 179, 3, 22, 10, 0, 1037) := by decide +kernel
theorem r_189_17 : xrow 189 17 = some (.goto 4, 3, 21, 0, 0, 0) := by decide +kernel
theorem r_189_20 : xrow 189 20 = some (.iconst (-1), 1, 0, 0, 0, 0) := by decide +kernel
theorem r_189_21 : xrow 189 21 = some (.ireturn, 1, 0, 0, 0, 0) := by decide +kernel
theorem r_190_0 : xrow 190 0 = some (.iload_n 0, 1, 0, 0, 0, 0) := by decide +kernel
theorem r_190_1 : xrow 190 1 = some (.iload_n 1, 1, 0, 0, 0, 0) := by decide +kernel
theorem r_190_2 : xrow 190 2 = some (.idiv, 1, 0, 0, 0, 0) := by decide +kernel
theorem r_190_3 : xrow 190 3 = some (.istore_n 2, 1, 0, 0, 0, 0) := by decide +kernel
theorem r_190_4 : xrow 190 4 = some (.iload_n 0, 1, 0, 0, 0, 0) := by decide +kernel
theorem r_190_5 : xrow 190 5 = some (.iload_n 1, 1, 0, 0, 0, 0) := by decide +kernel
theorem r_190_6 : xrow 190 6 = some (.irem, 1, 0, 0, 0, 0) := by decide +kernel
theorem r_190_7 : xrow 190 7 = some (.ifCond .eq 13, 3, 20, 0, 0, 0) := by decide +kernel
theorem r_190_10 : xrow 190 10 = some (.iload_n 0, 1, 0, 0, 0, 0) := by decide +kernel
theorem r_190_11 : xrow 190 11 = some (.ifCond .ge 9, 3, 20, 0, 0, 0) := by decide +kernel
theorem r_190_14 : xrow 190 14 = some (.iload_n 2, 1, 0, 0, 0, 0) := by decide +kernel
theorem r_190_15 : xrow 190 15 = some (.iconst 1, 1, 0, 0, 0, 0) := by decide +kernel
theorem r_190_16 : xrow 190 16 = some (.isub, 1, 0, 0, 0, 0) := by decide +kernel
theorem r_190_17 : xrow 190 17 = some (.goto 4, 3, 21, 0, 0, 0) := by decide +kernel
theorem r_190_20 : xrow 190 20 = some (.iload_n 2, 1, 0, 0, 0, 0) := by decide +kernel
theorem r_190_21 : xrow 190 21 = some (.ireturn, 1, 0, 0, 0, 0) := by decide +kernel
theorem r_191_0 : xrow 191 0 = some (.bipush 8, 2, 0, 0, 0, 0) := by decide +kernel
theorem r_191_2 : xrow 191 2 = some (.iload_n 1, 1, 0, 0, 0, 0) := by decide +kernel
theorem r_191_3 : xrow 191 3 = some (.imul, 1, 0, 0, 0, 0) := by decide +kernel
theorem r_191_4 : xrow 191 4 = some (.istore 4, 2, 0, 0, 0, 0) := by decide +kernel
theorem r_191_6 : xrow 191 6 = some (.iload_n 3, 1, 0, 0, 0, 0) := by decide +kernel
theorem r_191_7 : xrow 191 7 = some (.aload_n 0, 1, 0, 0, 0, 0) := by decide +kernel
theorem r_191_8 : xrow 191 8 = some (.iload 4, 2, 0, 0, 0, 0) := by decide +kernel
theorem r_191_10 : xrow 191 10 = some (.iaload, 1, 0, 0, 0, 0) := by decide +kernel
theorem r_191_11 : xrow 191 11 = some (.if_icmp .gt 10, 3, 21, 0, 0, 0) := by decide +kernel
theorem r_191_14 : xrow 191 14 = some (.aload_n 0, 1, 0, 0, 0, 0) := by decide +kernel
theorem r_191_15 : xrow 191 15 = some (.iload 4, 2, 0, 0, 0, 0) := by decide +kernel
theorem r_191_17 : xrow 191 17 = some (.iconst 1, 1, 0, 0, 0, 0) := by decide +kernel
theorem r_191_18 : xrow 191 18 = some (.iadd, 1, 0, 0, 0, 0) := by decide +kernel
theorem r_191_19 : xrow 191 19 = some (.iaload, 1, 0, 0, 0, 0) := by decide +kernel
theorem r_191_20 : xrow 191 20 = some (.ireturn, 1, 0, 0, 0, 0) := by decide +kernel
theorem r_191_21 : xrow 191 21 = some (.iconst 1, 1, 0, 0, 0, 0) := by decide +kernel
theorem r_191_22 : xrow 191 22 = some (.istore 5, 2, 0, 0, 0, 0) := by decide +kernel
theorem r_191_24 : xrow 191 24 = some (.iload 5, 2, 0, 0, 0, 0) := by decide +kernel
theorem r_191_26 : xrow 191 26 = some (.iload_n 2, 1, 0, 0, 0, 0) := by decide +kernel
theorem r_191_27 : xrow 191 27 = some (.if_icmp .ge 90, 3, 117, 0, 0, 0) := by decide +kernel
theorem r_191_30 : xrow 191 30 = some (.aload_n 0, 1, 0, 0, 0, 0) := by decide +kernel
theorem r_191_31 : xrow 191 31 = some (.iload 4, 2, 0, 0, 0, 0) := by decide +kernel
theorem r_191_33 : xrow 191 33 = some (.iconst 2, 1, 0, 0, 0, 0) := by decide +kernel
theorem r_191_34 : xrow 191 34 = some (.iload 5, 2, 0, 0, 0, 0) := by decide +kernel
theorem r_191_36 : xrow 191 36 = some (.imul, 1, 0, 0, 0, 0) := by decide +kernel
theorem r_191_37 : xrow 191 37 = some (.iadd, 1, 0, 0, 0, 0) := by decide +kernel
theorem r_191_38 : xrow 191 38 = some (.iconst 2, 1, 0, 0, 0, 0) := by decide +kernel
theorem r_191_39 : xrow 191 39 = some (.isub, 1, 0, 0, 0, 0) := by decide +kernel
theorem r_191_40 : xrow 191 40 = some (.iaload, 1, 0, 0, 0, 0) := by decide +kernel
theorem r_191_41 : xrow 191 41 = some (.istore 6, 2, 0, 0, 0, 0) := by decide +kernel
theorem r_191_43 : xrow 191 43 = some (.aload_n 0, 1, 0, 0, 0, 0) := by decide +kernel
theorem r_191_44 : xrow 191 44 = some (.iload 4, 2, 0, 0, 0, 0) := by decide +kernel
theorem r_191_46 : xrow 191 46 = some (.iconst 2, 1, 0, 0, 0, 0) := by decide +kernel
theorem r_191_47 : xrow 191 47 = some (.iload 5, 2, 0, 0, 0, 0) := by decide +kernel
theorem r_191_49 : xrow 191 49 = some (.imul, 1, 0, 0, 0, 0) := by decide +kernel
theorem r_191_50 : xrow 191 50 = some (.iadd, 1, 0, 0, 0, 0) := by decide +kernel
theorem r_191_51 : xrow 191 51 = some (.iaload, 1, 0, 0, 0, 0) := by decide +kernel
theorem r_191_52 : xrow 191 52 = some (.istore 7, 2, 0, 0, 0, 0) := by decide +kernel
theorem r_191_54 : xrow 191 54 = some (.iload_n 3, 1, 0, 0, 0, 0) := by decide +kernel
theorem r_191_55 : xrow 191 55 = some (.iload 7, 2, 0, 0, 0, 0) := by decide +kernel
theorem r_191_57 : xrow 191 57 = some (.if_icmp .le 6, 3, 63, 0, 0, 0) := by decide +kernel
theorem r_191_60 : xrow 191 60 = some (.goto 51, 3, 111, 0, 0, 0) := by decide +kernel
theorem r_191_63 : xrow 191 63 = some (.aload_n 0, 1, 0, 0, 0, 0) := by decide +kernel
theorem r_191_64 : xrow 191 64 = some (.iload 4, 2, 0, 0, 0, 0) := by decide +kernel
theorem r_191_66 : xrow 191 66 = some (.iconst 2, 1, 0, 0, 0, 0) := by decide +kernel
theorem r_191_67 : xrow 191 67 = some (.iload 5, 2, 0, 0, 0, 0) := by decide +kernel
theorem r_191_69 : xrow 191 69 = some (.imul, 1, 0, 0, 0, 0) := by decide +kernel
theorem r_191_70 : xrow 191 70 = some (.iadd, 1, 0, 0, 0, 0) := by decide +kernel
theorem r_191_71 : xrow 191 71 = some (.iconst 1, 1, 0, 0, 0, 0) := by decide +kernel
theorem r_191_72 : xrow 191 72 = some (.isub, 1, 0, 0, 0, 0) := by decide +kernel
theorem r_191_73 : xrow 191 73 = some (.iaload, 1, 0, 0, 0, 0) := by decide +kernel
theorem r_191_74 : xrow 191 74 = some (.istore 8, 2, 0, 0, 0, 0) := by decide +kernel
theorem r_191_76 : xrow 191 76 = some (.aload_n 0, 1, 0, 0, 0, 0) := by decide +kernel
theorem r_191_77 : xrow 191 77 = some (.iload 4, 2, 0, 0, 0, 0) := by decide +kernel
theorem r_191_79 : xrow 191 79 = some (.iconst 2, 1, 0, 0, 0, 0) := by decide +kernel
theorem r_191_80 : xrow 191 80 = some (.iload 5, 2, 0, 0, 0, 0) := by decide +kernel
theorem r_191_82 : xrow 191 82 = some (.imul, 1, 0, 0, 0, 0) := by decide +kernel
theorem r_191_83 : xrow 191 83 = some (.iadd, 1, 0, 0, 0, 0) := by decide +kernel
theorem r_191_84 : xrow 191 84 = some (.iconst 1, 1, 0, 0, 0, 0) := by decide +kernel
theorem r_191_85 : xrow 191 85 = some (.iadd, 1, 0, 0, 0, 0) := by decide +kernel
theorem r_191_86 : xrow 191 86 = some (.iaload, 1, 0, 0, 0, 0) := by decide +kernel
theorem r_191_87 : xrow 191 87 = some (.istore 9, 2, 0, 0, 0, 0) := by decide +kernel
theorem r_191_89 : xrow 191 89 = some (.iload 8, 2, 0, 0, 0, 0) := by decide +kernel
theorem r_191_91 : xrow 191 91 = some (.iload 9, 2, 0, 0, 0, 0) := by decide +kernel
theorem r_191_93 : xrow 191 93 = some (.iload 8, 2, 0, 0, 0, 0) := by decide +kernel
theorem r_191_95 : xrow 191 95 = some (.isub, 1, 0, 0, 0, 0) := by decide +kernel
theorem r_191_96 : xrow 191 96 = some (.iload_n 3, 1, 0, 0, 0, 0) := by decide +kernel
theorem r_191_97 : xrow 191 97 = some (.iload 6, 2, 0, 0, 0, 0) := by decide +kernel
theorem r_191_99 : xrow 191 99 = some (.isub, 1, 0, 0, 0, 0) := by decide +kernel
theorem r_191_100 : xrow 191 100 = some (.imul, 1, 0, 0, 0, 0) := by decide +kernel
theorem r_191_101 : xrow 191 101 = some (.iload 7, 2, 0, 0, 0, 0) := by decide +kernel
theorem r_191_103 : xrow 191 103 = some (.iload 6, 2, 0, 0, 0, 0) := by decide +kernel
theorem r_191_105 : xrow 191 105 = some (.isub, 1, 0, 0, 0, 0) := by decide +kernel
theorem r_191_106 : xrow 191 106 = some (.invokestatic 329, 3, 190, 0, 0, 1072) := by decide +kernel
theorem r_191_109 : xrow 191 109 = some (.iadd, 1, 0, 0, 0, 0) := by decide +kernel
theorem r_191_110 : xrow 191 110 = some (.ireturn, 1, 0, 0, 0, 0) := by decide +kernel
theorem r_191_111 : xrow 191 111 = some (.iinc 5 1, 3, 0, 0, 0, 0) := by decide +kernel
theorem r_191_114 : xrow 191 114 = some (.goto (-90), 3, 24, 0, 0, 0) := by decide +kernel
theorem r_191_117 : xrow 191 117 = some (.aload_n 0, 1, 0, 0, 0, 0) := by decide +kernel
theorem r_191_118 : xrow 191 118 = some (.iload 4, 2, 0, 0, 0, 0) := by decide +kernel
theorem r_191_120 : xrow 191 120 = some (.iconst 2, 1, 0, 0, 0, 0) := by decide +kernel
theorem r_191_121 : xrow 191 121 = some (.iload_n 2, 1, 0, 0, 0, 0) := by decide +kernel
theorem r_191_122 : xrow 191 122 = some (.imul, 1, 0, 0, 0, 0) := by decide +kernel
theorem r_191_123 : xrow 191 123 = some (.iadd, 1, 0, 0, 0, 0) := by decide +kernel
theorem r_191_124 : xrow 191 124 = some (.iconst 1, 1, 0, 0, 0, 0) := by decide +kernel
theorem r_191_125 : xrow 191 125 = some (.isub, 1, 0, 0, 0, 0) := by decide +kernel
theorem r_191_126 : xrow 191 126 = some (.iaload, 1, 0, 0, 0, 0) := by decide +kernel
theorem r_191_127 : xrow 191 127 = some (.ireturn, 1, 0, 0, 0, 0) := by decide +kernel
theorem r_192_0 : xrow 192 0 = some (.aload_n 0, 1, 0, 0, 0, 0) := by decide +kernel
theorem r_192_1 : xrow 192 1 = some (.getfield 269, 3, 22, 12, 0, 1057) := by decide +kernel
theorem r_192_4 : xrow 192 4 = some (.ifCond .eq 21, 3, 25, 0, 0, 0) := by decide +kernel
theorem r_192_7 : xrow 192 7 = some (.iload_n 1, 1, 0, 0, 0, 0) := by decide +kernel
theorem r_192_8 : xrow 192 8 = some (.iconst 0, 1, 0, 0, 0, 0) := by decide +kernel
theorem r_192_9 : xrow 192 9 = some (.aload_n 0, 1, 0, 0, 0, 0) := by decide +kernel
theorem r_192_10 : xrow 192 10 = some (.getfield 228, 3, 22, 22, 0, 1044) := by decide +kernel
theorem r_192_13 : xrow 192 13 = some (.iconst 1, 1, 0, 0, 0, 0) := by decide +kernel
theorem r_192_14 : xrow 192 14 = some (.isub, 1, 0, 0, 0, 0) := by decide +kernel
theorem r_192_15 : xrow 192 15 = some (.invokestatic 220, 3, 167, 0, 0, 1042) := by decide +kernel
theorem r_192_18 : xrow 192 18 = some (.ifCond .eq 7, 3, 25, 0, 0, 0) := by decide +kernel
theorem r_192_21 : xrow 192 21 = some (.iconst 1, 1, 0, 0, 0, 0) := by decide +kernel
theorem r_192_22 : xrow 192 22 = some (.goto 4, 3, 26, 0, 0, 0) := by decide +kernel
theorem r_192_25 : xrow 192 25 = some (.iconst 0, 1, 0, 0, 0, 0) := by decide +kernel
theorem r_192_26 : xrow 192 26 = some (.ireturn, 1, 1, 0, 0, 0) := by decide +kernel
theorem r_193_0 : xrow 193 0 = some (.aload_n 0, 1, 0, 0, 0, 0) := by decide +kernel
theorem r_193_1 : xrow 193 1 = some (.invokevirtual 249, 3, 164, 0, 0, 1051) := by decide +kernel
theorem r_193_4 : xrow 193 4 = some (.aload_n 0, 1, 0, 0, 0, 0) := by decide +kernel
theorem r_193_5 : xrow 193 5 = some (.iload_n 1, 1, 0, 0, 0, 0) := by decide +kernel
theorem r_193_6 : xrow 193 6 = some (.invokevirtual 331, 3, 192, 0, 0, 1073) := by decide +kernel
theorem r_193_9 : xrow 193 9 = some (.ifCond .ne 9, 3, 18, 0, 0, 0) := by decide +kernel
theorem r_193_12 : xrow 193 12 = some (.aload_n 0, 1, 0, 0, 0, 0) := by decide +kernel
theorem r_193_13 : xrow 193 13 = some (.iconst 1, 1, 0, 0, 0, 0) := by decide +kernel
theorem r_193_14 : xrow 193 14 = some (.invokevirtual 252, 3, 165, 0, 0, 1052) := by decide +kernel
theorem r_193_17 : xrow 193 17 = some (.ireturn, 1, 0, 0, 0, 0) := by decide +kernel
theorem r_193_18 : xrow 193 18 = some (.iload_n 2, 1, 0, 0, 0, 0) := by decide +kernel
theorem r_193_19 : xrow 193 19 = some (.iconst 0, 1, 0, 0, 0, 0) := by decide +kernel
theorem r_193_20 : xrow 193 20 = some (.sipush 999, 3, 0, 0, 0, 0) := by decide +kernel
theorem r_193_23 : xrow 193 23 = some (.invokestatic 220, 3, 167, 0, 0, 1042) := by decide +kernel
theorem r_193_26 : xrow 193 26 = some (.ifCond .eq 21, 3, 47, 0, 0, 0) := by decide +kernel
theorem r_193_29 : xrow 193 29 = some (.aload_n 0, 1, 0, 0, 0, 0) := by decide +kernel
theorem r_193_30 : xrow 193 30 = some (.getfield 34, 3, 22, 20, 2, 990) := by decide +kernel
theorem r_193_33 : xrow 193 33 = some (.iload_n 1, 1, 0, 0, 0, 0) := by decide +kernel
theorem r_193_34 : xrow 193 34 = some (.aload_n 0, 1, 0, 0, 0, 0) := by decide +kernel
theorem r_193_35 : xrow 193 35 = some (.getfield 28, 3, 22, 18, 2, 988) := by decide +kernel
theorem r_193_38 : xrow 193 38 = some (.iload_n 1, 1, 0, 0, 0, 0) := by decide +kernel
theorem r_193_39 : xrow 193 39 = some (.iaload, 1, 0, 0, 0, 0) := by decide +kernel
theorem r_193_40 : xrow 193 40 = some (.iload_n 2, 1, 0, 0, 0, 0) := by decide +kernel
theorem r_193_41 : xrow 193 41 = some (.invokestatic 334, 3, 191, 0, 0, 1074) := by decide +kernel
theorem r_193_44 : xrow 193 44 = some (.goto 8, 3, 52, 0, 0, 0) := by decide +kernel
theorem r_193_47 : xrow 193 47 = some (.aload_n 0, 1, 0, 0, 0, 0) := by decide +kernel
theorem r_193_48 : xrow 193 48 = some (.iconst 2, 1, 0, 0, 0, 0) := by decide +kernel
theorem r_193_49 : xrow 193 49 = some (.invokevirtual 252, 3, 165, 0, 0, 1052) := by decide +kernel
theorem r_193_52 : xrow 193 52 = some (.ireturn, 1, 0, 0, 0, 0) := by decide +kernel
theorem r_194_0 : xrow 194 0 = some (.aload_n 0, 1, 0, 0, 0, 0) := by decide +kernel
theorem r_194_1 : xrow 194 1 = some (.invokevirtual 249, 3, 164, 0, 0, 1051) := by decide +kernel
theorem r_194_4 : xrow 194 4 = some (.aload_n 0, 1, 0, 0, 0, 0) := by decide +kernel
theorem r_194_5 : xrow 194 5 = some (.iload_n 1, 1, 0, 0, 0, 0) := by decide +kernel
theorem r_194_6 : xrow 194 6 = some (.invokevirtual 331, 3, 192, 0, 0, 1073) := by decide +kernel
theorem r_194_9 : xrow 194 9 = some (.ifCond .ne 9, 3, 18, 0, 0, 0) := by decide +kernel
theorem r_194_12 : xrow 194 12 = some (.aload_n 0, 1, 0, 0, 0, 0) := by decide +kernel
theorem r_194_13 : xrow 194 13 = some (.iconst 1, 1, 0, 0, 0, 0) := by decide +kernel
theorem r_194_14 : xrow 194 14 = some (.invokevirtual 252, 3, 165, 0, 0, 1052) := by decide +kernel
theorem r_194_17 : xrow 194 17 = some (.ireturn, 1, 0, 0, 0, 0) := by decide +kernel
theorem r_194_18 : xrow 194 18 = some (.iload_n 2, 1, 0, 0, 0, 0) := by decide +kernel
theorem r_194_19 : xrow 194 19 = some (.iconst 0, 1, 0, 0, 0, 0) := by decide +kernel
theorem r_194_20 : xrow 194 20 = some (.bipush 90, 2, 0, 0, 0, 0) := by decide +kernel
theorem r_194_22 : xrow 194 22 = some (.invokestatic 220, 3, 167, 0, 0, 1042) := by decide +kernel
theorem r_194_25 : xrow 194 25 = some (.ifCond .eq 21, 3, 46, 0, 0, 0) := by decide +kernel
theorem r_194_28 : xrow 194 28 = some (.aload_n 0, 1, 0, 0, 0, 0) := by decide +kernel
theorem r_194_29 : xrow 194 29 = some (.getfield 37, 3, 22, 21, 2, 991) := by decide +kernel
theorem r_194_32 : xrow 194 32 = some (.iload_n 1, 1, 0, 0, 0, 0) := by decide +kernel
theorem r_194_33 : xrow 194 33 = some (.aload_n 0, 1, 0, 0, 0, 0) := by decide +kernel
theorem r_194_34 : xrow 194 34 = some (.getfield 31, 3, 22, 19, 2, 989) := by decide +kernel
theorem r_194_37 : xrow 194 37 = some (.iload_n 1, 1, 0, 0, 0, 0) := by decide +kernel
theorem r_194_38 : xrow 194 38 = some (.iaload, 1, 0, 0, 0, 0) := by decide +kernel
theorem r_194_39 : xrow 194 39 = some (.iload_n 2, 1, 0, 0, 0, 0) := by decide +kernel
theorem r_194_40 : xrow 194 40 = some (.invokestatic 334, 3, 191, 0, 0, 1074) := by decide +kernel
theorem r_194_43 : xrow 194 43 = some (.goto 8, 3, 51, 0, 0, 0) := by decide +kernel
theorem r_194_46 : xrow 194 46 = some (.aload_n 0, 1, 0, 0, 0, 0) := by decide +kernel
theorem r_194_47 : xrow 194 47 = some (.iconst 2, 1, 0, 0, 0, 0) := by decide +kernel
theorem r_194_48 : xrow 194 48 = some (.invokevirtual 252, 3, 165, 0, 0, 1052) := by decide +kernel
theorem r_194_51 : xrow 194 51 = some (.ireturn, 1, 0, 0, 0, 0) := by decide +kernel
theorem r_195_0 : xrow 195 0 = some (.aload_n 0, 1, 0, 0, 0, 0) := by decide +kernel
theorem r_195_1 : xrow 195 1 = some (.invokevirtual 249, 3, 164, 0, 0, 1051) := by decide +kernel
theorem r_195_4 : xrow 195 4 = some (.aload_n 0, 1, 0, 0, 0, 0) := by decide +kernel
theorem r_195_5 : xrow 195 5 = some (.getfield 269, 3, 22, 12, 0, 1057) := by decide +kernel
theorem r_195_8 : xrow 195 8 = some (.ifCond .ne 9, 3, 17, 0, 0, 0) := by decide +kernel
theorem r_195_11 : xrow 195 11 = some (.aload_n 0, 1, 0, 0, 0, 0) := by decide +kernel
theorem r_195_12 : xrow 195 12 = some (.iconst 1, 1, 0, 0, 0, 0) := by decide +kernel
theorem r_195_13 : xrow 195 13 = some (.invokevirtual 338, 3, 166, 0, 0, 1075) := by decide +kernel
theorem r_195_16 : xrow 195 16 = some (.ireturn, 1, 1, 0, 0, 0) := by decide +kernel
theorem r_195_17 : xrow 195 17 = some (.iload_n 1, 1, 0, 0, 0, 0) := by decide +kernel
theorem r_195_18 : xrow 195 18 = some (.iconst 0, 1, 0, 0, 0, 0) := by decide +kernel
theorem r_195_19 : xrow 195 19 = some (.aload_n 0, 1, 0, 0, 0, 0) := by decide +kernel
theorem r_195_20 : xrow 195 20 = some (.getfield 234, 3, 22, 24, 0, 1046) := by decide +kernel
theorem r_195_23 : xrow 195 23 = some (.iconst 1, 1, 0, 0, 0, 0) := by decide +kernel
theorem r_195_24 : xrow 195 24 = some (.isub, 1, 0, 0, 0, 0) := by decide +kernel
theorem r_195_25 : xrow 195 25 = some (.invokestatic 220, 3, 167, 0, 0, 1042) := by decide +kernel
theorem r_195_28 : xrow 195 28 = some (.ifCond .ne 9, 3, 37, 0, 0, 0) := by decide +kernel
theorem r_195_31 : xrow 195 31 = some (.aload_n 0, 1, 0, 0, 0, 0) := by decide +kernel
theorem r_195_32 : xrow 195 32 = some (.iconst 2, 1, 0, 0, 0, 0) := by decide +kernel
theorem r_195_33 : xrow 195 33 = some (.invokevirtual 338, 3, 166, 0, 0, 1075) := by decide +kernel
theorem r_195_36 : xrow 195 36 = some (.ireturn, 1, 1, 0, 0, 0) := by decide +kernel
theorem r_195_37 : xrow 195 37 = some (.aload_n 0, 1, 0, 0, 0, 0) := by decide +kernel
theorem r_195_38 : xrow 195 38 = some (.iload_n 1, 1, 0, 0, 0, 0) := by decide +kernel
theorem r_195_39 : xrow 195 39 = some (.putfield 284, 3, 22, 38, 0, 1062) := by decide +kernel
theorem r_195_42 : xrow 195 42 = some (.aload_n 0, 1, 0, 0, 0, 0) := by decide +kernel
theorem r_195_43 : xrow 195 43 = some (.iconst 0, 1, 0, 0, 0, 0) := by decide +kernel
theorem r_195_44 : xrow 195 44 = some (.putfield 287, 3, 22, 51, 3, 1063) := by decide +kernel
theorem r_195_47 : xrow 195 47 = some (.iconst 1, 1, 0, 0, 0, 0) := by decide +kernel
theorem r_195_48 : xrow 195 48 = some (.ireturn, 1, 1, 0, 0, 0) := by decide +kernel
theorem r_196_0 : xrow 196 0 = some (.aload_n 0, 1, 0, 0, 0, 0) := by decide +kernel
theorem r_196_1 : xrow 196 1 = some (.invokevirtual 249, 3, 164, 0, 0, 1051) := by decide +kernel
theorem r_196_4 : xrow 196 4 = some (.aload_n 0, 1, 0, 0, 0, 0) := by decide +kernel
theorem r_196_5 : xrow 196 5 = some (.getfield 269, 3, 22, 12, 0, 1057) := by decide +kernel
theorem r_196_8 : xrow 196 8 = some (.ifCond .eq 10, 3, 18, 0, 0, 0) := by decide +kernel
theorem r_196_11 : xrow 196 11 = some (.aload_n 0, 1, 0, 0, 0, 0) := by decide +kernel
theorem r_196_12 : xrow 196 12 = some (.getfield 228, 3, 22, 22, 0, 1044) := by decide +kernel
theorem r_196_15 : xrow 196 15 = some (.ifCond .ne 9, 3, 24, 0, 0, 0) := by decide +kernel
theorem r_196_18 : xrow 196 18 = some (.aload_n 0, 1, 0, 0, 0, 0) := by decide +kernel
theorem r_196_19 : xrow 196 19 = some (.iconst 1, 1, 0, 0, 0, 0) := by decide +kernel
theorem r_196_20 : xrow 196 20 = some (.invokevirtual 252, 3, 165, 0, 0, 1052) := by decide +kernel
theorem r_196_23 : xrow 196 23 = some (.ireturn, 1, 0, 0, 0, 0) := by decide +kernel
theorem r_196_24 : xrow 196 24 = some (.iload_n 1, 1, 0, 0, 0, 0) := by decide +kernel
theorem r_196_25 : xrow 196 25 = some (.iconst 1, 1, 0, 0, 0, 0) := by decide +kernel
theorem r_196_26 : xrow 196 26 = some (.bipush 10, 2, 0, 0, 0, 0) := by decide +kernel
theorem r_196_28 : xrow 196 28 = some (.invokestatic 220, 3, 167, 0, 0, 1042) := by decide +kernel
theorem r_196_31 : xrow 196 31 = some (.ifCond .eq 13, 3, 44, 0, 0, 0) := by decide +kernel
theorem r_196_34 : xrow 196 34 = some (.iload_n 2, 1, 0, 0, 0, 0) := by decide +kernel
theorem r_196_35 : xrow 196 35 = some (.iconst 1, 1, 0, 0, 0, 0) := by decide +kernel
theorem r_196_36 : xrow 196 36 = some (.bipush 10, 2, 0, 0, 0, 0) := by decide +kernel
theorem r_196_38 : xrow 196 38 = some (.invokestatic 220, 3, 167, 0, 0, 1042) := by decide +kernel
theorem r_196_41 : xrow 196 41 = some (.ifCond .ne 9, 3, 50, 0, 0, 0) := by decide +kernel
theorem r_196_44 : xrow 196 44 = some (.aload_n 0, 1, 0, 0, 0, 0) := by decide +kernel
theorem r_196_45 : xrow 196 45 = some (.iconst 2, 1, 0, 0, 0, 0) := by decide +kernel
theorem r_196_46 : xrow 196 46 = some (.invokevirtual 252, 3, 165, 0, 0, 1052) := by decide +kernel
theorem r_196_49 : xrow 196 49 = some (.ireturn, 1, 0, 0, 0, 0) := by decide +kernel
theorem r_196_50 : xrow 196 50 = some (.aload_n 0, 1, 0, 0, 0, 0) := by decide +kernel
theorem r_196_51 : xrow 196 51 = some (.iconst 1, 1, 0, 0, 0, 0) := by decide +kernel
theorem r_196_52 : xrow 196 52 = some (.putfield 275, 3, 22, 34, 3, 1059) := by decide +kernel
theorem r_196_55 : xrow 196 55 = some (.aload_n 0, 1, 0, 0, 0, 0) := by decide +kernel
theorem r_196_56 : xrow 196 56 = some (.iload_n 1, 1, 0, 0, 0, 0) := by decide +kernel
theorem r_196_57 : xrow 196 57 = some (.putfield 341, 3, 22, 35, 0, 1076) := by decide +kernel
theorem r_196_60 : xrow 196 60 = some (.aload_n 0, 1, 0, 0, 0, 0) := by decide +kernel
theorem r_196_61 : xrow 196 61 = some (.iload_n 2, 1, 0, 0, 0, 0) := by decide +kernel
theorem r_196_62 : xrow 196 62 = some (.putfield 344, 3, 22, 36, 0, 1077) := by decide +kernel
theorem r_196_65 : xrow 196 65 = some (.aload_n 0, 1, 0, 0, 0, 0) := by decide +kernel
theorem r_196_66 : xrow 196 66 = some (.iconst 0, 1, 0, 0, 0, 0) := by decide +kernel
theorem r_196_67 : xrow 196 67 = some (.putfield 281, 3, 22, 37, 0, 1061) := by decide +kernel
theorem r_196_70 : xrow 196 70 = some (.aload_n 0, 1, 0, 0, 0, 0) := by decide +kernel
theorem r_196_71 : xrow 196 71 = some (.iconst 0, 1, 0, 0, 0, 0) := by decide +kernel
theorem r_196_72 : xrow 196 72 = some (.putfield 278, 3, 22, 40, 0, 1060) := by decide +kernel
theorem r_196_75 : xrow 196 75 = some (.aload_n 0, 1, 0, 0, 0, 0) := by decide +kernel
theorem r_196_76 : xrow 196 76 = some (.iconst 0, 1, 0, 0, 0, 0) := by decide +kernel
theorem r_196_77 : xrow 196 77 = some (.putfield 287, 3, 22, 51, 3, 1063) := by decide +kernel
theorem r_196_80 : xrow 196 80 = some (.iconst 0, 1, 0, 0, 0, 0) := by decide +kernel
theorem r_196_81 : xrow 196 81 = some (.istore_n 3, 1, 0, 0, 0, 0) := by decide +kernel
theorem r_196_82 : xrow 196 82 = some (.iload_n 3, 1, 0, 0, 0, 0) := by decide +kernel
theorem r_196_83 : xrow 196 83 = some (.bipush 100, 2, 0, 0, 0, 0) := by decide +kernel
theorem r_196_85 : xrow 196 85 = some (.if_icmp .ge 30, 3, 115, 0, 0, 0) := by decide +kernel
theorem r_196_88 : xrow 196 88 = some (.aload_n 0, 1, 0, 0, 0, 0) := by decide +kernel
theorem r_196_89 : xrow 196 89 = some (.getfield 52, 3, 22, 41, 2, 996) := by decide +kernel
theorem r_196_92 : xrow 196 92 = some (.iload_n 3, 1, 0, 0, 0, 0) := by decide +kernel
theorem r_196_93 : xrow 196 93 = some (.iconst 0, 1, 0, 0, 0, 0) := by decide +kernel
theorem r_196_94 : xrow 196 94 = some (.iastore, 1, 0, 0, 0, 0) := by decide +kernel
theorem r_196_95 : xrow 196 95 = some (.aload_n 0, 1, 0, 0, 0, 0) := by decide +kernel
theorem r_196_96 : xrow 196 96 = some (.getfield 55, 3, 22, 42, 2, 997) := by decide +kernel
theorem r_196_99 : xrow 196 99 = some (.iload_n 3, 1, 0, 0, 0, 0) := by decide +kernel
theorem r_196_100 : xrow 196 100 = some (.iconst 0, 1, 0, 0, 0, 0) := by decide +kernel
theorem r_196_101 : xrow 196 101 = some (.iastore, 1, 0, 0, 0, 0) := by decide +kernel
theorem r_196_102 : xrow 196 102 = some (.aload_n 0, 1, 0, 0, 0, 0) := by decide +kernel
theorem r_196_103 : xrow 196 103 = some (.getfield 58, 3, 22, 43, 2, 998) := by decide +kernel
theorem r_196_106 : xrow 196 106 = some (.iload_n 3, 1, 0, 0, 0, 0) := by decide +kernel
theorem r_196_107 : xrow 196 107 = some (.iconst (-1), 1, 0, 0, 0, 0) := by decide +kernel
theorem r_196_108 : xrow 196 108 = some (.iastore, 1, 0, 0, 0, 0) := by decide +kernel
theorem r_196_109 : xrow 196 109 = some (.iinc 3 1, 3, 0, 0, 0, 0) := by decide +kernel
theorem r_196_112 : xrow 196 112 = some (.goto (-30), 3, 82, 0, 0, 0) := by decide +kernel
theorem r_196_115 : xrow 196 115 = some (.iload_n 1, 1, 0, 0, 0, 0) := by decide +kernel
theorem r_196_116 : xrow 196 116 = some (.iload_n 2, 1, 0, 0, 0, 0) := by decide +kernel
theorem r_196_117 : xrow 196 117 = some (.imul, 1, 0, 0, 0, 0) := by decide +kernel
theorem r_196_118 : xrow 196 118 = some (.ireturn, 1, 0, 0, 0, 0) := by decide +kernel
theorem r_197_0 : xrow 197 0 = some (.aload_n 0, 1, 0, 0, 0, 0) := by decide +kernel
theorem r_197_1 : xrow 197 1 = some (.getfield 275, 3, 22, 34, 0, 1059) := by decide +kernel
theorem r_197_4 : xrow 197 4 = some (.ifCond .eq 26, 3, 30, 0, 0, 0) := by decide +kernel
theorem r_197_7 : xrow 197 7 = some (.iload_n 1, 1, 0, 0, 0, 0) := by decide +kernel
theorem r_197_8 : xrow 197 8 = some (.iconst 0, 1, 0, 0, 0, 0) := by decide +kernel
theorem r_197_9 : xrow 197 9 = some (.aload_n 0, 1, 0, 0, 0, 0) := by decide +kernel
theorem r_197_10 : xrow 197 10 = some (.getfield 341, 3, 22, 35, 0, 1076) := by decide +kernel
theorem r_197_13 : xrow 197 13 = some (.aload_n 0, 1, 0, 0, 0, 0) := by decide +kernel
theorem r_197_14 : xrow 197 14 = some (.getfield 344, 3, 22, 36, 0, 1077) := by decide +kernel
theorem r_197_17 : xrow 197 17 = some (.imul, 1, 0, 0, 0, 0) := by decide +kernel
theorem r_197_18 : xrow 197 18 = some (.iconst 1, 1, 0, 0, 0, 0) := by decide +kernel
theorem r_197_19 : xrow 197 19 = some (.isub, 1, 0, 0, 0, 0) := by decide +kernel
theorem r_197_20 : xrow 197 20 = some (.invokestatic 220, 3, 167, 0, 0, 1042) := by decide +kernel
theorem r_197_23 : xrow 197 23 = some (.ifCond .eq 7, 3, 30, 0, 0, 0) := by decide +kernel
theorem r_197_26 : xrow 197 26 = some (.iconst 1, 1, 0, 0, 0, 0) := by decide +kernel
theorem r_197_27 : xrow 197 27 = some (.goto 4, 3, 31, 0, 0, 0) := by decide +kernel
theorem r_197_30 : xrow 197 30 = some (.iconst 0, 1, 0, 0, 0, 0) := by decide +kernel
theorem r_197_31 : xrow 197 31 = some (.ireturn, 1, 1, 0, 0, 0) := by decide +kernel
theorem r_198_0 : xrow 198 0 = some (.aload_n 0, 1, 0, 0, 0, 0) := by decide +kernel
theorem r_198_1 : xrow 198 1 = some (.getfield 275, 3, 22, 34, 0, 1059) := by decide +kernel
theorem r_198_4 : xrow 198 4 = some (.ifCond .eq 21, 3, 25, 0, 0, 0) := by decide +kernel
theorem r_198_7 : xrow 198 7 = some (.iload_n 1, 1, 0, 0, 0, 0) := by decide +kernel
theorem r_198_8 : xrow 198 8 = some (.iconst 0, 1, 0, 0, 0, 0) := by decide +kernel
theorem r_198_9 : xrow 198 9 = some (.aload_n 0, 1, 0, 0, 0, 0) := by decide +kernel
theorem r_198_10 : xrow 198 10 = some (.getfield 281, 3, 22, 37, 0, 1061) := by decide +kernel
theorem r_198_13 : xrow 198 13 = some (.iconst 1, 1, 0, 0, 0, 0) := by decide +kernel
theorem r_198_14 : xrow 198 14 = some (.isub, 1, 0, 0, 0, 0) := by decide +kernel
theorem r_198_15 : xrow 198 15 = some (.invokestatic 220, 3, 167, 0, 0, 1042) := by decide +kernel
theorem r_198_18 : xrow 198 18 = some (.ifCond .eq 7, 3, 25, 0, 0, 0) := by decide +kernel
theorem r_198_21 : xrow 198 21 = some (.iconst 1, 1, 0, 0, 0, 0) := by decide +kernel
theorem r_198_22 : xrow 198 22 = some (.goto 4, 3, 26, 0, 0, 0) := by decide +kernel
theorem r_198_25 : xrow 198 25 = some (.iconst 0, 1, 0, 0, 0, 0) := by decide +kernel
theorem r_198_26 : xrow 198 26 = some (.ireturn, 1, 1, 0, 0, 0) := by decide +kernel
theorem r_199_0 : xrow 199 0 = some (.aload_n 0, 1, 0, 0, 0, 0) := by decide +kernel
theorem r_199_1 : xrow 199 1 = some (.invokevirtual 249, 3, 164, 0, 0, 1051) := by decide +kernel
theorem r_199_4 : xrow 199 4 = some (.aload_n 0, 1, 0, 0, 0, 0) := by decide +kernel
theorem r_199_5 : xrow 199 5 = some (.iload_n 1, 1, 0, 0, 0, 0) := by decide +kernel
theorem r_199_6 : xrow 199 6 = some (.invokevirtual 347, 3, 197, 0, 0, 1078) := by decide +kernel
theorem r_199_9 : xrow 199 9 = some (.ifCond .ne 9, 3, 18, 0, 0, 0) := by decide +kernel
theorem r_199_12 : xrow 199 12 = some (.aload_n 0, 1, 0, 0, 0, 0) := by decide +kernel
theorem r_199_13 : xrow 199 13 = some (.iconst 1, 1, 0, 0, 0, 0) := by decide +kernel
theorem r_199_14 : xrow 199 14 = some (.invokevirtual 338, 3, 166, 0, 0, 1075) := by decide +kernel
theorem r_199_17 : xrow 199 17 = some (.ireturn, 1, 1, 0, 0, 0) := by decide +kernel
theorem r_199_18 : xrow 199 18 = some (.iload_n 2, 1, 0, 0, 0, 0) := by decide +kernel
theorem r_199_19 : xrow 199 19 = some (.iconst 0, 1, 0, 0, 0, 0) := by decide +kernel
theorem r_199_20 : xrow 199 20 = some (.sipush 999, 3, 0, 0, 0, 0) := by decide +kernel
theorem r_199_23 : xrow 199 23 = some (.invokestatic 220, 3, 167, 0, 0, 1042) := by decide +kernel
theorem r_199_26 : xrow 199 26 = some (.ifCond .ne 9, 3, 35, 0, 0, 0) := by decide +kernel
theorem r_199_29 : xrow 199 29 = some (.aload_n 0, 1, 0, 0, 0, 0) := by decide +kernel
theorem r_199_30 : xrow 199 30 = some (.iconst 2, 1, 0, 0, 0, 0) := by decide +kernel
theorem r_199_31 : xrow 199 31 = some (.invokevirtual 338, 3, 166, 0, 0, 1075) := by decide +kernel
theorem r_199_34 : xrow 199 34 = some (.ireturn, 1, 1, 0, 0, 0) := by decide +kernel
theorem r_199_35 : xrow 199 35 = some (.aload_n 0, 1, 0, 0, 0, 0) := by decide +kernel
theorem r_199_36 : xrow 199 36 = some (.getfield 52, 3, 22, 41, 2, 996) := by decide +kernel
theorem r_199_39 : xrow 199 39 = some (.iload_n 1, 1, 0, 0, 0, 0) := by decide +kernel
theorem r_199_40 : xrow 199 40 = some (.iload_n 2, 1, 0, 0, 0, 0) := by decide +kernel
theorem r_199_41 : xrow 199 41 = some (.iastore, 1, 0, 0, 0, 0) := by decide +kernel
theorem r_199_42 : xrow 199 42 = some (.aload_n 0, 1, 0, 0, 0, 0) := by decide +kernel
theorem r_199_43 : xrow 199 43 = some (.iconst 0, 1, 0, 0, 0, 0) := by decide +kernel
theorem r_199_44 : xrow 199 44 = some (.putfield 287, 3, 22, 51, 3, 1063) := by decide +kernel
theorem r_199_47 : xrow 199 47 = some (.iconst 1, 1, 0, 0, 0, 0) := by decide +kernel
theorem r_199_48 : xrow 199 48 = some (.ireturn, 1, 1, 0, 0, 0) := by decide +kernel
theorem r_200_0 : xrow 200 0 = some (.aload_n 0, 1, 0, 0, 0, 0) := by decide +kernel
theorem r_200_1 : xrow 200 1 = some (.invokevirtual 249, 3, 164, 0, 0, 1051) := by decide +kernel
theorem r_200_4 : xrow 200 4 = some (.aload_n 0, 1, 0, 0, 0, 0) := by decide +kernel
theorem r_200_5 : xrow 200 5 = some (.iload_n 1, 1, 0, 0, 0, 0) := by decide +kernel
theorem r_200_6 : xrow 200 6 = some (.invokevirtual 347, 3, 197, 0, 0, 1078) := by decide +kernel
theorem r_200_9 : xrow 200 9 = some (.ifCond .eq 11, 3, 20, 0, 0, 0) := by decide +kernel
theorem r_200_12 : xrow 200 12 = some (.aload_n 0, 1, 0, 0, 0, 0) := by decide +kernel
theorem r_200_13 : xrow 200 13 = some (.iload_n 2, 1, 0, 0, 0, 0) := by decide +kernel
theorem r_200_14 : xrow 200 14 = some (.invokevirtual 331, 3, 192, 0, 0, 1073) := by decide +kernel
theorem r_200_17 : xrow 200 17 = some (.ifCond .ne 9, 3, 26, 0, 0, 0) := by decide +kernel
theorem r_200_20 : xrow 200 20 = some (.aload_n 0, 1, 0, 0, 0, 0) := by decide +kernel
theorem r_200_21 : xrow 200 21 = some (.iconst 1, 1, 0, 0, 0, 0) := by decide +kernel
theorem r_200_22 : xrow 200 22 = some (.invokevirtual 338, 3, 166, 0, 0, 1075) := by decide +kernel
theorem r_200_25 : xrow 200 25 = some (.ireturn, 1, 1, 0, 0, 0) := by decide +kernel
theorem r_200_26 : xrow 200 26 = some (.aload_n 0, 1, 0, 0, 0, 0) := by decide +kernel
theorem r_200_27 : xrow 200 27 = some (.getfield 58, 3, 22, 43, 2, 998) := by decide +kernel
theorem r_200_30 : xrow 200 30 = some (.iload_n 1, 1, 0, 0, 0, 0) := by decide +kernel
theorem r_200_31 : xrow 200 31 = some (.iaload, 1, 0, 0, 0, 0) := by decide +kernel
theorem r_200_32 : xrow 200 32 = some (.iconst (-1), 1, 0, 0, 0, 0) := by decide +kernel
theorem r_200_33 : xrow 200 33 = some (.if_icmp .eq 9, 3, 42, 0, 0, 0) := by decide +kernel
theorem r_200_36 : xrow 200 36 = some (.aload_n 0, 1, 0, 0, 0, 0) := by decide +kernel
theorem r_200_37 : xrow 200 37 = some (.iconst 5, 1, 0, 0, 0, 0) := by decide +kernel
theorem r_200_38 : xrow 200 38 = some (.invokevirtual 338, 3, 166, 0, 0, 1075) := by decide +kernel
theorem r_200_41 : xrow 200 41 = some (.ireturn, 1, 1, 0, 0, 0) := by decide +kernel
theorem r_200_42 : xrow 200 42 = some (.aload_n 0, 1, 0, 0, 0, 0) := by decide +kernel
theorem r_200_43 : xrow 200 43 = some (.getfield 55, 3, 22, 42, 2, 997) := by decide +kernel
theorem r_200_46 : xrow 200 46 = some (.iload_n 1, 1, 0, 0, 0, 0) := by decide +kernel
theorem r_200_47 : xrow 200 47 = some (.iload_n 2, 1, 0, 0, 0, 0) := by decide +kernel
theorem r_200_48 : xrow 200 48 = some (.iastore, 1, 0, 0, 0, 0) := by decide +kernel
theorem r_200_49 : xrow 200 49 = some (.aload_n 0, 1, 0, 0, 0, 0) := by decide +kernel
theorem r_200_50 : xrow 200 50 = some (.iconst 0, 1, 0, 0, 0, 0) := by decide +kernel
theorem r_200_51 : xrow 200 51 = some (.putfield 287, 3, 22, 51, 3, 1063) := by decide +kernel
theorem r_200_54 : xrow 200 54 = some (.iconst 1, 1, 0, 0, 0, 0) := by decide +kernel
theorem r_200_55 : xrow 200 55 = some (.ireturn, 1, 1, 0, 0, 0) := by decide +kernel
theorem r_201_0 : xrow 201 0 = some (.aload_n 0, 1, 0, 0, 0, 0) := by decide +kernel
theorem r_201_1 : xrow 201 1 = some (.invokevirtual 249, 3, 164, 0, 0, 1051) := by decide +kernel
theorem r_201_4 : xrow 201 4 = some (.aload_n 0, 1, 0, 0, 0, 0) := by decide +kernel
theorem r_201_5 : xrow 201 5 = some (.iload_n 1, 1, 0, 0, 0, 0) := by decide +kernel
theorem r_201_6 : xrow 201 6 = some (.invokevirtual 347, 3, 197, 0, 0, 1078) := by decide +kernel
theorem r_201_9 : xrow 201 9 = some (.ifCond .ne 9, 3, 18, 0, 0, 0) := by decide +kernel
theorem r_201_12 : xrow 201 12 = some (.aload_n 0, 1, 0, 0, 0, 0) := by decide +kernel
theorem r_201_13 : xrow 201 13 = some (.iconst 1, 1, 0, 0, 0, 0) := by decide +kernel
theorem r_201_14 : xrow 201 14 = some (.invokevirtual 252, 3, 165, 0, 0, 1052) := by decide +kernel
theorem r_201_17 : xrow 201 17 = some (.ireturn, 1, 0, 0, 0, 0) := by decide +kernel
theorem r_201_18 : xrow 201 18 = some (.aload_n 0, 1, 0, 0, 0, 0) := by decide +kernel
theorem r_201_19 : xrow 201 19 = some (.getfield 58, 3, 22, 43, 2, 998) := by decide +kernel
theorem r_201_22 : xrow 201 22 = some (.iload_n 1, 1, 0, 0, 0, 0) := by decide +kernel
theorem r_201_23 : xrow 201 23 = some (.iaload, 1, 0, 0, 0, 0) := by decide +kernel
theorem r_201_24 : xrow 201 24 = some (.iconst (-1), 1, 0, 0, 0, 0) := by decide +kernel
theorem r_201_25 : xrow 201 25 = some (.if_icmp .eq 9, 3, 34, 0, 0, 0) := by decide +kernel
theorem r_201_28 : xrow 201 28 = some (.aload_n 0, 1, 0, 0, 0, 0) := by decide +kernel
theorem r_201_29 : xrow 201 29 = some (.iconst 5, 1, 0, 0, 0, 0) := by decide +kernel
theorem r_201_30 : xrow 201 30 = some (.invokevirtual 252, 3, 165, 0, 0, 1052) := by decide +kernel
theorem r_201_33 : xrow 201 33 = some (.ireturn, 1, 0, 0, 0, 0) := by decide +kernel
theorem r_201_34 : xrow 201 34 = some (.aload_n 0, 1, 0, 0, 0, 0) := by decide +kernel
theorem r_201_35 : xrow 201 35 = some (.getfield 281, 3, 22, 37, 0, 1061) := by decide +kernel
theorem r_201_38 : xrow 201 38 = some (.iconst 5, 1, 0, 0, 0, 0) := by decide +kernel
theorem r_201_39 : xrow 201 39 = some (.if_icmp .ne 9, 3, 48, 0, 0, 0) := by decide +kernel
theorem r_201_42 : xrow 201 42 = some (.aload_n 0, 1, 0, 0, 0, 0) := by decide +kernel
theorem r_201_43 : xrow 201 43 = some (.iconst 3, 1, 0, 0, 0, 0) := by decide +kernel
theorem r_201_44 : xrow 201 44 = some (.invokevirtual 252, 3, 165, 0, 0, 1052) := by decide +kernel
theorem r_201_47 : xrow 201 47 = some (.ireturn, 1, 0, 0, 0, 0) := by decide +kernel
theorem r_201_48 : xrow 201 48 = some (.aload_n 0, 1, 0, 0, 0, 0) := by decide +kernel
theorem r_201_49 : xrow 201 49 = some (.getfield 58, 3, 22, 43, 2, 998) := by decide +kernel
theorem r_201_52 : xrow 201 52 = some (.iload_n 1, 1, 0, 0, 0, 0) := by decide +kernel
theorem r_201_53 : xrow 201 53 = some (.aload_n 0, 1, 0, 0, 0, 0) := by decide +kernel
theorem r_201_54 : xrow 201 54 = some (.getfield 281, 3, 22, 37, 0, 1061) := by decide +kernel
theorem r_201_57 : xrow 201 57 = some (.iastore, 1, 0, 0, 0, 0) := by decide +kernel
theorem r_201_58 : xrow 201 58 = some (.aload_n 0, 1, 0, 0, 0, 0) := by decide +kernel
theorem r_201_59 : xrow 201 59 = some (.getfield 61, 3, 22, 44, 2, 999) := by decide +kernel
theorem r_201_62 : xrow 201 62 = some (.aload_n 0, 1, 0, 0, 0, 0) := by decide +kernel
theorem r_201_63 : xrow 201 63 = some (.getfield 281, 3, 22, 37, 0, 1061) := by decide +kernel
theorem r_201_66 : xrow 201 66 = some (.iload_n 1, 1, 0, 0, 0, 0) := by decide +kernel
theorem r_201_67 : xrow 201 67 = some (.iastore, 1, 0, 0, 0, 0) := by decide +kernel
theorem r_201_68 : xrow 201 68 = some (.aload_n 0, 1, 0, 0, 0, 0) := by decide +kernel
theorem r_201_69 : xrow 201 69 = some (.getfield 64, 3, 22, 45, 2, 1000) := by decide +kernel
theorem r_201_72 : xrow 201 72 = some (.aload_n 0, 1, 0, 0, 0, 0) := by decide +kernel
theorem r_201_73 : xrow 201 73 = some (.getfield 281, 3, 22, 37, 0, 1061) := by decide +kernel
theorem r_201_76 : xrow 201 76 = some (.iconst (-1), 1, 0, 0, 0, 0) := by decide +kernel
theorem r_201_77 : xrow 201 77 = some (.iastore, 1, 0, 0, 0, 0) := by decide +kernel
theorem r_201_78 : xrow 201 78 = some (.iconst 0, 1, 0, 0, 0, 0) := by decide +kernel
theorem r_201_79 : xrow 201 79 = some (.istore_n 2, 1, 0, 0, 0, 0) := by decide +kernel
theorem r_201_80 : xrow 201 80 = some (.iload_n 2, 1, 0, 0, 0, 0) := by decide +kernel
theorem r_201_81 : xrow 201 81 = some (.bipush 8, 2, 0, 0, 0, 0) := by decide +kernel
theorem r_201_83 : xrow 201 83 = some (.if_icmp .ge 38, 3, 121, 0, 0, 0) := by decide +kernel
theorem r_201_86 : xrow 201 86 = some (.aload_n 0, 1, 0, 0, 0, 0) := by decide +kernel
theorem r_201_87 : xrow 201 87 = some (.getfield 67, 3, 22, 46, 2, 1001) := by decide +kernel
theorem r_201_90 : xrow 201 90 = some (.bipush 8, 2, 0, 0, 0, 0) := by decide +kernel
theorem r_201_92 : xrow 201 92 = some (.aload_n 0, 1, 0, 0, 0, 0) := by decide +kernel
theorem r_201_93 : xrow 201 93 = some (.getfield 281, 3, 22, 37, 0, 1061) := by decide +kernel
theorem r_201_96 : xrow 201 96 = some (.imul, 1, 0, 0, 0, 0) := by decide +kernel
theorem r_201_97 : xrow 201 97 = some (.iload_n 2, 1, 0, 0, 0, 0) := by decide +kernel
theorem r_201_98 : xrow 201 98 = some (.iadd, 1, 0, 0, 0, 0) := by decide +kernel
theorem r_201_99 : xrow 201 99 = some (.iload_n 2, 1, 0, 0, 0, 0) := by decide +kernel
theorem r_201_100 : xrow 201 100 = some (.aload_n 0, 1, 0, 0, 0, 0) := by decide +kernel
theorem r_201_101 : xrow 201 101 = some (.getfield 55, 3, 22, 42, 2, 997) := by decide +kernel
theorem r_201_104 : xrow 201 104 = some (.iload_n 1, 1, 0, 0, 0, 0) := by decide +kernel
theorem r_201_105 : xrow 201 105 = some (.iaload, 1, 0, 0, 0, 0) := by decide +kernel
theorem r_201_106 : xrow 201 106 = some (.if_icmp .ne 7, 3, 113, 0, 0, 0) := by decide +kernel
theorem r_201_109 : xrow 201 109 = some (.iconst 1, 1, 0, 0, 0, 0) := by decide +kernel
theorem r_201_110 : xrow 201 110 = some (.goto 4, 3, 114, 0, 0, 0) := by decide +kernel
theorem r_201_113 : xrow 201 113 = some (.iconst 0, 1, 0, 0, 0, 0) := by decide +kernel
theorem r_201_114 : xrow 201 114 = some (.iastore, 1, 0, 0, 0, 0) := by decide +kernel
theorem r_201_115 : xrow 201 115 = some (.iinc 2 1, 3, 0, 0, 0, 0) := by decide +kernel
theorem r_201_118 : xrow 201 118 = some (.goto (-38), 3, 80, 0, 0, 0) := by decide +kernel
theorem r_201_121 : xrow 201 121 = some (.aload_n 0, 1, 0, 0, 0, 0) := by decide +kernel
theorem r_201_122 : xrow 201 122 = some (.dup, 1, 0, 0, 0, 0) := by decide +kernel
theorem r_201_123 : xrow 201 123 = some (.getfield 281, 3, 22, 37, 0, 1061) := by decide +kernel
theorem r_201_126 : xrow 201 126 = some (.iconst 1, 1, 0, 0, 0, 0) := by decide +kernel
theorem r_201_127 : xrow 201 127 = some (.iadd, 1, 0, 0, 0, 0) := by decide +kernel
theorem r_201_128 : xrow 201 128 = some (.putfield 281, 3, 22, 37, 0, 1061) := by decide +kernel
theorem r_201_131 : xrow 201 131 = some (.aload_n 0, 1, 0, 0, 0, 0) := by decide +kernel
theorem r_201_132 : xrow 201 132 = some (.iconst 0, 1, 0, 0, 0, 0) := by decide +kernel
theorem r_201_133 : xrow 201 133 = some (.putfield 287, 3, 22, 51, 3, 1063) := by decide +kernel
theorem r_201_136 : xrow 201 136 = some (.aload_n 0, 1, 0, 0, 0, 0) := by decide +kernel
theorem r_201_137 : xrow 201 137 = some (.getfield 281, 3, 22, 37, 0, 1061) := by decide +kernel
theorem r_201_140 : xrow 201 140 = some (.iconst 1, 1, 0, 0, 0, 0) := by decide +kernel
theorem r_201_141 : xrow 201 141 = some (.isub, 1, 0, 0, 0, 0) := by decide +kernel
theorem r_201_142 : xrow 201 142 = some (.ireturn, 1, 0, 0, 0, 0) := by decide +kernel
theorem r_202_0 : xrow 202 0 = some (.aload_n 0, 1, 0, 0, 0, 0) := by decide +kernel
theorem r_202_1 : xrow 202 1 = some (.invokevirtual 249, 3, 164, 0, 0, 1051) := by decide +kernel
theorem r_202_4 : xrow 202 4 = some (.aload_n 0, 1, 0, 0, 0, 0) := by decide +kernel
theorem r_202_5 : xrow 202 5 = some (.iload_n 1, 1, 0, 0, 0, 0) := by decide +kernel
theorem r_202_6 : xrow 202 6 = some (.invokevirtual 350, 3, 198, 0, 0, 1079) := by decide +kernel
theorem r_202_9 : xrow 202 9 = some (.ifCond .eq 11, 3, 20, 0, 0, 0) := by decide +kernel
theorem r_202_12 : xrow 202 12 = some (.aload_n 0, 1, 0, 0, 0, 0) := by decide +kernel
theorem r_202_13 : xrow 202 13 = some (.iload_n 2, 1, 0, 0, 0, 0) := by decide +kernel
theorem r_202_14 : xrow 202 14 = some (.invokevirtual 331, 3, 192, 0, 0, 1073) := by decide +kernel
theorem r_202_17 : xrow 202 17 = some (.ifCond .ne 9, 3, 26, 0, 0, 0) := by decide +kernel
theorem r_202_20 : xrow 202 20 = some (.aload_n 0, 1, 0, 0, 0, 0) := by decide +kernel
theorem r_202_21 : xrow 202 21 = some (.iconst 1, 1, 0, 0, 0, 0) := by decide +kernel
theorem r_202_22 : xrow 202 22 = some (.invokevirtual 338, 3, 166, 0, 0, 1075) := by decide +kernel
theorem r_202_25 : xrow 202 25 = some (.ireturn, 1, 1, 0, 0, 0) := by decide +kernel
theorem r_202_26 : xrow 202 26 = some (.iload_n 3, 1, 0, 0, 0, 0) := by decide +kernel
theorem r_202_27 : xrow 202 27 = some (.iconst 0, 1, 0, 0, 0, 0) := by decide +kernel
theorem r_202_28 : xrow 202 28 = some (.bipush 9, 2, 0, 0, 0, 0) := by decide +kernel
theorem r_202_30 : xrow 202 30 = some (.invokestatic 220, 3, 167, 0, 0, 1042) := by decide +kernel
theorem r_202_33 : xrow 202 33 = some (.ifCond .ne 9, 3, 42, 0, 0, 0) := by decide +kernel
theorem r_202_36 : xrow 202 36 = some (.aload_n 0, 1, 0, 0, 0, 0) := by decide +kernel
theorem r_202_37 : xrow 202 37 = some (.iconst 2, 1, 0, 0, 0, 0) := by decide +kernel
theorem r_202_38 : xrow 202 38 = some (.invokevirtual 338, 3, 166, 0, 0, 1075) := by decide +kernel
theorem r_202_41 : xrow 202 41 = some (.ireturn, 1, 1, 0, 0, 0) := by decide +kernel
theorem r_202_42 : xrow 202 42 = some (.iload_n 3, 1, 0, 0, 0, 0) := by decide +kernel
theorem r_202_43 : xrow 202 43 = some (.ifCond .le 7, 3, 50, 0, 0, 0) := by decide +kernel
theorem r_202_46 : xrow 202 46 = some (.iconst 1, 1, 0, 0, 0, 0) := by decide +kernel
theorem r_202_47 : xrow 202 47 = some (.goto 4, 3, 51, 0, 0, 0) := by decide +kernel
theorem r_202_50 : xrow 202 50 = some (.iconst 0, 1, 0, 0, 0, 0) := by decide +kernel
theorem r_202_51 : xrow 202 51 = some (.istore 4, 2, 0, 0, 0, 0) := by decide +kernel
theorem r_202_53 : xrow 202 53 = some (.iconst 0, 1, 0, 0, 0, 0) := by decide +kernel
theorem r_202_54 : xrow 202 54 = some (.istore 5, 2, 0, 0, 0, 0) := by decide +kernel
theorem r_202_56 : xrow 202 56 = some (.iload 5, 2, 0, 0, 0, 0) := by decide +kernel
theorem r_202_58 : xrow 202 58 = some (.bipush 8, 2, 0, 0, 0, 0) := by decide +kernel
theorem r_202_60 : xrow 202 60 = some (.if_icmp .ge 40, 3, 100, 0, 0, 0) := by decide +kernel
theorem r_202_63 : xrow 202 63 = some (.iload 4, 2, 0, 0, 0, 0) := by decide +kernel
theorem r_202_65 : xrow 202 65 = some (.iload 5, 2, 0, 0, 0, 0) := by decide +kernel
theorem r_202_67 : xrow 202 67 = some (.iload_n 2, 1, 0, 0, 0, 0) := by decide +kernel
theorem r_202_68 : xrow 202 68 = some (.if_icmp .eq 22, 3, 90, 0, 0, 0) := by decide +kernel
theorem r_202_71 : xrow 202 71 = some (.aload_n 0, 1, 0, 0, 0, 0) := by decide +kernel
theorem r_202_72 : xrow 202 72 = some (.getfield 67, 3, 22, 46, 2, 1001) := by decide +kernel
theorem r_202_75 : xrow 202 75 = some (.bipush 8, 2, 0, 0, 0, 0) := by decide +kernel
theorem r_202_77 : xrow 202 77 = some (.iload_n 1, 1, 0, 0, 0, 0) := by decide +kernel
theorem r_202_78 : xrow 202 78 = some (.imul, 1, 0, 0, 0, 0) := by decide +kernel
theorem r_202_79 : xrow 202 79 = some (.iload 5, 2, 0, 0, 0, 0) := by decide +kernel
theorem r_202_81 : xrow 202 81 = some (.iadd, 1, 0, 0, 0, 0) := by decide +kernel
theorem r_202_82 : xrow 202 82 = some (.iaload, 1, 0, 0, 0, 0) := by decide +kernel
theorem r_202_83 : xrow 202 83 = some (.ifCond .le 7, 3, 90, 0, 0, 0) := by decide +kernel
theorem r_202_86 : xrow 202 86 = some (.iconst 1, 1, 0, 0, 0, 0) := by decide +kernel
theorem r_202_87 : xrow 202 87 = some (.goto 4, 3, 91, 0, 0, 0) := by decide +kernel
theorem r_202_90 : xrow 202 90 = some (.iconst 0, 1, 0, 0, 0, 0) := by decide +kernel
theorem r_202_91 : xrow 202 91 = some (.iadd, 1, 0, 0, 0, 0) := by decide +kernel
theorem r_202_92 : xrow 202 92 = some (.istore 4, 2, 0, 0, 0, 0) := by decide +kernel
theorem r_202_94 : xrow 202 94 = some (.iinc 5 1, 3, 0, 0, 0, 0) := by decide +kernel
theorem r_202_97 : xrow 202 97 = some (.goto (-41), 3, 56, 0, 0, 0) := by decide +kernel
theorem r_202_100 : xrow 202 100 = some (.iload 4, 2, 0, 0, 0, 0) := by decide +kernel
theorem r_202_102 : xrow 202 102 = some (.iconst 1, 1, 0, 0, 0, 0) := by decide +kernel
theorem r_202_103 : xrow 202 103 = some (.if_icmp .lt 23, 3, 126, 0, 0, 0) := by decide +kernel
theorem r_202_106 : xrow 202 106 = some (.iload 4, 2, 0, 0, 0, 0) := by decide +kernel
theorem r_202_108 : xrow 202 108 = some (.iconst 3, 1, 0, 0, 0, 0) := by decide +kernel
theorem r_202_109 : xrow 202 109 = some (.if_icmp .gt 17, 3, 126, 0, 0, 0) := by decide +kernel
theorem r_202_112 : xrow 202 112 = some (.iload_n 3, 1, 0, 0, 0, 0) := by decide +kernel
theorem r_202_113 : xrow 202 113 = some (.ifCond .ne 19, 3, 132, 0, 0, 0) := by decide +kernel
theorem r_202_116 : xrow 202 116 = some (.aload_n 0, 1, 0, 0, 0, 0) := by decide +kernel
theorem r_202_117 : xrow 202 117 = some (.getfield 64, 3, 22, 45, 2, 1000) := by decide +kernel
theorem r_202_120 : xrow 202 120 = some (.iload_n 1, 1, 0, 0, 0, 0) := by decide +kernel
theorem r_202_121 : xrow 202 121 = some (.iaload, 1, 0, 0, 0, 0) := by decide +kernel
theorem r_202_122 : xrow 202 122 = some (.iload_n 2, 1, 0, 0, 0, 0) := by decide +kernel
theorem r_202_123 : xrow 202 123 = some (.if_icmp .ne 9, 3, 132, 0, 0, 0) := by decide +kernel
theorem r_202_126 : xrow 202 126 = some (.aload_n 0, 1, 0, 0, 0, 0) := by decide +kernel
theorem r_202_127 : xrow 202 127 = some (.iconst 5, 1, 0, 0, 0, 0) := by decide +kernel
theorem r_202_128 : xrow 202 128 = some (.invokevirtual 338, 3, 166, 0, 0, 1075) := by decide +kernel
theorem r_202_131 : xrow 202 131 = some (.ireturn, 1, 1, 0, 0, 0) := by decide +kernel
theorem r_202_132 : xrow 202 132 = some (.aload_n 0, 1, 0, 0, 0, 0) := by decide +kernel
theorem r_202_133 : xrow 202 133 = some (.getfield 67, 3, 22, 46, 2, 1001) := by decide +kernel
theorem r_202_136 : xrow 202 136 = some (.bipush 8, 2, 0, 0, 0, 0) := by decide +kernel
theorem r_202_138 : xrow 202 138 = some (.iload_n 1, 1, 0, 0, 0, 0) := by decide +kernel
theorem r_202_139 : xrow 202 139 = some (.imul, 1, 0, 0, 0, 0) := by decide +kernel
theorem r_202_140 : xrow 202 140 = some (.iload_n 2, 1, 0, 0, 0, 0) := by decide +kernel
theorem r_202_141 : xrow 202 141 = some (.iadd, 1, 0, 0, 0, 0) := by decide +kernel
theorem r_202_142 : xrow 202 142 = some (.iload_n 3, 1, 0, 0, 0, 0) := by decide +kernel
theorem r_202_143 : xrow 202 143 = some (.iastore, 1, 0, 0, 0, 0) := by decide +kernel
theorem r_202_144 : xrow 202 144 = some (.aload_n 0, 1, 0, 0, 0, 0) := by decide +kernel
theorem r_202_145 : xrow 202 145 = some (.iconst 0, 1, 0, 0, 0, 0) := by decide +kernel
theorem r_202_146 : xrow 202 146 = some (.putfield 287, 3, 22, 51, 3, 1063) := by decide +kernel
theorem r_202_149 : xrow 202 149 = some (.iconst 1, 1, 0, 0, 0, 0) := by decide +kernel
theorem r_202_150 : xrow 202 150 = some (.ireturn, 1, 1, 0, 0, 0) := by decide +kernel
theorem r_203_0 : xrow 203 0 = some (.aload_n 0, 1, 0, 0, 0, 0) := by decide +kernel
theorem r_203_1 : xrow 203 1 = some (.invokevirtual 249, 3, 164, 0, 0, 1051) := by decide +kernel
theorem r_203_4 : xrow 203 4 = some (.aload_n 0, 1, 0, 0, 0, 0) := by decide +kernel
theorem r_203_5 : xrow 203 5 = some (.iload_n 1, 1, 0, 0, 0, 0) := by decide +kernel
theorem r_203_6 : xrow 203 6 = some (.invokevirtual 350, 3, 198, 0, 0, 1079) := by decide +kernel
theorem r_203_9 : xrow 203 9 = some (.ifCond .eq 11, 3, 20, 0, 0, 0) := by decide +kernel
theorem r_203_12 : xrow 203 12 = some (.aload_n 0, 1, 0, 0, 0, 0) := by decide +kernel
theorem r_203_13 : xrow 203 13 = some (.iload_n 2, 1, 0, 0, 0, 0) := by decide +kernel
theorem r_203_14 : xrow 203 14 = some (.invokevirtual 331, 3, 192, 0, 0, 1073) := by decide +kernel
theorem r_203_17 : xrow 203 17 = some (.ifCond .ne 9, 3, 26, 0, 0, 0) := by decide +kernel
theorem r_203_20 : xrow 203 20 = some (.aload_n 0, 1, 0, 0, 0, 0) := by decide +kernel
theorem r_203_21 : xrow 203 21 = some (.iconst 1, 1, 0, 0, 0, 0) := by decide +kernel
theorem r_203_22 : xrow 203 22 = some (.invokevirtual 338, 3, 166, 0, 0, 1075) := by decide +kernel
theorem r_203_25 : xrow 203 25 = some (.ireturn, 1, 1, 0, 0, 0) := by decide +kernel
theorem r_203_26 : xrow 203 26 = some (.aload_n 0, 1, 0, 0, 0, 0) := by decide +kernel
theorem r_203_27 : xrow 203 27 = some (.getfield 67, 3, 22, 46, 2, 1001) := by decide +kernel
theorem r_203_30 : xrow 203 30 = some (.bipush 8, 2, 0, 0, 0, 0) := by decide +kernel
theorem r_203_32 : xrow 203 32 = some (.iload_n 1, 1, 0, 0, 0, 0) := by decide +kernel
theorem r_203_33 : xrow 203 33 = some (.imul, 1, 0, 0, 0, 0) := by decide +kernel
theorem r_203_34 : xrow 203 34 = some (.iload_n 2, 1, 0, 0, 0, 0) := by decide +kernel
theorem r_203_35 : xrow 203 35 = some (.iadd, 1, 0, 0, 0, 0) := by decide +kernel
theorem r_203_36 : xrow 203 36 = some (.iaload, 1, 0, 0, 0, 0) := by decide +kernel
theorem r_203_37 : xrow 203 37 = some (.ifCond .ne 9, 3, 46, 0, 0, 0) := by decide +kernel
theorem r_203_40 : xrow 203 40 = some (.aload_n 0, 1, 0, 0, 0, 0) := by decide +kernel
theorem r_203_41 : xrow 203 41 = some (.iconst 5, 1, 0, 0, 0, 0) := by decide +kernel
theorem r_203_42 : xrow 203 42 = some (.invokevirtual 338, 3, 166, 0, 0, 1075) := by decide +kernel
theorem r_203_45 : xrow 203 45 = some (.ireturn, 1, 1, 0, 0, 0) := by decide +kernel
theorem r_203_46 : xrow 203 46 = some (.aload_n 0, 1, 0, 0, 0, 0) := by decide +kernel
theorem r_203_47 : xrow 203 47 = some (.getfield 64, 3, 22, 45, 2, 1000) := by decide +kernel
theorem r_203_50 : xrow 203 50 = some (.iload_n 1, 1, 0, 0, 0, 0) := by decide +kernel
theorem r_203_51 : xrow 203 51 = some (.iload_n 2, 1, 0, 0, 0, 0) := by decide +kernel
theorem r_203_52 : xrow 203 52 = some (.iastore, 1, 0, 0, 0, 0) := by decide +kernel
theorem r_203_53 : xrow 203 53 = some (.aload_n 0, 1, 0, 0, 0, 0) := by decide +kernel
theorem r_203_54 : xrow 203 54 = some (.iconst 0, 1, 0, 0, 0, 0) := by decide +kernel
theorem r_203_55 : xrow 203 55 = some (.putfield 287, 3, 22, 51, 3, 1063) := by decide +kernel
theorem r_203_58 : xrow 203 58 = some (.iconst 1, 1, 0, 0, 0, 0) := by decide +kernel
theorem r_203_59 : xrow 203 59 = some (.ireturn, 1, 1, 0, 0, 0) := by decide +kernel
theorem r_204_0 : xrow 204 0 = some (.aload_n 0, 1, 0, 0, 0, 0) := by decide +kernel
theorem r_204_1 : xrow 204 1 = some (.invokevirtual 249, 3, 164, 0, 0, 1051) := by decide +kernel
theorem r_204_4 : xrow 204 4 = some (.aload_n 0, 1, 0, 0, 0, 0) := by decide +kernel
theorem r_204_5 : xrow 204 5 = some (.iload_n 1, 1, 0, 0, 0, 0) := by decide +kernel
theorem r_204_6 : xrow 204 6 = some (.invokevirtual 350, 3, 198, 0, 0, 1079) := by decide +kernel
theorem r_204_9 : xrow 204 9 = some (.ifCond .ne 9, 3, 18, 0, 0, 0) := by decide +kernel
theorem r_204_12 : xrow 204 12 = some (.aload_n 0, 1, 0, 0, 0, 0) := by decide +kernel
theorem r_204_13 : xrow 204 13 = some (.iconst 1, 1, 0, 0, 0, 0) := by decide +kernel
theorem r_204_14 : xrow 204 14 = some (.invokevirtual 338, 3, 166, 0, 0, 1075) := by decide +kernel
theorem r_204_17 : xrow 204 17 = some (.ireturn, 1, 1, 0, 0, 0) := by decide +kernel
theorem r_204_18 : xrow 204 18 = some (.aload_n 0, 1, 0, 0, 0, 0) := by decide +kernel
theorem r_204_19 : xrow 204 19 = some (.getfield 64, 3, 22, 45, 2, 1000) := by decide +kernel
theorem r_204_22 : xrow 204 22 = some (.iload_n 1, 1, 0, 0, 0, 0) := by decide +kernel
theorem r_204_23 : xrow 204 23 = some (.iaload, 1, 0, 0, 0, 0) := by decide +kernel
theorem r_204_24 : xrow 204 24 = some (.iconst (-1), 1, 0, 0, 0, 0) := by decide +kernel
theorem r_204_25 : xrow 204 25 = some (.if_icmp .ne 9, 3, 34, 0, 0, 0) := by decide +kernel
theorem r_204_28 : xrow 204 28 = some (.aload_n 0, 1, 0, 0, 0, 0) := by decide +kernel
theorem r_204_29 : xrow 204 29 = some (.iconst 5, 1, 0, 0, 0, 0) := by decide +kernel
theorem r_204_30 : xrow 204 30 = some (.invokevirtual 338, 3, 166, 0, 0, 1075) := by decide +kernel
theorem r_204_33 : xrow 204 33 = some (.ireturn, 1, 1, 0, 0, 0) := by decide +kernel
theorem r_204_34 : xrow 204 34 = some (.aload_n 0, 1, 0, 0, 0, 0) := by decide +kernel
theorem r_204_35 : xrow 204 35 = some (.getfield 64, 3, 22, 45, 2, 1000) := by decide +kernel
theorem r_204_38 : xrow 204 38 = some (.iload_n 1, 1, 0, 0, 0, 0) := by decide +kernel
theorem r_204_39 : xrow 204 39 = some (.iconst (-1), 1, 0, 0, 0, 0) := by decide +kernel
theorem r_204_40 : xrow 204 40 = some (.iastore, 1, 0, 0, 0, 0) := by decide +kernel
theorem r_204_41 : xrow 204 41 = some (.aload_n 0, 1, 0, 0, 0, 0) := by decide +kernel
theorem r_204_42 : xrow 204 42 = some (.iconst 0, 1, 0, 0, 0, 0) := by decide +kernel
theorem r_204_43 : xrow 204 43 = some (.putfield 287, 3, 22, 51, 3, 1063) := by decide +kernel
theorem r_204_46 : xrow 204 46 = some (.iconst 1, 1, 0, 0, 0, 0) := by decide +kernel
theorem r_204_47 : xrow 204 47 = some (.ireturn, 1, 1, 0, 0, 0) := by decide +kernel
theorem r_205_0 : xrow 205 0 = some (.aload_n 0, 1, 0, 0, 0, 0) := by decide +kernel
theorem r_205_1 : xrow 205 1 = some (.iconst 0, 1, 0, 0, 0, 0) := by decide +kernel
theorem r_205_2 : xrow 205 2 = some (.putfield 131, 3, 22, 0, 0, 1022) := by decide +kernel
theorem r_205_5 : xrow 205 5 = some (.aload_n 0, 1, 0, 0, 0, 0) := by decide +kernel
theorem r_205_6 : xrow 205 6 = some (.iload_n 1, 1, 0, 0, 0, 0) := by decide +kernel
theorem r_205_7 : xrow 205 7 = some (.invokevirtual 347, 3, 197, 0, 0, 1078) := by decide +kernel
theorem r_205_10 : xrow 205 10 = some (.ifCond .ne 5, 3, 15, 0, 0, 0) := by decide +kernel
theorem r_205_13 : xrow 205 13 = some (.iconst (-1), 1, 0, 0, 0, 0) := by decide +kernel
theorem r_205_14 : xrow 205 14 = some (.ireturn, 1, 0, 0, 0, 0) := by decide +kernel
theorem r_205_15 : xrow 205 15 = some (.aload_n 0, 1, 0, 0, 0, 0) := by decide +kernel
theorem r_205_16 : xrow 205 16 = some (.getfield 58, 3, 22, 43, 2, 998) := by decide +kernel
theorem r_205_19 : xrow 205 19 = some (.iload_n 1, 1, 0, 0, 0, 0) := by decide +kernel
theorem r_205_20 : xrow 205 20 = some (.iaload, 1, 0, 0, 0, 0) := by decide +kernel
theorem r_205_21 : xrow 205 21 = some (.istore_n 3, 1, 0, 0, 0, 0) := by decide +kernel
theorem r_205_22 : xrow 205 22 = some (.iload_n 2, 1, 0, 0, 0, 0) := by decide +kernel
theorem r_205_23 : xrow 205 23 = some (.ifCond .ne 10, 3, 33, 0, 0, 0) := by decide +kernel
theorem r_205_26 : xrow 205 26 = some (.aload_n 0, 1, 0, 0, 0, 0) := by decide +kernel
theorem r_205_27 : xrow 205 27 = some (.getfield 52, 3, 22, 41, 2, 996) := by decide +kernel
theorem r_205_30 : xrow 205 30 = some (.iload_n 1, 1, 0, 0, 0, 0) := by decide +kernel
theorem r_205_31 : xrow 205 31 = some (.iaload, 1, 0, 0, 0, 0) := by decide +kernel
theorem r_205_32 : xrow 205 32 = some (.ireturn, 1, 0, 0, 0, 0) := by decide +kernel
theorem r_205_33 : xrow 205 33 = some (.iload_n 2, 1, 0, 0, 0, 0) := by decide +kernel
theorem r_205_34 : xrow 205 34 = some (.iconst 1, 1, 0, 0, 0, 0) := by decide +kernel
theorem r_205_35 : xrow 205 35 = some (.if_icmp .ne 39, 3, 74, 0, 0, 0) := by decide +kernel
theorem r_205_38 : xrow 205 38 = some (.iload_n 3, 1, 0, 0, 0, 0) := by decide +kernel
theorem r_205_39 : xrow 205 39 = some (.iconst (-1), 1, 0, 0, 0, 0) := by decide +kernel
theorem r_205_40 : xrow 205 40 = some (.if_icmp .ne 12, 3, 52, 0, 0, 0) := by decide +kernel
theorem r_205_43 : xrow 205 43 = some (.aload_n 0, 1, 0, 0, 0, 0) := by decide +kernel
theorem r_205_44 : xrow 205 44 = some (.getfield 55, 3, 22, 42, 2, 997) := by decide +kernel
theorem r_205_47 : xrow 205 47 = some (.iload_n 1, 1, 0, 0, 0, 0) := by decide +kernel
theorem r_205_48 : xrow 205 48 = some (.iaload, 1, 0, 0, 0, 0) := by decide +kernel
theorem r_205_49 : xrow 205 49 = some (.goto 24, 3, 73, 0, 0, 0) := by decide +kernel
theorem r_205_52 : xrow 205 52 = some (.aload_n 0, 1, 0, 0, 0, 0) := by decide +kernel
theorem r_205_53 : xrow 205 53 = some (.getfield 64, 3, 22, 45, 2, 1000) := by decide +kernel
theorem r_205_56 : xrow 205 56 = some (.iload_n 3, 1, 0, 0, 0, 0) := by decide +kernel
theorem r_205_57 : xrow 205 57 = some (.iaload, 1, 0, 0, 0, 0) := by decide +kernel
theorem r_205_58 : xrow 205 58 = some (.iconst (-1), 1, 0, 0, 0, 0) := by decide +kernel
theorem r_205_59 : xrow 205 59 = some (.if_icmp .ne 8, 3, 67, 0, 0, 0) := by decide +kernel
theorem r_205_62 : xrow 205 62 = some (.bipush (-2), 2, 0, 0, 0, 0) := by decide +kernel
theorem r_205_64 : xrow 205 64 = some (.goto 9, 3, 73, 0, 0, 0) := by decide +kernel
theorem r_205_67 : xrow 205 67 = some (.aload_n 0, 1, 0, 0, 0, 0) := by decide +kernel
theorem r_205_68 : xrow 205 68 = some (.getfield 64, 3, 22, 45, 2, 1000) := by decide +kernel
theorem r_205_71 : xrow 205 71 = some (.iload_n 3, 1, 0, 0, 0, 0) := by decide +kernel
theorem r_205_72 : xrow 205 72 = some (.iaload, 1, 0, 0, 0, 0) := by decide +kernel
theorem r_205_73 : xrow 205 73 = some (.ireturn, 1, 0, 0, 0, 0) := by decide +kernel
theorem r_205_74 : xrow 205 74 = some (.iload_n 2, 1, 0, 0, 0, 0) := by decide +kernel
theorem r_205_75 : xrow 205 75 = some (.iconst 2, 1, 0, 0, 0, 0) := by decide +kernel
theorem r_205_76 : xrow 205 76 = some (.if_icmp .ne 17, 3, 93, 0, 0, 0) := by decide +kernel
theorem r_205_79 : xrow 205 79 = some (.iload_n 3, 1, 0, 0, 0, 0) := by decide +kernel
theorem r_205_80 : xrow 205 80 = some (.iconst (-1), 1, 0, 0, 0, 0) := by decide +kernel
theorem r_205_81 : xrow 205 81 = some (.if_icmp .ne 8, 3, 89, 0, 0, 0) := by decide +kernel
theorem r_205_84 : xrow 205 84 = some (.bipush (-2), 2, 0, 0, 0, 0) := by decide +kernel
theorem r_205_86 : xrow 205 86 = some (.goto 8, 3, 94, 0, 0, 0) := by decide +kernel
theorem r_205_89 : xrow 205 89 = some (.iload_n 3, 1, 0, 0, 0, 0) := by decide +kernel
theorem r_205_90 : xrow 205 90 = some (.goto 4, 3, 94, 0, 0, 0) := by decide +kernel
theorem r_205_93 : xrow 205 93 = some (.iconst (-1), 1, 0, 0, 0, 0) := by decide +kernel
theorem r_205_94 : xrow 205 94 = some (.ireturn, 1, 0, 0, 0, 0) := by decide +kernel
theorem r_206_0 : xrow 206 0 = some (.iload_n 1, 1, 0, 0, 0, 0) := by decide +kernel
theorem r_206_1 : xrow 206 1 = some (.aload_n 0, 1, 0, 0, 0, 0) := by decide +kernel
theorem r_206_2 : xrow 206 2 = some (.getfield 341, 3, 22, 35, 0, 1076) := by decide +kernel
theorem r_206_5 : xrow 206 5 = some (.irem, 1, 0, 0, 0, 0) := by decide +kernel
theorem r_206_6 : xrow 206 6 = some (.iload_n 2, 1, 0, 0, 0, 0) := by decide +kernel
theorem r_206_7 : xrow 206 7 = some (.ifCond .ne 7, 3, 14, 0, 0, 0) := by decide +kernel
theorem r_206_10 : xrow 206 10 = some (.iconst 1, 1, 0, 0, 0, 0) := by decide +kernel
theorem r_206_11 : xrow 206 11 = some (.goto 13, 3, 24, 0, 0, 0) := by decide +kernel
theorem r_206_14 : xrow 206 14 = some (.iload_n 2, 1, 0, 0, 0, 0) := by decide +kernel
theorem r_206_15 : xrow 206 15 = some (.iconst 1, 1, 0, 0, 0, 0) := by decide +kernel
theorem r_206_16 : xrow 206 16 = some (.if_icmp .ne 7, 3, 23, 0, 0, 0) := by decide +kernel
theorem r_206_19 : xrow 206 19 = some (.iconst (-1), 1, 0, 0, 0, 0) := by decide +kernel
theorem r_206_20 : xrow 206 20 = some (.goto 4, 3, 24, 0, 0, 0) := by decide +kernel
theorem r_206_23 : xrow 206 23 = some (.iconst 0, 1, 0, 0, 0, 0) := by decide +kernel
theorem r_206_24 : xrow 206 24 = some (.iadd, 1, 0, 0, 0, 0) := by decide +kernel
theorem r_206_25 : xrow 206 25 = some (.istore_n 3, 1, 0, 0, 0, 0) := by decide +kernel
theorem r_206_26 : xrow 206 26 = some (.iload_n 1, 1, 0, 0, 0, 0) := by decide +kernel
theorem r_206_27 : xrow 206 27 = some (.aload_n 0, 1, 0, 0, 0, 0) := by decide +kernel
theorem r_206_28 : xrow 206 28 = some (.getfield 341, 3, 22, 35, 0, 1076) := by decide +kernel
theorem r_206_31 : xrow 206 31 = some (.idiv, 1, 0, 0, 0, 0) := by decide +kernel
theorem r_206_32 : xrow 206 32 = some (.iload_n 2, 1, 0, 0, 0, 0) := by decide +kernel
theorem r_206_33 : xrow 206 33 = some (.iconst 2, 1, 0, 0, 0, 0) := by decide +kernel
theorem r_206_34 : xrow 206 34 = some (.if_icmp .ne 7, 3, 41, 0, 0, 0) := by decide +kernel
theorem r_206_37 : xrow 206 37 = some (.iconst (-1), 1, 0, 0, 0, 0) := by decide +kernel
theorem r_206_38 : xrow 206 38 = some (.goto 13, 3, 51, 0, 0, 0) := by decide +kernel
theorem r_206_41 : xrow 206 41 = some (.iload_n 2, 1, 0, 0, 0, 0) := by decide +kernel
theorem r_206_42 : xrow 206 42 = some (.iconst 3, 1, 0, 0, 0, 0) := by decide +kernel
theorem r_206_43 : xrow 206 43 = some (.if_icmp .ne 7, 3, 50, 0, 0, 0) := by decide +kernel
theorem r_206_46 : xrow 206 46 = some (.iconst 1, 1, 0, 0, 0, 0) := by decide +kernel
theorem r_206_47 : xrow 206 47 = some (.goto 4, 3, 51, 0, 0, 0) := by decide +kernel
theorem r_206_50 : xrow 206 50 = some (.iconst 0, 1, 0, 0, 0, 0) := by decide +kernel
theorem r_206_51 : xrow 206 51 = some (.iadd, 1, 0, 0, 0, 0) := by decide +kernel
theorem r_206_52 : xrow 206 52 = some (.istore 4, 2, 0, 0, 0, 0) := by decide +kernel
theorem r_206_54 : xrow 206 54 = some (.iload_n 3, 1, 0, 0, 0, 0) := by decide +kernel
theorem r_206_55 : xrow 206 55 = some (.iconst 0, 1, 0, 0, 0, 0) := by decide +kernel
theorem r_206_56 : xrow 206 56 = some (.aload_n 0, 1, 0, 0, 0, 0) := by decide +kernel
theorem r_206_57 : xrow 206 57 = some (.getfield 341, 3, 22, 35, 0, 1076) := by decide +kernel
theorem r_206_60 : xrow 206 60 = some (.iconst 1, 1, 0, 0, 0, 0) := by decide +kernel
theorem r_206_61 : xrow 206 61 = some (.isub, 1, 0, 0, 0, 0) := by decide +kernel
theorem r_206_62 : xrow 206 62 = some (.invokestatic 220, 3, 167, 0, 0, 1042) := by decide +kernel
theorem r_206_65 : xrow 206 65 = some (.ifCond .eq 30, 3, 95, 0, 0, 0) := by decide +kernel
theorem r_206_68 : xrow 206 68 = some (.iload 4, 2, 0, 0, 0, 0) := by decide +kernel
theorem r_206_70 : xrow 206 70 = some (.iconst 0, 1, 0, 0, 0, 0) := by decide +kernel
theorem r_206_71 : xrow 206 71 = some (.aload_n 0, 1, 0, 0, 0, 0) := by decide +kernel
theorem r_206_72 : xrow 206 72 = some (.getfield 344, 3, 22, 36, 0, 1077) := by decide +kernel
theorem r_206_75 : xrow 206 75 = some (.iconst 1, 1, 0, 0, 0, 0) := by decide +kernel
theorem r_206_76 : xrow 206 76 = some (.isub, 1, 0, 0, 0, 0) := by decide +kernel
theorem r_206_77 : xrow 206 77 = some (.invokestatic 220, 3, 167, 0, 0, 1042) := by decide +kernel
theorem r_206_80 : xrow 206 80 = some (.ifCond .eq 15, 3, 95, 0, 0, 0) := by decide +kernel
theorem r_206_83 : xrow 206 83 = some (.aload_n 0, 1, 0, 0, 0, 0) := by decide +kernel
theorem r_206_84 : xrow 206 84 = some (.getfield 341, 3, 22, 35, 0, 1076) := by decide +kernel
theorem r_206_87 : xrow 206 87 = some (.iload 4, 2, 0, 0, 0, 0) := by decide +kernel
theorem r_206_89 : xrow 206 89 = some (.imul, 1, 0, 0, 0, 0) := by decide +kernel
theorem r_206_90 : xrow 206 90 = some (.iload_n 3, 1, 0, 0, 0, 0) := by decide +kernel
theorem r_206_91 : xrow 206 91 = some (.iadd, 1, 0, 0, 0, 0) := by decide +kernel
theorem r_206_92 : xrow 206 92 = some (.goto 4, 3, 96, 0, 0, 0) := by decide +kernel
theorem r_206_95 : xrow 206 95 = some (.iconst (-1), 1, 0, 0, 0, 0) := by decide +kernel
theorem r_206_96 : xrow 206 96 = some (.ireturn, 1, 0, 0, 0, 0) := by decide +kernel
theorem r_207_0 : xrow 207 0 = some (.aload_n 0, 1, 0, 0, 0, 0) := by decide +kernel
theorem r_207_1 : xrow 207 1 = some (.getfield 237, 3, 22, 25, 0, 1047) := by decide +kernel
theorem r_207_4 : xrow 207 4 = some (.aload_n 0, 1, 0, 0, 0, 0) := by decide +kernel
theorem r_207_5 : xrow 207 5 = some (.getfield 234, 3, 22, 24, 0, 1046) := by decide +kernel
theorem r_207_8 : xrow 207 8 = some (.idiv, 1, 0, 0, 0, 0) := by decide +kernel
theorem r_207_9 : xrow 207 9 = some (.istore_n 3, 1, 0, 0, 0, 0) := by decide +kernel
theorem r_207_10 : xrow 207 10 = some (.aload_n 0, 1, 0, 0, 0, 0) := by decide +kernel
theorem r_207_11 : xrow 207 11 = some (.getfield 237, 3, 22, 25, 0, 1047) := by decide +kernel
theorem r_207_14 : xrow 207 14 = some (.iload_n 1, 1, 0, 0, 0, 0) := by decide +kernel
theorem r_207_15 : xrow 207 15 = some (.aload_n 0, 1, 0, 0, 0, 0) := by decide +kernel
theorem r_207_16 : xrow 207 16 = some (.getfield 34, 3, 22, 20, 2, 990) := by decide +kernel
theorem r_207_19 : xrow 207 19 = some (.iload_n 2, 1, 0, 0, 0, 0) := by decide +kernel
theorem r_207_20 : xrow 207 20 = some (.aload_n 0, 1, 0, 0, 0, 0) := by decide +kernel
theorem r_207_21 : xrow 207 21 = some (.getfield 28, 3, 22, 18, 2, 988) := by decide +kernel
theorem r_207_24 : xrow 207 24 = some (.iload_n 2, 1, 0, 0, 0, 0) := by decide +kernel
theorem r_207_25 : xrow 207 25 = some (.iaload, 1, 0, 0, 0, 0) := by decide +kernel
theorem r_207_26 : xrow 207 26 = some (.iload_n 3, 1, 0, 0, 0, 0) := by decide +kernel
theorem r_207_27 : xrow 207 27 = some (.invokestatic 334, 3, 191, 0, 0, 1074) := by decide +kernel
theorem r_207_30 : xrow 207 30 = some (.iadd, 1, 0, 0, 0, 0) := by decide +kernel
theorem r_207_31 : xrow 207 31 = some (.imul, 1, 0, 0, 0, 0) := by decide +kernel
theorem r_207_32 : xrow 207 32 = some (.bipush 10, 2, 0, 0, 0, 0) := by decide +kernel
theorem r_207_34 : xrow 207 34 = some (.invokestatic 329, 3, 190, 0, 0, 1072) := by decide +kernel
theorem r_207_37 : xrow 207 37 = some (.aload_n 0, 1, 0, 0, 0, 0) := by decide +kernel
theorem r_207_38 : xrow 207 38 = some (.getfield 284, 3, 22, 38, 0, 1062) := by decide +kernel
theorem r_207_41 : xrow 207 41 = some (.iload_n 3, 1, 0, 0, 0, 0) := by decide +kernel
theorem r_207_42 : xrow 207 42 = some (.imul, 1, 0, 0, 0, 0) := by decide +kernel
theorem r_207_43 : xrow 207 43 = some (.aload_n 0, 1, 0, 0, 0, 0) := by decide +kernel
theorem r_207_44 : xrow 207 44 = some (.getfield 246, 3, 22, 28, 0, 1050) := by decide +kernel
theorem r_207_47 : xrow 207 47 = some (.imul, 1, 0, 0, 0, 0) := by decide +kernel
theorem r_207_48 : xrow 207 48 = some (.iadd, 1, 0, 0, 0, 0) := by decide +kernel
theorem r_207_49 : xrow 207 49 = some (.istore 4, 2, 0, 0, 0, 0) := by decide +kernel
theorem r_207_51 : xrow 207 51 = some (.iload 4, 2, 0, 0, 0, 0) := by decide +kernel
theorem r_207_53 : xrow 207 53 = some (.ifCond .ge 7, 3, 60, 0, 0, 0) := by decide +kernel
theorem r_207_56 : xrow 207 56 = some (.iconst 0, 1, 0, 0, 0, 0) := by decide +kernel
theorem r_207_57 : xrow 207 57 = some (.goto 5, 3, 62, 0, 0, 0) := by decide +kernel
theorem r_207_60 : xrow 207 60 = some (.iload 4, 2, 0, 0, 0, 0) := by decide +kernel
theorem r_207_62 : xrow 207 62 = some (.ireturn, 1, 0, 0, 0, 0) := by decide +kernel
theorem r_208_0 : xrow 208 0 = some (.aload_n 0, 1, 0, 0, 0, 0) := by decide +kernel
theorem r_208_1 : xrow 208 1 = some (.getfield 237, 3, 22, 25, 0, 1047) := by decide +kernel
theorem r_208_4 : xrow 208 4 = some (.aload_n 0, 1, 0, 0, 0, 0) := by decide +kernel
theorem r_208_5 : xrow 208 5 = some (.getfield 234, 3, 22, 24, 0, 1046) := by decide +kernel
theorem r_208_8 : xrow 208 8 = some (.idiv, 1, 0, 0, 0, 0) := by decide +kernel
theorem r_208_9 : xrow 208 9 = some (.aload_n 0, 1, 0, 0, 0, 0) := by decide +kernel
theorem r_208_10 : xrow 208 10 = some (.getfield 234, 3, 22, 24, 0, 1046) := by decide +kernel
theorem r_208_13 : xrow 208 13 = some (.aload_n 0, 1, 0, 0, 0, 0) := by decide +kernel
theorem r_208_14 : xrow 208 14 = some (.getfield 284, 3, 22, 38, 0, 1062) := by decide +kernel
theorem r_208_17 : xrow 208 17 = some (.isub, 1, 0, 0, 0, 0) := by decide +kernel
theorem r_208_18 : xrow 208 18 = some (.imul, 1, 0, 0, 0, 0) := by decide +kernel
theorem r_208_19 : xrow 208 19 = some (.istore_n 3, 1, 0, 0, 0, 0) := by decide +kernel
theorem r_208_20 : xrow 208 20 = some (.iconst 0, 1, 0, 0, 0, 0) := by decide +kernel
theorem r_208_21 : xrow 208 21 = some (.istore 4, 2, 0, 0, 0, 0) := by decide +kernel
theorem r_208_23 : xrow 208 23 = some (.iload 4, 2, 0, 0, 0, 0) := by decide +kernel
theorem r_208_25 : xrow 208 25 = some (.bipush 90, 2, 0, 0, 0, 0) := by decide +kernel
theorem r_208_27 : xrow 208 27 = some (.if_icmp .gt 34, 3, 61, 0, 0, 0) := by decide +kernel
theorem r_208_30 : xrow 208 30 = some (.iload_n 3, 1, 0, 0, 0, 0) := by decide +kernel
theorem r_208_31 : xrow 208 31 = some (.aload_n 0, 1, 0, 0, 0, 0) := by decide +kernel
theorem r_208_32 : xrow 208 32 = some (.getfield 37, 3, 22, 21, 2, 991) := by decide +kernel
theorem r_208_35 : xrow 208 35 = some (.iload_n 2, 1, 0, 0, 0, 0) := by decide +kernel
theorem r_208_36 : xrow 208 36 = some (.aload_n 0, 1, 0, 0, 0, 0) := by decide +kernel
theorem r_208_37 : xrow 208 37 = some (.getfield 31, 3, 22, 19, 2, 989) := by decide +kernel
theorem r_208_40 : xrow 208 40 = some (.iload_n 2, 1, 0, 0, 0, 0) := by decide +kernel
theorem r_208_41 : xrow 208 41 = some (.iaload, 1, 0, 0, 0, 0) := by decide +kernel
theorem r_208_42 : xrow 208 42 = some (.iload 4, 2, 0, 0, 0, 0) := by decide +kernel
theorem r_208_44 : xrow 208 44 = some (.invokestatic 334, 3, 191, 0, 0, 1074) := by decide +kernel
theorem r_208_47 : xrow 208 47 = some (.imul, 1, 0, 0, 0, 0) := by decide +kernel
theorem r_208_48 : xrow 208 48 = some (.iload_n 1, 1, 0, 0, 0, 0) := by decide +kernel
theorem r_208_49 : xrow 208 49 = some (.if_icmp .lt 6, 3, 55, 0, 0, 0) := by decide +kernel
theorem r_208_52 : xrow 208 52 = some (.iload 4, 2, 0, 0, 0, 0) := by decide +kernel
theorem r_208_54 : xrow 208 54 = some (.ireturn, 1, 0, 0, 0, 0) := by decide +kernel
theorem r_208_55 : xrow 208 55 = some (.iinc 4 1, 3, 0, 0, 0, 0) := by decide +kernel
theorem r_208_58 : xrow 208 58 = some (.goto (-35), 3, 23, 0, 0, 0) := by decide +kernel
theorem r_208_61 : xrow 208 61 = some (.iconst (-1), 1, 0, 0, 0, 0) := by decide +kernel
theorem r_208_62 : xrow 208 62 = some (.ireturn, 1, 0, 0, 0, 0) := by decide +kernel
theorem r_209_0 : xrow 209 0 = some (.aload_n 0, 1, 0, 0, 0, 0) := by decide +kernel
theorem r_209_1 : xrow 209 1 = some (.iload_n 1, 1, 0, 0, 0, 0) := by decide +kernel
theorem r_209_2 : xrow 209 2 = some (.iload_n 2, 1, 0, 0, 0, 0) := by decide +kernel
theorem r_209_3 : xrow 209 3 = some (.invokevirtual 353, 3, 206, 0, 0, 1080) := by decide +kernel
theorem r_209_6 : xrow 209 6 = some (.istore 4, 2, 0, 0, 0, 0) := by decide +kernel
theorem r_209_8 : xrow 209 8 = some (.iload 4, 2, 0, 0, 0, 0) := by decide +kernel
theorem r_209_10 : xrow 209 10 = some (.ifCond .ge 5, 3, 15, 0, 0, 0) := by decide +kernel
theorem r_209_13 : xrow 209 13 = some (.iconst 1, 1, 0, 0, 0, 0) := by decide +kernel
theorem r_209_14 : xrow 209 14 = some (.ireturn, 1, 0, 0, 0, 0) := by decide +kernel
theorem r_209_15 : xrow 209 15 = some (.aload_n 0, 1, 0, 0, 0, 0) := by decide +kernel
theorem r_209_16 : xrow 209 16 = some (.getfield 52, 3, 22, 41, 2, 996) := by decide +kernel
theorem r_209_19 : xrow 209 19 = some (.iload 4, 2, 0, 0, 0, 0) := by decide +kernel
theorem r_209_21 : xrow 209 21 = some (.iaload, 1, 0, 0, 0, 0) := by decide +kernel
theorem r_209_22 : xrow 209 22 = some (.aload_n 0, 1, 0, 0, 0, 0) := by decide +kernel
theorem r_209_23 : xrow 209 23 = some (.getfield 52, 3, 22, 41, 2, 996) := by decide +kernel
theorem r_209_26 : xrow 209 26 = some (.iload_n 1, 1, 0, 0, 0, 0) := by decide +kernel
theorem r_209_27 : xrow 209 27 = some (.iaload, 1, 0, 0, 0, 0) := by decide +kernel
theorem r_209_28 : xrow 209 28 = some (.isub, 1, 0, 0, 0, 0) := by decide +kernel
theorem r_209_29 : xrow 209 29 = some (.istore 5, 2, 0, 0, 0, 0) := by decide +kernel
theorem r_209_31 : xrow 209 31 = some (.iload 5, 2, 0, 0, 0, 0) := by decide +kernel
theorem r_209_33 : xrow 209 33 = some (.aload_n 0, 1, 0, 0, 0, 0) := by decide +kernel
theorem r_209_34 : xrow 209 34 = some (.getfield 243, 3, 22, 27, 0, 1049) := by decide +kernel
theorem r_209_37 : xrow 209 37 = some (.if_icmp .gt 13, 3, 50, 0, 0, 0) := by decide +kernel
theorem r_209_40 : xrow 209 40 = some (.iload 5, 2, 0, 0, 0, 0) := by decide +kernel
theorem r_209_42 : xrow 209 42 = some (.ineg, 1, 0, 0, 0, 0) := by decide +kernel
theorem r_209_43 : xrow 209 43 = some (.aload_n 0, 1, 0, 0, 0, 0) := by decide +kernel
theorem r_209_44 : xrow 209 44 = some (.getfield 243, 3, 22, 27, 0, 1049) := by decide +kernel
theorem r_209_47 : xrow 209 47 = some (.if_icmp .le 5, 3, 52, 0, 0, 0) := by decide +kernel
theorem r_209_50 : xrow 209 50 = some (.iconst 2, 1, 0, 0, 0, 0) := by decide +kernel
theorem r_209_51 : xrow 209 51 = some (.ireturn, 1, 0, 0, 0, 0) := by decide +kernel
theorem r_209_52 : xrow 209 52 = some (.aload_n 0, 1, 0, 0, 0, 0) := by decide +kernel
theorem r_209_53 : xrow 209 53 = some (.getfield 34, 3, 22, 20, 2, 990) := by decide +kernel
theorem r_209_56 : xrow 209 56 = some (.iload_n 3, 1, 0, 0, 0, 0) := by decide +kernel
theorem r_209_57 : xrow 209 57 = some (.aload_n 0, 1, 0, 0, 0, 0) := by decide +kernel
theorem r_209_58 : xrow 209 58 = some (.getfield 28, 3, 22, 18, 2, 988) := by decide +kernel
theorem r_209_61 : xrow 209 61 = some (.iload_n 3, 1, 0, 0, 0, 0) := by decide +kernel
theorem r_209_62 : xrow 209 62 = some (.iaload, 1, 0, 0, 0, 0) := by decide +kernel
theorem r_209_63 : xrow 209 63 = some (.aload_n 0, 1, 0, 0, 0, 0) := by decide +kernel
theorem r_209_64 : xrow 209 64 = some (.getfield 237, 3, 22, 25, 0, 1047) := by decide +kernel
theorem r_209_67 : xrow 209 67 = some (.aload_n 0, 1, 0, 0, 0, 0) := by decide +kernel
theorem r_209_68 : xrow 209 68 = some (.getfield 234, 3, 22, 24, 0, 1046) := by decide +kernel
theorem r_209_71 : xrow 209 71 = some (.idiv, 1, 0, 0, 0, 0) := by decide +kernel
theorem r_209_72 : xrow 209 72 = some (.invokestatic 334, 3, 191, 0, 0, 1074) := by decide +kernel
theorem r_209_75 : xrow 209 75 = some (.aload_n 0, 1, 0, 0, 0, 0) := by decide +kernel
theorem r_209_76 : xrow 209 76 = some (.getfield 240, 3, 22, 26, 0, 1048) := by decide +kernel
theorem r_209_79 : xrow 209 79 = some (.if_icmp .le 5, 3, 84, 0, 0, 0) := by decide +kernel
theorem r_209_82 : xrow 209 82 = some (.iconst 3, 1, 0, 0, 0, 0) := by decide +kernel
theorem r_209_83 : xrow 209 83 = some (.ireturn, 1, 0, 0, 0, 0) := by decide +kernel
theorem r_209_84 : xrow 209 84 = some (.aload_n 0, 1, 0, 0, 0, 0) := by decide +kernel
theorem r_209_85 : xrow 209 85 = some (.aload_n 0, 1, 0, 0, 0, 0) := by decide +kernel
theorem r_209_86 : xrow 209 86 = some (.iload 5, 2, 0, 0, 0, 0) := by decide +kernel
theorem r_209_88 : xrow 209 88 = some (.iload_n 3, 1, 0, 0, 0, 0) := by decide +kernel
theorem r_209_89 : xrow 209 89 = some (.invokevirtual 356, 3, 207, 0, 0, 1081) := by decide +kernel
theorem r_209_92 : xrow 209 92 = some (.iload_n 3, 1, 0, 0, 0, 0) := by decide +kernel
theorem r_209_93 : xrow 209 93 = some (.invokevirtual 359, 3, 208, 0, 0, 1082) := by decide +kernel
theorem r_209_96 : xrow 209 96 = some (.ifCond .ge 7, 3, 103, 0, 0, 0) := by decide +kernel
theorem r_209_99 : xrow 209 99 = some (.iconst 4, 1, 0, 0, 0, 0) := by decide +kernel
theorem r_209_100 : xrow 209 100 = some (.goto 4, 3, 104, 0, 0, 0) := by decide +kernel
theorem r_209_103 : xrow 209 103 = some (.iconst 0, 1, 0, 0, 0, 0) := by decide +kernel
theorem r_209_104 : xrow 209 104 = some (.ireturn, 1, 0, 0, 0, 0) := by decide +kernel
theorem r_210_0 : xrow 210 0 = some (.aload_n 0, 1, 0, 0, 0, 0) := by decide +kernel
theorem r_210_1 : xrow 210 1 = some (.aload_n 0, 1, 0, 0, 0, 0) := by decide +kernel
theorem r_210_2 : xrow 210 2 = some (.getfield 52, 3, 22, 41, 2, 996) := by decide +kernel
theorem r_210_5 : xrow 210 5 = some (.aload_n 0, 1, 0, 0, 0, 0) := by decide +kernel
theorem r_210_6 : xrow 210 6 = some (.iload_n 1, 1, 0, 0, 0, 0) := by decide +kernel
theorem r_210_7 : xrow 210 7 = some (.iload_n 2, 1, 0, 0, 0, 0) := by decide +kernel
theorem r_210_8 : xrow 210 8 = some (.invokevirtual 353, 3, 206, 0, 0, 1080) := by decide +kernel
theorem r_210_11 : xrow 210 11 = some (.iaload, 1, 0, 0, 0, 0) := by decide +kernel
theorem r_210_12 : xrow 210 12 = some (.aload_n 0, 1, 0, 0, 0, 0) := by decide +kernel
theorem r_210_13 : xrow 210 13 = some (.getfield 52, 3, 22, 41, 2, 996) := by decide +kernel
theorem r_210_16 : xrow 210 16 = some (.iload_n 1, 1, 0, 0, 0, 0) := by decide +kernel
theorem r_210_17 : xrow 210 17 = some (.iaload, 1, 0, 0, 0, 0) := by decide +kernel
theorem r_210_18 : xrow 210 18 = some (.isub, 1, 0, 0, 0, 0) := by decide +kernel
theorem r_210_19 : xrow 210 19 = some (.iload_n 3, 1, 0, 0, 0, 0) := by decide +kernel
theorem r_210_20 : xrow 210 20 = some (.invokevirtual 356, 3, 207, 0, 0, 1081) := by decide +kernel
theorem r_210_23 : xrow 210 23 = some (.istore 4, 2, 0, 0, 0, 0) := by decide +kernel
theorem r_210_25 : xrow 210 25 = some (.sipush 1000, 3, 0, 0, 0, 0) := by decide +kernel
theorem r_210_28 : xrow 210 28 = some (.iload 4, 2, 0, 0, 0, 0) := by decide +kernel
theorem r_210_30 : xrow 210 30 = some (.iadd, 1, 0, 0, 0, 0) := by decide +kernel
theorem r_210_31 : xrow 210 31 = some (.bipush 100, 2, 0, 0, 0, 0) := by decide +kernel
theorem r_210_33 : xrow 210 33 = some (.aload_n 0, 1, 0, 0, 0, 0) := by decide +kernel
theorem r_210_34 : xrow 210 34 = some (.iload 4, 2, 0, 0, 0, 0) := by decide +kernel
theorem r_210_36 : xrow 210 36 = some (.iload_n 3, 1, 0, 0, 0, 0) := by decide +kernel
theorem r_210_37 : xrow 210 37 = some (.invokevirtual 359, 3, 208, 0, 0, 1082) := by decide +kernel
theorem r_210_40 : xrow 210 40 = some (.isub, 1, 0, 0, 0, 0) := by decide +kernel
theorem r_210_41 : xrow 210 41 = some (.idiv, 1, 0, 0, 0, 0) := by decide +kernel
theorem r_210_42 : xrow 210 42 = some (.iconst 1, 1, 0, 0, 0, 0) := by decide +kernel
theorem r_210_43 : xrow 210 43 = some (.iadd, 1, 0, 0, 0, 0) := by decide +kernel
theorem r_210_44 : xrow 210 44 = some (.ireturn, 1, 0, 0, 0, 0) := by decide +kernel
theorem r_211_0 : xrow 211 0 = some (.aload_n 0, 1, 0, 0, 0, 0) := by decide +kernel
theorem r_211_1 : xrow 211 1 = some (.invokevirtual 249, 3, 164, 0, 0, 1051) := by decide +kernel
theorem r_211_4 : xrow 211 4 = some (.aload_n 0, 1, 0, 0, 0, 0) := by decide +kernel
theorem r_211_5 : xrow 211 5 = some (.iload_n 1, 1, 0, 0, 0, 0) := by decide +kernel
theorem r_211_6 : xrow 211 6 = some (.invokevirtual 347, 3, 197, 0, 0, 1078) := by decide +kernel
theorem r_211_9 : xrow 211 9 = some (.ifCond .eq 30, 3, 39, 0, 0, 0) := by decide +kernel
theorem r_211_12 : xrow 211 12 = some (.iload_n 2, 1, 0, 0, 0, 0) := by decide +kernel
theorem r_211_13 : xrow 211 13 = some (.iconst 0, 1, 0, 0, 0, 0) := by decide +kernel
theorem r_211_14 : xrow 211 14 = some (.iconst 3, 1, 0, 0, 0, 0) := by decide +kernel
theorem r_211_15 : xrow 211 15 = some (.invokestatic 220, 3, 167, 0, 0, 1042) := by decide +kernel
theorem r_211_18 : xrow 211 18 = some (.ifCond .eq 21, 3, 39, 0, 0, 0) := by decide +kernel
theorem r_211_21 : xrow 211 21 = some (.aload_n 0, 1, 0, 0, 0, 0) := by decide +kernel
theorem r_211_22 : xrow 211 22 = some (.iload_n 3, 1, 0, 0, 0, 0) := by decide +kernel
theorem r_211_23 : xrow 211 23 = some (.invokevirtual 331, 3, 192, 0, 0, 1073) := by decide +kernel
theorem r_211_26 : xrow 211 26 = some (.ifCond .eq 13, 3, 39, 0, 0, 0) := by decide +kernel
theorem r_211_29 : xrow 211 29 = some (.iload 4, 2, 0, 0, 0, 0) := by decide +kernel
theorem r_211_31 : xrow 211 31 = some (.iconst 0, 1, 0, 0, 0, 0) := by decide +kernel
theorem r_211_32 : xrow 211 32 = some (.iconst 3, 1, 0, 0, 0, 0) := by decide +kernel
theorem r_211_33 : xrow 211 33 = some (.invokestatic 220, 3, 167, 0, 0, 1042) := by decide +kernel
theorem r_211_36 : xrow 211 36 = some (.ifCond .ne 9, 3, 45, 0, 0, 0) := by decide +kernel
theorem r_211_39 : xrow 211 39 = some (.aload_n 0, 1, 0, 0, 0, 0) := by decide +kernel
theorem r_211_40 : xrow 211 40 = some (.iconst 1, 1, 0, 0, 0, 0) := by decide +kernel
theorem r_211_41 : xrow 211 41 = some (.invokevirtual 252, 3, 165, 0, 0, 1052) := by decide +kernel
theorem r_211_44 : xrow 211 44 = some (.ireturn, 1, 0, 0, 0, 0) := by decide +kernel
theorem r_211_45 : xrow 211 45 = some (.aload_n 0, 1, 0, 0, 0, 0) := by decide +kernel
theorem r_211_46 : xrow 211 46 = some (.iload_n 1, 1, 0, 0, 0, 0) := by decide +kernel
theorem r_211_47 : xrow 211 47 = some (.iload_n 2, 1, 0, 0, 0, 0) := by decide +kernel
theorem r_211_48 : xrow 211 48 = some (.iload_n 3, 1, 0, 0, 0, 0) := by decide +kernel
theorem r_211_49 : xrow 211 49 = some (.invokevirtual 362, 3, 209, 0, 0, 1083) := by decide +kernel
theorem r_211_52 : xrow 211 52 = some (.istore 5, 2, 0, 0, 0, 0) := by decide +kernel
theorem r_211_54 : xrow 211 54 = some (.iload 4, 2, 0, 0, 0, 0) := by decide +kernel
theorem r_211_56 : xrow 211 56 = some (.ifCond .ne 6, 3, 62, 0, 0, 0) := by decide +kernel
theorem r_211_59 : xrow 211 59 = some (.iload 5, 2, 0, 0, 0, 0) := by decide +kernel
theorem r_211_61 : xrow 211 61 = some (.ireturn, 1, 0, 0, 0, 0) := by decide +kernel
theorem r_211_62 : xrow 211 62 = some (.iload 5, 2, 0, 0, 0, 0) := by decide +kernel
theorem r_211_64 : xrow 211 64 = some (.ifCond .le 6, 3, 70, 0, 0, 0) := by decide +kernel
theorem r_211_67 : xrow 211 67 = some (.bipush (-2), 2, 0, 0, 0, 0) := by decide +kernel
theorem r_211_69 : xrow 211 69 = some (.ireturn, 1, 0, 0, 0, 0) := by decide +kernel
theorem r_211_70 : xrow 211 70 = some (.aload_n 0, 1, 0, 0, 0, 0) := by decide +kernel
theorem r_211_71 : xrow 211 71 = some (.aload_n 0, 1, 0, 0, 0, 0) := by decide +kernel
theorem r_211_72 : xrow 211 72 = some (.getfield 52, 3, 22, 41, 2, 996) := by decide +kernel
theorem r_211_75 : xrow 211 75 = some (.aload_n 0, 1, 0, 0, 0, 0) := by decide +kernel
theorem r_211_76 : xrow 211 76 = some (.iload_n 1, 1, 0, 0, 0, 0) := by decide +kernel
theorem r_211_77 : xrow 211 77 = some (.iload_n 2, 1, 0, 0, 0, 0) := by decide +kernel
theorem r_211_78 : xrow 211 78 = some (.invokevirtual 353, 3, 206, 0, 0, 1080) := by decide +kernel
theorem r_211_81 : xrow 211 81 = some (.iaload, 1, 0, 0, 0, 0) := by decide +kernel
theorem r_211_82 : xrow 211 82 = some (.aload_n 0, 1, 0, 0, 0, 0) := by decide +kernel
theorem r_211_83 : xrow 211 83 = some (.getfield 52, 3, 22, 41, 2, 996) := by decide +kernel
theorem r_211_86 : xrow 211 86 = some (.iload_n 1, 1, 0, 0, 0, 0) := by decide +kernel
theorem r_211_87 : xrow 211 87 = some (.iaload, 1, 0, 0, 0, 0) := by decide +kernel
theorem r_211_88 : xrow 211 88 = some (.isub, 1, 0, 0, 0, 0) := by decide +kernel
theorem r_211_89 : xrow 211 89 = some (.iload_n 3, 1, 0, 0, 0, 0) := by decide +kernel
theorem r_211_90 : xrow 211 90 = some (.invokevirtual 356, 3, 207, 0, 0, 1081) := by decide +kernel
theorem r_211_93 : xrow 211 93 = some (.istore 6, 2, 0, 0, 0, 0) := by decide +kernel
theorem r_211_95 : xrow 211 95 = some (.iload 4, 2, 0, 0, 0, 0) := by decide +kernel
theorem r_211_97 : xrow 211 97 = some (.iconst 1, 1, 0, 0, 0, 0) := by decide +kernel
theorem r_211_98 : xrow 211 98 = some (.if_icmp .ne 8, 3, 106, 0, 0, 0) := by decide +kernel
theorem r_211_101 : xrow 211 101 = some (.iload 6, 2, 0, 0, 0, 0) := by decide +kernel
theorem r_211_103 : xrow 211 103 = some (.goto 26, 3, 129, 0, 0, 0) := by decide +kernel
theorem r_211_106 : xrow 211 106 = some (.iload 4, 2, 0, 0, 0, 0) := by decide +kernel
theorem r_211_108 : xrow 211 108 = some (.iconst 2, 1, 0, 0, 0, 0) := by decide +kernel
theorem r_211_109 : xrow 211 109 = some (.if_icmp .ne 13, 3, 122, 0, 0, 0) := by decide +kernel
theorem r_211_112 : xrow 211 112 = some (.aload_n 0, 1, 0, 0, 0, 0) := by decide +kernel
theorem r_211_113 : xrow 211 113 = some (.iload 6, 2, 0, 0, 0, 0) := by decide +kernel
theorem r_211_115 : xrow 211 115 = some (.iload_n 3, 1, 0, 0, 0, 0) := by decide +kernel
theorem r_211_116 : xrow 211 116 = some (.invokevirtual 359, 3, 208, 0, 0, 1082) := by decide +kernel
theorem r_211_119 : xrow 211 119 = some (.goto 10, 3, 129, 0, 0, 0) := by decide +kernel
theorem r_211_122 : xrow 211 122 = some (.aload_n 0, 1, 0, 0, 0, 0) := by decide +kernel
theorem r_211_123 : xrow 211 123 = some (.iload_n 1, 1, 0, 0, 0, 0) := by decide +kernel
theorem r_211_124 : xrow 211 124 = some (.iload_n 2, 1, 0, 0, 0, 0) := by decide +kernel
theorem r_211_125 : xrow 211 125 = some (.iload_n 3, 1, 0, 0, 0, 0) := by decide +kernel
theorem r_211_126 : xrow 211 126 = some (.invokevirtual 366, 3, 210, 0, 0, 1084) := by decide +kernel
theorem r_211_129 : xrow 211 129 = some (.ireturn, 1, 0, 0, 0, 0) := by decide +kernel
theorem r_212_0 : xrow 212 0 = some (.iconst 1, 1, 0, 0, 0, 0) := by decide +kernel
theorem r_212_1 : xrow 212 1 = some (.iconst 2, 1, 0, 0, 0, 0) := by decide +kernel
theorem r_212_2 : xrow 212 2 = some (.iload_n 0, 1, 0, 0, 0, 0) := by decide +kernel
theorem r_212_3 : xrow 212 3 = some (.imul, 1, 0, 0, 0, 0) := by decide +kernel
theorem r_212_4 : xrow 212 4 = some (.ishl, 1, 0, 0, 0, 0) := by decide +kernel
theorem r_212_5 : xrow 212 5 = some (.ireturn, 1, 0, 0, 0, 0) := by decide +kernel
theorem r_213_0 : xrow 213 0 = some (.iload_n 0, 1, 0, 0, 0, 0) := by decide +kernel
theorem r_213_1 : xrow 213 1 = some (.iconst 2, 1, 0, 0, 0, 0) := by decide +kernel
theorem r_213_2 : xrow 213 2 = some (.iload_n 1, 1, 0, 0, 0, 0) := by decide +kernel
theorem r_213_3 : xrow 213 3 = some (.imul, 1, 0, 0, 0, 0) := by decide +kernel
theorem r_213_4 : xrow 213 4 = some (.ishr, 1, 0, 0, 0, 0) := by decide +kernel
theorem r_213_5 : xrow 213 5 = some (.iconst 3, 1, 0, 0, 0, 0) := by decide +kernel
theorem r_213_6 : xrow 213 6 = some (.iand, 1, 0, 0, 0, 0) := by decide +kernel
theorem r_213_7 : xrow 213 7 = some (.ireturn, 1, 0, 0, 0, 0) := by decide +kernel
theorem r_214_0 : xrow 214 0 = some (.iconst 0, 1, 0, 0, 0, 0) := by decide +kernel
theorem r_214_1 : xrow 214 1 = some (.istore_n 1, 1, 0, 0, 0, 0) := by decide +kernel
theorem r_214_2 : xrow 214 2 = some (.iload_n 1, 1, 0, 0, 0, 0) := by decide +kernel
theorem r_214_3 : xrow 214 3 = some (.aload_n 0, 1, 0, 0, 0, 0) := by decide +kernel
theorem r_214_4 : xrow 214 4 = some (.getfield 281, 3, 22, 37, 0, 1061) := by decide +kernel
theorem r_214_7 : xrow 214 7 = some (.if_icmp .ge 73, 3, 80, 0, 0, 0) := by decide +kernel
theorem r_214_10 : xrow 214 10 = some (.aload_n 0, 1, 0, 0, 0, 0) := by decide +kernel
theorem r_214_11 : xrow 214 11 = some (.getfield 85, 3, 22, 53, 2, 1007) := by decide +kernel
theorem r_214_14 : xrow 214 14 = some (.iload_n 1, 1, 0, 0, 0, 0) := by decide +kernel
theorem r_214_15 : xrow 214 15 = some (.iconst 0, 1, 0, 0, 0, 0) := by decide +kernel
theorem r_214_16 : xrow 214 16 = some (.iastore, 1, 0, 0, 0, 0) := by decide +kernel
theorem r_214_17 : xrow 214 17 = some (.iconst 0, 1, 0, 0, 0, 0) := by decide +kernel
theorem r_214_18 : xrow 214 18 = some (.istore_n 2, 1, 0, 0, 0, 0) := by decide +kernel
theorem r_214_19 : xrow 214 19 = some (.iload_n 2, 1, 0, 0, 0, 0) := by decide +kernel
theorem r_214_20 : xrow 214 20 = some (.bipush 8, 2, 0, 0, 0, 0) := by decide +kernel
theorem r_214_22 : xrow 214 22 = some (.if_icmp .ge 52, 3, 74, 0, 0, 0) := by decide +kernel
theorem r_214_25 : xrow 214 25 = some (.aload_n 0, 1, 0, 0, 0, 0) := by decide +kernel
theorem r_214_26 : xrow 214 26 = some (.getfield 67, 3, 22, 46, 2, 1001) := by decide +kernel
theorem r_214_29 : xrow 214 29 = some (.bipush 8, 2, 0, 0, 0, 0) := by decide +kernel
theorem r_214_31 : xrow 214 31 = some (.iload_n 1, 1, 0, 0, 0, 0) := by decide +kernel
theorem r_214_32 : xrow 214 32 = some (.imul, 1, 0, 0, 0, 0) := by decide +kernel
theorem r_214_33 : xrow 214 33 = some (.iload_n 2, 1, 0, 0, 0, 0) := by decide +kernel
theorem r_214_34 : xrow 214 34 = some (.iadd, 1, 0, 0, 0, 0) := by decide +kernel
theorem r_214_35 : xrow 214 35 = some (.iaload, 1, 0, 0, 0, 0) := by decide +kernel
theorem r_214_36 : xrow 214 36 = some (.ifCond .ne 6, 3, 42, 0, 0, 0) := by decide +kernel
theorem r_214_39 : xrow 214 39 = some (.goto 29, 3, 68, 0, 0, 0) := by decide +kernel
theorem r_214_42 : xrow 214 42 = some (.aload_n 0, 1, 0, 0, 0, 0) := by decide +kernel
theorem r_214_43 : xrow 214 43 = some (.getfield 82, 3, 22, 52, 2, 1006) := by decide +kernel
theorem r_214_46 : xrow 214 46 = some (.iconst 4, 1, 0, 0, 0, 0) := by decide +kernel
theorem r_214_47 : xrow 214 47 = some (.iload_n 1, 1, 0, 0, 0, 0) := by decide +kernel
theorem r_214_48 : xrow 214 48 = some (.imul, 1, 0, 0, 0, 0) := by decide +kernel
theorem r_214_49 : xrow 214 49 = some (.aload_n 0, 1, 0, 0, 0, 0) := by decide +kernel
theorem r_214_50 : xrow 214 50 = some (.getfield 85, 3, 22, 53, 2, 1007) := by decide +kernel
theorem r_214_53 : xrow 214 53 = some (.iload_n 1, 1, 0, 0, 0, 0) := by decide +kernel
theorem r_214_54 : xrow 214 54 = some (.iaload, 1, 0, 0, 0, 0) := by decide +kernel
theorem r_214_55 : xrow 214 55 = some (.iadd, 1, 0, 0, 0, 0) := by decide +kernel
theorem r_214_56 : xrow 214 56 = some (.iload_n 2, 1, 0, 0, 0, 0) := by decide +kernel
theorem r_214_57 : xrow 214 57 = some (.iastore, 1, 0, 0, 0, 0) := by decide +kernel
theorem r_214_58 : xrow 214 58 = some (.aload_n 0, 1, 0, 0, 0, 0) := by decide +kernel
theorem r_214_59 : xrow 214 59 = some (.getfield 85, 3, 22, 53, 2, 1007) := by decide +kernel
theorem r_214_62 : xrow 214 62 = some (.iload_n 1, 1, 0, 0, 0, 0) := by decide +kernel
theorem r_214_63 : xrow 214 63 = some (.dup2, 1, 0, 0, 0, 0) := by decide +kernel
theorem r_214_64 : xrow 214 64 = some (.iaload, 1, 0, 0, 0, 0) := by decide +kernel
theorem r_214_65 : xrow 214 65 = some (.iconst 1, 1, 0, 0, 0, 0) := by decide +kernel
theorem r_214_66 : xrow 214 66 = some (.iadd, 1, 0, 0, 0, 0) := by decide +kernel
theorem r_214_67 : xrow 214 67 = some (.iastore, 1, 0, 0, 0, 0) := by decide +kernel
theorem r_214_68 : xrow 214 68 = some (.iinc 2 1, 3, 0, 0, 0, 0) := by decide +kernel
theorem r_214_71 : xrow 214 71 = some (.goto (-52), 3, 19, 0, 0, 0) := by decide +kernel
theorem r_214_74 : xrow 214 74 = some (.iinc 1 1, 3, 0, 0, 0, 0) := by decide +kernel
theorem r_214_77 : xrow 214 77 = some (.goto (-75), 3, 2, 0, 0, 0) := by decide +kernel
theorem r_214_80 : xrow 214 80 = some (.return_, 1, 0, 0, 0, 0) := by decide +kernel
theorem r_215_0 : xrow 215 0 = some (.iconst 0, 1, 0, 0, 0, 0) := by decide +kernel
theorem r_215_1 : xrow 215 1 = some (.istore_n 1, 1, 0, 0, 0, 0) := by decide +kernel
theorem r_215_2 : xrow 215 2 = some (.iconst 0, 1, 0, 0, 0, 0) := by decide +kernel
theorem r_215_3 : xrow 215 3 = some (.istore_n 2, 1, 0, 0, 0, 0) := by decide +kernel
theorem r_215_4 : xrow 215 4 = some (.iload_n 2, 1, 0, 0, 0, 0) := by decide +kernel
theorem r_215_5 : xrow 215 5 = some (.aload_n 0, 1, 0, 0, 0, 0) := by decide +kernel
theorem r_215_6 : xrow 215 6 = some (.getfield 281, 3, 22, 37, 0, 1061) := by decide +kernel
theorem r_215_9 : xrow 215 9 = some (.if_icmp .ge 57, 3, 66, 0, 0, 0) := by decide +kernel
theorem r_215_12 : xrow 215 12 = some (.iconst 0, 1, 0, 0, 0, 0) := by decide +kernel
theorem r_215_13 : xrow 215 13 = some (.istore_n 3, 1, 0, 0, 0, 0) := by decide +kernel
theorem r_215_14 : xrow 215 14 = some (.iload_n 3, 1, 0, 0, 0, 0) := by decide +kernel
theorem r_215_15 : xrow 215 15 = some (.aload_n 0, 1, 0, 0, 0, 0) := by decide +kernel
theorem r_215_16 : xrow 215 16 = some (.getfield 85, 3, 22, 53, 2, 1007) := by decide +kernel
theorem r_215_19 : xrow 215 19 = some (.iload_n 2, 1, 0, 0, 0, 0) := by decide +kernel
theorem r_215_20 : xrow 215 20 = some (.iaload, 1, 0, 0, 0, 0) := by decide +kernel
theorem r_215_21 : xrow 215 21 = some (.if_icmp .ge 39, 3, 60, 0, 0, 0) := by decide +kernel
theorem r_215_24 : xrow 215 24 = some (.aload_n 0, 1, 0, 0, 0, 0) := by decide +kernel
theorem r_215_25 : xrow 215 25 = some (.getfield 64, 3, 22, 45, 2, 1000) := by decide +kernel
theorem r_215_28 : xrow 215 28 = some (.iload_n 2, 1, 0, 0, 0, 0) := by decide +kernel
theorem r_215_29 : xrow 215 29 = some (.iaload, 1, 0, 0, 0, 0) := by decide +kernel
theorem r_215_30 : xrow 215 30 = some (.aload_n 0, 1, 0, 0, 0, 0) := by decide +kernel
theorem r_215_31 : xrow 215 31 = some (.getfield 82, 3, 22, 52, 2, 1006) := by decide +kernel
theorem r_215_34 : xrow 215 34 = some (.iconst 4, 1, 0, 0, 0, 0) := by decide +kernel
theorem r_215_35 : xrow 215 35 = some (.iload_n 2, 1, 0, 0, 0, 0) := by decide +kernel
theorem r_215_36 : xrow 215 36 = some (.imul, 1, 0, 0, 0, 0) := by decide +kernel
theorem r_215_37 : xrow 215 37 = some (.iload_n 3, 1, 0, 0, 0, 0) := by decide +kernel
theorem r_215_38 : xrow 215 38 = some (.iadd, 1, 0, 0, 0, 0) := by decide +kernel
theorem r_215_39 : xrow 215 39 = some (.iaload, 1, 0, 0, 0, 0) := by decide +kernel
theorem r_215_40 : xrow 215 40 = some (.if_icmp .ne 14, 3, 54, 0, 0, 0) := by decide +kernel
theorem r_215_43 : xrow 215 43 = some (.iload_n 1, 1, 0, 0, 0, 0) := by decide +kernel
theorem r_215_44 : xrow 215 44 = some (.iload_n 3, 1, 0, 0, 0, 0) := by decide +kernel
theorem r_215_45 : xrow 215 45 = some (.iconst 1, 1, 0, 0, 0, 0) := by decide +kernel
theorem r_215_46 : xrow 215 46 = some (.iadd, 1, 0, 0, 0, 0) := by decide +kernel
theorem r_215_47 : xrow 215 47 = some (.iload_n 2, 1, 0, 0, 0, 0) := by decide +kernel
theorem r_215_48 : xrow 215 48 = some (.invokestatic 368, 3, 212, 0, 0, 1085) := by decide +kernel
theorem r_215_51 : xrow 215 51 = some (.imul, 1, 0, 0, 0, 0) := by decide +kernel
theorem r_215_52 : xrow 215 52 = some (.iadd, 1, 0, 0, 0, 0) := by decide +kernel
theorem r_215_53 : xrow 215 53 = some (.istore_n 1, 1, 0, 0, 0, 0) := by decide +kernel
theorem r_215_54 : xrow 215 54 = some (.iinc 3 1, 3, 0, 0, 0, 0) := by decide +kernel
theorem r_215_57 : xrow 215 57 = some (.goto (-43), 3, 14, 0, 0, 0) := by decide +kernel
theorem r_215_60 : xrow 215 60 = some (.iinc 2 1, 3, 0, 0, 0, 0) := by decide +kernel
theorem r_215_63 : xrow 215 63 = some (.goto (-59), 3, 4, 0, 0, 0) := by decide +kernel
theorem r_215_66 : xrow 215 66 = some (.iload_n 1, 1, 0, 0, 0, 0) := by decide +kernel
theorem r_215_67 : xrow 215 67 = some (.ireturn, 1, 0, 0, 0, 0) := by decide +kernel
theorem r_216_0 : xrow 216 0 = some (.aload_n 0, 1, 0, 0, 0, 0) := by decide +kernel
theorem r_216_1 : xrow 216 1 = some (.getfield 67, 3, 22, 46, 2, 1001) := by decide +kernel
theorem r_216_4 : xrow 216 4 = some (.bipush 8, 2, 0, 0, 0, 0) := by decide +kernel
theorem r_216_6 : xrow 216 6 = some (.iload_n 1, 1, 0, 0, 0, 0) := by decide +kernel
theorem r_216_7 : xrow 216 7 = some (.imul, 1, 0, 0, 0, 0) := by decide +kernel
theorem r_216_8 : xrow 216 8 = some (.aload_n 0, 1, 0, 0, 0, 0) := by decide +kernel
theorem r_216_9 : xrow 216 9 = some (.getfield 82, 3, 22, 52, 2, 1006) := by decide +kernel
theorem r_216_12 : xrow 216 12 = some (.iconst 4, 1, 0, 0, 0, 0) := by decide +kernel
theorem r_216_13 : xrow 216 13 = some (.iload_n 1, 1, 0, 0, 0, 0) := by decide +kernel
theorem r_216_14 : xrow 216 14 = some (.imul, 1, 0, 0, 0, 0) := by decide +kernel
theorem r_216_15 : xrow 216 15 = some (.iload_n 2, 1, 0, 0, 0, 0) := by decide +kernel
theorem r_216_16 : xrow 216 16 = some (.iadd, 1, 0, 0, 0, 0) := by decide +kernel
theorem r_216_17 : xrow 216 17 = some (.iaload, 1, 0, 0, 0, 0) := by decide +kernel
theorem r_216_18 : xrow 216 18 = some (.iadd, 1, 0, 0, 0, 0) := by decide +kernel
theorem r_216_19 : xrow 216 19 = some (.iaload, 1, 0, 0, 0, 0) := by decide +kernel
theorem r_216_20 : xrow 216 20 = some (.ireturn, 1, 0, 0, 0, 0) := by decide +kernel
theorem r_217_0 : xrow 217 0 = some (.lconst 0, 1, 0, 0, 0, 0) := by decide +kernel
theorem r_217_1 : xrow 217 1 = some (.lstore_n 2, 1, 0, 0, 0, 0) := by decide +kernel
theorem r_217_2 : xrow 217 2 = some (.iconst 0, 1, 0, 0, 0, 0) := by decide +kernel
theorem r_217_3 : xrow 217 3 = some (.istore 4, 2, 0, 0, 0, 0) := by decide +kernel
theorem r_217_5 : xrow 217 5 = some (.iload 4, 2, 0, 0, 0, 0) := by decide +kernel
theorem r_217_7 : xrow 217 7 = some (.aload_n 0, 1, 0, 0, 0, 0) := by decide +kernel
theorem r_217_8 : xrow 217 8 = some (.getfield 85, 3, 22, 53, 2, 1007) := by decide +kernel
theorem r_217_11 : xrow 217 11 = some (.iload_n 1, 1, 0, 0, 0, 0) := by decide +kernel
theorem r_217_12 : xrow 217 12 = some (.iaload, 1, 0, 0, 0, 0) := by decide +kernel
theorem r_217_13 : xrow 217 13 = some (.if_icmp .ge 20, 3, 33, 0, 0, 0) := by decide +kernel
theorem r_217_16 : xrow 217 16 = some (.lload_n 2, 1, 0, 0, 0, 0) := by decide +kernel
theorem r_217_17 : xrow 217 17 = some (.aload_n 0, 1, 0, 0, 0, 0) := by decide +kernel
theorem r_217_18 : xrow 217 18 = some (.iload_n 1, 1, 0, 0, 0, 0) := by decide +kernel
theorem r_217_19 : xrow 217 19 = some (.iload 4, 2, 0, 0, 0, 0) := by decide +kernel
theorem r_217_21 : xrow 217 21 = some (.invokevirtual 371, 3, 216, 0, 0, 1086) := by decide +kernel
theorem r_217_24 : xrow 217 24 = some (.i2l, 1, 0, 0, 0, 0) := by decide +kernel
theorem r_217_25 : xrow 217 25 = some (.ladd, 1, 0, 0, 0, 0) := by decide +kernel
theorem r_217_26 : xrow 217 26 = some (.lstore_n 2, 1, 0, 0, 0, 0) := by decide +kernel
theorem r_217_27 : xrow 217 27 = some (.iinc 4 1, 3, 0, 0, 0, 0) := by decide +kernel
theorem r_217_30 : xrow 217 30 = some (.goto (-25), 3, 5, 0, 0, 0) := by decide +kernel
theorem r_217_33 : xrow 217 33 = some (.lload_n 2, 1, 0, 0, 0, 0) := by decide +kernel
theorem r_217_34 : xrow 217 34 = some (.lreturn, 1, 0, 0, 0, 0) := by decide +kernel
theorem r_218_0 : xrow 218 0 = some (.lconst 1, 1, 0, 0, 0, 0) := by decide +kernel
theorem r_218_1 : xrow 218 1 = some (.lstore_n 2, 1, 0, 0, 0, 0) := by decide +kernel
theorem r_218_2 : xrow 218 2 = some (.iconst 0, 1, 0, 0, 0, 0) := by decide +kernel
theorem r_218_3 : xrow 218 3 = some (.istore 4, 2, 0, 0, 0, 0) := by decide +kernel
theorem r_218_5 : xrow 218 5 = some (.iload 4, 2, 0, 0, 0, 0) := by decide +kernel
theorem r_218_7 : xrow 218 7 = some (.aload_n 0, 1, 0, 0, 0, 0) := by decide +kernel
theorem r_218_8 : xrow 218 8 = some (.getfield 281, 3, 22, 37, 0, 1061) := by decide +kernel
theorem r_218_11 : xrow 218 11 = some (.if_icmp .ge 31, 3, 42, 0, 0, 0) := by decide +kernel
theorem r_218_14 : xrow 218 14 = some (.iload_n 1, 1, 0, 0, 0, 0) := by decide +kernel
theorem r_218_15 : xrow 218 15 = some (.iload 4, 2, 0, 0, 0, 0) := by decide +kernel
theorem r_218_17 : xrow 218 17 = some (.invokestatic 374, 3, 213, 0, 0, 1087) := by decide +kernel
theorem r_218_20 : xrow 218 20 = some (.ifCond .ne 14, 3, 34, 0, 0, 0) := by decide +kernel
theorem r_218_23 : xrow 218 23 = some (.lload_n 2, 1, 0, 0, 0, 0) := by decide +kernel
theorem r_218_24 : xrow 218 24 = some (.aload_n 0, 1, 0, 0, 0, 0) := by decide +kernel
theorem r_218_25 : xrow 218 25 = some (.iload 4, 2, 0, 0, 0, 0) := by decide +kernel
theorem r_218_27 : xrow 218 27 = some (.invokevirtual 377, 3, 217, 0, 0, 1088) := by decide +kernel
theorem r_218_30 : xrow 218 30 = some (.lmul, 1, 0, 0, 0, 0) := by decide +kernel
theorem r_218_31 : xrow 218 31 = some (.goto 4, 3, 35, 0, 0, 0) := by decide +kernel
theorem r_218_34 : xrow 218 34 = some (.lload_n 2, 1, 0, 0, 0, 0) := by decide +kernel
theorem r_218_35 : xrow 218 35 = some (.lstore_n 2, 1, 0, 0, 0, 0) := by decide +kernel
theorem r_218_36 : xrow 218 36 = some (.iinc 4 1, 3, 0, 0, 0, 0) := by decide +kernel
theorem r_218_39 : xrow 218 39 = some (.goto (-34), 3, 5, 0, 0, 0) := by decide +kernel
theorem r_218_42 : xrow 218 42 = some (.lload_n 2, 1, 0, 0, 0, 0) := by decide +kernel
theorem r_218_43 : xrow 218 43 = some (.lreturn, 1, 0, 0, 0, 0) := by decide +kernel
theorem r_219_0 : xrow 219 0 = some (.iconst 0, 1, 0, 0, 0, 0) := by decide +kernel
theorem r_219_1 : xrow 219 1 = some (.istore_n 2, 1, 0, 0, 0, 0) := by decide +kernel
theorem r_219_2 : xrow 219 2 = some (.iload_n 2, 1, 0, 0, 0, 0) := by decide +kernel
theorem r_219_3 : xrow 219 3 = some (.iconst 5, 1, 0, 0, 0, 0) := by decide +kernel
theorem r_219_4 : xrow 219 4 = some (.if_icmp .ge 87, 3, 91, 0, 0, 0) := by decide +kernel
theorem r_219_7 : xrow 219 7 = some (.iload_n 1, 1, 0, 0, 0, 0) := by decide +kernel
theorem r_219_8 : xrow 219 8 = some (.iload_n 2, 1, 0, 0, 0, 0) := by decide +kernel
theorem r_219_9 : xrow 219 9 = some (.invokestatic 374, 3, 213, 0, 0, 1087) := by decide +kernel
theorem r_219_12 : xrow 219 12 = some (.istore_n 3, 1, 0, 0, 0, 0) := by decide +kernel
theorem r_219_13 : xrow 219 13 = some (.iload_n 2, 1, 0, 0, 0, 0) := by decide +kernel
theorem r_219_14 : xrow 219 14 = some (.aload_n 0, 1, 0, 0, 0, 0) := by decide +kernel
theorem r_219_15 : xrow 219 15 = some (.getfield 281, 3, 22, 37, 0, 1061) := by decide +kernel
theorem r_219_18 : xrow 219 18 = some (.if_icmp .lt 10, 3, 28, 0, 0, 0) := by decide +kernel
theorem r_219_21 : xrow 219 21 = some (.iload_n 3, 1, 0, 0, 0, 0) := by decide +kernel
theorem r_219_22 : xrow 219 22 = some (.ifCond .le 18, 3, 40, 0, 0, 0) := by decide +kernel
theorem r_219_25 : xrow 219 25 = some (.goto 13, 3, 38, 0, 0, 0) := by decide +kernel
theorem r_219_28 : xrow 219 28 = some (.iload_n 3, 1, 0, 0, 0, 0) := by decide +kernel
theorem r_219_29 : xrow 219 29 = some (.aload_n 0, 1, 0, 0, 0, 0) := by decide +kernel
theorem r_219_30 : xrow 219 30 = some (.getfield 85, 3, 22, 53, 2, 1007) := by decide +kernel
theorem r_219_33 : xrow 219 33 = some (.iload_n 2, 1, 0, 0, 0, 0) := by decide +kernel
theorem r_219_34 : xrow 219 34 = some (.iaload, 1, 0, 0, 0, 0) := by decide +kernel
theorem r_219_35 : xrow 219 35 = some (.if_icmp .le 5, 3, 40, 0, 0, 0) := by decide +kernel
theorem r_219_38 : xrow 219 38 = some (.iconst 0, 1, 0, 0, 0, 0) := by decide +kernel
theorem r_219_39 : xrow 219 39 = some (.ireturn, 1, 1, 0, 0, 0) := by decide +kernel
theorem r_219_40 : xrow 219 40 = some (.iload_n 2, 1, 0, 0, 0, 0) := by decide +kernel
theorem r_219_41 : xrow 219 41 = some (.aload_n 0, 1, 0, 0, 0, 0) := by decide +kernel
theorem r_219_42 : xrow 219 42 = some (.getfield 281, 3, 22, 37, 0, 1061) := by decide +kernel
theorem r_219_45 : xrow 219 45 = some (.if_icmp .ge 40, 3, 85, 0, 0, 0) := by decide +kernel
theorem r_219_48 : xrow 219 48 = some (.aload_n 0, 1, 0, 0, 0, 0) := by decide +kernel
theorem r_219_49 : xrow 219 49 = some (.getfield 64, 3, 22, 45, 2, 1000) := by decide +kernel
theorem r_219_52 : xrow 219 52 = some (.iload_n 2, 1, 0, 0, 0, 0) := by decide +kernel
theorem r_219_53 : xrow 219 53 = some (.iaload, 1, 0, 0, 0, 0) := by decide +kernel
theorem r_219_54 : xrow 219 54 = some (.iconst (-1), 1, 0, 0, 0, 0) := by decide +kernel
theorem r_219_55 : xrow 219 55 = some (.if_icmp .eq 30, 3, 85, 0, 0, 0) := by decide +kernel
theorem r_219_58 : xrow 219 58 = some (.iload_n 3, 1, 0, 0, 0, 0) := by decide +kernel
theorem r_219_59 : xrow 219 59 = some (.ifCond .eq 24, 3, 83, 0, 0, 0) := by decide +kernel
theorem r_219_62 : xrow 219 62 = some (.aload_n 0, 1, 0, 0, 0, 0) := by decide +kernel
theorem r_219_63 : xrow 219 63 = some (.getfield 82, 3, 22, 52, 2, 1006) := by decide +kernel
theorem r_219_66 : xrow 219 66 = some (.iconst 4, 1, 0, 0, 0, 0) := by decide +kernel
theorem r_219_67 : xrow 219 67 = some (.iload_n 2, 1, 0, 0, 0, 0) := by decide +kernel
theorem r_219_68 : xrow 219 68 = some (.imul, 1, 0, 0, 0, 0) := by decide +kernel
theorem r_219_69 : xrow 219 69 = some (.iload_n 3, 1, 0, 0, 0, 0) := by decide +kernel
theorem r_219_70 : xrow 219 70 = some (.iadd, 1, 0, 0, 0, 0) := by decide +kernel
theorem r_219_71 : xrow 219 71 = some (.iconst 1, 1, 0, 0, 0, 0) := by decide +kernel
theorem r_219_72 : xrow 219 72 = some (.isub, 1, 0, 0, 0, 0) := by decide +kernel
theorem r_219_73 : xrow 219 73 = some (.iaload, 1, 0, 0, 0, 0) := by decide +kernel
theorem r_219_74 : xrow 219 74 = some (.aload_n 0, 1, 0, 0, 0, 0) := by decide +kernel
theorem r_219_75 : xrow 219 75 = some (.getfield 64, 3, 22, 45, 2, 1000) := by decide +kernel
theorem r_219_78 : xrow 219 78 = some (.iload_n 2, 1, 0, 0, 0, 0) := by decide +kernel
theorem r_219_79 : xrow 219 79 = some (.iaload, 1, 0, 0, 0, 0) := by decide +kernel
theorem r_219_80 : xrow 219 80 = some (.if_icmp .eq 5, 3, 85, 0, 0, 0) := by decide +kernel
theorem r_219_83 : xrow 219 83 = some (.iconst 0, 1, 0, 0, 0, 0) := by decide +kernel
theorem r_219_84 : xrow 219 84 = some (.ireturn, 1, 1, 0, 0, 0) := by decide +kernel
theorem r_219_85 : xrow 219 85 = some (.iinc 2 1, 3, 0, 0, 0, 0) := by decide +kernel
theorem r_219_88 : xrow 219 88 = some (.goto (-86), 3, 2, 0, 0, 0) := by decide +kernel
theorem r_219_91 : xrow 219 91 = some (.iconst 1, 1, 0, 0, 0, 0) := by decide +kernel
theorem r_219_92 : xrow 219 92 = some (.ireturn, 1, 1, 0, 0, 0) := by decide +kernel
theorem r_220_0 : xrow 220 0 = some (.aload_n 0, 1, 0, 0, 0, 0) := by decide +kernel
theorem r_220_1 : xrow 220 1 = some (.getfield 61, 3, 22, 44, 2, 999) := by decide +kernel
theorem r_220_4 : xrow 220 4 = some (.iload_n 2, 1, 0, 0, 0, 0) := by decide +kernel
theorem r_220_5 : xrow 220 5 = some (.iaload, 1, 0, 0, 0, 0) := by decide +kernel
theorem r_220_6 : xrow 220 6 = some (.iload_n 1, 1, 0, 0, 0, 0) := by decide +kernel
theorem r_220_7 : xrow 220 7 = some (.if_icmp .ne 5, 3, 12, 0, 0, 0) := by decide +kernel
theorem r_220_10 : xrow 220 10 = some (.iconst 1, 1, 0, 0, 0, 0) := by decide +kernel
theorem r_220_11 : xrow 220 11 = some (.ireturn, 1, 1, 0, 0, 0) := by decide +kernel
theorem r_220_12 : xrow 220 12 = some (.iconst 0, 1, 0, 0, 0, 0) := by decide +kernel
theorem r_220_13 : xrow 220 13 = some (.istore_n 3, 1, 0, 0, 0, 0) := by decide +kernel
theorem r_220_14 : xrow 220 14 = some (.iconst 0, 1, 0, 0, 0, 0) := by decide +kernel
theorem r_220_15 : xrow 220 15 = some (.istore 4, 2, 0, 0, 0, 0) := by decide +kernel
theorem r_220_17 : xrow 220 17 = some (.iload 4, 2, 0, 0, 0, 0) := by decide +kernel
theorem r_220_19 : xrow 220 19 = some (.iconst 4, 1, 0, 0, 0, 0) := by decide +kernel
theorem r_220_20 : xrow 220 20 = some (.if_icmp .ge 35, 3, 55, 0, 0, 0) := by decide +kernel
theorem r_220_23 : xrow 220 23 = some (.iload_n 3, 1, 0, 0, 0, 0) := by decide +kernel
theorem r_220_24 : xrow 220 24 = some (.ifCond .ne 19, 3, 43, 0, 0, 0) := by decide +kernel
theorem r_220_27 : xrow 220 27 = some (.aload_n 0, 1, 0, 0, 0, 0) := by decide +kernel
theorem r_220_28 : xrow 220 28 = some (.iload_n 1, 1, 0, 0, 0, 0) := by decide +kernel
theorem r_220_29 : xrow 220 29 = some (.iload 4, 2, 0, 0, 0, 0) := by decide +kernel
theorem r_220_31 : xrow 220 31 = some (.invokevirtual 353, 3, 206, 0, 0, 1080) := by decide +kernel
theorem r_220_34 : xrow 220 34 = some (.aload_n 0, 1, 0, 0, 0, 0) := by decide +kernel
theorem r_220_35 : xrow 220 35 = some (.getfield 61, 3, 22, 44, 2, 999) := by decide +kernel
theorem r_220_38 : xrow 220 38 = some (.iload_n 2, 1, 0, 0, 0, 0) := by decide +kernel
theorem r_220_39 : xrow 220 39 = some (.iaload, 1, 0, 0, 0, 0) := by decide +kernel
theorem r_220_40 : xrow 220 40 = some (.if_icmp .ne 7, 3, 47, 0, 0, 0) := by decide +kernel
theorem r_220_43 : xrow 220 43 = some (.iconst 1, 1, 0, 0, 0, 0) := by decide +kernel
theorem r_220_44 : xrow 220 44 = some (.goto 4, 3, 48, 0, 0, 0) := by decide +kernel
theorem r_220_47 : xrow 220 47 = some (.iconst 0, 1, 0, 0, 0, 0) := by decide +kernel
theorem r_220_48 : xrow 220 48 = some (.istore_n 3, 1, 0, 0, 0, 0) := by decide +kernel
theorem r_220_49 : xrow 220 49 = some (.iinc 4 1, 3, 0, 0, 0, 0) := by decide +kernel
theorem r_220_52 : xrow 220 52 = some (.goto (-35), 3, 17, 0, 0, 0) := by decide +kernel
theorem r_220_55 : xrow 220 55 = some (.iload_n 3, 1, 0, 0, 0, 0) := by decide +kernel
theorem r_220_56 : xrow 220 56 = some (.ireturn, 1, 1, 0, 0, 0) := by decide +kernel
theorem r_221_0 : xrow 221 0 = some (.iconst 0, 1, 0, 0, 0, 0) := by decide +kernel
theorem r_221_1 : xrow 221 1 = some (.istore_n 3, 1, 0, 0, 0, 0) := by decide +kernel
theorem r_221_2 : xrow 221 2 = some (.iload_n 3, 1, 0, 0, 0, 0) := by decide +kernel
theorem r_221_3 : xrow 221 3 = some (.aload_n 0, 1, 0, 0, 0, 0) := by decide +kernel
theorem r_221_4 : xrow 221 4 = some (.getfield 281, 3, 22, 37, 0, 1061) := by decide +kernel
theorem r_221_7 : xrow 221 7 = some (.if_icmp .ge 33, 3, 40, 0, 0, 0) := by decide +kernel
theorem r_221_10 : xrow 221 10 = some (.iload_n 2, 1, 0, 0, 0, 0) := by decide +kernel
theorem r_221_11 : xrow 221 11 = some (.iload_n 3, 1, 0, 0, 0, 0) := by decide +kernel
theorem r_221_12 : xrow 221 12 = some (.invokestatic 374, 3, 213, 0, 0, 1087) := by decide +kernel
theorem r_221_15 : xrow 221 15 = some (.ifCond .ne 19, 3, 34, 0, 0, 0) := by decide +kernel
theorem r_221_18 : xrow 221 18 = some (.aload_n 0, 1, 0, 0, 0, 0) := by decide +kernel
theorem r_221_19 : xrow 221 19 = some (.getfield 125, 3, 22, 72, 2, 1020) := by decide +kernel
theorem r_221_22 : xrow 221 22 = some (.iload_n 1, 1, 0, 0, 0, 0) := by decide +kernel
theorem r_221_23 : xrow 221 23 = some (.iaload, 1, 0, 0, 0, 0) := by decide +kernel
theorem r_221_24 : xrow 221 24 = some (.iload_n 3, 1, 0, 0, 0, 0) := by decide +kernel
theorem r_221_25 : xrow 221 25 = some (.ishr, 1, 0, 0, 0, 0) := by decide +kernel
theorem r_221_26 : xrow 221 26 = some (.iconst 1, 1, 0, 0, 0, 0) := by decide +kernel
theorem r_221_27 : xrow 221 27 = some (.iand, 1, 0, 0, 0, 0) := by decide +kernel
theorem r_221_28 : xrow 221 28 = some (.iconst 1, 1, 0, 0, 0, 0) := by decide +kernel
theorem r_221_29 : xrow 221 29 = some (.if_icmp .ne 5, 3, 34, 0, 0, 0) := by decide +kernel
theorem r_221_32 : xrow 221 32 = some (.iload_n 3, 1, 0, 0, 0, 0) := by decide +kernel
theorem r_221_33 : xrow 221 33 = some (.ireturn, 1, 0, 0, 0, 0) := by decide +kernel
theorem r_221_34 : xrow 221 34 = some (.iinc 3 1, 3, 0, 0, 0, 0) := by decide +kernel
theorem r_221_37 : xrow 221 37 = some (.goto (-35), 3, 2, 0, 0, 0) := by decide +kernel
theorem r_221_40 : xrow 221 40 = some (.iconst (-1), 1, 0, 0, 0, 0) := by decide +kernel
theorem r_221_41 : xrow 221 41 = some (.ireturn, 1, 0, 0, 0, 0) := by decide +kernel
theorem r_222_0 : xrow 222 0 = some (.aload_n 0, 1, 0, 0, 0, 0) := by decide +kernel
theorem r_222_1 : xrow 222 1 = some (.getfield 58, 3, 22, 43, 2, 998) := by decide +kernel
theorem r_222_4 : xrow 222 4 = some (.iload_n 1, 1, 0, 0, 0, 0) := by decide +kernel
theorem r_222_5 : xrow 222 5 = some (.iaload, 1, 0, 0, 0, 0) := by decide +kernel
theorem r_222_6 : xrow 222 6 = some (.istore_n 3, 1, 0, 0, 0, 0) := by decide +kernel
theorem r_222_7 : xrow 222 7 = some (.iload_n 3, 1, 0, 0, 0, 0) := by decide +kernel
theorem r_222_8 : xrow 222 8 = some (.iconst (-1), 1, 0, 0, 0, 0) := by decide +kernel
theorem r_222_9 : xrow 222 9 = some (.if_icmp .ne 12, 3, 21, 0, 0, 0) := by decide +kernel
theorem r_222_12 : xrow 222 12 = some (.aload_n 0, 1, 0, 0, 0, 0) := by decide +kernel
theorem r_222_13 : xrow 222 13 = some (.getfield 55, 3, 22, 42, 2, 997) := by decide +kernel
theorem r_222_16 : xrow 222 16 = some (.iload_n 1, 1, 0, 0, 0, 0) := by decide +kernel
theorem r_222_17 : xrow 222 17 = some (.iaload, 1, 0, 0, 0, 0) := by decide +kernel
theorem r_222_18 : xrow 222 18 = some (.goto 19, 3, 37, 0, 0, 0) := by decide +kernel
theorem r_222_21 : xrow 222 21 = some (.aload_n 0, 1, 0, 0, 0, 0) := by decide +kernel
theorem r_222_22 : xrow 222 22 = some (.getfield 82, 3, 22, 52, 2, 1006) := by decide +kernel
theorem r_222_25 : xrow 222 25 = some (.iconst 4, 1, 0, 0, 0, 0) := by decide +kernel
theorem r_222_26 : xrow 222 26 = some (.iload_n 3, 1, 0, 0, 0, 0) := by decide +kernel
theorem r_222_27 : xrow 222 27 = some (.imul, 1, 0, 0, 0, 0) := by decide +kernel
theorem r_222_28 : xrow 222 28 = some (.iload_n 2, 1, 0, 0, 0, 0) := by decide +kernel
theorem r_222_29 : xrow 222 29 = some (.iload_n 3, 1, 0, 0, 0, 0) := by decide +kernel
theorem r_222_30 : xrow 222 30 = some (.invokestatic 374, 3, 213, 0, 0, 1087) := by decide +kernel
theorem r_222_33 : xrow 222 33 = some (.iadd, 1, 0, 0, 0, 0) := by decide +kernel
theorem r_222_34 : xrow 222 34 = some (.iconst 1, 1, 0, 0, 0, 0) := by decide +kernel
theorem r_222_35 : xrow 222 35 = some (.isub, 1, 0, 0, 0, 0) := by decide +kernel
theorem r_222_36 : xrow 222 36 = some (.iaload, 1, 0, 0, 0, 0) := by decide +kernel
theorem r_222_37 : xrow 222 37 = some (.ireturn, 1, 0, 0, 0, 0) := by decide +kernel
theorem r_223_0 : xrow 223 0 = some (.aload_n 0, 1, 0, 0, 0, 0) := by decide +kernel
theorem r_223_1 : xrow 223 1 = some (.invokevirtual 381, 3, 214, 0, 0, 1089) := by decide +kernel
theorem r_223_4 : xrow 223 4 = some (.iconst 0, 1, 0, 0, 0, 0) := by decide +kernel
theorem r_223_5 : xrow 223 5 = some (.istore_n 1, 1, 0, 0, 0, 0) := by decide +kernel
theorem r_223_6 : xrow 223 6 = some (.iload_n 1, 1, 0, 0, 0, 0) := by decide +kernel
theorem r_223_7 : xrow 223 7 = some (.aload_n 0, 1, 0, 0, 0, 0) := by decide +kernel
theorem r_223_8 : xrow 223 8 = some (.getfield 341, 3, 22, 35, 0, 1076) := by decide +kernel
theorem r_223_11 : xrow 223 11 = some (.aload_n 0, 1, 0, 0, 0, 0) := by decide +kernel
theorem r_223_12 : xrow 223 12 = some (.getfield 344, 3, 22, 36, 0, 1077) := by decide +kernel
theorem r_223_15 : xrow 223 15 = some (.imul, 1, 0, 0, 0, 0) := by decide +kernel
theorem r_223_16 : xrow 223 16 = some (.if_icmp .ge 123, 3, 139, 0, 0, 0) := by decide +kernel
theorem r_223_19 : xrow 223 19 = some (.aload_n 0, 1, 0, 0, 0, 0) := by decide +kernel
theorem r_223_20 : xrow 223 20 = some (.getfield 125, 3, 22, 72, 2, 1020) := by decide +kernel
theorem r_223_23 : xrow 223 23 = some (.iload_n 1, 1, 0, 0, 0, 0) := by decide +kernel
theorem r_223_24 : xrow 223 24 = some (.iconst 0, 1, 0, 0, 0, 0) := by decide +kernel
theorem r_223_25 : xrow 223 25 = some (.iastore, 1, 0, 0, 0, 0) := by decide +kernel
theorem r_223_26 : xrow 223 26 = some (.iconst 0, 1, 0, 0, 0, 0) := by decide +kernel
theorem r_223_27 : xrow 223 27 = some (.istore_n 2, 1, 0, 0, 0, 0) := by decide +kernel
theorem r_223_28 : xrow 223 28 = some (.iload_n 2, 1, 0, 0, 0, 0) := by decide +kernel
theorem r_223_29 : xrow 223 29 = some (.aload_n 0, 1, 0, 0, 0, 0) := by decide +kernel
theorem r_223_30 : xrow 223 30 = some (.getfield 281, 3, 22, 37, 0, 1061) := by decide +kernel
theorem r_223_33 : xrow 223 33 = some (.if_icmp .ge 34, 3, 67, 0, 0, 0) := by decide +kernel
theorem r_223_36 : xrow 223 36 = some (.aload_n 0, 1, 0, 0, 0, 0) := by decide +kernel
theorem r_223_37 : xrow 223 37 = some (.getfield 125, 3, 22, 72, 2, 1020) := by decide +kernel
theorem r_223_40 : xrow 223 40 = some (.iload_n 1, 1, 0, 0, 0, 0) := by decide +kernel
theorem r_223_41 : xrow 223 41 = some (.dup2, 1, 0, 0, 0, 0) := by decide +kernel
theorem r_223_42 : xrow 223 42 = some (.iaload, 1, 0, 0, 0, 0) := by decide +kernel
theorem r_223_43 : xrow 223 43 = some (.aload_n 0, 1, 0, 0, 0, 0) := by decide +kernel
theorem r_223_44 : xrow 223 44 = some (.iload_n 1, 1, 0, 0, 0, 0) := by decide +kernel
theorem r_223_45 : xrow 223 45 = some (.iload_n 2, 1, 0, 0, 0, 0) := by decide +kernel
theorem r_223_46 : xrow 223 46 = some (.invokevirtual 384, 3, 220, 0, 0, 1090) := by decide +kernel
theorem r_223_49 : xrow 223 49 = some (.ifCond .eq 9, 3, 58, 0, 0, 0) := by decide +kernel
theorem r_223_52 : xrow 223 52 = some (.iconst 1, 1, 0, 0, 0, 0) := by decide +kernel
theorem r_223_53 : xrow 223 53 = some (.iload_n 2, 1, 0, 0, 0, 0) := by decide +kernel
theorem r_223_54 : xrow 223 54 = some (.ishl, 1, 0, 0, 0, 0) := by decide +kernel
theorem r_223_55 : xrow 223 55 = some (.goto 4, 3, 59, 0, 0, 0) := by decide +kernel
theorem r_223_58 : xrow 223 58 = some (.iconst 0, 1, 0, 0, 0, 0) := by decide +kernel
theorem r_223_59 : xrow 223 59 = some (.ior, 1, 0, 0, 0, 0) := by decide +kernel
theorem r_223_60 : xrow 223 60 = some (.iastore, 1, 0, 0, 0, 0) := by decide +kernel
theorem r_223_61 : xrow 223 61 = some (.iinc 2 1, 3, 0, 0, 0, 0) := by decide +kernel
theorem r_223_64 : xrow 223 64 = some (.goto (-36), 3, 28, 0, 0, 0) := by decide +kernel
theorem r_223_67 : xrow 223 67 = some (.iconst 0, 1, 0, 0, 0, 0) := by decide +kernel
theorem r_223_68 : xrow 223 68 = some (.istore_n 2, 1, 0, 0, 0, 0) := by decide +kernel
theorem r_223_69 : xrow 223 69 = some (.iload_n 2, 1, 0, 0, 0, 0) := by decide +kernel
theorem r_223_70 : xrow 223 70 = some (.iconst 4, 1, 0, 0, 0, 0) := by decide +kernel
theorem r_223_71 : xrow 223 71 = some (.if_icmp .ge 62, 3, 133, 0, 0, 0) := by decide +kernel
theorem r_223_74 : xrow 223 74 = some (.iconst 0, 1, 0, 0, 0, 0) := by decide +kernel
theorem r_223_75 : xrow 223 75 = some (.istore_n 3, 1, 0, 0, 0, 0) := by decide +kernel
theorem r_223_76 : xrow 223 76 = some (.iload_n 3, 1, 0, 0, 0, 0) := by decide +kernel
theorem r_223_77 : xrow 223 77 = some (.aload_n 0, 1, 0, 0, 0, 0) := by decide +kernel
theorem r_223_78 : xrow 223 78 = some (.getfield 228, 3, 22, 22, 0, 1044) := by decide +kernel
theorem r_223_81 : xrow 223 81 = some (.if_icmp .ge 46, 3, 127, 0, 0, 0) := by decide +kernel
theorem r_223_84 : xrow 223 84 = some (.aload_n 0, 1, 0, 0, 0, 0) := by decide +kernel
theorem r_223_85 : xrow 223 85 = some (.getfield 122, 3, 22, 71, 2, 1019) := by decide +kernel
theorem r_223_88 : xrow 223 88 = some (.bipush 32, 2, 0, 0, 0, 0) := by decide +kernel
theorem r_223_90 : xrow 223 90 = some (.iload_n 1, 1, 0, 0, 0, 0) := by decide +kernel
theorem r_223_91 : xrow 223 91 = some (.imul, 1, 0, 0, 0, 0) := by decide +kernel
theorem r_223_92 : xrow 223 92 = some (.bipush 8, 2, 0, 0, 0, 0) := by decide +kernel
theorem r_223_94 : xrow 223 94 = some (.iload_n 2, 1, 0, 0, 0, 0) := by decide +kernel
theorem r_223_95 : xrow 223 95 = some (.imul, 1, 0, 0, 0, 0) := by decide +kernel
theorem r_223_96 : xrow 223 96 = some (.iadd, 1, 0, 0, 0, 0) := by decide +kernel
theorem r_223_97 : xrow 223 97 = some (.iload_n 3, 1, 0, 0, 0, 0) := by decide +kernel
theorem r_223_98 : xrow 223 98 = some (.iadd, 1, 0, 0, 0, 0) := by decide +kernel
theorem r_223_99 : xrow 223 99 = some (.aload_n 0, 1, 0, 0, 0, 0) := by decide +kernel
theorem r_223_100 : xrow 223 100 = some (.iload_n 1, 1, 0, 0, 0, 0) := by decide +kernel
theorem r_223_101 : xrow 223 101 = some (.iload_n 2, 1, 0, 0, 0, 0) := by decide +kernel
theorem r_223_102 : xrow 223 102 = some (.iload_n 3, 1, 0, 0, 0, 0) := by decide +kernel
theorem r_223_103 : xrow 223 103 = some (.invokevirtual 362, 3, 209, 0, 0, 1083) := by decide +kernel
theorem r_223_106 : xrow 223 106 = some (.ifCond .ne 13, 3, 119, 0, 0, 0) := by decide +kernel
theorem r_223_109 : xrow 223 109 = some (.aload_n 0, 1, 0, 0, 0, 0) := by decide +kernel
theorem r_223_110 : xrow 223 110 = some (.iload_n 1, 1, 0, 0, 0, 0) := by decide +kernel
theorem r_223_111 : xrow 223 111 = some (.iload_n 2, 1, 0, 0, 0, 0) := by decide +kernel
theorem r_223_112 : xrow 223 112 = some (.iload_n 3, 1, 0, 0, 0, 0) := by decide +kernel
theorem r_223_113 : xrow 223 113 = some (.invokevirtual 366, 3, 210, 0, 0, 1084) := by decide +kernel
theorem r_223_116 : xrow 223 116 = some (.goto 4, 3, 120, 0, 0, 0) := by decide +kernel
theorem r_223_119 : xrow 223 119 = some (.iconst 0, 1, 0, 0, 0, 0) := by decide +kernel
theorem r_223_120 : xrow 223 120 = some (.iastore, 1, 0, 0, 0, 0) := by decide +kernel
theorem r_223_121 : xrow 223 121 = some (.iinc 3 1, 3, 0, 0, 0, 0) := by decide +kernel
theorem r_223_124 : xrow 223 124 = some (.goto (-48), 3, 76, 0, 0, 0) := by decide +kernel
theorem r_223_127 : xrow 223 127 = some (.iinc 2 1, 3, 0, 0, 0, 0) := by decide +kernel
theorem r_223_130 : xrow 223 130 = some (.goto (-61), 3, 69, 0, 0, 0) := by decide +kernel
theorem r_223_133 : xrow 223 133 = some (.iinc 1 1, 3, 0, 0, 0, 0) := by decide +kernel
theorem r_223_136 : xrow 223 136 = some (.goto (-130), 3, 6, 0, 0, 0) := by decide +kernel
theorem r_223_139 : xrow 223 139 = some (.return_, 1, 0, 0, 0, 0) := by decide +kernel
theorem r_224_0 : xrow 224 0 = some (.iconst 0, 1, 0, 0, 0, 0) := by decide +kernel
theorem r_224_1 : xrow 224 1 = some (.istore_n 2, 1, 0, 0, 0, 0) := by decide +kernel
theorem r_224_2 : xrow 224 2 = some (.iload_n 2, 1, 0, 0, 0, 0) := by decide +kernel
theorem r_224_3 : xrow 224 3 = some (.aload_n 0, 1, 0, 0, 0, 0) := by decide +kernel
theorem r_224_4 : xrow 224 4 = some (.getfield 341, 3, 22, 35, 0, 1076) := by decide +kernel
theorem r_224_7 : xrow 224 7 = some (.aload_n 0, 1, 0, 0, 0, 0) := by decide +kernel
theorem r_224_8 : xrow 224 8 = some (.getfield 344, 3, 22, 36, 0, 1077) := by decide +kernel
theorem r_224_11 : xrow 224 11 = some (.imul, 1, 0, 0, 0, 0) := by decide +kernel
theorem r_224_12 : xrow 224 12 = some (.if_icmp .ge 106, 3, 118, 0, 0, 0) := by decide +kernel
theorem r_224_15 : xrow 224 15 = some (.iconst 0, 1, 0, 0, 0, 0) := by decide +kernel
theorem r_224_16 : xrow 224 16 = some (.istore_n 3, 1, 0, 0, 0, 0) := by decide +kernel
theorem r_224_17 : xrow 224 17 = some (.iload_n 3, 1, 0, 0, 0, 0) := by decide +kernel
theorem r_224_18 : xrow 224 18 = some (.iconst 4, 1, 0, 0, 0, 0) := by decide +kernel
theorem r_224_19 : xrow 224 19 = some (.if_icmp .ge 93, 3, 112, 0, 0, 0) := by decide +kernel
theorem r_224_22 : xrow 224 22 = some (.aload_n 0, 1, 0, 0, 0, 0) := by decide +kernel
theorem r_224_23 : xrow 224 23 = some (.iload_n 2, 1, 0, 0, 0, 0) := by decide +kernel
theorem r_224_24 : xrow 224 24 = some (.iload_n 3, 1, 0, 0, 0, 0) := by decide +kernel
theorem r_224_25 : xrow 224 25 = some (.invokevirtual 353, 3, 206, 0, 0, 1080) := by decide +kernel
theorem r_224_28 : xrow 224 28 = some (.istore 4, 2, 0, 0, 0, 0) := by decide +kernel
theorem r_224_30 : xrow 224 30 = some (.aload_n 0, 1, 0, 0, 0, 0) := by decide +kernel
theorem r_224_31 : xrow 224 31 = some (.getfield 119, 3, 22, 70, 2, 1018) := by decide +kernel
theorem r_224_34 : xrow 224 34 = some (.iconst 4, 1, 0, 0, 0, 0) := by decide +kernel
theorem r_224_35 : xrow 224 35 = some (.iload_n 2, 1, 0, 0, 0, 0) := by decide +kernel
theorem r_224_36 : xrow 224 36 = some (.imul, 1, 0, 0, 0, 0) := by decide +kernel
theorem r_224_37 : xrow 224 37 = some (.iload_n 3, 1, 0, 0, 0, 0) := by decide +kernel
theorem r_224_38 : xrow 224 38 = some (.iadd, 1, 0, 0, 0, 0) := by decide +kernel
theorem r_224_39 : xrow 224 39 = some (.iconst 0, 1, 0, 0, 0, 0) := by decide +kernel
theorem r_224_40 : xrow 224 40 = some (.iastore, 1, 0, 0, 0, 0) := by decide +kernel
theorem r_224_41 : xrow 224 41 = some (.iload 4, 2, 0, 0, 0, 0) := by decide +kernel
theorem r_224_43 : xrow 224 43 = some (.ifCond .lt 63, 3, 106, 0, 0, 0) := by decide +kernel
theorem r_224_46 : xrow 224 46 = some (.aload_n 0, 1, 0, 0, 0, 0) := by decide +kernel
theorem r_224_47 : xrow 224 47 = some (.getfield 58, 3, 22, 43, 2, 998) := by decide +kernel
theorem r_224_50 : xrow 224 50 = some (.iload 4, 2, 0, 0, 0, 0) := by decide +kernel
theorem r_224_52 : xrow 224 52 = some (.iaload, 1, 0, 0, 0, 0) := by decide +kernel
theorem r_224_53 : xrow 224 53 = some (.iconst (-1), 1, 0, 0, 0, 0) := by decide +kernel
theorem r_224_54 : xrow 224 54 = some (.if_icmp .eq 20, 3, 74, 0, 0, 0) := by decide +kernel
theorem r_224_57 : xrow 224 57 = some (.iload_n 1, 1, 0, 0, 0, 0) := by decide +kernel
theorem r_224_58 : xrow 224 58 = some (.aload_n 0, 1, 0, 0, 0, 0) := by decide +kernel
theorem r_224_59 : xrow 224 59 = some (.getfield 58, 3, 22, 43, 2, 998) := by decide +kernel
theorem r_224_62 : xrow 224 62 = some (.iload 4, 2, 0, 0, 0, 0) := by decide +kernel
theorem r_224_64 : xrow 224 64 = some (.iaload, 1, 0, 0, 0, 0) := by decide +kernel
theorem r_224_65 : xrow 224 65 = some (.invokestatic 374, 3, 213, 0, 0, 1087) := by decide +kernel
theorem r_224_68 : xrow 224 68 = some (.ifCond .ne 6, 3, 74, 0, 0, 0) := by decide +kernel
theorem r_224_71 : xrow 224 71 = some (.goto 35, 3, 106, 0, 0, 0) := by decide +kernel
theorem r_224_74 : xrow 224 74 = some (.aload_n 0, 1, 0, 0, 0, 0) := by decide +kernel
theorem r_224_75 : xrow 224 75 = some (.getfield 119, 3, 22, 70, 2, 1018) := by decide +kernel
theorem r_224_78 : xrow 224 78 = some (.iconst 4, 1, 0, 0, 0, 0) := by decide +kernel
theorem r_224_79 : xrow 224 79 = some (.iload_n 2, 1, 0, 0, 0, 0) := by decide +kernel
theorem r_224_80 : xrow 224 80 = some (.imul, 1, 0, 0, 0, 0) := by decide +kernel
theorem r_224_81 : xrow 224 81 = some (.iload_n 3, 1, 0, 0, 0, 0) := by decide +kernel
theorem r_224_82 : xrow 224 82 = some (.iadd, 1, 0, 0, 0, 0) := by decide +kernel
theorem r_224_83 : xrow 224 83 = some (.aload_n 0, 1, 0, 0, 0, 0) := by decide +kernel
theorem r_224_84 : xrow 224 84 = some (.getfield 122, 3, 22, 71, 2, 1019) := by decide +kernel
theorem r_224_87 : xrow 224 87 = some (.bipush 32, 2, 0, 0, 0, 0) := by decide +kernel
theorem r_224_89 : xrow 224 89 = some (.iload_n 2, 1, 0, 0, 0, 0) := by decide +kernel
theorem r_224_90 : xrow 224 90 = some (.imul, 1, 0, 0, 0, 0) := by decide +kernel
theorem r_224_91 : xrow 224 91 = some (.bipush 8, 2, 0, 0, 0, 0) := by decide +kernel
theorem r_224_93 : xrow 224 93 = some (.iload_n 3, 1, 0, 0, 0, 0) := by decide +kernel
theorem r_224_94 : xrow 224 94 = some (.imul, 1, 0, 0, 0, 0) := by decide +kernel
theorem r_224_95 : xrow 224 95 = some (.iadd, 1, 0, 0, 0, 0) := by decide +kernel
theorem r_224_96 : xrow 224 96 = some (.aload_n 0, 1, 0, 0, 0, 0) := by decide +kernel
theorem r_224_97 : xrow 224 97 = some (.iload 4, 2, 0, 0, 0, 0) := by decide +kernel
theorem r_224_99 : xrow 224 99 = some (.iload_n 1, 1, 0, 0, 0, 0) := by decide +kernel
theorem r_224_100 : xrow 224 100 = some (.invokevirtual 387, 3, 222, 0, 0, 1091) := by decide +kernel
theorem r_224_103 : xrow 224 103 = some (.iadd, 1, 0, 0, 0, 0) := by decide +kernel
theorem r_224_104 : xrow 224 104 = some (.iaload, 1, 0, 0, 0, 0) := by decide +kernel
theorem r_224_105 : xrow 224 105 = some (.iastore, 1, 0, 0, 0, 0) := by decide +kernel
theorem r_224_106 : xrow 224 106 = some (.iinc 3 1, 3, 0, 0, 0, 0) := by decide +kernel
theorem r_224_109 : xrow 224 109 = some (.goto (-92), 3, 17, 0, 0, 0) := by decide +kernel
theorem r_224_112 : xrow 224 112 = some (.iinc 2 1, 3, 0, 0, 0, 0) := by decide +kernel
theorem r_224_115 : xrow 224 115 = some (.goto (-113), 3, 2, 0, 0, 0) := by decide +kernel
theorem r_224_118 : xrow 224 118 = some (.return_, 1, 0, 0, 0, 0) := by decide +kernel
theorem r_225_0 : xrow 225 0 = some (.lconst 0, 1, 0, 0, 0, 0) := by decide +kernel
theorem r_225_1 : xrow 225 1 = some (.lstore 5, 2, 0, 0, 0, 0) := by decide +kernel
theorem r_225_3 : xrow 225 3 = some (.iconst 0, 1, 0, 0, 0, 0) := by decide +kernel
theorem r_225_4 : xrow 225 4 = some (.istore 7, 2, 0, 0, 0, 0) := by decide +kernel
theorem r_225_6 : xrow 225 6 = some (.iload 7, 2, 0, 0, 0, 0) := by decide +kernel
theorem r_225_8 : xrow 225 8 = some (.aload_n 0, 1, 0, 0, 0, 0) := by decide +kernel
theorem r_225_9 : xrow 225 9 = some (.getfield 85, 3, 22, 53, 2, 1007) := by decide +kernel
theorem r_225_12 : xrow 225 12 = some (.iload_n 3, 1, 0, 0, 0, 0) := by decide +kernel
theorem r_225_13 : xrow 225 13 = some (.iaload, 1, 0, 0, 0, 0) := by decide +kernel
theorem r_225_14 : xrow 225 14 = some (.if_icmp .ge 84, 3, 98, 0, 0, 0) := by decide +kernel
theorem r_225_17 : xrow 225 17 = some (.aload_n 0, 1, 0, 0, 0, 0) := by decide +kernel
theorem r_225_18 : xrow 225 18 = some (.getfield 74, 3, 22, 48, 2, 1004) := by decide +kernel
theorem r_225_21 : xrow 225 21 = some (.bipush 100, 2, 0, 0, 0, 0) := by decide +kernel
theorem r_225_23 : xrow 225 23 = some (.iload_n 1, 1, 0, 0, 0, 0) := by decide +kernel
theorem r_225_24 : xrow 225 24 = some (.iload 7, 2, 0, 0, 0, 0) := by decide +kernel
theorem r_225_26 : xrow 225 26 = some (.iconst 1, 1, 0, 0, 0, 0) := by decide +kernel
theorem r_225_27 : xrow 225 27 = some (.iadd, 1, 0, 0, 0, 0) := by decide +kernel
theorem r_225_28 : xrow 225 28 = some (.iload_n 3, 1, 0, 0, 0, 0) := by decide +kernel
theorem r_225_29 : xrow 225 29 = some (.invokestatic 368, 3, 212, 0, 0, 1085) := by decide +kernel
theorem r_225_32 : xrow 225 32 = some (.imul, 1, 0, 0, 0, 0) := by decide +kernel
theorem r_225_33 : xrow 225 33 = some (.iadd, 1, 0, 0, 0, 0) := by decide +kernel
theorem r_225_34 : xrow 225 34 = some (.imul, 1, 0, 0, 0, 0) := by decide +kernel
theorem r_225_35 : xrow 225 35 = some (.iload_n 2, 1, 0, 0, 0, 0) := by decide +kernel
theorem r_225_36 : xrow 225 36 = some (.iadd, 1, 0, 0, 0, 0) := by decide +kernel
theorem r_225_37 : xrow 225 37 = some (.laload, 1, 0, 0, 0, 0) := by decide +kernel
theorem r_225_38 : xrow 225 38 = some (.lstore 8, 2, 0, 0, 0, 0) := by decide +kernel
theorem r_225_40 : xrow 225 40 = some (.lload 8, 2, 0, 0, 0, 0) := by decide +kernel
theorem r_225_42 : xrow 225 42 = some (.ldc2_w 390, 3, 3, 0, 0, 1092) := by decide +kernel
theorem r_225_45 : xrow 225 45 = some (.lcmp, 1, 0, 0, 0, 0) := by decide +kernel
theorem r_225_46 : xrow 225 46 = some (.ifCond .lt 7, 3, 53, 0, 0, 0) := by decide +kernel
theorem r_225_49 : xrow 225 49 = some (.ldc2_w 390, 3, 3, 0, 0, 1092) := by decide +kernel
theorem r_225_52 : xrow 225 52 = some (.lreturn, 1, 0, 0, 0, 0) := by decide +kernel
theorem r_225_53 : xrow 225 53 = some (.iload 4, 2, 0, 0, 0, 0) := by decide +kernel
theorem r_225_55 : xrow 225 55 = some (.ifCond .eq 20, 3, 75, 0, 0, 0) := by decide +kernel
theorem r_225_58 : xrow 225 58 = some (.lload 5, 2, 0, 0, 0, 0) := by decide +kernel
theorem r_225_60 : xrow 225 60 = some (.aload_n 0, 1, 0, 0, 0, 0) := by decide +kernel
theorem r_225_61 : xrow 225 61 = some (.iload_n 3, 1, 0, 0, 0, 0) := by decide +kernel
theorem r_225_62 : xrow 225 62 = some (.iload 7, 2, 0, 0, 0, 0) := by decide +kernel
theorem r_225_64 : xrow 225 64 = some (.invokevirtual 371, 3, 216, 0, 0, 1086) := by decide +kernel
theorem r_225_67 : xrow 225 67 = some (.i2l, 1, 0, 0, 0, 0) := by decide +kernel
theorem r_225_68 : xrow 225 68 = some (.lload 8, 2, 0, 0, 0, 0) := by decide +kernel
theorem r_225_70 : xrow 225 70 = some (.lmul, 1, 0, 0, 0, 0) := by decide +kernel
theorem r_225_71 : xrow 225 71 = some (.ladd, 1, 0, 0, 0, 0) := by decide +kernel
theorem r_225_72 : xrow 225 72 = some (.goto 18, 3, 90, 0, 0, 0) := by decide +kernel
theorem r_225_75 : xrow 225 75 = some (.lload 8, 2, 0, 0, 0, 0) := by decide +kernel
theorem r_225_77 : xrow 225 77 = some (.lload 5, 2, 0, 0, 0, 0) := by decide +kernel
theorem r_225_79 : xrow 225 79 = some (.lcmp, 1, 0, 0, 0, 0) := by decide +kernel
theorem r_225_80 : xrow 225 80 = some (.ifCond .le 8, 3, 88, 0, 0, 0) := by decide +kernel
theorem r_225_83 : xrow 225 83 = some (.lload 8, 2, 0, 0, 0, 0) := by decide +kernel
theorem r_225_85 : xrow 225 85 = some (.goto 5, 3, 90, 0, 0, 0) := by decide +kernel
theorem r_225_88 : xrow 225 88 = some (.lload 5, 2, 0, 0, 0, 0) := by decide +kernel
theorem r_225_90 : xrow 225 90 = some (.lstore 5, 2, 0, 0, 0, 0) := by decide +kernel
theorem r_225_92 : xrow 225 92 = some (.iinc 7 1, 3, 0, 0, 0, 0) := by decide +kernel
theorem r_225_95 : xrow 225 95 = some (.goto (-89), 3, 6, 0, 0, 0) := by decide +kernel
theorem r_225_98 : xrow 225 98 = some (.lload 5, 2, 0, 0, 0, 0) := by decide +kernel
theorem r_225_100 : xrow 225 100 = some (.lreturn, 1, 0, 0, 0, 0) := by decide +kernel
theorem r_226_0 : xrow 226 0 = some (.aload_n 0, 1, 0, 0, 0, 0) := by decide +kernel
theorem r_226_1 : xrow 226 1 = some (.getfield 287, 3, 22, 51, 0, 1063) := by decide +kernel
theorem r_226_4 : xrow 226 4 = some (.ifCond .eq 20, 3, 24, 0, 0, 0) := by decide +kernel
theorem r_226_7 : xrow 226 7 = some (.aload_n 0, 1, 0, 0, 0, 0) := by decide +kernel
theorem r_226_8 : xrow 226 8 = some (.getfield 78, 3, 22, 49, 0, 1005) := by decide +kernel
theorem r_226_11 : xrow 226 11 = some (.iload_n 1, 1, 0, 0, 0, 0) := by decide +kernel
theorem r_226_12 : xrow 226 12 = some (.if_icmp .ne 12, 3, 24, 0, 0, 0) := by decide +kernel
theorem r_226_15 : xrow 226 15 = some (.aload_n 0, 1, 0, 0, 0, 0) := by decide +kernel
theorem r_226_16 : xrow 226 16 = some (.getfield 392, 3, 22, 50, 0, 1093) := by decide +kernel
theorem r_226_19 : xrow 226 19 = some (.iload_n 2, 1, 0, 0, 0, 0) := by decide +kernel
theorem r_226_20 : xrow 226 20 = some (.if_icmp .ne 4, 3, 24, 0, 0, 0) := by decide +kernel
theorem r_226_23 : xrow 226 23 = some (.return_, 1, 0, 0, 0, 0) := by decide +kernel
theorem r_226_24 : xrow 226 24 = some (.aload_n 0, 1, 0, 0, 0, 0) := by decide +kernel
theorem r_226_25 : xrow 226 25 = some (.iconst 1, 1, 0, 0, 0, 0) := by decide +kernel
theorem r_226_26 : xrow 226 26 = some (.putfield 287, 3, 22, 51, 3, 1063) := by decide +kernel
theorem r_226_29 : xrow 226 29 = some (.aload_n 0, 1, 0, 0, 0, 0) := by decide +kernel
theorem r_226_30 : xrow 226 30 = some (.iload_n 1, 1, 0, 0, 0, 0) := by decide +kernel
theorem r_226_31 : xrow 226 31 = some (.putfield 78, 3, 22, 49, 0, 1005) := by decide +kernel
theorem r_226_34 : xrow 226 34 = some (.aload_n 0, 1, 0, 0, 0, 0) := by decide +kernel
theorem r_226_35 : xrow 226 35 = some (.iload_n 2, 1, 0, 0, 0, 0) := by decide +kernel
theorem r_226_36 : xrow 226 36 = some (.putfield 392, 3, 22, 50, 3, 1093) := by decide +kernel
theorem r_226_39 : xrow 226 39 = some (.aload_n 0, 1, 0, 0, 0, 0) := by decide +kernel
theorem r_226_40 : xrow 226 40 = some (.invokevirtual 395, 3, 223, 0, 0, 1094) := by decide +kernel
theorem r_226_43 : xrow 226 43 = some (.sipush 1023, 3, 0, 0, 0, 0) := by decide +kernel
theorem r_226_46 : xrow 226 46 = some (.istore_n 3, 1, 0, 0, 0, 0) := by decide +kernel
theorem r_226_47 : xrow 226 47 = some (.iload_n 3, 1, 0, 0, 0, 0) := by decide +kernel
theorem r_226_48 : xrow 226 48 = some (.ifCond .lt 228, 3, 276, 0, 0, 0) := by decide +kernel
theorem r_226_51 : xrow 226 51 = some (.aload_n 0, 1, 0, 0, 0, 0) := by decide +kernel
theorem r_226_52 : xrow 226 52 = some (.iload_n 3, 1, 0, 0, 0, 0) := by decide +kernel
theorem r_226_53 : xrow 226 53 = some (.invokevirtual 398, 3, 219, 0, 0, 1095) := by decide +kernel
theorem r_226_56 : xrow 226 56 = some (.ifCond .ne 6, 3, 62, 0, 0, 0) := by decide +kernel
theorem r_226_59 : xrow 226 59 = some (.goto 211, 3, 270, 0, 0, 0) := by decide +kernel
theorem r_226_62 : xrow 226 62 = some (.aload_n 0, 1, 0, 0, 0, 0) := by decide +kernel
theorem r_226_63 : xrow 226 63 = some (.iload_n 3, 1, 0, 0, 0, 0) := by decide +kernel
theorem r_226_64 : xrow 226 64 = some (.invokevirtual 401, 3, 224, 0, 0, 1096) := by decide +kernel
theorem r_226_67 : xrow 226 67 = some (.iconst 0, 1, 0, 0, 0, 0) := by decide +kernel
theorem r_226_68 : xrow 226 68 = some (.istore 4, 2, 0, 0, 0, 0) := by decide +kernel
theorem r_226_70 : xrow 226 70 = some (.iload 4, 2, 0, 0, 0, 0) := by decide +kernel
theorem r_226_72 : xrow 226 72 = some (.aload_n 0, 1, 0, 0, 0, 0) := by decide +kernel
theorem r_226_73 : xrow 226 73 = some (.getfield 341, 3, 22, 35, 0, 1076) := by decide +kernel
theorem r_226_76 : xrow 226 76 = some (.aload_n 0, 1, 0, 0, 0, 0) := by decide +kernel
theorem r_226_77 : xrow 226 77 = some (.getfield 344, 3, 22, 36, 0, 1077) := by decide +kernel
theorem r_226_80 : xrow 226 80 = some (.imul, 1, 0, 0, 0, 0) := by decide +kernel
theorem r_226_81 : xrow 226 81 = some (.if_icmp .ge 62, 3, 143, 0, 0, 0) := by decide +kernel
theorem r_226_84 : xrow 226 84 = some (.aload_n 0, 1, 0, 0, 0, 0) := by decide +kernel
theorem r_226_85 : xrow 226 85 = some (.iload 4, 2, 0, 0, 0, 0) := by decide +kernel
theorem r_226_87 : xrow 226 87 = some (.iload_n 3, 1, 0, 0, 0, 0) := by decide +kernel
theorem r_226_88 : xrow 226 88 = some (.invokevirtual 404, 3, 221, 0, 0, 1097) := by decide +kernel
theorem r_226_91 : xrow 226 91 = some (.istore 5, 2, 0, 0, 0, 0) := by decide +kernel
theorem r_226_93 : xrow 226 93 = some (.aload_n 0, 1, 0, 0, 0, 0) := by decide +kernel
theorem r_226_94 : xrow 226 94 = some (.getfield 74, 3, 22, 48, 2, 1004) := by decide +kernel
theorem r_226_97 : xrow 226 97 = some (.bipush 100, 2, 0, 0, 0, 0) := by decide +kernel
theorem r_226_99 : xrow 226 99 = some (.iload_n 3, 1, 0, 0, 0, 0) := by decide +kernel
theorem r_226_100 : xrow 226 100 = some (.imul, 1, 0, 0, 0, 0) := by decide +kernel
theorem r_226_101 : xrow 226 101 = some (.iload 4, 2, 0, 0, 0, 0) := by decide +kernel
theorem r_226_103 : xrow 226 103 = some (.iadd, 1, 0, 0, 0, 0) := by decide +kernel
theorem r_226_104 : xrow 226 104 = some (.iload 4, 2, 0, 0, 0, 0) := by decide +kernel
theorem r_226_106 : xrow 226 106 = some (.iload_n 1, 1, 0, 0, 0, 0) := by decide +kernel
theorem r_226_107 : xrow 226 107 = some (.if_icmp .ne 7, 3, 114, 0, 0, 0) := by decide +kernel
theorem r_226_110 : xrow 226 110 = some (.lconst 0, 1, 0, 0, 0, 0) := by decide +kernel
theorem r_226_111 : xrow 226 111 = some (.goto 25, 3, 136, 0, 0, 0) := by decide +kernel
theorem r_226_114 : xrow 226 114 = some (.iload 5, 2, 0, 0, 0, 0) := by decide +kernel
theorem r_226_116 : xrow 226 116 = some (.iconst (-1), 1, 0, 0, 0, 0) := by decide +kernel
theorem r_226_117 : xrow 226 117 = some (.if_icmp .ne 9, 3, 126, 0, 0, 0) := by decide +kernel
theorem r_226_120 : xrow 226 120 = some (.ldc2_w 390, 3, 3, 0, 0, 1092) := by decide +kernel
theorem r_226_123 : xrow 226 123 = some (.goto 13, 3, 136, 0, 0, 0) := by decide +kernel
theorem r_226_126 : xrow 226 126 = some (.aload_n 0, 1, 0, 0, 0, 0) := by decide +kernel
theorem r_226_127 : xrow 226 127 = some (.iload_n 3, 1, 0, 0, 0, 0) := by decide +kernel
theorem r_226_128 : xrow 226 128 = some (.iload 4, 2, 0, 0, 0, 0) := by decide +kernel
theorem r_226_130 : xrow 226 130 = some (.iload 5, 2, 0, 0, 0, 0) := by decide +kernel
theorem r_226_132 : xrow 226 132 = some (.iload_n 2, 1, 0, 0, 0, 0) := by decide +kernel
theorem r_226_133 : xrow 226 133 = some (.invokevirtual 407, 3, 225, 0, 0, 1098) := by decide +kernel
theorem r_226_136 : xrow 226 136 = some (.lastore, 1, 0, 0, 0, 0) := by decide +kernel
theorem r_226_137 : xrow 226 137 = some (.iinc 4 1, 3, 0, 0, 0, 0) := by decide +kernel
theorem r_226_140 : xrow 226 140 = some (.goto (-70), 3, 70, 0, 0, 0) := by decide +kernel
theorem r_226_143 : xrow 226 143 = some (.iload_n 2, 1, 0, 0, 0, 0) := by decide +kernel
theorem r_226_144 : xrow 226 144 = some (.ifCond .eq 11, 3, 155, 0, 0, 0) := by decide +kernel
theorem r_226_147 : xrow 226 147 = some (.aload_n 0, 1, 0, 0, 0, 0) := by decide +kernel
theorem r_226_148 : xrow 226 148 = some (.iload_n 3, 1, 0, 0, 0, 0) := by decide +kernel
theorem r_226_149 : xrow 226 149 = some (.invokevirtual 411, 3, 218, 0, 0, 1099) := by decide +kernel
theorem r_226_152 : xrow 226 152 = some (.goto 4, 3, 156, 0, 0, 0) := by decide +kernel
theorem r_226_155 : xrow 226 155 = some (.lconst 1, 1, 0, 0, 0, 0) := by decide +kernel
theorem r_226_156 : xrow 226 156 = some (.lstore 4, 2, 0, 0, 0, 0) := by decide +kernel
theorem r_226_158 : xrow 226 158 = some (.iconst 1, 1, 0, 0, 0, 0) := by decide +kernel
theorem r_226_159 : xrow 226 159 = some (.istore 6, 2, 0, 0, 0, 0) := by decide +kernel
theorem r_226_161 : xrow 226 161 = some (.iload 6, 2, 0, 0, 0, 0) := by decide +kernel
theorem r_226_163 : xrow 226 163 = some (.ifCond .eq 107, 3, 270, 0, 0, 0) := by decide +kernel
theorem r_226_166 : xrow 226 166 = some (.iconst 0, 1, 0, 0, 0, 0) := by decide +kernel
theorem r_226_167 : xrow 226 167 = some (.istore 6, 2, 0, 0, 0, 0) := by decide +kernel
theorem r_226_169 : xrow 226 169 = some (.iconst 0, 1, 0, 0, 0, 0) := by decide +kernel
theorem r_226_170 : xrow 226 170 = some (.istore 7, 2, 0, 0, 0, 0) := by decide +kernel
theorem r_226_172 : xrow 226 172 = some (.iload 7, 2, 0, 0, 0, 0) := by decide +kernel
theorem r_226_174 : xrow 226 174 = some (.aload_n 0, 1, 0, 0, 0, 0) := by decide +kernel
theorem r_226_175 : xrow 226 175 = some (.getfield 341, 3, 22, 35, 0, 1076) := by decide +kernel
theorem r_226_178 : xrow 226 178 = some (.aload_n 0, 1, 0, 0, 0, 0) := by decide +kernel
theorem r_226_179 : xrow 226 179 = some (.getfield 344, 3, 22, 36, 0, 1077) := by decide +kernel
theorem r_226_182 : xrow 226 182 = some (.imul, 1, 0, 0, 0, 0) := by decide +kernel
theorem r_226_183 : xrow 226 183 = some (.if_icmp .ge 84, 3, 267, 0, 0, 0) := by decide +kernel
theorem r_226_186 : xrow 226 186 = some (.iload 7, 2, 0, 0, 0, 0) := by decide +kernel
theorem r_226_188 : xrow 226 188 = some (.iload_n 1, 1, 0, 0, 0, 0) := by decide +kernel
theorem r_226_189 : xrow 226 189 = some (.if_icmp .eq 72, 3, 261, 0, 0, 0) := by decide +kernel
theorem r_226_192 : xrow 226 192 = some (.aload_n 0, 1, 0, 0, 0, 0) := by decide +kernel
theorem r_226_193 : xrow 226 193 = some (.iload 7, 2, 0, 0, 0, 0) := by decide +kernel
theorem r_226_195 : xrow 226 195 = some (.iload_n 3, 1, 0, 0, 0, 0) := by decide +kernel
theorem r_226_196 : xrow 226 196 = some (.invokevirtual 404, 3, 221, 0, 0, 1097) := by decide +kernel
theorem r_226_199 : xrow 226 199 = some (.iconst (-1), 1, 0, 0, 0, 0) := by decide +kernel
theorem r_226_200 : xrow 226 200 = some (.if_icmp .eq 6, 3, 206, 0, 0, 0) := by decide +kernel
theorem r_226_203 : xrow 226 203 = some (.goto 58, 3, 261, 0, 0, 0) := by decide +kernel
theorem r_226_206 : xrow 226 206 = some (.aload_n 0, 1, 0, 0, 0, 0) := by decide +kernel
theorem r_226_207 : xrow 226 207 = some (.iload_n 3, 1, 0, 0, 0, 0) := by decide +kernel
theorem r_226_208 : xrow 226 208 = some (.iload 7, 2, 0, 0, 0, 0) := by decide +kernel
theorem r_226_210 : xrow 226 210 = some (.lload 4, 2, 0, 0, 0, 0) := by decide +kernel
theorem r_226_212 : xrow 226 212 = some (.invokevirtual 413, 3, 227, 0, 0, 1100) := by decide +kernel
theorem r_226_215 : xrow 226 215 = some (.lstore 8, 2, 0, 0, 0, 0) := by decide +kernel
theorem r_226_217 : xrow 226 217 = some (.iload 6, 2, 0, 0, 0, 0) := by decide +kernel
theorem r_226_219 : xrow 226 219 = some (.ifCond .ne 21, 3, 240, 0, 0, 0) := by decide +kernel
theorem r_226_222 : xrow 226 222 = some (.lload 8, 2, 0, 0, 0, 0) := by decide +kernel
theorem r_226_224 : xrow 226 224 = some (.aload_n 0, 1, 0, 0, 0, 0) := by decide +kernel
theorem r_226_225 : xrow 226 225 = some (.getfield 74, 3, 22, 48, 2, 1004) := by decide +kernel
theorem r_226_228 : xrow 226 228 = some (.bipush 100, 2, 0, 0, 0, 0) := by decide +kernel
theorem r_226_230 : xrow 226 230 = some (.iload_n 3, 1, 0, 0, 0, 0) := by decide +kernel
theorem r_226_231 : xrow 226 231 = some (.imul, 1, 0, 0, 0, 0) := by decide +kernel
theorem r_226_232 : xrow 226 232 = some (.iload 7, 2, 0, 0, 0, 0) := by decide +kernel
theorem r_226_234 : xrow 226 234 = some (.iadd, 1, 0, 0, 0, 0) := by decide +kernel
theorem r_226_235 : xrow 226 235 = some (.laload, 1, 0, 0, 0, 0) := by decide +kernel
theorem r_226_236 : xrow 226 236 = some (.lcmp, 1, 0, 0, 0, 0) := by decide +kernel
theorem r_226_237 : xrow 226 237 = some (.ifCond .ge 7, 3, 244, 0, 0, 0) := by decide +kernel
theorem r_226_240 : xrow 226 240 = some (.iconst 1, 1, 0, 0, 0, 0) := by decide +kernel
theorem r_226_241 : xrow 226 241 = some (.goto 4, 3, 245, 0, 0, 0) := by decide +kernel
theorem r_226_244 : xrow 226 244 = some (.iconst 0, 1, 0, 0, 0, 0) := by decide +kernel
theorem r_226_245 : xrow 226 245 = some (.istore 6, 2, 0, 0, 0, 0) := by decide +kernel
theorem r_226_247 : xrow 226 247 = some (.aload_n 0, 1, 0, 0, 0, 0) := by decide +kernel
theorem r_226_248 : xrow 226 248 = some (.getfield 74, 3, 22, 48, 2, 1004) := by decide +kernel
theorem r_226_251 : xrow 226 251 = some (.bipush 100, 2, 0, 0, 0, 0) := by decide +kernel
theorem r_226_253 : xrow 226 253 = some (.iload_n 3, 1, 0, 0, 0, 0) := by decide +kernel
theorem r_226_254 : xrow 226 254 = some (.imul, 1, 0, 0, 0, 0) := by decide +kernel
theorem r_226_255 : xrow 226 255 = some (.iload 7, 2, 0, 0, 0, 0) := by decide +kernel
theorem r_226_257 : xrow 226 257 = some (.iadd, 1, 0, 0, 0, 0) := by decide +kernel
theorem r_226_258 : xrow 226 258 = some (.lload 8, 2, 0, 0, 0, 0) := by decide +kernel
theorem r_226_260 : xrow 226 260 = some (.lastore, 1, 0, 0, 0, 0) := by decide +kernel
theorem r_226_261 : xrow 226 261 = some (.iinc 7 1, 3, 0, 0, 0, 0) := by decide +kernel
theorem r_226_264 : xrow 226 264 = some (.goto (-92), 3, 172, 0, 0, 0) := by decide +kernel
theorem r_226_267 : xrow 226 267 = some (.goto (-106), 3, 161, 0, 0, 0) := by decide +kernel
theorem r_226_270 : xrow 226 270 = some (.iinc 3 (-1), 3, 0, 0, 0, 0) := by decide +kernel
theorem r_226_273 : xrow 226 273 = some (.goto (-226), 3, 47, 0, 0, 0) := by decide +kernel
theorem r_226_276 : xrow 226 276 = some (.return_, 1, 0, 0, 0, 0) := by decide +kernel
theorem r_227_0 : xrow 227 0 = some (.aload_n 0, 1, 0, 0, 0, 0) := by decide +kernel
theorem r_227_1 : xrow 227 1 = some (.getfield 74, 3, 22, 48, 2, 1004) := by decide +kernel
theorem r_227_4 : xrow 227 4 = some (.bipush 100, 2, 0, 0, 0, 0) := by decide +kernel
theorem r_227_6 : xrow 227 6 = some (.iload_n 1, 1, 0, 0, 0, 0) := by decide +kernel
theorem r_227_7 : xrow 227 7 = some (.imul, 1, 0, 0, 0, 0) := by decide +kernel
theorem r_227_8 : xrow 227 8 = some (.iload_n 2, 1, 0, 0, 0, 0) := by decide +kernel
theorem r_227_9 : xrow 227 9 = some (.iadd, 1, 0, 0, 0, 0) := by decide +kernel
theorem r_227_10 : xrow 227 10 = some (.laload, 1, 0, 0, 0, 0) := by decide +kernel
theorem r_227_11 : xrow 227 11 = some (.lstore 5, 2, 0, 0, 0, 0) := by decide +kernel
theorem r_227_13 : xrow 227 13 = some (.iconst 0, 1, 0, 0, 0, 0) := by decide +kernel
theorem r_227_14 : xrow 227 14 = some (.istore 7, 2, 0, 0, 0, 0) := by decide +kernel
theorem r_227_16 : xrow 227 16 = some (.iload 7, 2, 0, 0, 0, 0) := by decide +kernel
theorem r_227_18 : xrow 227 18 = some (.iconst 4, 1, 0, 0, 0, 0) := by decide +kernel
theorem r_227_19 : xrow 227 19 = some (.if_icmp .ge 96, 3, 115, 0, 0, 0) := by decide +kernel
theorem r_227_22 : xrow 227 22 = some (.aload_n 0, 1, 0, 0, 0, 0) := by decide +kernel
theorem r_227_23 : xrow 227 23 = some (.getfield 119, 3, 22, 70, 2, 1018) := by decide +kernel
theorem r_227_26 : xrow 227 26 = some (.iconst 4, 1, 0, 0, 0, 0) := by decide +kernel
theorem r_227_27 : xrow 227 27 = some (.iload_n 2, 1, 0, 0, 0, 0) := by decide +kernel
theorem r_227_28 : xrow 227 28 = some (.imul, 1, 0, 0, 0, 0) := by decide +kernel
theorem r_227_29 : xrow 227 29 = some (.iload 7, 2, 0, 0, 0, 0) := by decide +kernel
theorem r_227_31 : xrow 227 31 = some (.iadd, 1, 0, 0, 0, 0) := by decide +kernel
theorem r_227_32 : xrow 227 32 = some (.iaload, 1, 0, 0, 0, 0) := by decide +kernel
theorem r_227_33 : xrow 227 33 = some (.ifCond .ne 6, 3, 39, 0, 0, 0) := by decide +kernel
theorem r_227_36 : xrow 227 36 = some (.goto 73, 3, 109, 0, 0, 0) := by decide +kernel
theorem r_227_39 : xrow 227 39 = some (.aload_n 0, 1, 0, 0, 0, 0) := by decide +kernel
theorem r_227_40 : xrow 227 40 = some (.getfield 74, 3, 22, 48, 2, 1004) := by decide +kernel
theorem r_227_43 : xrow 227 43 = some (.bipush 100, 2, 0, 0, 0, 0) := by decide +kernel
theorem r_227_45 : xrow 227 45 = some (.iload_n 1, 1, 0, 0, 0, 0) := by decide +kernel
theorem r_227_46 : xrow 227 46 = some (.imul, 1, 0, 0, 0, 0) := by decide +kernel
theorem r_227_47 : xrow 227 47 = some (.aload_n 0, 1, 0, 0, 0, 0) := by decide +kernel
theorem r_227_48 : xrow 227 48 = some (.iload_n 2, 1, 0, 0, 0, 0) := by decide +kernel
theorem r_227_49 : xrow 227 49 = some (.iload 7, 2, 0, 0, 0, 0) := by decide +kernel
theorem r_227_51 : xrow 227 51 = some (.invokevirtual 353, 3, 206, 0, 0, 1080) := by decide +kernel
theorem r_227_54 : xrow 227 54 = some (.iadd, 1, 0, 0, 0, 0) := by decide +kernel
theorem r_227_55 : xrow 227 55 = some (.laload, 1, 0, 0, 0, 0) := by decide +kernel
theorem r_227_56 : xrow 227 56 = some (.lstore 8, 2, 0, 0, 0, 0) := by decide +kernel
theorem r_227_58 : xrow 227 58 = some (.lload 8, 2, 0, 0, 0, 0) := by decide +kernel
theorem r_227_60 : xrow 227 60 = some (.ldc2_w 390, 3, 3, 0, 0, 1092) := by decide +kernel
theorem r_227_63 : xrow 227 63 = some (.lcmp, 1, 0, 0, 0, 0) := by decide +kernel
theorem r_227_64 : xrow 227 64 = some (.ifCond .ge 45, 3, 109, 0, 0, 0) := by decide +kernel
theorem r_227_67 : xrow 227 67 = some (.lload 8, 2, 0, 0, 0, 0) := by decide +kernel
theorem r_227_69 : xrow 227 69 = some (.lload_n 3, 1, 0, 0, 0, 0) := by decide +kernel
theorem r_227_70 : xrow 227 70 = some (.aload_n 0, 1, 0, 0, 0, 0) := by decide +kernel
theorem r_227_71 : xrow 227 71 = some (.getfield 119, 3, 22, 70, 2, 1018) := by decide +kernel
theorem r_227_74 : xrow 227 74 = some (.iconst 4, 1, 0, 0, 0, 0) := by decide +kernel
theorem r_227_75 : xrow 227 75 = some (.iload_n 2, 1, 0, 0, 0, 0) := by decide +kernel
theorem r_227_76 : xrow 227 76 = some (.imul, 1, 0, 0, 0, 0) := by decide +kernel
theorem r_227_77 : xrow 227 77 = some (.iload 7, 2, 0, 0, 0, 0) := by decide +kernel
theorem r_227_79 : xrow 227 79 = some (.iadd, 1, 0, 0, 0, 0) := by decide +kernel
theorem r_227_80 : xrow 227 80 = some (.iaload, 1, 0, 0, 0, 0) := by decide +kernel
theorem r_227_81 : xrow 227 81 = some (.i2l, 1, 0, 0, 0, 0) := by decide +kernel
theorem r_227_82 : xrow 227 82 = some (.lmul, 1, 0, 0, 0, 0) := by decide +kernel
theorem r_227_83 : xrow 227 83 = some (.ladd, 1, 0, 0, 0, 0) := by decide +kernel
theorem r_227_84 : xrow 227 84 = some (.lload 5, 2, 0, 0, 0, 0) := by decide +kernel
theorem r_227_86 : xrow 227 86 = some (.lcmp, 1, 0, 0, 0, 0) := by decide +kernel
theorem r_227_87 : xrow 227 87 = some (.ifCond .ge 22, 3, 109, 0, 0, 0) := by decide +kernel
theorem r_227_90 : xrow 227 90 = some (.lload 8, 2, 0, 0, 0, 0) := by decide +kernel
theorem r_227_92 : xrow 227 92 = some (.lload_n 3, 1, 0, 0, 0, 0) := by decide +kernel
theorem r_227_93 : xrow 227 93 = some (.aload_n 0, 1, 0, 0, 0, 0) := by decide +kernel
theorem r_227_94 : xrow 227 94 = some (.getfield 119, 3, 22, 70, 2, 1018) := by decide +kernel
theorem r_227_97 : xrow 227 97 = some (.iconst 4, 1, 0, 0, 0, 0) := by decide +kernel
theorem r_227_98 : xrow 227 98 = some (.iload_n 2, 1, 0, 0, 0, 0) := by decide +kernel
theorem r_227_99 : xrow 227 99 = some (.imul, 1, 0, 0, 0, 0) := by decide +kernel
theorem r_227_100 : xrow 227 100 = some (.iload 7, 2, 0, 0, 0, 0) := by decide +kernel
theorem r_227_102 : xrow 227 102 = some (.iadd, 1, 0, 0, 0, 0) := by decide +kernel
theorem r_227_103 : xrow 227 103 = some (.iaload, 1, 0, 0, 0, 0) := by decide +kernel
theorem r_227_104 : xrow 227 104 = some (.i2l, 1, 0, 0, 0, 0) := by decide +kernel
theorem r_227_105 : xrow 227 105 = some (.lmul, 1, 0, 0, 0, 0) := by decide +kernel
theorem r_227_106 : xrow 227 106 = some (.ladd, 1, 0, 0, 0, 0) := by decide +kernel
theorem r_227_107 : xrow 227 107 = some (.lstore 5, 2, 0, 0, 0, 0) := by decide +kernel
theorem r_227_109 : xrow 227 109 = some (.iinc 7 1, 3, 0, 0, 0, 0) := by decide +kernel
theorem r_227_112 : xrow 227 112 = some (.goto (-96), 3, 16, 0, 0, 0) := by decide +kernel
theorem r_227_115 : xrow 227 115 = some (.lload 5, 2, 0, 0, 0, 0) := by decide +kernel
theorem r_227_117 : xrow 227 117 = some (.lreturn, 1, 0, 0, 0, 0) := by decide +kernel
theorem r_228_0 : xrow 228 0 = some (.aload_n 0, 1, 0, 0, 0, 0) := by decide +kernel
theorem r_228_1 : xrow 228 1 = some (.iload_n 2, 1, 0, 0, 0, 0) := by decide +kernel
theorem r_228_2 : xrow 228 2 = some (.iload_n 3, 1, 0, 0, 0, 0) := by decide +kernel
theorem r_228_3 : xrow 228 3 = some (.invokevirtual 417, 3, 226, 0, 0, 1101) := by decide +kernel
theorem r_228_6 : xrow 228 6 = some (.aload_n 0, 1, 0, 0, 0, 0) := by decide +kernel
theorem r_228_7 : xrow 228 7 = some (.getfield 74, 3, 22, 48, 2, 1004) := by decide +kernel
theorem r_228_10 : xrow 228 10 = some (.bipush 100, 2, 0, 0, 0, 0) := by decide +kernel
theorem r_228_12 : xrow 228 12 = some (.aload_n 0, 1, 0, 0, 0, 0) := by decide +kernel
theorem r_228_13 : xrow 228 13 = some (.invokevirtual 421, 3, 215, 0, 0, 1102) := by decide +kernel
theorem r_228_16 : xrow 228 16 = some (.imul, 1, 0, 0, 0, 0) := by decide +kernel
theorem r_228_17 : xrow 228 17 = some (.iload_n 1, 1, 0, 0, 0, 0) := by decide +kernel
theorem r_228_18 : xrow 228 18 = some (.iadd, 1, 0, 0, 0, 0) := by decide +kernel
theorem r_228_19 : xrow 228 19 = some (.laload, 1, 0, 0, 0, 0) := by decide +kernel
theorem r_228_20 : xrow 228 20 = some (.lstore 4, 2, 0, 0, 0, 0) := by decide +kernel
theorem r_228_22 : xrow 228 22 = some (.lload 4, 2, 0, 0, 0, 0) := by decide +kernel
theorem r_228_24 : xrow 228 24 = some (.ldc2_w 390, 3, 3, 0, 0, 1092) := by decide +kernel
theorem r_228_27 : xrow 228 27 = some (.lcmp, 1, 0, 0, 0, 0) := by decide +kernel
theorem r_228_28 : xrow 228 28 = some (.ifCond .lt 9, 3, 37, 0, 0, 0) := by decide +kernel
theorem r_228_31 : xrow 228 31 = some (.ldc2_w 424, 3, 4, 0, 0, 1103) := by decide +kernel
theorem r_228_34 : xrow 228 34 = some (.goto 5, 3, 39, 0, 0, 0) := by decide +kernel
theorem r_228_37 : xrow 228 37 = some (.lload 4, 2, 0, 0, 0, 0) := by decide +kernel
theorem r_228_39 : xrow 228 39 = some (.lreturn, 1, 0, 0, 0, 0) := by decide +kernel
theorem r_229_0 : xrow 229 0 = some (.aload_n 0, 1, 0, 0, 0, 0) := by decide +kernel
theorem r_229_1 : xrow 229 1 = some (.invokevirtual 249, 3, 164, 0, 0, 1051) := by decide +kernel
theorem r_229_4 : xrow 229 4 = some (.aload_n 0, 1, 0, 0, 0, 0) := by decide +kernel
theorem r_229_5 : xrow 229 5 = some (.iload_n 1, 1, 0, 0, 0, 0) := by decide +kernel
theorem r_229_6 : xrow 229 6 = some (.invokevirtual 347, 3, 197, 0, 0, 1078) := by decide +kernel
theorem r_229_9 : xrow 229 9 = some (.ifCond .eq 11, 3, 20, 0, 0, 0) := by decide +kernel
theorem r_229_12 : xrow 229 12 = some (.aload_n 0, 1, 0, 0, 0, 0) := by decide +kernel
theorem r_229_13 : xrow 229 13 = some (.iload_n 2, 1, 0, 0, 0, 0) := by decide +kernel
theorem r_229_14 : xrow 229 14 = some (.invokevirtual 347, 3, 197, 0, 0, 1078) := by decide +kernel
theorem r_229_17 : xrow 229 17 = some (.ifCond .ne 9, 3, 26, 0, 0, 0) := by decide +kernel
theorem r_229_20 : xrow 229 20 = some (.aload_n 0, 1, 0, 0, 0, 0) := by decide +kernel
theorem r_229_21 : xrow 229 21 = some (.iconst 1, 1, 0, 0, 0, 0) := by decide +kernel
theorem r_229_22 : xrow 229 22 = some (.invokevirtual 252, 3, 165, 0, 0, 1052) := by decide +kernel
theorem r_229_25 : xrow 229 25 = some (.ireturn, 1, 0, 0, 0, 0) := by decide +kernel
theorem r_229_26 : xrow 229 26 = some (.aload_n 0, 1, 0, 0, 0, 0) := by decide +kernel
theorem r_229_27 : xrow 229 27 = some (.iload_n 1, 1, 0, 0, 0, 0) := by decide +kernel
theorem r_229_28 : xrow 229 28 = some (.iload_n 2, 1, 0, 0, 0, 0) := by decide +kernel
theorem r_229_29 : xrow 229 29 = some (.iconst 0, 1, 0, 0, 0, 0) := by decide +kernel
theorem r_229_30 : xrow 229 30 = some (.invokevirtual 426, 3, 228, 0, 0, 1104) := by decide +kernel
theorem r_229_33 : xrow 229 33 = some (.lstore_n 3, 1, 0, 0, 0, 0) := by decide +kernel
theorem r_229_34 : xrow 229 34 = some (.lload_n 3, 1, 0, 0, 0, 0) := by decide +kernel
theorem r_229_35 : xrow 229 35 = some (.lconst 0, 1, 0, 0, 0, 0) := by decide +kernel
theorem r_229_36 : xrow 229 36 = some (.lcmp, 1, 0, 0, 0, 0) := by decide +kernel
theorem r_229_37 : xrow 229 37 = some (.ifCond .ge 12, 3, 49, 0, 0, 0) := by decide +kernel
theorem r_229_40 : xrow 229 40 = some (.aload_n 0, 1, 0, 0, 0, 0) := by decide +kernel
theorem r_229_41 : xrow 229 41 = some (.bipush 6, 2, 0, 0, 0, 0) := by decide +kernel
theorem r_229_43 : xrow 229 43 = some (.invokevirtual 252, 3, 165, 0, 0, 1052) := by decide +kernel
theorem r_229_46 : xrow 229 46 = some (.goto 5, 3, 51, 0, 0, 0) := by decide +kernel
theorem r_229_49 : xrow 229 49 = some (.lload_n 3, 1, 0, 0, 0, 0) := by decide +kernel
theorem r_229_50 : xrow 229 50 = some (.l2i, 1, 0, 0, 0, 0) := by decide +kernel
theorem r_229_51 : xrow 229 51 = some (.ireturn, 1, 0, 0, 0, 0) := by decide +kernel
