theorem dX5_takesOut_87 : decode cX5_takesOut 87 = .ok (.iadd, 1) := by decide +kernel
theorem dX5_takesOut_88 : decode cX5_takesOut 88 = .ok (.iaload, 1) := by decide +kernel
theorem dX5_takesOut_89 : decode cX5_takesOut 89 = .ok (.aload_n 0, 1) := by decide +kernel
theorem dX5_takesOut_90 : decode cX5_takesOut 90 = .ok (.getfield 7, 3) := by decide +kernel
theorem dX5_takesOut_93 : decode cX5_takesOut 93 = .ok (.bipush 95, 2) := by decide +kernel
theorem dX5_takesOut_95 : decode cX5_takesOut 95 = .ok (.iload 5, 2) := by decide +kernel
theorem dX5_takesOut_97 : decode cX5_takesOut 97 = .ok (.iadd, 1) := by decide +kernel
theorem dX5_takesOut_98 : decode cX5_takesOut 98 = .ok (.iaload, 1) := by decide +kernel
theorem dX5_takesOut_99 : decode cX5_takesOut 99 = .ok (.iload 5, 2) := by decide +kernel
theorem dX5_takesOut_101 : decode cX5_takesOut 101 = .ok (.invokevirtual 59, 3) := by decide +kernel
theorem dX5_takesOut_104 : decode cX5_takesOut 104 = .ok (.aload_n 0, 1) := by decide +kernel
theorem dX5_takesOut_105 : decode cX5_takesOut 105 = .ok (.getfield 7, 3) := by decide +kernel
theorem dX5_takesOut_108 : decode cX5_takesOut 108 = .ok (.bipush 31, 2) := by decide +kernel
theorem dX5_takesOut_110 : decode cX5_takesOut 110 = .ok (.iload 5, 2) := by decide +kernel
theorem dX5_takesOut_112 : decode cX5_takesOut 112 = .ok (.iadd, 1) := by decide +kernel
theorem dX5_takesOut_113 : decode cX5_takesOut 113 = .ok (.iconst (-1), 1) := by decide +kernel
theorem dX5_takesOut_114 : decode cX5_takesOut 114 = .ok (.iastore, 1) := by decide +kernel
theorem dX5_takesOut_115 : decode cX5_takesOut 115 = .ok (.aload_n 0, 1) := by decide +kernel
theorem dX5_takesOut_116 : decode cX5_takesOut 116 = .ok (.getfield 7, 3) := by decide +kernel
theorem dX5_takesOut_119 : decode cX5_takesOut 119 = .ok (.bipush 95, 2) := by decide +kernel
theorem dX5_takesOut_121 : decode cX5_takesOut 121 = .ok (.iload 5, 2) := by decide +kernel
theorem dX5_takesOut_123 : decode cX5_takesOut 123 = .ok (.iadd, 1) := by decide +kernel
theorem dX5_takesOut_124 : decode cX5_takesOut 124 = .ok (.iconst 0, 1) := by decide +kernel
theorem dX5_takesOut_125 : decode cX5_takesOut 125 = .ok (.iastore, 1) := by decide +kernel
theorem dX5_takesOut_126 : decode cX5_takesOut 126 = .ok (.iinc 5 1, 3) := by decide +kernel
theorem dX5_takesOut_129 : decode cX5_takesOut 129 = .ok (.goto (-116), 3) := by decide +kernel
theorem dX5_takesOut_132 : decode cX5_takesOut 132 = .ok (.iload_n 3, 1) := by decide +kernel
theorem dX5_takesOut_133 : decode cX5_takesOut 133 = .ok (.iconst (-1), 1) := by decide +kernel
theorem dX5_takesOut_134 : decode cX5_takesOut 134 = .ok (.if_icmp .eq 27, 3) := by decide +kernel
theorem dX5_takesOut_137 : decode cX5_takesOut 137 = .ok (.aload_n 0, 1) := by decide +kernel
theorem dX5_takesOut_138 : decode cX5_takesOut 138 = .ok (.getfield 56, 3) := by decide +kernel
theorem dX5_takesOut_141 : decode cX5_takesOut 141 = .ok (.iconst (-1), 1) := by decide +kernel
theorem dX5_takesOut_142 : decode cX5_takesOut 142 = .ok (.if_icmp .ne 19, 3) := by decide +kernel
theorem dX5_takesOut_145 : decode cX5_takesOut 145 = .ok (.aload_n 0, 1) := by decide +kernel
theorem dX5_takesOut_146 : decode cX5_takesOut 146 = .ok (.aload_n 0, 1) := by decide +kernel
theorem dX5_takesOut_147 : decode cX5_takesOut 147 = .ok (.getfield 53, 3) := by decide +kernel
theorem dX5_takesOut_150 : decode cX5_takesOut 150 = .ok (.putfield 56, 3) := by decide +kernel
theorem dX5_takesOut_153 : decode cX5_takesOut 153 = .ok (.aload_n 0, 1) := by decide +kernel
theorem dX5_takesOut_154 : decode cX5_takesOut 154 = .ok (.iload_n 3, 1) := by decide +kernel
theorem dX5_takesOut_155 : decode cX5_takesOut 155 = .ok (.iload 4, 2) := by decide +kernel
theorem dX5_takesOut_157 : decode cX5_takesOut 157 = .ok (.iconst (-1), 1) := by decide +kernel
theorem dX5_takesOut_158 : decode cX5_takesOut 158 = .ok (.invokevirtual 59, 3) := by decide +kernel
theorem dX5_takesOut_161 : decode cX5_takesOut 161 = .ok (.return_, 1) := by decide +kernel
theorem dX5_putsBack_0 : decode cX5_putsBack 0 = .ok (.aload_n 0, 1) := by decide +kernel
theorem dX5_putsBack_1 : decode cX5_putsBack 1 = .ok (.getfield 7, 3) := by decide +kernel
theorem dX5_putsBack_4 : decode cX5_putsBack 4 = .ok (.iconst 1, 1) := by decide +kernel
theorem dX5_putsBack_5 : decode cX5_putsBack 5 = .ok (.iaload, 1) := by decide +kernel
theorem dX5_putsBack_6 : decode cX5_putsBack 6 = .ok (.iconst 1, 1) := by decide +kernel
theorem dX5_putsBack_7 : decode cX5_putsBack 7 = .ok (.if_icmp .ne 15, 3) := by decide +kernel
theorem dX5_putsBack_10 : decode cX5_putsBack 10 = .ok (.aload_n 0, 1) := by decide +kernel
theorem dX5_putsBack_11 : decode cX5_putsBack 11 = .ok (.getfield 56, 3) := by decide +kernel
theorem dX5_putsBack_14 : decode cX5_putsBack 14 = .ok (.iconst (-1), 1) := by decide +kernel
theorem dX5_putsBack_15 : decode cX5_putsBack 15 = .ok (.if_icmp .eq 7, 3) := by decide +kernel
theorem dX5_putsBack_18 : decode cX5_putsBack 18 = .ok (.iconst 1, 1) := by decide +kernel
theorem dX5_putsBack_19 : decode cX5_putsBack 19 = .ok (.goto 4, 3) := by decide +kernel
theorem dX5_putsBack_22 : decode cX5_putsBack 22 = .ok (.iconst 0, 1) := by decide +kernel
theorem dX5_putsBack_23 : decode cX5_putsBack 23 = .ok (.istore_n 3, 1) := by decide +kernel
theorem dX5_putsBack_24 : decode cX5_putsBack 24 = .ok (.iload_n 3, 1) := by decide +kernel
theorem dX5_putsBack_25 : decode cX5_putsBack 25 = .ok (.ifCond .eq 14, 3) := by decide +kernel
theorem dX5_putsBack_28 : decode cX5_putsBack 28 = .ok (.iload_n 2, 1) := by decide +kernel
theorem dX5_putsBack_29 : decode cX5_putsBack 29 = .ok (.aload_n 0, 1) := by decide +kernel
theorem dX5_putsBack_30 : decode cX5_putsBack 30 = .ok (.getfield 53, 3) := by decide +kernel
theorem dX5_putsBack_33 : decode cX5_putsBack 33 = .ok (.isub, 1) := by decide +kernel
theorem dX5_putsBack_34 : decode cX5_putsBack 34 = .ok (.iconst 2, 1) := by decide +kernel
theorem dX5_putsBack_35 : decode cX5_putsBack 35 = .ok (.idiv, 1) := by decide +kernel
theorem dX5_putsBack_36 : decode cX5_putsBack 36 = .ok (.goto 4, 3) := by decide +kernel
theorem dX5_putsBack_39 : decode cX5_putsBack 39 = .ok (.iconst 0, 1) := by decide +kernel
theorem dX5_putsBack_40 : decode cX5_putsBack 40 = .ok (.istore 4, 2) := by decide +kernel
theorem dX5_putsBack_42 : decode cX5_putsBack 42 = .ok (.iconst 0, 1) := by decide +kernel
theorem dX5_putsBack_43 : decode cX5_putsBack 43 = .ok (.istore 5, 2) := by decide +kernel
theorem dX5_putsBack_45 : decode cX5_putsBack 45 = .ok (.iconst 0, 1) := by decide +kernel
theorem dX5_putsBack_46 : decode cX5_putsBack 46 = .ok (.istore 6, 2) := by decide +kernel
theorem dX5_putsBack_48 : decode cX5_putsBack 48 = .ok (.iload 6, 2) := by decide +kernel
theorem dX5_putsBack_50 : decode cX5_putsBack 50 = .ok (.aload_n 0, 1) := by decide +kernel
theorem dX5_putsBack_51 : decode cX5_putsBack 51 = .ok (.getfield 53, 3) := by decide +kernel
theorem dX5_putsBack_54 : decode cX5_putsBack 54 = .ok (.if_icmp .ge 101, 3) := by decide +kernel
theorem dX5_putsBack_57 : decode cX5_putsBack 57 = .ok (.iload_n 1, 1) := by decide +kernel
theorem dX5_putsBack_58 : decode cX5_putsBack 58 = .ok (.iload 6, 2) := by decide +kernel
theorem dX5_putsBack_60 : decode cX5_putsBack 60 = .ok (.iload_n 2, 1) := by decide +kernel
theorem dX5_putsBack_61 : decode cX5_putsBack 61 = .ok (.iload 4, 2) := by decide +kernel
theorem dX5_putsBack_63 : decode cX5_putsBack 63 = .ok (.isub, 1) := by decide +kernel
theorem dX5_putsBack_64 : decode cX5_putsBack 64 = .ok (.imul, 1) := by decide +kernel
theorem dX5_putsBack_65 : decode cX5_putsBack 65 = .ok (.aload_n 0, 1) := by decide +kernel
theorem dX5_putsBack_66 : decode cX5_putsBack 66 = .ok (.getfield 53, 3) := by decide +kernel
theorem dX5_putsBack_69 : decode cX5_putsBack 69 = .ok (.idiv, 1) := by decide +kernel
theorem dX5_putsBack_70 : decode cX5_putsBack 70 = .ok (.iadd, 1) := by decide +kernel
theorem dX5_putsBack_71 : decode cX5_putsBack 71 = .ok (.iload_n 3, 1) := by decide +kernel
theorem dX5_putsBack_72 : decode cX5_putsBack 72 = .ok (.ifCond .eq 17, 3) := by decide +kernel
theorem dX5_putsBack_75 : decode cX5_putsBack 75 = .ok (.iload 6, 2) := by decide +kernel
theorem dX5_putsBack_77 : decode cX5_putsBack 77 = .ok (.aload_n 0, 1) := by decide +kernel
theorem dX5_putsBack_78 : decode cX5_putsBack 78 = .ok (.getfield 56, 3) := by decide +kernel
theorem dX5_putsBack_81 : decode cX5_putsBack 81 = .ok (.if_icmp .le 8, 3) := by decide +kernel
theorem dX5_putsBack_84 : decode cX5_putsBack 84 = .ok (.iload 4, 2) := by decide +kernel
theorem dX5_putsBack_86 : decode cX5_putsBack 86 = .ok (.goto 4, 3) := by decide +kernel
theorem dX5_putsBack_89 : decode cX5_putsBack 89 = .ok (.iconst 0, 1) := by decide +kernel
theorem dX5_putsBack_90 : decode cX5_putsBack 90 = .ok (.iadd, 1) := by decide +kernel
theorem dX5_putsBack_91 : decode cX5_putsBack 91 = .ok (.istore 7, 2) := by decide +kernel
theorem dX5_putsBack_93 : decode cX5_putsBack 93 = .ok (.aload_n 0, 1) := by decide +kernel
theorem dX5_putsBack_94 : decode cX5_putsBack 94 = .ok (.getfield 7, 3) := by decide +kernel
theorem dX5_putsBack_97 : decode cX5_putsBack 97 = .ok (.bipush 31, 2) := by decide +kernel
theorem dX5_putsBack_99 : decode cX5_putsBack 99 = .ok (.iload 7, 2) := by decide +kernel
theorem dX5_putsBack_101 : decode cX5_putsBack 101 = .ok (.iadd, 1) := by decide +kernel
theorem dX5_putsBack_102 : decode cX5_putsBack 102 = .ok (.aload_n 0, 1) := by decide +kernel
theorem dX5_putsBack_103 : decode cX5_putsBack 103 = .ok (.getfield 22, 3) := by decide +kernel
theorem dX5_putsBack_106 : decode cX5_putsBack 106 = .ok (.iload 6, 2) := by decide +kernel
theorem dX5_putsBack_108 : decode cX5_putsBack 108 = .ok (.iaload, 1) := by decide +kernel
theorem dX5_putsBack_109 : decode cX5_putsBack 109 = .ok (.iastore, 1) := by decide +kernel
theorem dX5_putsBack_110 : decode cX5_putsBack 110 = .ok (.aload_n 0, 1) := by decide +kernel
theorem dX5_putsBack_111 : decode cX5_putsBack 111 = .ok (.getfield 7, 3) := by decide +kernel
theorem dX5_putsBack_114 : decode cX5_putsBack 114 = .ok (.bipush 95, 2) := by decide +kernel
theorem dX5_putsBack_116 : decode cX5_putsBack 116 = .ok (.iload 7, 2) := by decide +kernel
theorem dX5_putsBack_118 : decode cX5_putsBack 118 = .ok (.iadd, 1) := by decide +kernel
theorem dX5_putsBack_119 : decode cX5_putsBack 119 = .ok (.aload_n 0, 1) := by decide +kernel
theorem dX5_putsBack_120 : decode cX5_putsBack 120 = .ok (.getfield 25, 3) := by decide +kernel
theorem dX5_putsBack_123 : decode cX5_putsBack 123 = .ok (.iload 6, 2) := by decide +kernel
theorem dX5_putsBack_125 : decode cX5_putsBack 125 = .ok (.iaload, 1) := by decide +kernel
theorem dX5_putsBack_126 : decode cX5_putsBack 126 = .ok (.iastore, 1) := by decide +kernel
theorem dX5_putsBack_127 : decode cX5_putsBack 127 = .ok (.iload 5, 2) := by decide +kernel
theorem dX5_putsBack_129 : decode cX5_putsBack 129 = .ok (.aload_n 0, 1) := by decide +kernel
theorem dX5_putsBack_130 : decode cX5_putsBack 130 = .ok (.getfield 28, 3) := by decide +kernel
theorem dX5_putsBack_133 : decode cX5_putsBack 133 = .ok (.iload 6, 2) := by decide +kernel
theorem dX5_putsBack_135 : decode cX5_putsBack 135 = .ok (.iaload, 1) := by decide +kernel
theorem dX5_putsBack_136 : decode cX5_putsBack 136 = .ok (.iload 7, 2) := by decide +kernel
theorem dX5_putsBack_138 : decode cX5_putsBack 138 = .ok (.if_icmp .ne 7, 3) := by decide +kernel
theorem dX5_putsBack_141 : decode cX5_putsBack 141 = .ok (.iconst 0, 1) := by decide +kernel
theorem dX5_putsBack_142 : decode cX5_putsBack 142 = .ok (.goto 4, 3) := by decide +kernel
theorem dX5_putsBack_145 : decode cX5_putsBack 145 = .ok (.iconst 1, 1) := by decide +kernel
theorem dX5_putsBack_146 : decode cX5_putsBack 146 = .ok (.iadd, 1) := by decide +kernel
theorem dX5_putsBack_147 : decode cX5_putsBack 147 = .ok (.istore 5, 2) := by decide +kernel
theorem dX5_putsBack_149 : decode cX5_putsBack 149 = .ok (.iinc 6 1, 3) := by decide +kernel
theorem dX5_putsBack_152 : decode cX5_putsBack 152 = .ok (.goto (-104), 3) := by decide +kernel
theorem dX5_putsBack_155 : decode cX5_putsBack 155 = .ok (.aload_n 0, 1) := by decide +kernel
theorem dX5_putsBack_156 : decode cX5_putsBack 156 = .ok (.getfield 7, 3) := by decide +kernel
theorem dX5_putsBack_159 : decode cX5_putsBack 159 = .ok (.iconst 2, 1) := by decide +kernel
theorem dX5_putsBack_160 : decode cX5_putsBack 160 = .ok (.dup2, 1) := by decide +kernel
theorem dX5_putsBack_161 : decode cX5_putsBack 161 = .ok (.iaload, 1) := by decide +kernel
theorem dX5_putsBack_162 : decode cX5_putsBack 162 = .ok (.iconst 1, 1) := by decide +kernel
theorem dX5_putsBack_163 : decode cX5_putsBack 163 = .ok (.iadd, 1) := by decide +kernel
theorem dX5_putsBack_164 : decode cX5_putsBack 164 = .ok (.iastore, 1) := by decide +kernel
theorem dX5_putsBack_165 : decode cX5_putsBack 165 = .ok (.aload_n 0, 1) := by decide +kernel
theorem dX5_putsBack_166 : decode cX5_putsBack 166 = .ok (.getfield 7, 3) := by decide +kernel
theorem dX5_putsBack_169 : decode cX5_putsBack 169 = .ok (.iconst 3, 1) := by decide +kernel
theorem dX5_putsBack_170 : decode cX5_putsBack 170 = .ok (.dup2, 1) := by decide +kernel
theorem dX5_putsBack_171 : decode cX5_putsBack 171 = .ok (.iaload, 1) := by decide +kernel
theorem dX5_putsBack_172 : decode cX5_putsBack 172 = .ok (.iload 5, 2) := by decide +kernel
theorem dX5_putsBack_174 : decode cX5_putsBack 174 = .ok (.iadd, 1) := by decide +kernel
theorem dX5_putsBack_175 : decode cX5_putsBack 175 = .ok (.iastore, 1) := by decide +kernel
theorem dX5_putsBack_176 : decode cX5_putsBack 176 = .ok (.bipush 23, 2) := by decide +kernel
theorem dX5_putsBack_178 : decode cX5_putsBack 178 = .ok (.istore 6, 2) := by decide +kernel
theorem dX5_putsBack_180 : decode cX5_putsBack 180 = .ok (.iload 6, 2) := by decide +kernel
theorem dX5_putsBack_182 : decode cX5_putsBack 182 = .ok (.iconst 3, 1) := by decide +kernel
theorem dX5_putsBack_183 : decode cX5_putsBack 183 = .ok (.if_icmp .lt 31, 3) := by decide +kernel
theorem dX5_putsBack_186 : decode cX5_putsBack 186 = .ok (.aload_n 0, 1) := by decide +kernel
theorem dX5_putsBack_187 : decode cX5_putsBack 187 = .ok (.getfield 7, 3) := by decide +kernel
theorem dX5_putsBack_190 : decode cX5_putsBack 190 = .ok (.bipush 7, 2) := by decide +kernel
theorem dX5_putsBack_192 : decode cX5_putsBack 192 = .ok (.iload 6, 2) := by decide +kernel
theorem dX5_putsBack_194 : decode cX5_putsBack 194 = .ok (.iadd, 1) := by decide +kernel
theorem dX5_putsBack_195 : decode cX5_putsBack 195 = .ok (.aload_n 0, 1) := by decide +kernel
theorem dX5_putsBack_196 : decode cX5_putsBack 196 = .ok (.getfield 7, 3) := by decide +kernel
theorem dX5_putsBack_199 : decode cX5_putsBack 199 = .ok (.bipush 7, 2) := by decide +kernel
theorem dX5_putsBack_201 : decode cX5_putsBack 201 = .ok (.iload 6, 2) := by decide +kernel
theorem dX5_putsBack_203 : decode cX5_putsBack 203 = .ok (.iadd, 1) := by decide +kernel
theorem dX5_putsBack_204 : decode cX5_putsBack 204 = .ok (.iconst 3, 1) := by decide +kernel
theorem dX5_putsBack_205 : decode cX5_putsBack 205 = .ok (.isub, 1) := by decide +kernel
theorem dX5_putsBack_206 : decode cX5_putsBack 206 = .ok (.iaload, 1) := by decide +kernel
theorem dX5_putsBack_207 : decode cX5_putsBack 207 = .ok (.iastore, 1) := by decide +kernel
theorem dX5_putsBack_208 : decode cX5_putsBack 208 = .ok (.iinc 6 (-1), 3) := by decide +kernel
theorem dX5_putsBack_211 : decode cX5_putsBack 211 = .ok (.goto (-31), 3) := by decide +kernel
theorem dX5_putsBack_214 : decode cX5_putsBack 214 = .ok (.aload_n 0, 1) := by decide +kernel
theorem dX5_putsBack_215 : decode cX5_putsBack 215 = .ok (.getfield 7, 3) := by decide +kernel
theorem dX5_putsBack_218 : decode cX5_putsBack 218 = .ok (.bipush 7, 2) := by decide +kernel
theorem dX5_putsBack_220 : decode cX5_putsBack 220 = .ok (.iload_n 1, 1) := by decide +kernel
theorem dX5_putsBack_221 : decode cX5_putsBack 221 = .ok (.iastore, 1) := by decide +kernel
theorem dX5_putsBack_222 : decode cX5_putsBack 222 = .ok (.aload_n 0, 1) := by decide +kernel
theorem dX5_putsBack_223 : decode cX5_putsBack 223 = .ok (.getfield 7, 3) := by decide +kernel
theorem dX5_putsBack_226 : decode cX5_putsBack 226 = .ok (.bipush 8, 2) := by decide +kernel
theorem dX5_putsBack_228 : decode cX5_putsBack 228 = .ok (.iload_n 2, 1) := by decide +kernel
theorem dX5_putsBack_229 : decode cX5_putsBack 229 = .ok (.iastore, 1) := by decide +kernel
theorem dX5_putsBack_230 : decode cX5_putsBack 230 = .ok (.aload_n 0, 1) := by decide +kernel
theorem dX5_putsBack_231 : decode cX5_putsBack 231 = .ok (.getfield 7, 3) := by decide +kernel
theorem dX5_putsBack_234 : decode cX5_putsBack 234 = .ok (.bipush 9, 2) := by decide +kernel
theorem dX5_putsBack_236 : decode cX5_putsBack 236 = .ok (.iload 5, 2) := by decide +kernel
theorem dX5_putsBack_238 : decode cX5_putsBack 238 = .ok (.iastore, 1) := by decide +kernel
theorem dX5_putsBack_239 : decode cX5_putsBack 239 = .ok (.aload_n 0, 1) := by decide +kernel
theorem dX5_putsBack_240 : decode cX5_putsBack 240 = .ok (.getfield 7, 3) := by decide +kernel
theorem dX5_putsBack_243 : decode cX5_putsBack 243 = .ok (.bipush 6, 2) := by decide +kernel
theorem dX5_putsBack_245 : decode cX5_putsBack 245 = .ok (.dup2, 1) := by decide +kernel
theorem dX5_putsBack_246 : decode cX5_putsBack 246 = .ok (.iaload, 1) := by decide +kernel
theorem dX5_putsBack_247 : decode cX5_putsBack 247 = .ok (.aload_n 0, 1) := by decide +kernel
theorem dX5_putsBack_248 : decode cX5_putsBack 248 = .ok (.getfield 7, 3) := by decide +kernel
theorem dX5_putsBack_251 : decode cX5_putsBack 251 = .ok (.bipush 6, 2) := by decide +kernel
theorem dX5_putsBack_253 : decode cX5_putsBack 253 = .ok (.iaload, 1) := by decide +kernel
theorem dX5_putsBack_254 : decode cX5_putsBack 254 = .ok (.bipush 8, 2) := by decide +kernel
theorem dX5_putsBack_256 : decode cX5_putsBack 256 = .ok (.if_icmp .ge 7, 3) := by decide +kernel
theorem dX5_putsBack_259 : decode cX5_putsBack 259 = .ok (.iconst 1, 1) := by decide +kernel
theorem dX5_putsBack_260 : decode cX5_putsBack 260 = .ok (.goto 4, 3) := by decide +kernel
theorem dX5_putsBack_263 : decode cX5_putsBack 263 = .ok (.iconst 0, 1) := by decide +kernel
theorem dX5_putsBack_264 : decode cX5_putsBack 264 = .ok (.iadd, 1) := by decide +kernel
theorem dX5_putsBack_265 : decode cX5_putsBack 265 = .ok (.iastore, 1) := by decide +kernel
theorem dX5_putsBack_266 : decode cX5_putsBack 266 = .ok (.iload 5, 2) := by decide +kernel
theorem dX5_putsBack_268 : decode cX5_putsBack 268 = .ok (.ireturn, 1) := by decide +kernel
theorem dX5_spacesWindow_0 : decode cX5_spacesWindow 0 = .ok (.aload_n 0, 1) := by decide +kernel
theorem dX5_spacesWindow_1 : decode cX5_spacesWindow 1 = .ok (.iload_n 1, 1) := by decide +kernel
theorem dX5_spacesWindow_2 : decode cX5_spacesWindow 2 = .ok (.iload_n 2, 1) := by decide +kernel
theorem dX5_spacesWindow_3 : decode cX5_spacesWindow 3 = .ok (.iload_n 3, 1) := by decide +kernel
theorem dX5_spacesWindow_4 : decode cX5_spacesWindow 4 = .ok (.iload 4, 2) := by decide +kernel
theorem dX5_spacesWindow_6 : decode cX5_spacesWindow 6 = .ok (.invokevirtual 63, 3) := by decide +kernel
theorem dX5_spacesWindow_9 : decode cX5_spacesWindow 9 = .ok (.aload_n 0, 1) := by decide +kernel
theorem dX5_spacesWindow_10 : decode cX5_spacesWindow 10 = .ok (.iload_n 1, 1) := by decide +kernel
theorem dX5_spacesWindow_11 : decode cX5_spacesWindow 11 = .ok (.iload_n 2, 1) := by decide +kernel
theorem dX5_spacesWindow_12 : decode cX5_spacesWindow 12 = .ok (.invokevirtual 67, 3) := by decide +kernel
theorem dX5_spacesWindow_15 : decode cX5_spacesWindow 15 = .ok (.ireturn, 1) := by decide +kernel
theorem dX5_segmentFor_0 : decode cX5_segmentFor 0 = .ok (.iconst 0, 1) := by decide +kernel
theorem dX5_segmentFor_1 : decode cX5_segmentFor 1 = .ok (.istore_n 2, 1) := by decide +kernel
theorem dX5_segmentFor_2 : decode cX5_segmentFor 2 = .ok (.iconst 0, 1) := by decide +kernel
theorem dX5_segmentFor_3 : decode cX5_segmentFor 3 = .ok (.istore_n 3, 1) := by decide +kernel
theorem dX5_segmentFor_4 : decode cX5_segmentFor 4 = .ok (.iload_n 3, 1) := by decide +kernel
theorem dX5_segmentFor_5 : decode cX5_segmentFor 5 = .ok (.aload_n 0, 1) := by decide +kernel
theorem dX5_segmentFor_6 : decode cX5_segmentFor 6 = .ok (.getfield 7, 3) := by decide +kernel
theorem dX5_segmentFor_9 : decode cX5_segmentFor 9 = .ok (.iconst 0, 1) := by decide +kernel
theorem dX5_segmentFor_10 : decode cX5_segmentFor 10 = .ok (.iaload, 1) := by decide +kernel
theorem dX5_segmentFor_11 : decode cX5_segmentFor 11 = .ok (.if_icmp .ge 43, 3) := by decide +kernel
theorem dX5_segmentFor_14 : decode cX5_segmentFor 14 = .ok (.aload_n 0, 1) := by decide +kernel
theorem dX5_segmentFor_15 : decode cX5_segmentFor 15 = .ok (.getfield 7, 3) := by decide +kernel
theorem dX5_segmentFor_18 : decode cX5_segmentFor 18 = .ok (.bipush 31, 2) := by decide +kernel
theorem dX5_segmentFor_20 : decode cX5_segmentFor 20 = .ok (.iload_n 3, 1) := by decide +kernel
theorem dX5_segmentFor_21 : decode cX5_segmentFor 21 = .ok (.iadd, 1) := by decide +kernel
theorem dX5_segmentFor_22 : decode cX5_segmentFor 22 = .ok (.iaload, 1) := by decide +kernel
theorem dX5_segmentFor_23 : decode cX5_segmentFor 23 = .ok (.iconst (-1), 1) := by decide +kernel
theorem dX5_segmentFor_24 : decode cX5_segmentFor 24 = .ok (.if_icmp .eq 22, 3) := by decide +kernel
theorem dX5_segmentFor_27 : decode cX5_segmentFor 27 = .ok (.aload_n 0, 1) := by decide +kernel
theorem dX5_segmentFor_28 : decode cX5_segmentFor 28 = .ok (.getfield 7, 3) := by decide +kernel
theorem dX5_segmentFor_31 : decode cX5_segmentFor 31 = .ok (.bipush 31, 2) := by decide +kernel
theorem dX5_segmentFor_33 : decode cX5_segmentFor 33 = .ok (.iload_n 3, 1) := by decide +kernel
theorem dX5_segmentFor_34 : decode cX5_segmentFor 34 = .ok (.iadd, 1) := by decide +kernel
theorem dX5_segmentFor_35 : decode cX5_segmentFor 35 = .ok (.iaload, 1) := by decide +kernel
theorem dX5_segmentFor_36 : decode cX5_segmentFor 36 = .ok (.iload_n 1, 1) := by decide +kernel
theorem dX5_segmentFor_37 : decode cX5_segmentFor 37 = .ok (.if_icmp .ge 9, 3) := by decide +kernel
theorem dX5_segmentFor_40 : decode cX5_segmentFor 40 = .ok (.iload_n 3, 1) := by decide +kernel
theorem dX5_segmentFor_41 : decode cX5_segmentFor 41 = .ok (.iconst 4, 1) := by decide +kernel
theorem dX5_segmentFor_42 : decode cX5_segmentFor 42 = .ok (.idiv, 1) := by decide +kernel
theorem dX5_segmentFor_43 : decode cX5_segmentFor 43 = .ok (.goto 4, 3) := by decide +kernel
theorem dX5_segmentFor_46 : decode cX5_segmentFor 46 = .ok (.iload_n 2, 1) := by decide +kernel
theorem dX5_segmentFor_47 : decode cX5_segmentFor 47 = .ok (.istore_n 2, 1) := by decide +kernel
theorem dX5_segmentFor_48 : decode cX5_segmentFor 48 = .ok (.iinc 3 1, 3) := by decide +kernel
theorem dX5_segmentFor_51 : decode cX5_segmentFor 51 = .ok (.goto (-47), 3) := by decide +kernel
theorem dX5_segmentFor_54 : decode cX5_segmentFor 54 = .ok (.iload_n 2, 1) := by decide +kernel
theorem dX5_segmentFor_55 : decode cX5_segmentFor 55 = .ok (.ireturn, 1) := by decide +kernel
theorem dX5_comes_0 : decode cX5_comes 0 = .ok (.aload_n 0, 1) := by decide +kernel
theorem dX5_comes_1 : decode cX5_comes 1 = .ok (.iload_n 1, 1) := by decide +kernel
theorem dX5_comes_2 : decode cX5_comes 2 = .ok (.invokevirtual 71, 3) := by decide +kernel
theorem dX5_comes_5 : decode cX5_comes 5 = .ok (.istore_n 3, 1) := by decide +kernel
theorem dX5_comes_6 : decode cX5_comes 6 = .ok (.iconst 0, 1) := by decide +kernel
theorem dX5_comes_7 : decode cX5_comes 7 = .ok (.istore 4, 2) := by decide +kernel
theorem dX5_comes_9 : decode cX5_comes 9 = .ok (.iload 4, 2) := by decide +kernel
theorem dX5_comes_11 : decode cX5_comes 11 = .ok (.aload_n 0, 1) := by decide +kernel
theorem dX5_comes_12 : decode cX5_comes 12 = .ok (.invokevirtual 49, 3) := by decide +kernel
theorem dX5_comes_15 : decode cX5_comes 15 = .ok (.if_icmp .gt 62, 3) := by decide +kernel
theorem dX5_comes_18 : decode cX5_comes 18 = .ok (.iload_n 3, 1) := by decide +kernel
theorem dX5_comes_19 : decode cX5_comes 19 = .ok (.iconst 4, 1) := by decide +kernel
theorem dX5_comes_20 : decode cX5_comes 20 = .ok (.imul, 1) := by decide +kernel
theorem dX5_comes_21 : decode cX5_comes 21 = .ok (.iload 4, 2) := by decide +kernel
theorem dX5_comes_23 : decode cX5_comes 23 = .ok (.invokestatic 45, 3) := by decide +kernel
theorem dX5_comes_26 : decode cX5_comes 26 = .ok (.idiv, 1) := by decide +kernel
theorem dX5_comes_27 : decode cX5_comes 27 = .ok (.iload 4, 2) := by decide +kernel
theorem dX5_comes_29 : decode cX5_comes 29 = .ok (.invokestatic 45, 3) := by decide +kernel
theorem dX5_comes_32 : decode cX5_comes 32 = .ok (.imul, 1) := by decide +kernel
theorem dX5_comes_33 : decode cX5_comes 33 = .ok (.istore 5, 2) := by decide +kernel
theorem dX5_comes_35 : decode cX5_comes 35 = .ok (.aload_n 0, 1) := by decide +kernel
theorem dX5_comes_36 : decode cX5_comes 36 = .ok (.iload 5, 2) := by decide +kernel
theorem dX5_comes_38 : decode cX5_comes 38 = .ok (.iload 4, 2) := by decide +kernel
theorem dX5_comes_40 : decode cX5_comes 40 = .ok (.invokestatic 45, 3) := by decide +kernel
theorem dX5_comes_43 : decode cX5_comes 43 = .ok (.invokevirtual 74, 3) := by decide +kernel
theorem dX5_comes_46 : decode cX5_comes 46 = .ok (.iconst 1, 1) := by decide +kernel
theorem dX5_comes_47 : decode cX5_comes 47 = .ok (.iadd, 1) := by decide +kernel
theorem dX5_comes_48 : decode cX5_comes 48 = .ok (.aload_n 0, 1) := by decide +kernel
theorem dX5_comes_49 : decode cX5_comes 49 = .ok (.iload 4, 2) := by decide +kernel
theorem dX5_comes_51 : decode cX5_comes 51 = .ok (.invokevirtual 77, 3) := by decide +kernel
theorem dX5_comes_54 : decode cX5_comes 54 = .ok (.if_icmp .gt 17, 3) := by decide +kernel
theorem dX5_comes_57 : decode cX5_comes 57 = .ok (.aload_n 0, 1) := by decide +kernel
theorem dX5_comes_58 : decode cX5_comes 58 = .ok (.iload 5, 2) := by decide +kernel
theorem dX5_comes_60 : decode cX5_comes 60 = .ok (.iload 4, 2) := by decide +kernel
theorem dX5_comes_62 : decode cX5_comes 62 = .ok (.invokestatic 45, 3) := by decide +kernel
theorem dX5_comes_65 : decode cX5_comes 65 = .ok (.iload_n 1, 1) := by decide +kernel
theorem dX5_comes_66 : decode cX5_comes 66 = .ok (.iload_n 2, 1) := by decide +kernel
theorem dX5_comes_67 : decode cX5_comes 67 = .ok (.invokevirtual 80, 3) := by decide +kernel
theorem dX5_comes_70 : decode cX5_comes 70 = .ok (.ireturn, 1) := by decide +kernel
theorem dX5_comes_71 : decode cX5_comes 71 = .ok (.iinc 4 1, 3) := by decide +kernel
theorem dX5_comes_74 : decode cX5_comes 74 = .ok (.goto (-65), 3) := by decide +kernel
theorem dX5_comes_77 : decode cX5_comes 77 = .ok (.aload_n 0, 1) := by decide +kernel
theorem dX5_comes_78 : decode cX5_comes 78 = .ok (.getfield 7, 3) := by decide +kernel
theorem dX5_comes_81 : decode cX5_comes 81 = .ok (.iconst 0, 1) := by decide +kernel
theorem dX5_comes_82 : decode cX5_comes 82 = .ok (.iaload, 1) := by decide +kernel
theorem dX5_comes_83 : decode cX5_comes 83 = .ok (.bipush 64, 2) := by decide +kernel
theorem dX5_comes_85 : decode cX5_comes 85 = .ok (.if_icmp .ne 6, 3) := by decide +kernel
theorem dX5_comes_88 : decode cX5_comes 88 = .ok (.bipush (-4), 2) := by decide +kernel
theorem dX5_comes_90 : decode cX5_comes 90 = .ok (.ireturn, 1) := by decide +kernel
theorem dX5_comes_91 : decode cX5_comes 91 = .ok (.aload_n 0, 1) := by decide +kernel
theorem dX5_comes_92 : decode cX5_comes 92 = .ok (.iconst 0, 1) := by decide +kernel
theorem dX5_comes_93 : decode cX5_comes 93 = .ok (.aload_n 0, 1) := by decide +kernel
theorem dX5_comes_94 : decode cX5_comes 94 = .ok (.getfield 7, 3) := by decide +kernel
theorem dX5_comes_97 : decode cX5_comes 97 = .ok (.iconst 0, 1) := by decide +kernel
theorem dX5_comes_98 : decode cX5_comes 98 = .ok (.iaload, 1) := by decide +kernel
theorem dX5_comes_99 : decode cX5_comes 99 = .ok (.iload_n 1, 1) := by decide +kernel
theorem dX5_comes_100 : decode cX5_comes 100 = .ok (.iload_n 2, 1) := by decide +kernel
theorem dX5_comes_101 : decode cX5_comes 101 = .ok (.invokevirtual 63, 3) := by decide +kernel
theorem dX5_comes_104 : decode cX5_comes 104 = .ok (.aload_n 0, 1) := by decide +kernel
theorem dX5_comes_105 : decode cX5_comes 105 = .ok (.getfield 7, 3) := by decide +kernel
theorem dX5_comes_108 : decode cX5_comes 108 = .ok (.iconst 0, 1) := by decide +kernel
theorem dX5_comes_109 : decode cX5_comes 109 = .ok (.dup2, 1) := by decide +kernel
theorem dX5_comes_110 : decode cX5_comes 110 = .ok (.iaload, 1) := by decide +kernel
theorem dX5_comes_111 : decode cX5_comes 111 = .ok (.iconst 2, 1) := by decide +kernel
theorem dX5_comes_112 : decode cX5_comes 112 = .ok (.imul, 1) := by decide +kernel
theorem dX5_comes_113 : decode cX5_comes 113 = .ok (.iastore, 1) := by decide +kernel
theorem dX5_comes_114 : decode cX5_comes 114 = .ok (.aload_n 0, 1) := by decide +kernel
theorem dX5_comes_115 : decode cX5_comes 115 = .ok (.getfield 7, 3) := by decide +kernel
theorem dX5_comes_118 : decode cX5_comes 118 = .ok (.iconst 4, 1) := by decide +kernel
theorem dX5_comes_119 : decode cX5_comes 119 = .ok (.dup2, 1) := by decide +kernel
theorem dX5_comes_120 : decode cX5_comes 120 = .ok (.iaload, 1) := by decide +kernel
theorem dX5_comes_121 : decode cX5_comes 121 = .ok (.iconst 1, 1) := by decide +kernel
theorem dX5_comes_122 : decode cX5_comes 122 = .ok (.iadd, 1) := by decide +kernel
theorem dX5_comes_123 : decode cX5_comes 123 = .ok (.iastore, 1) := by decide +kernel
theorem dX5_comes_124 : decode cX5_comes 124 = .ok (.aload_n 0, 1) := by decide +kernel
theorem dX5_comes_125 : decode cX5_comes 125 = .ok (.iconst 0, 1) := by decide +kernel
theorem dX5_comes_126 : decode cX5_comes 126 = .ok (.aload_n 0, 1) := by decide +kernel
theorem dX5_comes_127 : decode cX5_comes 127 = .ok (.getfield 7, 3) := by decide +kernel
theorem dX5_comes_130 : decode cX5_comes 130 = .ok (.iconst 0, 1) := by decide +kernel
theorem dX5_comes_131 : decode cX5_comes 131 = .ok (.iaload, 1) := by decide +kernel
theorem dX5_comes_132 : decode cX5_comes 132 = .ok (.invokevirtual 67, 3) := by decide +kernel
theorem dX5_comes_135 : decode cX5_comes 135 = .ok (.ireturn, 1) := by decide +kernel
theorem dX5_goes_0 : decode cX5_goes 0 = .ok (.aload_n 0, 1) := by decide +kernel
theorem dX5_goes_1 : decode cX5_goes 1 = .ok (.getfield 7, 3) := by decide +kernel
theorem dX5_goes_4 : decode cX5_goes 4 = .ok (.bipush 31, 2) := by decide +kernel
theorem dX5_goes_6 : decode cX5_goes 6 = .ok (.iload_n 1, 1) := by decide +kernel
theorem dX5_goes_7 : decode cX5_goes 7 = .ok (.iadd, 1) := by decide +kernel
theorem dX5_goes_8 : decode cX5_goes 8 = .ok (.iconst (-1), 1) := by decide +kernel
theorem dX5_goes_9 : decode cX5_goes 9 = .ok (.iastore, 1) := by decide +kernel
theorem dX5_goes_10 : decode cX5_goes 10 = .ok (.aload_n 0, 1) := by decide +kernel
theorem dX5_goes_11 : decode cX5_goes 11 = .ok (.getfield 7, 3) := by decide +kernel
theorem dX5_goes_14 : decode cX5_goes 14 = .ok (.bipush 95, 2) := by decide +kernel
theorem dX5_goes_16 : decode cX5_goes 16 = .ok (.iload_n 1, 1) := by decide +kernel
theorem dX5_goes_17 : decode cX5_goes 17 = .ok (.iadd, 1) := by decide +kernel
theorem dX5_goes_18 : decode cX5_goes 18 = .ok (.iconst 0, 1) := by decide +kernel
theorem dX5_goes_19 : decode cX5_goes 19 = .ok (.iastore, 1) := by decide +kernel
theorem dX5_goes_20 : decode cX5_goes 20 = .ok (.aload_n 0, 1) := by decide +kernel
theorem dX5_goes_21 : decode cX5_goes 21 = .ok (.iload_n 1, 1) := by decide +kernel
theorem dX5_goes_22 : decode cX5_goes 22 = .ok (.iconst 4, 1) := by decide +kernel
theorem dX5_goes_23 : decode cX5_goes 23 = .ok (.idiv, 1) := by decide +kernel
theorem dX5_goes_24 : decode cX5_goes 24 = .ok (.iconst 4, 1) := by decide +kernel
theorem dX5_goes_25 : decode cX5_goes 25 = .ok (.imul, 1) := by decide +kernel
theorem dX5_goes_26 : decode cX5_goes 26 = .ok (.iconst 4, 1) := by decide +kernel
theorem dX5_goes_27 : decode cX5_goes 27 = .ok (.invokevirtual 74, 3) := by decide +kernel
theorem dX5_goes_30 : decode cX5_goes 30 = .ok (.aload_n 0, 1) := by decide +kernel
theorem dX5_goes_31 : decode cX5_goes 31 = .ok (.iconst 0, 1) := by decide +kernel
theorem dX5_goes_32 : decode cX5_goes 32 = .ok (.invokevirtual 84, 3) := by decide +kernel
theorem dX5_goes_35 : decode cX5_goes 35 = .ok (.if_icmp .lt 4, 3) := by decide +kernel
theorem dX5_goes_38 : decode cX5_goes 38 = .ok (.return_, 1) := by decide +kernel
theorem dX5_goes_39 : decode cX5_goes 39 = .ok (.iconst 1, 1) := by decide +kernel
theorem dX5_goes_40 : decode cX5_goes 40 = .ok (.istore_n 2, 1) := by decide +kernel
theorem dX5_goes_41 : decode cX5_goes 41 = .ok (.iload_n 2, 1) := by decide +kernel
theorem dX5_goes_42 : decode cX5_goes 42 = .ok (.aload_n 0, 1) := by decide +kernel
theorem dX5_goes_43 : decode cX5_goes 43 = .ok (.invokevirtual 49, 3) := by decide +kernel
theorem dX5_goes_46 : decode cX5_goes 46 = .ok (.if_icmp .gt 51, 3) := by decide +kernel
theorem dX5_goes_49 : decode cX5_goes 49 = .ok (.iload_n 1, 1) := by decide +kernel
theorem dX5_goes_50 : decode cX5_goes 50 = .ok (.iload_n 2, 1) := by decide +kernel
theorem dX5_goes_51 : decode cX5_goes 51 = .ok (.invokestatic 45, 3) := by decide +kernel
theorem dX5_goes_54 : decode cX5_goes 54 = .ok (.idiv, 1) := by decide +kernel
theorem dX5_goes_55 : decode cX5_goes 55 = .ok (.iload_n 2, 1) := by decide +kernel
theorem dX5_goes_56 : decode cX5_goes 56 = .ok (.invokestatic 45, 3) := by decide +kernel
theorem dX5_goes_59 : decode cX5_goes 59 = .ok (.imul, 1) := by decide +kernel
theorem dX5_goes_60 : decode cX5_goes 60 = .ok (.istore_n 3, 1) := by decide +kernel
theorem dX5_goes_61 : decode cX5_goes 61 = .ok (.aload_n 0, 1) := by decide +kernel
theorem dX5_goes_62 : decode cX5_goes 62 = .ok (.iload_n 3, 1) := by decide +kernel
theorem dX5_goes_63 : decode cX5_goes 63 = .ok (.iload_n 2, 1) := by decide +kernel
theorem dX5_goes_64 : decode cX5_goes 64 = .ok (.invokestatic 45, 3) := by decide +kernel
theorem dX5_goes_67 : decode cX5_goes 67 = .ok (.invokevirtual 74, 3) := by decide +kernel
theorem dX5_goes_70 : decode cX5_goes 70 = .ok (.aload_n 0, 1) := by decide +kernel
theorem dX5_goes_71 : decode cX5_goes 71 = .ok (.iload_n 2, 1) := by decide +kernel
theorem dX5_goes_72 : decode cX5_goes 72 = .ok (.invokevirtual 84, 3) := by decide +kernel
theorem dX5_goes_75 : decode cX5_goes 75 = .ok (.if_icmp .lt 16, 3) := by decide +kernel
theorem dX5_goes_78 : decode cX5_goes 78 = .ok (.aload_n 0, 1) := by decide +kernel
theorem dX5_goes_79 : decode cX5_goes 79 = .ok (.iload_n 3, 1) := by decide +kernel
theorem dX5_goes_80 : decode cX5_goes 80 = .ok (.iload_n 2, 1) := by decide +kernel
theorem dX5_goes_81 : decode cX5_goes 81 = .ok (.invokestatic 45, 3) := by decide +kernel
theorem dX5_goes_84 : decode cX5_goes 84 = .ok (.iconst (-1), 1) := by decide +kernel
theorem dX5_goes_85 : decode cX5_goes 85 = .ok (.iconst 0, 1) := by decide +kernel
theorem dX5_goes_86 : decode cX5_goes 86 = .ok (.invokevirtual 80, 3) := by decide +kernel
theorem dX5_goes_89 : decode cX5_goes 89 = .ok (.pop, 1) := by decide +kernel
theorem dX5_goes_90 : decode cX5_goes 90 = .ok (.return_, 1) := by decide +kernel
theorem dX5_goes_91 : decode cX5_goes 91 = .ok (.iinc 2 1, 3) := by decide +kernel
theorem dX5_goes_94 : decode cX5_goes 94 = .ok (.goto (-53), 3) := by decide +kernel
theorem dX5_goes_97 : decode cX5_goes 97 = .ok (.aload_n 0, 1) := by decide +kernel
theorem dX5_goes_98 : decode cX5_goes 98 = .ok (.iconst 0, 1) := by decide +kernel
theorem dX5_goes_99 : decode cX5_goes 99 = .ok (.aload_n 0, 1) := by decide +kernel
theorem dX5_goes_100 : decode cX5_goes 100 = .ok (.getfield 7, 3) := by decide +kernel
theorem dX5_goes_103 : decode cX5_goes 103 = .ok (.iconst 0, 1) := by decide +kernel
theorem dX5_goes_104 : decode cX5_goes 104 = .ok (.iaload, 1) := by decide +kernel
theorem dX5_goes_105 : decode cX5_goes 105 = .ok (.iconst (-1), 1) := by decide +kernel
theorem dX5_goes_106 : decode cX5_goes 106 = .ok (.iconst 0, 1) := by decide +kernel
theorem dX5_goes_107 : decode cX5_goes 107 = .ok (.invokevirtual 63, 3) := by decide +kernel
theorem dX5_goes_110 : decode cX5_goes 110 = .ok (.aload_n 0, 1) := by decide +kernel
theorem dX5_goes_111 : decode cX5_goes 111 = .ok (.getfield 7, 3) := by decide +kernel
theorem dX5_goes_114 : decode cX5_goes 114 = .ok (.iconst 0, 1) := by decide +kernel
theorem dX5_goes_115 : decode cX5_goes 115 = .ok (.iaload, 1) := by decide +kernel
theorem dX5_goes_116 : decode cX5_goes 116 = .ok (.bipush 16, 2) := by decide +kernel
theorem dX5_goes_118 : decode cX5_goes 118 = .ok (.if_icmp .le 23, 3) := by decide +kernel
theorem dX5_goes_121 : decode cX5_goes 121 = .ok (.aload_n 0, 1) := by decide +kernel
theorem dX5_goes_122 : decode cX5_goes 122 = .ok (.getfield 7, 3) := by decide +kernel
theorem dX5_goes_125 : decode cX5_goes 125 = .ok (.iconst 0, 1) := by decide +kernel
theorem dX5_goes_126 : decode cX5_goes 126 = .ok (.dup2, 1) := by decide +kernel
theorem dX5_goes_127 : decode cX5_goes 127 = .ok (.iaload, 1) := by decide +kernel
theorem dX5_goes_128 : decode cX5_goes 128 = .ok (.iconst 2, 1) := by decide +kernel
theorem dX5_goes_129 : decode cX5_goes 129 = .ok (.idiv, 1) := by decide +kernel
theorem dX5_goes_130 : decode cX5_goes 130 = .ok (.iastore, 1) := by decide +kernel
theorem dX5_goes_131 : decode cX5_goes 131 = .ok (.aload_n 0, 1) := by decide +kernel
theorem dX5_goes_132 : decode cX5_goes 132 = .ok (.getfield 7, 3) := by decide +kernel
theorem dX5_goes_135 : decode cX5_goes 135 = .ok (.iconst 5, 1) := by decide +kernel
theorem dX5_goes_136 : decode cX5_goes 136 = .ok (.dup2, 1) := by decide +kernel
theorem dX5_goes_137 : decode cX5_goes 137 = .ok (.iaload, 1) := by decide +kernel
theorem dX5_goes_138 : decode cX5_goes 138 = .ok (.iconst 1, 1) := by decide +kernel
theorem dX5_goes_139 : decode cX5_goes 139 = .ok (.iadd, 1) := by decide +kernel
theorem dX5_goes_140 : decode cX5_goes 140 = .ok (.iastore, 1) := by decide +kernel
theorem dX5_goes_141 : decode cX5_goes 141 = .ok (.aload_n 0, 1) := by decide +kernel
theorem dX5_goes_142 : decode cX5_goes 142 = .ok (.iconst 0, 1) := by decide +kernel
theorem dX5_goes_143 : decode cX5_goes 143 = .ok (.aload_n 0, 1) := by decide +kernel
theorem dX5_goes_144 : decode cX5_goes 144 = .ok (.getfield 7, 3) := by decide +kernel
theorem dX5_goes_147 : decode cX5_goes 147 = .ok (.iconst 0, 1) := by decide +kernel
theorem dX5_goes_148 : decode cX5_goes 148 = .ok (.iaload, 1) := by decide +kernel
theorem dX5_goes_149 : decode cX5_goes 149 = .ok (.invokevirtual 67, 3) := by decide +kernel
theorem dX5_goes_152 : decode cX5_goes 152 = .ok (.pop, 1) := by decide +kernel
theorem dX5_goes_153 : decode cX5_goes 153 = .ok (.return_, 1) := by decide +kernel
theorem dX5_putOf_0 : decode cX5_putOf 0 = .ok (.iload_n 1, 1) := by decide +kernel
theorem dX5_putOf_1 : decode cX5_putOf 1 = .ok (.iconst 0, 1) := by decide +kernel
theorem dX5_putOf_2 : decode cX5_putOf 2 = .ok (.sipush 999, 3) := by decide +kernel
theorem dX5_putOf_5 : decode cX5_putOf 5 = .ok (.invokestatic 87, 3) := by decide +kernel
theorem dX5_putOf_8 : decode cX5_putOf 8 = .ok (.ifCond .eq 13, 3) := by decide +kernel
theorem dX5_putOf_11 : decode cX5_putOf 11 = .ok (.iload_n 2, 1) := by decide +kernel
theorem dX5_putOf_12 : decode cX5_putOf 12 = .ok (.iconst 0, 1) := by decide +kernel
theorem dX5_putOf_13 : decode cX5_putOf 13 = .ok (.bipush 99, 2) := by decide +kernel
theorem dX5_putOf_15 : decode cX5_putOf 15 = .ok (.invokestatic 87, 3) := by decide +kernel
theorem dX5_putOf_18 : decode cX5_putOf 18 = .ok (.ifCond .ne 6, 3) := by decide +kernel
theorem dX5_putOf_21 : decode cX5_putOf 21 = .ok (.bipush (-2), 2) := by decide +kernel
theorem dX5_putOf_23 : decode cX5_putOf 23 = .ok (.ireturn, 1) := by decide +kernel
theorem dX5_putOf_24 : decode cX5_putOf 24 = .ok (.aload_n 0, 1) := by decide +kernel
theorem dX5_putOf_25 : decode cX5_putOf 25 = .ok (.iload_n 1, 1) := by decide +kernel
theorem dX5_putOf_26 : decode cX5_putOf 26 = .ok (.invokevirtual 91, 3) := by decide +kernel
theorem dX5_putOf_29 : decode cX5_putOf 29 = .ok (.istore_n 3, 1) := by decide +kernel
theorem dX5_putOf_30 : decode cX5_putOf 30 = .ok (.iload_n 3, 1) := by decide +kernel
theorem dX5_putOf_31 : decode cX5_putOf 31 = .ok (.iconst (-1), 1) := by decide +kernel
theorem dX5_putOf_32 : decode cX5_putOf 32 = .ok (.if_icmp .ne 10, 3) := by decide +kernel
theorem dX5_putOf_35 : decode cX5_putOf 35 = .ok (.aload_n 0, 1) := by decide +kernel
theorem dX5_putOf_36 : decode cX5_putOf 36 = .ok (.iload_n 1, 1) := by decide +kernel
theorem dX5_putOf_37 : decode cX5_putOf 37 = .ok (.iload_n 2, 1) := by decide +kernel
theorem dX5_putOf_38 : decode cX5_putOf 38 = .ok (.invokevirtual 94, 3) := by decide +kernel
theorem dX5_putOf_41 : decode cX5_putOf 41 = .ok (.ireturn, 1) := by decide +kernel
theorem dX5_putOf_42 : decode cX5_putOf 42 = .ok (.aload_n 0, 1) := by decide +kernel
theorem dX5_putOf_43 : decode cX5_putOf 43 = .ok (.getfield 7, 3) := by decide +kernel
theorem dX5_putOf_46 : decode cX5_putOf 46 = .ok (.bipush 95, 2) := by decide +kernel
theorem dX5_putOf_48 : decode cX5_putOf 48 = .ok (.iload_n 3, 1) := by decide +kernel
theorem dX5_putOf_49 : decode cX5_putOf 49 = .ok (.iadd, 1) := by decide +kernel
theorem dX5_putOf_50 : decode cX5_putOf 50 = .ok (.iaload, 1) := by decide +kernel
theorem dX5_putOf_51 : decode cX5_putOf 51 = .ok (.istore 4, 2) := by decide +kernel
theorem dX5_putOf_53 : decode cX5_putOf 53 = .ok (.aload_n 0, 1) := by decide +kernel
theorem dX5_putOf_54 : decode cX5_putOf 54 = .ok (.getfield 7, 3) := by decide +kernel
theorem dX5_putOf_57 : decode cX5_putOf 57 = .ok (.bipush 95, 2) := by decide +kernel
theorem dX5_putOf_59 : decode cX5_putOf 59 = .ok (.iload_n 3, 1) := by decide +kernel
theorem dX5_putOf_60 : decode cX5_putOf 60 = .ok (.iadd, 1) := by decide +kernel
theorem dX5_putOf_61 : decode cX5_putOf 61 = .ok (.iload_n 2, 1) := by decide +kernel
theorem dX5_putOf_62 : decode cX5_putOf 62 = .ok (.iastore, 1) := by decide +kernel
theorem dX5_putOf_63 : decode cX5_putOf 63 = .ok (.iload 4, 2) := by decide +kernel
theorem dX5_putOf_65 : decode cX5_putOf 65 = .ok (.bipush 100, 2) := by decide +kernel
theorem dX5_putOf_67 : decode cX5_putOf 67 = .ok (.iadd, 1) := by decide +kernel
theorem dX5_putOf_68 : decode cX5_putOf 68 = .ok (.ireturn, 1) := by decide +kernel
theorem dX5_takeOf_0 : decode cX5_takeOf 0 = .ok (.iload_n 1, 1) := by decide +kernel
theorem dX5_takeOf_1 : decode cX5_takeOf 1 = .ok (.iconst 0, 1) := by decide +kernel
theorem dX5_takeOf_2 : decode cX5_takeOf 2 = .ok (.sipush 999, 3) := by decide +kernel
theorem dX5_takeOf_5 : decode cX5_takeOf 5 = .ok (.invokestatic 87, 3) := by decide +kernel
theorem dX5_takeOf_8 : decode cX5_takeOf 8 = .ok (.ifCond .ne 6, 3) := by decide +kernel
theorem dX5_takeOf_11 : decode cX5_takeOf 11 = .ok (.bipush (-2), 2) := by decide +kernel
theorem dX5_takeOf_13 : decode cX5_takeOf 13 = .ok (.ireturn, 1) := by decide +kernel
theorem dX5_takeOf_14 : decode cX5_takeOf 14 = .ok (.aload_n 0, 1) := by decide +kernel
theorem dX5_takeOf_15 : decode cX5_takeOf 15 = .ok (.iload_n 1, 1) := by decide +kernel
theorem dX5_takeOf_16 : decode cX5_takeOf 16 = .ok (.invokevirtual 91, 3) := by decide +kernel
theorem dX5_takeOf_19 : decode cX5_takeOf 19 = .ok (.istore_n 2, 1) := by decide +kernel
theorem dX5_takeOf_20 : decode cX5_takeOf 20 = .ok (.iload_n 2, 1) := by decide +kernel
theorem dX5_takeOf_21 : decode cX5_takeOf 21 = .ok (.iconst (-1), 1) := by decide +kernel
theorem dX5_takeOf_22 : decode cX5_takeOf 22 = .ok (.if_icmp .ne 6, 3) := by decide +kernel
theorem dX5_takeOf_25 : decode cX5_takeOf 25 = .ok (.bipush (-3), 2) := by decide +kernel
theorem dX5_takeOf_27 : decode cX5_takeOf 27 = .ok (.ireturn, 1) := by decide +kernel
theorem dX5_takeOf_28 : decode cX5_takeOf 28 = .ok (.aload_n 0, 1) := by decide +kernel
theorem dX5_takeOf_29 : decode cX5_takeOf 29 = .ok (.getfield 7, 3) := by decide +kernel
theorem dX5_takeOf_32 : decode cX5_takeOf 32 = .ok (.bipush 95, 2) := by decide +kernel
theorem dX5_takeOf_34 : decode cX5_takeOf 34 = .ok (.iload_n 2, 1) := by decide +kernel
theorem dX5_takeOf_35 : decode cX5_takeOf 35 = .ok (.iadd, 1) := by decide +kernel
theorem dX5_takeOf_36 : decode cX5_takeOf 36 = .ok (.iaload, 1) := by decide +kernel
theorem dX5_takeOf_37 : decode cX5_takeOf 37 = .ok (.istore_n 3, 1) := by decide +kernel
theorem dX5_takeOf_38 : decode cX5_takeOf 38 = .ok (.aload_n 0, 1) := by decide +kernel
theorem dX5_takeOf_39 : decode cX5_takeOf 39 = .ok (.iload_n 2, 1) := by decide +kernel
theorem dX5_takeOf_40 : decode cX5_takeOf 40 = .ok (.invokevirtual 97, 3) := by decide +kernel
theorem dX5_takeOf_43 : decode cX5_takeOf 43 = .ok (.iload_n 3, 1) := by decide +kernel
theorem dX5_takeOf_44 : decode cX5_takeOf 44 = .ok (.ireturn, 1) := by decide +kernel
theorem dX5_dropOf_0 : decode cX5_dropOf 0 = .ok (.iload_n 1, 1) := by decide +kernel
theorem dX5_dropOf_1 : decode cX5_dropOf 1 = .ok (.iconst 0, 1) := by decide +kernel
theorem dX5_dropOf_2 : decode cX5_dropOf 2 = .ok (.sipush 999, 3) := by decide +kernel
theorem dX5_dropOf_5 : decode cX5_dropOf 5 = .ok (.invokestatic 87, 3) := by decide +kernel
theorem dX5_dropOf_8 : decode cX5_dropOf 8 = .ok (.ifCond .eq 14, 3) := by decide +kernel
theorem dX5_dropOf_11 : decode cX5_dropOf 11 = .ok (.iload_n 2, 1) := by decide +kernel
theorem dX5_dropOf_12 : decode cX5_dropOf 12 = .ok (.iload_n 1, 1) := by decide +kernel
theorem dX5_dropOf_13 : decode cX5_dropOf 13 = .ok (.sipush 999, 3) := by decide +kernel
theorem dX5_dropOf_16 : decode cX5_dropOf 16 = .ok (.invokestatic 87, 3) := by decide +kernel
theorem dX5_dropOf_19 : decode cX5_dropOf 19 = .ok (.ifCond .ne 6, 3) := by decide +kernel
theorem dX5_dropOf_22 : decode cX5_dropOf 22 = .ok (.bipush (-2), 2) := by decide +kernel
theorem dX5_dropOf_24 : decode cX5_dropOf 24 = .ok (.ireturn, 1) := by decide +kernel
theorem dX5_dropOf_25 : decode cX5_dropOf 25 = .ok (.iconst 0, 1) := by decide +kernel
theorem dX5_dropOf_26 : decode cX5_dropOf 26 = .ok (.istore_n 3, 1) := by decide +kernel
theorem dX5_dropOf_27 : decode cX5_dropOf 27 = .ok (.iload_n 1, 1) := by decide +kernel
theorem dX5_dropOf_28 : decode cX5_dropOf 28 = .ok (.istore 4, 2) := by decide +kernel
theorem dX5_dropOf_30 : decode cX5_dropOf 30 = .ok (.iload 4, 2) := by decide +kernel
theorem dX5_dropOf_32 : decode cX5_dropOf 32 = .ok (.iload_n 2, 1) := by decide +kernel
theorem dX5_dropOf_33 : decode cX5_dropOf 33 = .ok (.if_icmp .gt 32, 3) := by decide +kernel
theorem dX5_dropOf_36 : decode cX5_dropOf 36 = .ok (.aload_n 0, 1) := by decide +kernel
theorem dX5_dropOf_37 : decode cX5_dropOf 37 = .ok (.iload 4, 2) := by decide +kernel
theorem dX5_dropOf_39 : decode cX5_dropOf 39 = .ok (.invokevirtual 91, 3) := by decide +kernel
theorem dX5_dropOf_42 : decode cX5_dropOf 42 = .ok (.istore 5, 2) := by decide +kernel
theorem dX5_dropOf_44 : decode cX5_dropOf 44 = .ok (.iload 5, 2) := by decide +kernel
theorem dX5_dropOf_46 : decode cX5_dropOf 46 = .ok (.iconst (-1), 1) := by decide +kernel
theorem dX5_dropOf_47 : decode cX5_dropOf 47 = .ok (.if_icmp .eq 12, 3) := by decide +kernel
theorem dX5_dropOf_50 : decode cX5_dropOf 50 = .ok (.aload_n 0, 1) := by decide +kernel
theorem dX5_dropOf_51 : decode cX5_dropOf 51 = .ok (.iload 5, 2) := by decide +kernel
theorem dX5_dropOf_53 : decode cX5_dropOf 53 = .ok (.invokevirtual 97, 3) := by decide +kernel
theorem dX5_dropOf_56 : decode cX5_dropOf 56 = .ok (.iinc 3 1, 3) := by decide +kernel
theorem dX5_dropOf_59 : decode cX5_dropOf 59 = .ok (.iinc 4 1, 3) := by decide +kernel
theorem dX5_dropOf_62 : decode cX5_dropOf 62 = .ok (.goto (-32), 3) := by decide +kernel
theorem dX5_dropOf_65 : decode cX5_dropOf 65 = .ok (.iload_n 3, 1) := by decide +kernel
theorem dX5_dropOf_66 : decode cX5_dropOf 66 = .ok (.ireturn, 1) := by decide +kernel
theorem dX5_modeOf_0 : decode cX5_modeOf 0 = .ok (.iload_n 1, 1) := by decide +kernel
theorem dX5_modeOf_1 : decode cX5_modeOf 1 = .ok (.iconst 0, 1) := by decide +kernel
theorem dX5_modeOf_2 : decode cX5_modeOf 2 = .ok (.iconst 1, 1) := by decide +kernel
theorem dX5_modeOf_3 : decode cX5_modeOf 3 = .ok (.invokestatic 87, 3) := by decide +kernel
theorem dX5_modeOf_6 : decode cX5_modeOf 6 = .ok (.ifCond .ne 6, 3) := by decide +kernel
theorem dX5_modeOf_9 : decode cX5_modeOf 9 = .ok (.bipush (-2), 2) := by decide +kernel
theorem dX5_modeOf_11 : decode cX5_modeOf 11 = .ok (.ireturn, 1) := by decide +kernel
theorem dX5_modeOf_12 : decode cX5_modeOf 12 = .ok (.aload_n 0, 1) := by decide +kernel
theorem dX5_modeOf_13 : decode cX5_modeOf 13 = .ok (.getfield 7, 3) := by decide +kernel
theorem dX5_modeOf_16 : decode cX5_modeOf 16 = .ok (.iconst 1, 1) := by decide +kernel
theorem dX5_modeOf_17 : decode cX5_modeOf 17 = .ok (.iaload, 1) := by decide +kernel
theorem dX5_modeOf_18 : decode cX5_modeOf 18 = .ok (.istore_n 2, 1) := by decide +kernel
theorem dX5_modeOf_19 : decode cX5_modeOf 19 = .ok (.aload_n 0, 1) := by decide +kernel
theorem dX5_modeOf_20 : decode cX5_modeOf 20 = .ok (.getfield 7, 3) := by decide +kernel
theorem dX5_modeOf_23 : decode cX5_modeOf 23 = .ok (.iconst 1, 1) := by decide +kernel
theorem dX5_modeOf_24 : decode cX5_modeOf 24 = .ok (.iload_n 1, 1) := by decide +kernel
theorem dX5_modeOf_25 : decode cX5_modeOf 25 = .ok (.iastore, 1) := by decide +kernel
theorem dX5_modeOf_26 : decode cX5_modeOf 26 = .ok (.iload_n 2, 1) := by decide +kernel
theorem dX5_modeOf_27 : decode cX5_modeOf 27 = .ok (.ireturn, 1) := by decide +kernel
theorem dX5_laysAside_0 : decode cX5_laysAside 0 = .ok (.iconst 0, 1) := by decide +kernel
theorem dX5_laysAside_1 : decode cX5_laysAside 1 = .ok (.istore_n 1, 1) := by decide +kernel
theorem dX5_laysAside_2 : decode cX5_laysAside 2 = .ok (.iload_n 1, 1) := by decide +kernel
theorem dX5_laysAside_3 : decode cX5_laysAside 3 = .ok (.sipush 159, 3) := by decide +kernel
theorem dX5_laysAside_6 : decode cX5_laysAside 6 = .ok (.if_icmp .ge 21, 3) := by decide +kernel
theorem dX5_laysAside_9 : decode cX5_laysAside 9 = .ok (.aload_n 0, 1) := by decide +kernel
theorem dX5_laysAside_10 : decode cX5_laysAside 10 = .ok (.getfield 16, 3) := by decide +kernel
theorem dX5_laysAside_13 : decode cX5_laysAside 13 = .ok (.iload_n 1, 1) := by decide +kernel
theorem dX5_laysAside_14 : decode cX5_laysAside 14 = .ok (.aload_n 0, 1) := by decide +kernel
theorem dX5_laysAside_15 : decode cX5_laysAside 15 = .ok (.getfield 7, 3) := by decide +kernel
theorem dX5_laysAside_18 : decode cX5_laysAside 18 = .ok (.iload_n 1, 1) := by decide +kernel
theorem dX5_laysAside_19 : decode cX5_laysAside 19 = .ok (.iaload, 1) := by decide +kernel
theorem dX5_laysAside_20 : decode cX5_laysAside 20 = .ok (.iastore, 1) := by decide +kernel
theorem dX5_laysAside_21 : decode cX5_laysAside 21 = .ok (.iinc 1 1, 3) := by decide +kernel
theorem dX5_laysAside_24 : decode cX5_laysAside 24 = .ok (.goto (-22), 3) := by decide +kernel
theorem dX5_laysAside_27 : decode cX5_laysAside 27 = .ok (.return_, 1) := by decide +kernel
theorem dX5_comesBack_0 : decode cX5_comesBack 0 = .ok (.iconst 0, 1) := by decide +kernel
theorem dX5_comesBack_1 : decode cX5_comesBack 1 = .ok (.istore_n 1, 1) := by decide +kernel
theorem dX5_comesBack_2 : decode cX5_comesBack 2 = .ok (.iload_n 1, 1) := by decide +kernel
theorem dX5_comesBack_3 : decode cX5_comesBack 3 = .ok (.sipush 159, 3) := by decide +kernel
theorem dX5_comesBack_6 : decode cX5_comesBack 6 = .ok (.if_icmp .ge 21, 3) := by decide +kernel
theorem dX5_comesBack_9 : decode cX5_comesBack 9 = .ok (.aload_n 0, 1) := by decide +kernel
theorem dX5_comesBack_10 : decode cX5_comesBack 10 = .ok (.getfield 7, 3) := by decide +kernel
theorem dX5_comesBack_13 : decode cX5_comesBack 13 = .ok (.iload_n 1, 1) := by decide +kernel
theorem dX5_comesBack_14 : decode cX5_comesBack 14 = .ok (.aload_n 0, 1) := by decide +kernel
theorem dX5_comesBack_15 : decode cX5_comesBack 15 = .ok (.getfield 16, 3) := by decide +kernel
theorem dX5_comesBack_18 : decode cX5_comesBack 18 = .ok (.iload_n 1, 1) := by decide +kernel
theorem dX5_comesBack_19 : decode cX5_comesBack 19 = .ok (.iaload, 1) := by decide +kernel
theorem dX5_comesBack_20 : decode cX5_comesBack 20 = .ok (.iastore, 1) := by decide +kernel
theorem dX5_comesBack_21 : decode cX5_comesBack 21 = .ok (.iinc 1 1, 3) := by decide +kernel
theorem dX5_comesBack_24 : decode cX5_comesBack 24 = .ok (.goto (-22), 3) := by decide +kernel
theorem dX5_comesBack_27 : decode cX5_comesBack 27 = .ok (.return_, 1) := by decide +kernel
theorem dX5_leaves_0 : decode cX5_leaves 0 = .ok (.aload_n 0, 1) := by decide +kernel
theorem dX5_leaves_1 : decode cX5_leaves 1 = .ok (.getfield 101, 3) := by decide +kernel
theorem dX5_leaves_4 : decode cX5_leaves 4 = .ok (.iconst 5, 1) := by decide +kernel
theorem dX5_leaves_5 : decode cX5_leaves 5 = .ok (.if_icmp .ne 44, 3) := by decide +kernel
theorem dX5_leaves_8 : decode cX5_leaves 8 = .ok (.iconst 0, 1) := by decide +kernel
theorem dX5_leaves_9 : decode cX5_leaves 9 = .ok (.istore_n 1, 1) := by decide +kernel
theorem dX5_leaves_10 : decode cX5_leaves 10 = .ok (.iload_n 1, 1) := by decide +kernel
theorem dX5_leaves_11 : decode cX5_leaves 11 = .ok (.sipush 636, 3) := by decide +kernel
theorem dX5_leaves_14 : decode cX5_leaves 14 = .ok (.if_icmp .ge 25, 3) := by decide +kernel
theorem dX5_leaves_17 : decode cX5_leaves 17 = .ok (.aload_n 0, 1) := by decide +kernel
theorem dX5_leaves_18 : decode cX5_leaves 18 = .ok (.getfield 13, 3) := by decide +kernel
theorem dX5_leaves_21 : decode cX5_leaves 21 = .ok (.iload_n 1, 1) := by decide +kernel
theorem dX5_leaves_22 : decode cX5_leaves 22 = .ok (.aload_n 0, 1) := by decide +kernel
theorem dX5_leaves_23 : decode cX5_leaves 23 = .ok (.getfield 13, 3) := by decide +kernel
theorem dX5_leaves_26 : decode cX5_leaves 26 = .ok (.iload_n 1, 1) := by decide +kernel
theorem dX5_leaves_27 : decode cX5_leaves 27 = .ok (.sipush 159, 3) := by decide +kernel
theorem dX5_leaves_30 : decode cX5_leaves 30 = .ok (.iadd, 1) := by decide +kernel
theorem dX5_leaves_31 : decode cX5_leaves 31 = .ok (.iaload, 1) := by decide +kernel
theorem dX5_leaves_32 : decode cX5_leaves 32 = .ok (.iastore, 1) := by decide +kernel
theorem dX5_leaves_33 : decode cX5_leaves 33 = .ok (.iinc 1 1, 3) := by decide +kernel
theorem dX5_leaves_36 : decode cX5_leaves 36 = .ok (.goto (-26), 3) := by decide +kernel
theorem dX5_leaves_39 : decode cX5_leaves 39 = .ok (.aload_n 0, 1) := by decide +kernel
theorem dX5_leaves_40 : decode cX5_leaves 40 = .ok (.dup, 1) := by decide +kernel
theorem dX5_leaves_41 : decode cX5_leaves 41 = .ok (.getfield 101, 3) := by decide +kernel
theorem dX5_leaves_44 : decode cX5_leaves 44 = .ok (.iconst 1, 1) := by decide +kernel
theorem dX5_leaves_45 : decode cX5_leaves 45 = .ok (.isub, 1) := by decide +kernel
theorem dX5_leaves_46 : decode cX5_leaves 46 = .ok (.putfield 101, 3) := by decide +kernel
theorem dX5_leaves_49 : decode cX5_leaves 49 = .ok (.iconst 0, 1) := by decide +kernel
theorem dX5_leaves_50 : decode cX5_leaves 50 = .ok (.istore_n 1, 1) := by decide +kernel
theorem dX5_leaves_51 : decode cX5_leaves 51 = .ok (.iload_n 1, 1) := by decide +kernel
theorem dX5_leaves_52 : decode cX5_leaves 52 = .ok (.sipush 159, 3) := by decide +kernel
theorem dX5_leaves_55 : decode cX5_leaves 55 = .ok (.if_icmp .ge 30, 3) := by decide +kernel
theorem dX5_leaves_58 : decode cX5_leaves 58 = .ok (.aload_n 0, 1) := by decide +kernel
theorem dX5_leaves_59 : decode cX5_leaves 59 = .ok (.getfield 13, 3) := by decide +kernel
theorem dX5_leaves_62 : decode cX5_leaves 62 = .ok (.sipush 159, 3) := by decide +kernel
theorem dX5_leaves_65 : decode cX5_leaves 65 = .ok (.aload_n 0, 1) := by decide +kernel
theorem dX5_leaves_66 : decode cX5_leaves 66 = .ok (.getfield 101, 3) := by decide +kernel
theorem dX5_leaves_69 : decode cX5_leaves 69 = .ok (.imul, 1) := by decide +kernel
theorem dX5_leaves_70 : decode cX5_leaves 70 = .ok (.iload_n 1, 1) := by decide +kernel
theorem dX5_leaves_71 : decode cX5_leaves 71 = .ok (.iadd, 1) := by decide +kernel
theorem dX5_leaves_72 : decode cX5_leaves 72 = .ok (.aload_n 0, 1) := by decide +kernel
theorem dX5_leaves_73 : decode cX5_leaves 73 = .ok (.getfield 16, 3) := by decide +kernel
theorem dX5_leaves_76 : decode cX5_leaves 76 = .ok (.iload_n 1, 1) := by decide +kernel
theorem dX5_leaves_77 : decode cX5_leaves 77 = .ok (.iaload, 1) := by decide +kernel
theorem dX5_leaves_78 : decode cX5_leaves 78 = .ok (.iastore, 1) := by decide +kernel
theorem dX5_leaves_79 : decode cX5_leaves 79 = .ok (.iinc 1 1, 3) := by decide +kernel
theorem dX5_leaves_82 : decode cX5_leaves 82 = .ok (.goto (-31), 3) := by decide +kernel
theorem dX5_leaves_85 : decode cX5_leaves 85 = .ok (.aload_n 0, 1) := by decide +kernel
theorem dX5_leaves_86 : decode cX5_leaves 86 = .ok (.dup, 1) := by decide +kernel
theorem dX5_leaves_87 : decode cX5_leaves 87 = .ok (.getfield 101, 3) := by decide +kernel
theorem dX5_leaves_90 : decode cX5_leaves 90 = .ok (.iconst 1, 1) := by decide +kernel
theorem dX5_leaves_91 : decode cX5_leaves 91 = .ok (.iadd, 1) := by decide +kernel
theorem dX5_leaves_92 : decode cX5_leaves 92 = .ok (.putfield 101, 3) := by decide +kernel
theorem dX5_leaves_95 : decode cX5_leaves 95 = .ok (.return_, 1) := by decide +kernel
theorem dX5_done_0 : decode cX5_done 0 = .ok (.iload_n 1, 1) := by decide +kernel
theorem dX5_done_1 : decode cX5_done 1 = .ok (.ifCond .ge 10, 3) := by decide +kernel
theorem dX5_done_4 : decode cX5_done 4 = .ok (.aload_n 0, 1) := by decide +kernel
theorem dX5_done_5 : decode cX5_done 5 = .ok (.iload_n 1, 1) := by decide +kernel
theorem dX5_done_6 : decode cX5_done 6 = .ok (.iconst 1, 1) := by decide +kernel
theorem dX5_done_7 : decode cX5_done 7 = .ok (.invokevirtual 41, 3) := by decide +kernel
theorem dX5_done_10 : decode cX5_done 10 = .ok (.ireturn, 1) := by decide +kernel
theorem dX5_done_11 : decode cX5_done 11 = .ok (.aload_n 0, 1) := by decide +kernel
theorem dX5_done_12 : decode cX5_done 12 = .ok (.invokevirtual 104, 3) := by decide +kernel
theorem dX5_done_15 : decode cX5_done 15 = .ok (.iload_n 1, 1) := by decide +kernel
theorem dX5_done_16 : decode cX5_done 16 = .ok (.ireturn, 1) := by decide +kernel
theorem dX5_puts_0 : decode cX5_puts 0 = .ok (.aload_n 0, 1) := by decide +kernel
theorem dX5_puts_1 : decode cX5_puts 1 = .ok (.iconst 0, 1) := by decide +kernel
theorem dX5_puts_2 : decode cX5_puts 2 = .ok (.putfield 37, 3) := by decide +kernel
theorem dX5_puts_5 : decode cX5_puts 5 = .ok (.aload_n 0, 1) := by decide +kernel
theorem dX5_puts_6 : decode cX5_puts 6 = .ok (.invokevirtual 107, 3) := by decide +kernel
theorem dX5_puts_9 : decode cX5_puts 9 = .ok (.aload_n 0, 1) := by decide +kernel
theorem dX5_puts_10 : decode cX5_puts 10 = .ok (.aload_n 0, 1) := by decide +kernel
theorem dX5_puts_11 : decode cX5_puts 11 = .ok (.iload_n 1, 1) := by decide +kernel
theorem dX5_puts_12 : decode cX5_puts 12 = .ok (.iload_n 2, 1) := by decide +kernel
theorem dX5_puts_13 : decode cX5_puts 13 = .ok (.invokevirtual 110, 3) := by decide +kernel
theorem dX5_puts_16 : decode cX5_puts 16 = .ok (.invokevirtual 113, 3) := by decide +kernel
theorem dX5_puts_19 : decode cX5_puts 19 = .ok (.ireturn, 1) := by decide +kernel
theorem dX5_takes_0 : decode cX5_takes 0 = .ok (.aload_n 0, 1) := by decide +kernel
theorem dX5_takes_1 : decode cX5_takes 1 = .ok (.iconst 0, 1) := by decide +kernel
theorem dX5_takes_2 : decode cX5_takes 2 = .ok (.putfield 37, 3) := by decide +kernel
theorem dX5_takes_5 : decode cX5_takes 5 = .ok (.aload_n 0, 1) := by decide +kernel
theorem dX5_takes_6 : decode cX5_takes 6 = .ok (.invokevirtual 107, 3) := by decide +kernel
theorem dX5_takes_9 : decode cX5_takes 9 = .ok (.aload_n 0, 1) := by decide +kernel
theorem dX5_takes_10 : decode cX5_takes 10 = .ok (.aload_n 0, 1) := by decide +kernel
theorem dX5_takes_11 : decode cX5_takes 11 = .ok (.iload_n 1, 1) := by decide +kernel
theorem dX5_takes_12 : decode cX5_takes 12 = .ok (.invokevirtual 116, 3) := by decide +kernel
theorem dX5_takes_15 : decode cX5_takes 15 = .ok (.invokevirtual 113, 3) := by decide +kernel
theorem dX5_takes_18 : decode cX5_takes 18 = .ok (.ireturn, 1) := by decide +kernel
theorem dX5_drops_0 : decode cX5_drops 0 = .ok (.aload_n 0, 1) := by decide +kernel
theorem dX5_drops_1 : decode cX5_drops 1 = .ok (.iconst 0, 1) := by decide +kernel
theorem dX5_drops_2 : decode cX5_drops 2 = .ok (.putfield 37, 3) := by decide +kernel
theorem dX5_drops_5 : decode cX5_drops 5 = .ok (.aload_n 0, 1) := by decide +kernel
theorem dX5_drops_6 : decode cX5_drops 6 = .ok (.invokevirtual 107, 3) := by decide +kernel
theorem dX5_drops_9 : decode cX5_drops 9 = .ok (.aload_n 0, 1) := by decide +kernel
theorem dX5_drops_10 : decode cX5_drops 10 = .ok (.aload_n 0, 1) := by decide +kernel
theorem dX5_drops_11 : decode cX5_drops 11 = .ok (.iload_n 1, 1) := by decide +kernel
theorem dX5_drops_12 : decode cX5_drops 12 = .ok (.iload_n 2, 1) := by decide +kernel
theorem dX5_drops_13 : decode cX5_drops 13 = .ok (.invokevirtual 119, 3) := by decide +kernel
theorem dX5_drops_16 : decode cX5_drops 16 = .ok (.invokevirtual 113, 3) := by decide +kernel
theorem dX5_drops_19 : decode cX5_drops 19 = .ok (.ireturn, 1) := by decide +kernel
theorem dX5_mode_0 : decode cX5_mode 0 = .ok (.aload_n 0, 1) := by decide +kernel
theorem dX5_mode_1 : decode cX5_mode 1 = .ok (.iconst 0, 1) := by decide +kernel
theorem dX5_mode_2 : decode cX5_mode 2 = .ok (.putfield 37, 3) := by decide +kernel
theorem dX5_mode_5 : decode cX5_mode 5 = .ok (.aload_n 0, 1) := by decide +kernel
theorem dX5_mode_6 : decode cX5_mode 6 = .ok (.invokevirtual 107, 3) := by decide +kernel
theorem dX5_mode_9 : decode cX5_mode 9 = .ok (.aload_n 0, 1) := by decide +kernel
theorem dX5_mode_10 : decode cX5_mode 10 = .ok (.aload_n 0, 1) := by decide +kernel
theorem dX5_mode_11 : decode cX5_mode 11 = .ok (.iload_n 1, 1) := by decide +kernel
theorem dX5_mode_12 : decode cX5_mode 12 = .ok (.invokevirtual 122, 3) := by decide +kernel
theorem dX5_mode_15 : decode cX5_mode 15 = .ok (.invokevirtual 113, 3) := by decide +kernel
theorem dX5_mode_18 : decode cX5_mode 18 = .ok (.ireturn, 1) := by decide +kernel
theorem dX5_spaces_0 : decode cX5_spaces 0 = .ok (.aload_n 0, 1) := by decide +kernel
theorem dX5_spaces_1 : decode cX5_spaces 1 = .ok (.iconst 0, 1) := by decide +kernel
theorem dX5_spaces_2 : decode cX5_spaces 2 = .ok (.putfield 37, 3) := by decide +kernel
theorem dX5_spaces_5 : decode cX5_spaces 5 = .ok (.aload_n 0, 1) := by decide +kernel
theorem dX5_spaces_6 : decode cX5_spaces 6 = .ok (.invokevirtual 107, 3) := by decide +kernel
theorem dX5_spaces_9 : decode cX5_spaces 9 = .ok (.aload_n 0, 1) := by decide +kernel
theorem dX5_spaces_10 : decode cX5_spaces 10 = .ok (.aload_n 0, 1) := by decide +kernel
theorem dX5_spaces_11 : decode cX5_spaces 11 = .ok (.iconst 0, 1) := by decide +kernel
theorem dX5_spaces_12 : decode cX5_spaces 12 = .ok (.aload_n 0, 1) := by decide +kernel
theorem dX5_spaces_13 : decode cX5_spaces 13 = .ok (.getfield 7, 3) := by decide +kernel
theorem dX5_spaces_16 : decode cX5_spaces 16 = .ok (.iconst 0, 1) := by decide +kernel
theorem dX5_spaces_17 : decode cX5_spaces 17 = .ok (.iaload, 1) := by decide +kernel
theorem dX5_spaces_18 : decode cX5_spaces 18 = .ok (.iconst (-1), 1) := by decide +kernel
theorem dX5_spaces_19 : decode cX5_spaces 19 = .ok (.iconst 0, 1) := by decide +kernel
theorem dX5_spaces_20 : decode cX5_spaces 20 = .ok (.invokevirtual 80, 3) := by decide +kernel
theorem dX5_spaces_23 : decode cX5_spaces 23 = .ok (.invokevirtual 113, 3) := by decide +kernel
theorem dX5_spaces_26 : decode cX5_spaces 26 = .ok (.ireturn, 1) := by decide +kernel
theorem dX5_back_0 : decode cX5_back 0 = .ok (.aload_n 0, 1) := by decide +kernel
theorem dX5_back_1 : decode cX5_back 1 = .ok (.iconst 0, 1) := by decide +kernel
theorem dX5_back_2 : decode cX5_back 2 = .ok (.putfield 37, 3) := by decide +kernel
theorem dX5_back_5 : decode cX5_back 5 = .ok (.aload_n 0, 1) := by decide +kernel
theorem dX5_back_6 : decode cX5_back 6 = .ok (.getfield 101, 3) := by decide +kernel
theorem dX5_back_9 : decode cX5_back 9 = .ok (.ifCond .ne 11, 3) := by decide +kernel
theorem dX5_back_12 : decode cX5_back 12 = .ok (.aload_n 0, 1) := by decide +kernel
theorem dX5_back_13 : decode cX5_back 13 = .ok (.bipush (-3), 2) := by decide +kernel
theorem dX5_back_15 : decode cX5_back 15 = .ok (.iconst 1, 1) := by decide +kernel
theorem dX5_back_16 : decode cX5_back 16 = .ok (.invokevirtual 41, 3) := by decide +kernel
theorem dX5_back_19 : decode cX5_back 19 = .ok (.ireturn, 1) := by decide +kernel
theorem dX5_back_20 : decode cX5_back 20 = .ok (.aload_n 0, 1) := by decide +kernel
theorem dX5_back_21 : decode cX5_back 21 = .ok (.dup, 1) := by decide +kernel
theorem dX5_back_22 : decode cX5_back 22 = .ok (.getfield 101, 3) := by decide +kernel
theorem dX5_back_25 : decode cX5_back 25 = .ok (.iconst 1, 1) := by decide +kernel
theorem dX5_back_26 : decode cX5_back 26 = .ok (.isub, 1) := by decide +kernel
theorem dX5_back_27 : decode cX5_back 27 = .ok (.putfield 101, 3) := by decide +kernel
theorem dX5_back_30 : decode cX5_back 30 = .ok (.iconst 0, 1) := by decide +kernel
theorem dX5_back_31 : decode cX5_back 31 = .ok (.istore_n 1, 1) := by decide +kernel
theorem dX5_back_32 : decode cX5_back 32 = .ok (.iload_n 1, 1) := by decide +kernel
theorem dX5_back_33 : decode cX5_back 33 = .ok (.sipush 159, 3) := by decide +kernel
theorem dX5_back_36 : decode cX5_back 36 = .ok (.if_icmp .ge 30, 3) := by decide +kernel
theorem dX5_back_39 : decode cX5_back 39 = .ok (.aload_n 0, 1) := by decide +kernel
theorem dX5_back_40 : decode cX5_back 40 = .ok (.getfield 7, 3) := by decide +kernel
theorem dX5_back_43 : decode cX5_back 43 = .ok (.iload_n 1, 1) := by decide +kernel
theorem dX5_back_44 : decode cX5_back 44 = .ok (.aload_n 0, 1) := by decide +kernel
theorem dX5_back_45 : decode cX5_back 45 = .ok (.getfield 13, 3) := by decide +kernel
theorem dX5_back_48 : decode cX5_back 48 = .ok (.sipush 159, 3) := by decide +kernel
theorem dX5_back_51 : decode cX5_back 51 = .ok (.aload_n 0, 1) := by decide +kernel
theorem dX5_back_52 : decode cX5_back 52 = .ok (.getfield 101, 3) := by decide +kernel
theorem dX5_back_55 : decode cX5_back 55 = .ok (.imul, 1) := by decide +kernel
theorem dX5_back_56 : decode cX5_back 56 = .ok (.iload_n 1, 1) := by decide +kernel
theorem dX5_back_57 : decode cX5_back 57 = .ok (.iadd, 1) := by decide +kernel
theorem dX5_back_58 : decode cX5_back 58 = .ok (.iaload, 1) := by decide +kernel
theorem dX5_back_59 : decode cX5_back 59 = .ok (.iastore, 1) := by decide +kernel
theorem dX5_back_60 : decode cX5_back 60 = .ok (.iinc 1 1, 3) := by decide +kernel
theorem dX5_back_63 : decode cX5_back 63 = .ok (.goto (-31), 3) := by decide +kernel
theorem dX5_back_66 : decode cX5_back 66 = .ok (.aload_n 0, 1) := by decide +kernel
theorem dX5_back_67 : decode cX5_back 67 = .ok (.getfield 101, 3) := by decide +kernel
theorem dX5_back_70 : decode cX5_back 70 = .ok (.ireturn, 1) := by decide +kernel
theorem dX5_value_0 : decode cX5_value 0 = .ok (.aload_n 0, 1) := by decide +kernel
theorem dX5_value_1 : decode cX5_value 1 = .ok (.iconst 0, 1) := by decide +kernel
theorem dX5_value_2 : decode cX5_value 2 = .ok (.putfield 37, 3) := by decide +kernel
theorem dX5_value_5 : decode cX5_value 5 = .ok (.iload_n 1, 1) := by decide +kernel
theorem dX5_value_6 : decode cX5_value 6 = .ok (.iconst 0, 1) := by decide +kernel
theorem dX5_value_7 : decode cX5_value 7 = .ok (.sipush 999, 3) := by decide +kernel
theorem dX5_value_10 : decode cX5_value 10 = .ok (.invokestatic 87, 3) := by decide +kernel
theorem dX5_value_13 : decode cX5_value 13 = .ok (.ifCond .ne 8, 3) := by decide +kernel
theorem dX5_value_16 : decode cX5_value 16 = .ok (.aload_n 0, 1) := by decide +kernel
theorem dX5_value_17 : decode cX5_value 17 = .ok (.invokevirtual 125, 3) := by decide +kernel
theorem dX5_value_20 : decode cX5_value 20 = .ok (.ireturn, 1) := by decide +kernel
theorem dX5_value_21 : decode cX5_value 21 = .ok (.aload_n 0, 1) := by decide +kernel
theorem dX5_value_22 : decode cX5_value 22 = .ok (.iload_n 1, 1) := by decide +kernel
theorem dX5_value_23 : decode cX5_value 23 = .ok (.invokevirtual 91, 3) := by decide +kernel
theorem dX5_value_26 : decode cX5_value 26 = .ok (.istore_n 2, 1) := by decide +kernel
theorem dX5_value_27 : decode cX5_value 27 = .ok (.iload_n 2, 1) := by decide +kernel
theorem dX5_value_28 : decode cX5_value 28 = .ok (.iconst (-1), 1) := by decide +kernel
theorem dX5_value_29 : decode cX5_value 29 = .ok (.if_icmp .ne 13, 3) := by decide +kernel
theorem dX5_value_32 : decode cX5_value 32 = .ok (.aload_n 0, 1) := by decide +kernel
theorem dX5_value_33 : decode cX5_value 33 = .ok (.bipush (-3), 2) := by decide +kernel
theorem dX5_value_35 : decode cX5_value 35 = .ok (.iconst 1, 1) := by decide +kernel
theorem dX5_value_36 : decode cX5_value 36 = .ok (.invokevirtual 41, 3) := by decide +kernel
theorem dX5_value_39 : decode cX5_value 39 = .ok (.goto 12, 3) := by decide +kernel
theorem dX5_value_42 : decode cX5_value 42 = .ok (.aload_n 0, 1) := by decide +kernel
theorem dX5_value_43 : decode cX5_value 43 = .ok (.getfield 7, 3) := by decide +kernel
theorem dX5_value_46 : decode cX5_value 46 = .ok (.bipush 95, 2) := by decide +kernel
theorem dX5_value_48 : decode cX5_value 48 = .ok (.iload_n 2, 1) := by decide +kernel
theorem dX5_value_49 : decode cX5_value 49 = .ok (.iadd, 1) := by decide +kernel
theorem dX5_value_50 : decode cX5_value 50 = .ok (.iaload, 1) := by decide +kernel
theorem dX5_value_51 : decode cX5_value 51 = .ok (.ireturn, 1) := by decide +kernel
theorem dX5_cell_0 : decode cX5_cell 0 = .ok (.aload_n 0, 1) := by decide +kernel
theorem dX5_cell_1 : decode cX5_cell 1 = .ok (.iconst 0, 1) := by decide +kernel
theorem dX5_cell_2 : decode cX5_cell 2 = .ok (.putfield 37, 3) := by decide +kernel
theorem dX5_cell_5 : decode cX5_cell 5 = .ok (.iload_n 1, 1) := by decide +kernel
theorem dX5_cell_6 : decode cX5_cell 6 = .ok (.iconst 0, 1) := by decide +kernel
theorem dX5_cell_7 : decode cX5_cell 7 = .ok (.sipush 999, 3) := by decide +kernel
theorem dX5_cell_10 : decode cX5_cell 10 = .ok (.invokestatic 87, 3) := by decide +kernel
theorem dX5_cell_13 : decode cX5_cell 13 = .ok (.ifCond .eq 11, 3) := by decide +kernel
theorem dX5_cell_16 : decode cX5_cell 16 = .ok (.aload_n 0, 1) := by decide +kernel
theorem dX5_cell_17 : decode cX5_cell 17 = .ok (.iload_n 1, 1) := by decide +kernel
theorem dX5_cell_18 : decode cX5_cell 18 = .ok (.invokevirtual 91, 3) := by decide +kernel
theorem dX5_cell_21 : decode cX5_cell 21 = .ok (.goto 7, 3) := by decide +kernel
theorem dX5_cell_24 : decode cX5_cell 24 = .ok (.aload_n 0, 1) := by decide +kernel
theorem dX5_cell_25 : decode cX5_cell 25 = .ok (.invokevirtual 125, 3) := by decide +kernel
theorem dX5_cell_28 : decode cX5_cell 28 = .ok (.ireturn, 1) := by decide +kernel
theorem dX5_at_0 : decode cX5_at 0 = .ok (.aload_n 0, 1) := by decide +kernel
theorem dX5_at_1 : decode cX5_at 1 = .ok (.iconst 0, 1) := by decide +kernel
theorem dX5_at_2 : decode cX5_at 2 = .ok (.putfield 37, 3) := by decide +kernel
theorem dX5_at_5 : decode cX5_at 5 = .ok (.iload_n 1, 1) := by decide +kernel
theorem dX5_at_6 : decode cX5_at 6 = .ok (.iconst 0, 1) := by decide +kernel
theorem dX5_at_7 : decode cX5_at 7 = .ok (.aload_n 0, 1) := by decide +kernel
theorem dX5_at_8 : decode cX5_at 8 = .ok (.getfield 7, 3) := by decide +kernel
theorem dX5_at_11 : decode cX5_at 11 = .ok (.iconst 0, 1) := by decide +kernel
theorem dX5_at_12 : decode cX5_at 12 = .ok (.iaload, 1) := by decide +kernel
theorem dX5_at_13 : decode cX5_at 13 = .ok (.iconst 1, 1) := by decide +kernel
theorem dX5_at_14 : decode cX5_at 14 = .ok (.isub, 1) := by decide +kernel
theorem dX5_at_15 : decode cX5_at 15 = .ok (.invokestatic 87, 3) := by decide +kernel
theorem dX5_at_18 : decode cX5_at 18 = .ok (.ifCond .eq 15, 3) := by decide +kernel
theorem dX5_at_21 : decode cX5_at 21 = .ok (.aload_n 0, 1) := by decide +kernel
theorem dX5_at_22 : decode cX5_at 22 = .ok (.getfield 7, 3) := by decide +kernel
theorem dX5_at_25 : decode cX5_at 25 = .ok (.bipush 31, 2) := by decide +kernel
theorem dX5_at_27 : decode cX5_at 27 = .ok (.iload_n 1, 1) := by decide +kernel
theorem dX5_at_28 : decode cX5_at 28 = .ok (.iadd, 1) := by decide +kernel
theorem dX5_at_29 : decode cX5_at 29 = .ok (.iaload, 1) := by decide +kernel
theorem dX5_at_30 : decode cX5_at 30 = .ok (.goto 7, 3) := by decide +kernel
theorem dX5_at_33 : decode cX5_at 33 = .ok (.aload_n 0, 1) := by decide +kernel
theorem dX5_at_34 : decode cX5_at 34 = .ok (.invokevirtual 125, 3) := by decide +kernel
theorem dX5_at_37 : decode cX5_at 37 = .ok (.ireturn, 1) := by decide +kernel
theorem dX5_below_0 : decode cX5_below 0 = .ok (.iconst 0, 1) := by decide +kernel
theorem dX5_below_1 : decode cX5_below 1 = .ok (.istore_n 2, 1) := by decide +kernel
theorem dX5_below_2 : decode cX5_below 2 = .ok (.iconst 0, 1) := by decide +kernel
theorem dX5_below_3 : decode cX5_below 3 = .ok (.istore_n 3, 1) := by decide +kernel
theorem dX5_below_4 : decode cX5_below 4 = .ok (.iload_n 3, 1) := by decide +kernel
theorem dX5_below_5 : decode cX5_below 5 = .ok (.aload_n 0, 1) := by decide +kernel
theorem dX5_below_6 : decode cX5_below 6 = .ok (.getfield 7, 3) := by decide +kernel
theorem dX5_below_9 : decode cX5_below 9 = .ok (.iconst 0, 1) := by decide +kernel
theorem dX5_below_10 : decode cX5_below 10 = .ok (.iaload, 1) := by decide +kernel
theorem dX5_below_11 : decode cX5_below 11 = .ok (.if_icmp .ge 43, 3) := by decide +kernel
theorem dX5_below_14 : decode cX5_below 14 = .ok (.iload_n 2, 1) := by decide +kernel
theorem dX5_below_15 : decode cX5_below 15 = .ok (.aload_n 0, 1) := by decide +kernel
theorem dX5_below_16 : decode cX5_below 16 = .ok (.getfield 7, 3) := by decide +kernel
theorem dX5_below_19 : decode cX5_below 19 = .ok (.bipush 31, 2) := by decide +kernel
theorem dX5_below_21 : decode cX5_below 21 = .ok (.iload_n 3, 1) := by decide +kernel
theorem dX5_below_22 : decode cX5_below 22 = .ok (.iadd, 1) := by decide +kernel
theorem dX5_below_23 : decode cX5_below 23 = .ok (.iaload, 1) := by decide +kernel
theorem dX5_below_24 : decode cX5_below 24 = .ok (.iconst (-1), 1) := by decide +kernel
theorem dX5_below_25 : decode cX5_below 25 = .ok (.if_icmp .eq 20, 3) := by decide +kernel
theorem dX5_below_28 : decode cX5_below 28 = .ok (.aload_n 0, 1) := by decide +kernel
theorem dX5_below_29 : decode cX5_below 29 = .ok (.getfield 7, 3) := by decide +kernel
theorem dX5_below_32 : decode cX5_below 32 = .ok (.bipush 31, 2) := by decide +kernel
theorem dX5_below_34 : decode cX5_below 34 = .ok (.iload_n 3, 1) := by decide +kernel
theorem dX5_below_35 : decode cX5_below 35 = .ok (.iadd, 1) := by decide +kernel
theorem dX5_below_36 : decode cX5_below 36 = .ok (.iaload, 1) := by decide +kernel
theorem dX5_below_37 : decode cX5_below 37 = .ok (.iload_n 1, 1) := by decide +kernel
theorem dX5_below_38 : decode cX5_below 38 = .ok (.if_icmp .ge 7, 3) := by decide +kernel
theorem dX5_below_41 : decode cX5_below 41 = .ok (.iconst 1, 1) := by decide +kernel
theorem dX5_below_42 : decode cX5_below 42 = .ok (.goto 4, 3) := by decide +kernel
theorem dX5_below_45 : decode cX5_below 45 = .ok (.iconst 0, 1) := by decide +kernel
theorem dX5_below_46 : decode cX5_below 46 = .ok (.iadd, 1) := by decide +kernel
theorem dX5_below_47 : decode cX5_below 47 = .ok (.istore_n 2, 1) := by decide +kernel
theorem dX5_below_48 : decode cX5_below 48 = .ok (.iinc 3 1, 3) := by decide +kernel
theorem dX5_below_51 : decode cX5_below 51 = .ok (.goto (-47), 3) := by decide +kernel
theorem dX5_below_54 : decode cX5_below 54 = .ok (.iload_n 2, 1) := by decide +kernel
theorem dX5_below_55 : decode cX5_below 55 = .ok (.ireturn, 1) := by decide +kernel
theorem dX5_rank_0 : decode cX5_rank 0 = .ok (.aload_n 0, 1) := by decide +kernel
theorem dX5_rank_1 : decode cX5_rank 1 = .ok (.iconst 0, 1) := by decide +kernel
theorem dX5_rank_2 : decode cX5_rank 2 = .ok (.putfield 37, 3) := by decide +kernel
theorem dX5_rank_5 : decode cX5_rank 5 = .ok (.iload_n 1, 1) := by decide +kernel
theorem dX5_rank_6 : decode cX5_rank 6 = .ok (.iconst 0, 1) := by decide +kernel
theorem dX5_rank_7 : decode cX5_rank 7 = .ok (.sipush 1000, 3) := by decide +kernel
theorem dX5_rank_10 : decode cX5_rank 10 = .ok (.invokestatic 87, 3) := by decide +kernel
theorem dX5_rank_13 : decode cX5_rank 13 = .ok (.ifCond .eq 11, 3) := by decide +kernel
theorem dX5_rank_16 : decode cX5_rank 16 = .ok (.aload_n 0, 1) := by decide +kernel
theorem dX5_rank_17 : decode cX5_rank 17 = .ok (.iload_n 1, 1) := by decide +kernel
theorem dX5_rank_18 : decode cX5_rank 18 = .ok (.invokevirtual 128, 3) := by decide +kernel
theorem dX5_rank_21 : decode cX5_rank 21 = .ok (.goto 7, 3) := by decide +kernel
theorem dX5_rank_24 : decode cX5_rank 24 = .ok (.aload_n 0, 1) := by decide +kernel
theorem dX5_rank_25 : decode cX5_rank 25 = .ok (.invokevirtual 125, 3) := by decide +kernel
theorem dX5_rank_28 : decode cX5_rank 28 = .ok (.ireturn, 1) := by decide +kernel
theorem dX5_key_0 : decode cX5_key 0 = .ok (.aload_n 0, 1) := by decide +kernel
theorem dX5_key_1 : decode cX5_key 1 = .ok (.iconst 0, 1) := by decide +kernel
theorem dX5_key_2 : decode cX5_key 2 = .ok (.putfield 37, 3) := by decide +kernel
theorem dX5_key_5 : decode cX5_key 5 = .ok (.iload_n 1, 1) := by decide +kernel
theorem dX5_key_6 : decode cX5_key 6 = .ok (.ifCond .ge 8, 3) := by decide +kernel
theorem dX5_key_9 : decode cX5_key 9 = .ok (.aload_n 0, 1) := by decide +kernel
theorem dX5_key_10 : decode cX5_key 10 = .ok (.invokevirtual 125, 3) := by decide +kernel
theorem dX5_key_13 : decode cX5_key 13 = .ok (.ireturn, 1) := by decide +kernel
theorem dX5_key_14 : decode cX5_key 14 = .ok (.iload_n 1, 1) := by decide +kernel
theorem dX5_key_15 : decode cX5_key 15 = .ok (.istore_n 2, 1) := by decide +kernel
theorem dX5_key_16 : decode cX5_key 16 = .ok (.iconst 0, 1) := by decide +kernel
theorem dX5_key_17 : decode cX5_key 17 = .ok (.istore_n 3, 1) := by decide +kernel
theorem dX5_key_18 : decode cX5_key 18 = .ok (.iload_n 3, 1) := by decide +kernel
theorem dX5_key_19 : decode cX5_key 19 = .ok (.aload_n 0, 1) := by decide +kernel
theorem dX5_key_20 : decode cX5_key 20 = .ok (.getfield 7, 3) := by decide +kernel
theorem dX5_key_23 : decode cX5_key 23 = .ok (.iconst 0, 1) := by decide +kernel
theorem dX5_key_24 : decode cX5_key 24 = .ok (.iaload, 1) := by decide +kernel
theorem dX5_key_25 : decode cX5_key 25 = .ok (.if_icmp .ge 39, 3) := by decide +kernel
theorem dX5_key_28 : decode cX5_key 28 = .ok (.aload_n 0, 1) := by decide +kernel
theorem dX5_key_29 : decode cX5_key 29 = .ok (.getfield 7, 3) := by decide +kernel
theorem dX5_key_32 : decode cX5_key 32 = .ok (.bipush 31, 2) := by decide +kernel
theorem dX5_key_34 : decode cX5_key 34 = .ok (.iload_n 3, 1) := by decide +kernel
theorem dX5_key_35 : decode cX5_key 35 = .ok (.iadd, 1) := by decide +kernel
theorem dX5_key_36 : decode cX5_key 36 = .ok (.iaload, 1) := by decide +kernel
theorem dX5_key_37 : decode cX5_key 37 = .ok (.iconst (-1), 1) := by decide +kernel
theorem dX5_key_38 : decode cX5_key 38 = .ok (.if_icmp .eq 20, 3) := by decide +kernel
theorem dX5_key_41 : decode cX5_key 41 = .ok (.iload_n 2, 1) := by decide +kernel
theorem dX5_key_42 : decode cX5_key 42 = .ok (.ifCond .ne 13, 3) := by decide +kernel
theorem dX5_key_45 : decode cX5_key 45 = .ok (.aload_n 0, 1) := by decide +kernel
theorem dX5_key_46 : decode cX5_key 46 = .ok (.getfield 7, 3) := by decide +kernel
theorem dX5_key_49 : decode cX5_key 49 = .ok (.bipush 31, 2) := by decide +kernel
theorem dX5_key_51 : decode cX5_key 51 = .ok (.iload_n 3, 1) := by decide +kernel
theorem dX5_key_52 : decode cX5_key 52 = .ok (.iadd, 1) := by decide +kernel
theorem dX5_key_53 : decode cX5_key 53 = .ok (.iaload, 1) := by decide +kernel
theorem dX5_key_54 : decode cX5_key 54 = .ok (.ireturn, 1) := by decide +kernel
theorem dX5_key_55 : decode cX5_key 55 = .ok (.iinc 2 (-1), 3) := by decide +kernel
theorem dX5_key_58 : decode cX5_key 58 = .ok (.iinc 3 1, 3) := by decide +kernel
theorem dX5_key_61 : decode cX5_key 61 = .ok (.goto (-43), 3) := by decide +kernel
theorem dX5_key_64 : decode cX5_key 64 = .ok (.iconst (-1), 1) := by decide +kernel
theorem dX5_key_65 : decode cX5_key 65 = .ok (.ireturn, 1) := by decide +kernel
theorem dX5_scan_0 : decode cX5_scan 0 = .ok (.aload_n 0, 1) := by decide +kernel
theorem dX5_scan_1 : decode cX5_scan 1 = .ok (.iconst 0, 1) := by decide +kernel
theorem dX5_scan_2 : decode cX5_scan 2 = .ok (.putfield 37, 3) := by decide +kernel
theorem dX5_scan_5 : decode cX5_scan 5 = .ok (.iload_n 1, 1) := by decide +kernel
theorem dX5_scan_6 : decode cX5_scan 6 = .ok (.iconst 0, 1) := by decide +kernel
theorem dX5_scan_7 : decode cX5_scan 7 = .ok (.sipush 999, 3) := by decide +kernel
theorem dX5_scan_10 : decode cX5_scan 10 = .ok (.invokestatic 87, 3) := by decide +kernel
theorem dX5_scan_13 : decode cX5_scan 13 = .ok (.ifCond .eq 23, 3) := by decide +kernel
theorem dX5_scan_16 : decode cX5_scan 16 = .ok (.iload_n 2, 1) := by decide +kernel
theorem dX5_scan_17 : decode cX5_scan 17 = .ok (.iload_n 1, 1) := by decide +kernel
theorem dX5_scan_18 : decode cX5_scan 18 = .ok (.sipush 999, 3) := by decide +kernel
theorem dX5_scan_21 : decode cX5_scan 21 = .ok (.invokestatic 87, 3) := by decide +kernel
theorem dX5_scan_24 : decode cX5_scan 24 = .ok (.ifCond .eq 12, 3) := by decide +kernel
theorem dX5_scan_27 : decode cX5_scan 27 = .ok (.iload_n 3, 1) := by decide +kernel
theorem dX5_scan_28 : decode cX5_scan 28 = .ok (.iconst 0, 1) := by decide +kernel
theorem dX5_scan_29 : decode cX5_scan 29 = .ok (.iconst 2, 1) := by decide +kernel
theorem dX5_scan_30 : decode cX5_scan 30 = .ok (.invokestatic 87, 3) := by decide +kernel
theorem dX5_scan_33 : decode cX5_scan 33 = .ok (.ifCond .ne 8, 3) := by decide +kernel
theorem dX5_scan_36 : decode cX5_scan 36 = .ok (.aload_n 0, 1) := by decide +kernel
theorem dX5_scan_37 : decode cX5_scan 37 = .ok (.invokevirtual 125, 3) := by decide +kernel
theorem dX5_scan_40 : decode cX5_scan 40 = .ok (.ireturn, 1) := by decide +kernel
theorem dX5_scan_41 : decode cX5_scan 41 = .ok (.iconst 0, 1) := by decide +kernel
theorem dX5_scan_42 : decode cX5_scan 42 = .ok (.istore 4, 2) := by decide +kernel
theorem dX5_scan_44 : decode cX5_scan 44 = .ok (.iconst 0, 1) := by decide +kernel
theorem dX5_scan_45 : decode cX5_scan 45 = .ok (.istore 5, 2) := by decide +kernel
theorem dX5_scan_47 : decode cX5_scan 47 = .ok (.iconst (-1), 1) := by decide +kernel
theorem dX5_scan_48 : decode cX5_scan 48 = .ok (.istore 6, 2) := by decide +kernel
theorem dX5_scan_50 : decode cX5_scan 50 = .ok (.iconst (-1), 1) := by decide +kernel
theorem dX5_scan_51 : decode cX5_scan 51 = .ok (.istore 7, 2) := by decide +kernel
theorem dX5_scan_53 : decode cX5_scan 53 = .ok (.iconst 0, 1) := by decide +kernel
theorem dX5_scan_54 : decode cX5_scan 54 = .ok (.istore 8, 2) := by decide +kernel
theorem dX5_scan_56 : decode cX5_scan 56 = .ok (.iload 8, 2) := by decide +kernel
theorem dX5_scan_58 : decode cX5_scan 58 = .ok (.aload_n 0, 1) := by decide +kernel
theorem dX5_scan_59 : decode cX5_scan 59 = .ok (.getfield 7, 3) := by decide +kernel
theorem dX5_scan_62 : decode cX5_scan 62 = .ok (.iconst 0, 1) := by decide +kernel
theorem dX5_scan_63 : decode cX5_scan 63 = .ok (.iaload, 1) := by decide +kernel
theorem dX5_scan_64 : decode cX5_scan 64 = .ok (.if_icmp .ge 77, 3) := by decide +kernel
theorem dX5_scan_67 : decode cX5_scan 67 = .ok (.aload_n 0, 1) := by decide +kernel
theorem dX5_scan_68 : decode cX5_scan 68 = .ok (.getfield 7, 3) := by decide +kernel
theorem dX5_scan_71 : decode cX5_scan 71 = .ok (.bipush 31, 2) := by decide +kernel
theorem dX5_scan_73 : decode cX5_scan 73 = .ok (.iload 8, 2) := by decide +kernel
theorem dX5_scan_75 : decode cX5_scan 75 = .ok (.iadd, 1) := by decide +kernel
theorem dX5_scan_76 : decode cX5_scan 76 = .ok (.iaload, 1) := by decide +kernel
theorem dX5_scan_77 : decode cX5_scan 77 = .ok (.iconst (-1), 1) := by decide +kernel
theorem dX5_scan_78 : decode cX5_scan 78 = .ok (.if_icmp .eq 57, 3) := by decide +kernel
theorem dX5_scan_81 : decode cX5_scan 81 = .ok (.aload_n 0, 1) := by decide +kernel
theorem dX5_scan_82 : decode cX5_scan 82 = .ok (.getfield 7, 3) := by decide +kernel
theorem dX5_scan_85 : decode cX5_scan 85 = .ok (.bipush 31, 2) := by decide +kernel
theorem dX5_scan_87 : decode cX5_scan 87 = .ok (.iload 8, 2) := by decide +kernel
theorem dX5_scan_89 : decode cX5_scan 89 = .ok (.iadd, 1) := by decide +kernel
theorem dX5_scan_90 : decode cX5_scan 90 = .ok (.iaload, 1) := by decide +kernel
theorem dX5_scan_91 : decode cX5_scan 91 = .ok (.iload_n 1, 1) := by decide +kernel
theorem dX5_scan_92 : decode cX5_scan 92 = .ok (.iload_n 2, 1) := by decide +kernel
theorem dX5_scan_93 : decode cX5_scan 93 = .ok (.invokestatic 87, 3) := by decide +kernel
theorem dX5_scan_96 : decode cX5_scan 96 = .ok (.ifCond .eq 39, 3) := by decide +kernel
theorem dX5_scan_99 : decode cX5_scan 99 = .ok (.iload 4, 2) := by decide +kernel
theorem dX5_scan_101 : decode cX5_scan 101 = .ok (.ifCond .ne 8, 3) := by decide +kernel
theorem dX5_scan_104 : decode cX5_scan 104 = .ok (.iload 8, 2) := by decide +kernel
theorem dX5_scan_106 : decode cX5_scan 106 = .ok (.goto 5, 3) := by decide +kernel
theorem dX5_scan_109 : decode cX5_scan 109 = .ok (.iload 6, 2) := by decide +kernel
theorem dX5_scan_111 : decode cX5_scan 111 = .ok (.istore 6, 2) := by decide +kernel
theorem dX5_scan_113 : decode cX5_scan 113 = .ok (.iload 8, 2) := by decide +kernel
theorem dX5_scan_115 : decode cX5_scan 115 = .ok (.istore 7, 2) := by decide +kernel
theorem dX5_scan_117 : decode cX5_scan 117 = .ok (.iload 5, 2) := by decide +kernel
theorem dX5_scan_119 : decode cX5_scan 119 = .ok (.aload_n 0, 1) := by decide +kernel
theorem dX5_scan_120 : decode cX5_scan 120 = .ok (.getfield 7, 3) := by decide +kernel
theorem dX5_scan_123 : decode cX5_scan 123 = .ok (.bipush 95, 2) := by decide +kernel
theorem dX5_scan_125 : decode cX5_scan 125 = .ok (.iload 8, 2) := by decide +kernel
theorem dX5_scan_127 : decode cX5_scan 127 = .ok (.iadd, 1) := by decide +kernel
theorem dX5_scan_128 : decode cX5_scan 128 = .ok (.iaload, 1) := by decide +kernel
theorem dX5_scan_129 : decode cX5_scan 129 = .ok (.iadd, 1) := by decide +kernel
theorem dX5_scan_130 : decode cX5_scan 130 = .ok (.istore 5, 2) := by decide +kernel
theorem dX5_scan_132 : decode cX5_scan 132 = .ok (.iinc 4 1, 3) := by decide +kernel
theorem dX5_scan_135 : decode cX5_scan 135 = .ok (.iinc 8 1, 3) := by decide +kernel
theorem dX5_scan_138 : decode cX5_scan 138 = .ok (.goto (-82), 3) := by decide +kernel
theorem dX5_scan_141 : decode cX5_scan 141 = .ok (.iload_n 3, 1) := by decide +kernel
theorem dX5_scan_142 : decode cX5_scan 142 = .ok (.ifCond .ne 8, 3) := by decide +kernel
theorem dX5_scan_145 : decode cX5_scan 145 = .ok (.iload 4, 2) := by decide +kernel
theorem dX5_scan_147 : decode cX5_scan 147 = .ok (.goto 29, 3) := by decide +kernel
theorem dX5_scan_150 : decode cX5_scan 150 = .ok (.iload_n 3, 1) := by decide +kernel
theorem dX5_scan_151 : decode cX5_scan 151 = .ok (.iconst 1, 1) := by decide +kernel
theorem dX5_scan_152 : decode cX5_scan 152 = .ok (.if_icmp .ne 8, 3) := by decide +kernel
theorem dX5_scan_155 : decode cX5_scan 155 = .ok (.iload 5, 2) := by decide +kernel
theorem dX5_scan_157 : decode cX5_scan 157 = .ok (.goto 19, 3) := by decide +kernel
theorem dX5_scan_160 : decode cX5_scan 160 = .ok (.iload 4, 2) := by decide +kernel
theorem dX5_scan_162 : decode cX5_scan 162 = .ok (.ifCond .ne 7, 3) := by decide +kernel
theorem dX5_scan_165 : decode cX5_scan 165 = .ok (.iconst 0, 1) := by decide +kernel
theorem dX5_scan_166 : decode cX5_scan 166 = .ok (.goto 10, 3) := by decide +kernel
theorem dX5_scan_169 : decode cX5_scan 169 = .ok (.iload 7, 2) := by decide +kernel
theorem dX5_scan_171 : decode cX5_scan 171 = .ok (.iload 6, 2) := by decide +kernel
theorem dX5_scan_173 : decode cX5_scan 173 = .ok (.isub, 1) := by decide +kernel
theorem dX5_scan_174 : decode cX5_scan 174 = .ok (.iconst 1, 1) := by decide +kernel
theorem dX5_scan_175 : decode cX5_scan 175 = .ok (.iadd, 1) := by decide +kernel
theorem dX5_scan_176 : decode cX5_scan 176 = .ok (.ireturn, 1) := by decide +kernel
theorem dX5_leastOf_0 : decode cX5_leastOf 0 = .ok (.iconst (-1), 1) := by decide +kernel
theorem dX5_leastOf_1 : decode cX5_leastOf 1 = .ok (.istore_n 2, 1) := by decide +kernel
theorem dX5_leastOf_2 : decode cX5_leastOf 2 = .ok (.iconst 4, 1) := by decide +kernel
theorem dX5_leastOf_3 : decode cX5_leastOf 3 = .ok (.iload_n 1, 1) := by decide +kernel
theorem dX5_leastOf_4 : decode cX5_leastOf 4 = .ok (.imul, 1) := by decide +kernel
theorem dX5_leastOf_5 : decode cX5_leastOf 5 = .ok (.iconst 3, 1) := by decide +kernel
theorem dX5_leastOf_6 : decode cX5_leastOf 6 = .ok (.iadd, 1) := by decide +kernel
theorem dX5_leastOf_7 : decode cX5_leastOf 7 = .ok (.istore_n 3, 1) := by decide +kernel
theorem dX5_leastOf_8 : decode cX5_leastOf 8 = .ok (.iload_n 3, 1) := by decide +kernel
theorem dX5_leastOf_9 : decode cX5_leastOf 9 = .ok (.iconst 4, 1) := by decide +kernel
theorem dX5_leastOf_10 : decode cX5_leastOf 10 = .ok (.iload_n 1, 1) := by decide +kernel
theorem dX5_leastOf_11 : decode cX5_leastOf 11 = .ok (.imul, 1) := by decide +kernel
theorem dX5_leastOf_12 : decode cX5_leastOf 12 = .ok (.if_icmp .lt 36, 3) := by decide +kernel
theorem dX5_leastOf_15 : decode cX5_leastOf 15 = .ok (.aload_n 0, 1) := by decide +kernel
theorem dX5_leastOf_16 : decode cX5_leastOf 16 = .ok (.getfield 7, 3) := by decide +kernel
theorem dX5_leastOf_19 : decode cX5_leastOf 19 = .ok (.bipush 31, 2) := by decide +kernel
theorem dX5_leastOf_21 : decode cX5_leastOf 21 = .ok (.iload_n 3, 1) := by decide +kernel
theorem dX5_leastOf_22 : decode cX5_leastOf 22 = .ok (.iadd, 1) := by decide +kernel
theorem dX5_leastOf_23 : decode cX5_leastOf 23 = .ok (.iaload, 1) := by decide +kernel
theorem dX5_leastOf_24 : decode cX5_leastOf 24 = .ok (.iconst (-1), 1) := by decide +kernel
theorem dX5_leastOf_25 : decode cX5_leastOf 25 = .ok (.if_icmp .ne 7, 3) := by decide +kernel
theorem dX5_leastOf_28 : decode cX5_leastOf 28 = .ok (.iload_n 2, 1) := by decide +kernel
theorem dX5_leastOf_29 : decode cX5_leastOf 29 = .ok (.goto 12, 3) := by decide +kernel
theorem dX5_leastOf_32 : decode cX5_leastOf 32 = .ok (.aload_n 0, 1) := by decide +kernel
theorem dX5_leastOf_33 : decode cX5_leastOf 33 = .ok (.getfield 7, 3) := by decide +kernel
theorem dX5_leastOf_36 : decode cX5_leastOf 36 = .ok (.bipush 31, 2) := by decide +kernel
theorem dX5_leastOf_38 : decode cX5_leastOf 38 = .ok (.iload_n 3, 1) := by decide +kernel
theorem dX5_leastOf_39 : decode cX5_leastOf 39 = .ok (.iadd, 1) := by decide +kernel
theorem dX5_leastOf_40 : decode cX5_leastOf 40 = .ok (.iaload, 1) := by decide +kernel
theorem dX5_leastOf_41 : decode cX5_leastOf 41 = .ok (.istore_n 2, 1) := by decide +kernel
theorem dX5_leastOf_42 : decode cX5_leastOf 42 = .ok (.iinc 3 (-1), 3) := by decide +kernel
theorem dX5_leastOf_45 : decode cX5_leastOf 45 = .ok (.goto (-37), 3) := by decide +kernel
theorem dX5_leastOf_48 : decode cX5_leastOf 48 = .ok (.iload_n 2, 1) := by decide +kernel
theorem dX5_leastOf_49 : decode cX5_leastOf 49 = .ok (.ireturn, 1) := by decide +kernel
theorem dX5_index_0 : decode cX5_index 0 = .ok (.aload_n 0, 1) := by decide +kernel
theorem dX5_index_1 : decode cX5_index 1 = .ok (.iconst 0, 1) := by decide +kernel
theorem dX5_index_2 : decode cX5_index 2 = .ok (.putfield 37, 3) := by decide +kernel
theorem dX5_index_5 : decode cX5_index 5 = .ok (.iload_n 1, 1) := by decide +kernel
theorem dX5_index_6 : decode cX5_index 6 = .ok (.iconst 0, 1) := by decide +kernel
theorem dX5_index_7 : decode cX5_index 7 = .ok (.aload_n 0, 1) := by decide +kernel
theorem dX5_index_8 : decode cX5_index 8 = .ok (.getfield 7, 3) := by decide +kernel
theorem dX5_index_11 : decode cX5_index 11 = .ok (.iconst 0, 1) := by decide +kernel
theorem dX5_index_12 : decode cX5_index 12 = .ok (.iaload, 1) := by decide +kernel
theorem dX5_index_13 : decode cX5_index 13 = .ok (.iconst 4, 1) := by decide +kernel
theorem dX5_index_14 : decode cX5_index 14 = .ok (.idiv, 1) := by decide +kernel
theorem dX5_index_15 : decode cX5_index 15 = .ok (.iconst 1, 1) := by decide +kernel
theorem dX5_index_16 : decode cX5_index 16 = .ok (.isub, 1) := by decide +kernel
theorem dX5_index_17 : decode cX5_index 17 = .ok (.invokestatic 87, 3) := by decide +kernel
theorem dX5_index_20 : decode cX5_index 20 = .ok (.ifCond .eq 11, 3) := by decide +kernel
theorem dX5_index_23 : decode cX5_index 23 = .ok (.aload_n 0, 1) := by decide +kernel
theorem dX5_index_24 : decode cX5_index 24 = .ok (.iload_n 1, 1) := by decide +kernel
theorem dX5_index_25 : decode cX5_index 25 = .ok (.invokevirtual 131, 3) := by decide +kernel
theorem dX5_index_28 : decode cX5_index 28 = .ok (.goto 7, 3) := by decide +kernel
theorem dX5_index_31 : decode cX5_index 31 = .ok (.aload_n 0, 1) := by decide +kernel
theorem dX5_index_32 : decode cX5_index 32 = .ok (.invokevirtual 125, 3) := by decide +kernel
theorem dX5_index_35 : decode cX5_index 35 = .ok (.ireturn, 1) := by decide +kernel
theorem dX5_window_0 : decode cX5_window 0 = .ok (.aload_n 0, 1) := by decide +kernel
theorem dX5_window_1 : decode cX5_window 1 = .ok (.iconst 0, 1) := by decide +kernel
theorem dX5_window_2 : decode cX5_window 2 = .ok (.putfield 37, 3) := by decide +kernel
theorem dX5_window_5 : decode cX5_window 5 = .ok (.iload_n 1, 1) := by decide +kernel
theorem dX5_window_6 : decode cX5_window 6 = .ok (.iconst 0, 1) := by decide +kernel
theorem dX5_window_7 : decode cX5_window 7 = .ok (.aload_n 0, 1) := by decide +kernel
theorem dX5_window_8 : decode cX5_window 8 = .ok (.invokevirtual 49, 3) := by decide +kernel
theorem dX5_window_11 : decode cX5_window 11 = .ok (.invokestatic 87, 3) := by decide +kernel
theorem dX5_window_14 : decode cX5_window 14 = .ok (.ifCond .eq 33, 3) := by decide +kernel
theorem dX5_window_17 : decode cX5_window 17 = .ok (.iload_n 2, 1) := by decide +kernel
theorem dX5_window_18 : decode cX5_window 18 = .ok (.iconst 0, 1) := by decide +kernel
theorem dX5_window_19 : decode cX5_window 19 = .ok (.aload_n 0, 1) := by decide +kernel
theorem dX5_window_20 : decode cX5_window 20 = .ok (.getfield 7, 3) := by decide +kernel
theorem dX5_window_23 : decode cX5_window 23 = .ok (.iconst 0, 1) := by decide +kernel
theorem dX5_window_24 : decode cX5_window 24 = .ok (.iaload, 1) := by decide +kernel
theorem dX5_window_25 : decode cX5_window 25 = .ok (.iload_n 1, 1) := by decide +kernel
theorem dX5_window_26 : decode cX5_window 26 = .ok (.invokestatic 45, 3) := by decide +kernel
theorem dX5_window_29 : decode cX5_window 29 = .ok (.idiv, 1) := by decide +kernel
theorem dX5_window_30 : decode cX5_window 30 = .ok (.iconst 1, 1) := by decide +kernel
theorem dX5_window_31 : decode cX5_window 31 = .ok (.isub, 1) := by decide +kernel
theorem dX5_window_32 : decode cX5_window 32 = .ok (.invokestatic 87, 3) := by decide +kernel
theorem dX5_window_35 : decode cX5_window 35 = .ok (.ifCond .eq 12, 3) := by decide +kernel
theorem dX5_window_38 : decode cX5_window 38 = .ok (.iload_n 3, 1) := by decide +kernel
theorem dX5_window_39 : decode cX5_window 39 = .ok (.iconst 0, 1) := by decide +kernel
theorem dX5_window_40 : decode cX5_window 40 = .ok (.iconst 2, 1) := by decide +kernel
theorem dX5_window_41 : decode cX5_window 41 = .ok (.invokestatic 87, 3) := by decide +kernel
theorem dX5_window_44 : decode cX5_window 44 = .ok (.ifCond .ne 8, 3) := by decide +kernel
theorem dX5_window_47 : decode cX5_window 47 = .ok (.aload_n 0, 1) := by decide +kernel
theorem dX5_window_48 : decode cX5_window 48 = .ok (.invokevirtual 125, 3) := by decide +kernel
theorem dX5_window_51 : decode cX5_window 51 = .ok (.ireturn, 1) := by decide +kernel
theorem dX5_window_52 : decode cX5_window 52 = .ok (.iload_n 3, 1) := by decide +kernel
theorem dX5_window_53 : decode cX5_window 53 = .ok (.ifCond .ne 20, 3) := by decide +kernel
theorem dX5_window_56 : decode cX5_window 56 = .ok (.aload_n 0, 1) := by decide +kernel
theorem dX5_window_57 : decode cX5_window 57 = .ok (.iload_n 2, 1) := by decide +kernel
theorem dX5_window_58 : decode cX5_window 58 = .ok (.iload_n 1, 1) := by decide +kernel
theorem dX5_window_59 : decode cX5_window 59 = .ok (.invokestatic 45, 3) := by decide +kernel
theorem dX5_window_62 : decode cX5_window 62 = .ok (.imul, 1) := by decide +kernel
theorem dX5_window_63 : decode cX5_window 63 = .ok (.iload_n 1, 1) := by decide +kernel
theorem dX5_window_64 : decode cX5_window 64 = .ok (.invokestatic 45, 3) := by decide +kernel
theorem dX5_window_67 : decode cX5_window 67 = .ok (.invokevirtual 74, 3) := by decide +kernel
theorem dX5_window_70 : decode cX5_window 70 = .ok (.goto 21, 3) := by decide +kernel
theorem dX5_window_73 : decode cX5_window 73 = .ok (.iload_n 3, 1) := by decide +kernel
theorem dX5_window_74 : decode cX5_window 74 = .ok (.iconst 1, 1) := by decide +kernel
theorem dX5_window_75 : decode cX5_window 75 = .ok (.if_icmp .ne 11, 3) := by decide +kernel
theorem dX5_window_78 : decode cX5_window 78 = .ok (.aload_n 0, 1) := by decide +kernel
theorem dX5_window_79 : decode cX5_window 79 = .ok (.iload_n 1, 1) := by decide +kernel
theorem dX5_window_80 : decode cX5_window 80 = .ok (.invokevirtual 77, 3) := by decide +kernel
theorem dX5_window_83 : decode cX5_window 83 = .ok (.goto 8, 3) := by decide +kernel
theorem dX5_window_86 : decode cX5_window 86 = .ok (.aload_n 0, 1) := by decide +kernel
theorem dX5_window_87 : decode cX5_window 87 = .ok (.iload_n 1, 1) := by decide +kernel
theorem dX5_window_88 : decode cX5_window 88 = .ok (.invokevirtual 84, 3) := by decide +kernel
theorem dX5_window_91 : decode cX5_window 91 = .ok (.ireturn, 1) := by decide +kernel
theorem dX5_countOf_0 : decode cX5_countOf 0 = .ok (.iload_n 1, 1) := by decide +kernel
theorem dX5_countOf_1 : decode cX5_countOf 1 = .ok (.ifCond .ne 12, 3) := by decide +kernel
theorem dX5_countOf_4 : decode cX5_countOf 4 = .ok (.aload_n 0, 1) := by decide +kernel
theorem dX5_countOf_5 : decode cX5_countOf 5 = .ok (.getfield 7, 3) := by decide +kernel
theorem dX5_countOf_8 : decode cX5_countOf 8 = .ok (.iconst 0, 1) := by decide +kernel
theorem dX5_countOf_9 : decode cX5_countOf 9 = .ok (.iaload, 1) := by decide +kernel
theorem dX5_countOf_10 : decode cX5_countOf 10 = .ok (.goto 30, 3) := by decide +kernel
theorem dX5_countOf_13 : decode cX5_countOf 13 = .ok (.iload_n 1, 1) := by decide +kernel
theorem dX5_countOf_14 : decode cX5_countOf 14 = .ok (.iconst 1, 1) := by decide +kernel
theorem dX5_countOf_15 : decode cX5_countOf 15 = .ok (.if_icmp .ne 17, 3) := by decide +kernel
theorem dX5_countOf_18 : decode cX5_countOf 18 = .ok (.aload_n 0, 1) := by decide +kernel
theorem dX5_countOf_19 : decode cX5_countOf 19 = .ok (.iconst 0, 1) := by decide +kernel
theorem dX5_countOf_20 : decode cX5_countOf 20 = .ok (.aload_n 0, 1) := by decide +kernel
theorem dX5_countOf_21 : decode cX5_countOf 21 = .ok (.getfield 7, 3) := by decide +kernel
theorem dX5_countOf_24 : decode cX5_countOf 24 = .ok (.iconst 0, 1) := by decide +kernel
theorem dX5_countOf_25 : decode cX5_countOf 25 = .ok (.iaload, 1) := by decide +kernel
theorem dX5_countOf_26 : decode cX5_countOf 26 = .ok (.invokevirtual 74, 3) := by decide +kernel
theorem dX5_countOf_29 : decode cX5_countOf 29 = .ok (.goto 11, 3) := by decide +kernel
theorem dX5_countOf_32 : decode cX5_countOf 32 = .ok (.aload_n 0, 1) := by decide +kernel
theorem dX5_countOf_33 : decode cX5_countOf 33 = .ok (.getfield 7, 3) := by decide +kernel
theorem dX5_countOf_36 : decode cX5_countOf 36 = .ok (.iload_n 1, 1) := by decide +kernel
theorem dX5_countOf_37 : decode cX5_countOf 37 = .ok (.iconst 1, 1) := by decide +kernel
theorem dX5_countOf_38 : decode cX5_countOf 38 = .ok (.isub, 1) := by decide +kernel
theorem dX5_countOf_39 : decode cX5_countOf 39 = .ok (.iaload, 1) := by decide +kernel
theorem dX5_countOf_40 : decode cX5_countOf 40 = .ok (.ireturn, 1) := by decide +kernel
theorem dX5_count_0 : decode cX5_count 0 = .ok (.aload_n 0, 1) := by decide +kernel
theorem dX5_count_1 : decode cX5_count 1 = .ok (.iconst 0, 1) := by decide +kernel
theorem dX5_count_2 : decode cX5_count 2 = .ok (.putfield 37, 3) := by decide +kernel
theorem dX5_count_5 : decode cX5_count 5 = .ok (.iload_n 1, 1) := by decide +kernel
theorem dX5_count_6 : decode cX5_count 6 = .ok (.iconst 0, 1) := by decide +kernel
theorem dX5_count_7 : decode cX5_count 7 = .ok (.bipush 6, 2) := by decide +kernel
theorem dX5_count_9 : decode cX5_count 9 = .ok (.invokestatic 87, 3) := by decide +kernel
theorem dX5_count_12 : decode cX5_count 12 = .ok (.ifCond .eq 11, 3) := by decide +kernel
theorem dX5_count_15 : decode cX5_count 15 = .ok (.aload_n 0, 1) := by decide +kernel
theorem dX5_count_16 : decode cX5_count 16 = .ok (.iload_n 1, 1) := by decide +kernel
theorem dX5_count_17 : decode cX5_count 17 = .ok (.invokevirtual 134, 3) := by decide +kernel
theorem dX5_count_20 : decode cX5_count 20 = .ok (.goto 7, 3) := by decide +kernel
theorem dX5_count_23 : decode cX5_count 23 = .ok (.aload_n 0, 1) := by decide +kernel
theorem dX5_count_24 : decode cX5_count 24 = .ok (.invokevirtual 125, 3) := by decide +kernel
theorem dX5_count_27 : decode cX5_count 27 = .ok (.ireturn, 1) := by decide +kernel
theorem dX5_log_0 : decode cX5_log 0 = .ok (.aload_n 0, 1) := by decide +kernel
theorem dX5_log_1 : decode cX5_log 1 = .ok (.iconst 0, 1) := by decide +kernel
theorem dX5_log_2 : decode cX5_log 2 = .ok (.putfield 37, 3) := by decide +kernel
theorem dX5_log_5 : decode cX5_log 5 = .ok (.iload_n 1, 1) := by decide +kernel
theorem dX5_log_6 : decode cX5_log 6 = .ok (.ifCond .lt 12, 3) := by decide +kernel
theorem dX5_log_9 : decode cX5_log 9 = .ok (.iload_n 2, 1) := by decide +kernel
theorem dX5_log_10 : decode cX5_log 10 = .ok (.iconst 0, 1) := by decide +kernel
theorem dX5_log_11 : decode cX5_log 11 = .ok (.iconst 2, 1) := by decide +kernel
theorem dX5_log_12 : decode cX5_log 12 = .ok (.invokestatic 87, 3) := by decide +kernel
theorem dX5_log_15 : decode cX5_log 15 = .ok (.ifCond .ne 8, 3) := by decide +kernel
theorem dX5_log_18 : decode cX5_log 18 = .ok (.aload_n 0, 1) := by decide +kernel
theorem dX5_log_19 : decode cX5_log 19 = .ok (.invokevirtual 125, 3) := by decide +kernel
theorem dX5_log_22 : decode cX5_log 22 = .ok (.ireturn, 1) := by decide +kernel
theorem dX5_log_23 : decode cX5_log 23 = .ok (.iload_n 1, 1) := by decide +kernel
theorem dX5_log_24 : decode cX5_log 24 = .ok (.aload_n 0, 1) := by decide +kernel
theorem dX5_log_25 : decode cX5_log 25 = .ok (.getfield 7, 3) := by decide +kernel
theorem dX5_log_28 : decode cX5_log 28 = .ok (.bipush 6, 2) := by decide +kernel
theorem dX5_log_30 : decode cX5_log 30 = .ok (.iaload, 1) := by decide +kernel
theorem dX5_log_31 : decode cX5_log 31 = .ok (.if_icmp .ge 19, 3) := by decide +kernel
theorem dX5_log_34 : decode cX5_log 34 = .ok (.aload_n 0, 1) := by decide +kernel
theorem dX5_log_35 : decode cX5_log 35 = .ok (.getfield 7, 3) := by decide +kernel
theorem dX5_log_38 : decode cX5_log 38 = .ok (.bipush 7, 2) := by decide +kernel
theorem dX5_log_40 : decode cX5_log 40 = .ok (.iconst 3, 1) := by decide +kernel
theorem dX5_log_41 : decode cX5_log 41 = .ok (.iload_n 1, 1) := by decide +kernel
theorem dX5_log_42 : decode cX5_log 42 = .ok (.imul, 1) := by decide +kernel
theorem dX5_log_43 : decode cX5_log 43 = .ok (.iadd, 1) := by decide +kernel
theorem dX5_log_44 : decode cX5_log 44 = .ok (.iload_n 2, 1) := by decide +kernel
theorem dX5_log_45 : decode cX5_log 45 = .ok (.iadd, 1) := by decide +kernel
theorem dX5_log_46 : decode cX5_log 46 = .ok (.iaload, 1) := by decide +kernel
theorem dX5_log_47 : decode cX5_log 47 = .ok (.goto 4, 3) := by decide +kernel
theorem dX5_log_50 : decode cX5_log 50 = .ok (.iconst (-1), 1) := by decide +kernel
theorem dX5_log_51 : decode cX5_log 51 = .ok (.ireturn, 1) := by decide +kernel
theorem dX5_type_0 : decode cX5_type 0 = .ok (.aload_n 0, 1) := by decide +kernel
theorem dX5_type_1 : decode cX5_type 1 = .ok (.iconst 0, 1) := by decide +kernel
theorem dX5_type_2 : decode cX5_type 2 = .ok (.putfield 37, 3) := by decide +kernel
theorem dX5_type_5 : decode cX5_type 5 = .ok (.iload_n 1, 1) := by decide +kernel
theorem dX5_type_6 : decode cX5_type 6 = .ok (.iconst 0, 1) := by decide +kernel
theorem dX5_type_7 : decode cX5_type 7 = .ok (.bipush 127, 2) := by decide +kernel
theorem dX5_type_9 : decode cX5_type 9 = .ok (.invokestatic 87, 3) := by decide +kernel
theorem dX5_type_12 : decode cX5_type 12 = .ok (.ifCond .ne 8, 3) := by decide +kernel
theorem dX5_type_15 : decode cX5_type 15 = .ok (.aload_n 0, 1) := by decide +kernel
theorem dX5_type_16 : decode cX5_type 16 = .ok (.invokevirtual 125, 3) := by decide +kernel
theorem dX5_type_19 : decode cX5_type 19 = .ok (.ireturn, 1) := by decide +kernel
theorem dX5_type_20 : decode cX5_type 20 = .ok (.aload_n 0, 1) := by decide +kernel
theorem dX5_type_21 : decode cX5_type 21 = .ok (.getfield 137, 3) := by decide +kernel
