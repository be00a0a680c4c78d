theorem dX8_init_0 : decode cX8_init 0 = .ok (.aload_n 0, 1) := by decide +kernel
theorem dX8_init_1 : decode cX8_init 1 = .ok (.invokespecial 1, 3) := by decide +kernel
theorem dX8_init_4 : decode cX8_init 4 = .ok (.aload_n 0, 1) := by decide +kernel
theorem dX8_init_5 : decode cX8_init 5 = .ok (.bipush 12, 2) := by decide +kernel
theorem dX8_init_7 : decode cX8_init 7 = .ok (.newarray .boolean, 2) := by decide +kernel
theorem dX8_init_9 : decode cX8_init 9 = .ok (.putfield 7, 3) := by decide +kernel
theorem dX8_init_12 : decode cX8_init 12 = .ok (.aload_n 0, 1) := by decide +kernel
theorem dX8_init_13 : decode cX8_init 13 = .ok (.bipush 12, 2) := by decide +kernel
theorem dX8_init_15 : decode cX8_init 15 = .ok (.newarray .float, 2) := by decide +kernel
theorem dX8_init_17 : decode cX8_init 17 = .ok (.putfield 13, 3) := by decide +kernel
theorem dX8_init_20 : decode cX8_init 20 = .ok (.aload_n 0, 1) := by decide +kernel
theorem dX8_init_21 : decode cX8_init 21 = .ok (.bipush 12, 2) := by decide +kernel
theorem dX8_init_23 : decode cX8_init 23 = .ok (.newarray .float, 2) := by decide +kernel
theorem dX8_init_25 : decode cX8_init 25 = .ok (.putfield 17, 3) := by decide +kernel
theorem dX8_init_28 : decode cX8_init 28 = .ok (.aload_n 0, 1) := by decide +kernel
theorem dX8_init_29 : decode cX8_init 29 = .ok (.bipush 12, 2) := by decide +kernel
theorem dX8_init_31 : decode cX8_init 31 = .ok (.newarray .double, 2) := by decide +kernel
theorem dX8_init_33 : decode cX8_init 33 = .ok (.putfield 20, 3) := by decide +kernel
theorem dX8_init_36 : decode cX8_init 36 = .ok (.aload_n 0, 1) := by decide +kernel
theorem dX8_init_37 : decode cX8_init 37 = .ok (.bipush 12, 2) := by decide +kernel
theorem dX8_init_39 : decode cX8_init 39 = .ok (.newarray .double, 2) := by decide +kernel
theorem dX8_init_41 : decode cX8_init 41 = .ok (.putfield 24, 3) := by decide +kernel
theorem dX8_init_44 : decode cX8_init 44 = .ok (.aload_n 0, 1) := by decide +kernel
theorem dX8_init_45 : decode cX8_init 45 = .ok (.bipush 12, 2) := by decide +kernel
theorem dX8_init_47 : decode cX8_init 47 = .ok (.newarray .long, 2) := by decide +kernel
theorem dX8_init_49 : decode cX8_init 49 = .ok (.putfield 27, 3) := by decide +kernel
theorem dX8_init_52 : decode cX8_init 52 = .ok (.aload_n 0, 1) := by decide +kernel
theorem dX8_init_53 : decode cX8_init 53 = .ok (.bipush 20, 2) := by decide +kernel
theorem dX8_init_55 : decode cX8_init 55 = .ok (.newarray .int, 2) := by decide +kernel
theorem dX8_init_57 : decode cX8_init 57 = .ok (.putfield 31, 3) := by decide +kernel
theorem dX8_init_60 : decode cX8_init 60 = .ok (.aload_n 0, 1) := by decide +kernel
theorem dX8_init_61 : decode cX8_init 61 = .ok (.bipush 20, 2) := by decide +kernel
theorem dX8_init_63 : decode cX8_init 63 = .ok (.newarray .double, 2) := by decide +kernel
theorem dX8_init_65 : decode cX8_init 65 = .ok (.putfield 35, 3) := by decide +kernel
theorem dX8_init_68 : decode cX8_init 68 = .ok (.aload_n 0, 1) := by decide +kernel
theorem dX8_init_69 : decode cX8_init 69 = .ok (.bipush 20, 2) := by decide +kernel
theorem dX8_init_71 : decode cX8_init 71 = .ok (.newarray .int, 2) := by decide +kernel
theorem dX8_init_73 : decode cX8_init 73 = .ok (.putfield 38, 3) := by decide +kernel
theorem dX8_init_76 : decode cX8_init 76 = .ok (.aload_n 0, 1) := by decide +kernel
theorem dX8_init_77 : decode cX8_init 77 = .ok (.bipush 20, 2) := by decide +kernel
theorem dX8_init_79 : decode cX8_init 79 = .ok (.newarray .int, 2) := by decide +kernel
theorem dX8_init_81 : decode cX8_init 81 = .ok (.putfield 41, 3) := by decide +kernel
theorem dX8_init_84 : decode cX8_init 84 = .ok (.aload_n 0, 1) := by decide +kernel
theorem dX8_init_85 : decode cX8_init 85 = .ok (.bipush 6, 2) := by decide +kernel
theorem dX8_init_87 : decode cX8_init 87 = .ok (.newarray .int, 2) := by decide +kernel
theorem dX8_init_89 : decode cX8_init 89 = .ok (.dup, 1) := by decide +kernel
theorem dX8_init_90 : decode cX8_init 90 = .ok (.iconst 0, 1) := by decide +kernel
theorem dX8_init_91 : decode cX8_init 91 = .ok (.iconst (-1), 1) := by decide +kernel
theorem dX8_init_92 : decode cX8_init 92 = .ok (.iastore, 1) := by decide +kernel
theorem dX8_init_93 : decode cX8_init 93 = .ok (.dup, 1) := by decide +kernel
theorem dX8_init_94 : decode cX8_init 94 = .ok (.iconst 1, 1) := by decide +kernel
theorem dX8_init_95 : decode cX8_init 95 = .ok (.iconst (-1), 1) := by decide +kernel
theorem dX8_init_96 : decode cX8_init 96 = .ok (.iastore, 1) := by decide +kernel
theorem dX8_init_97 : decode cX8_init 97 = .ok (.dup, 1) := by decide +kernel
theorem dX8_init_98 : decode cX8_init 98 = .ok (.iconst 2, 1) := by decide +kernel
theorem dX8_init_99 : decode cX8_init 99 = .ok (.iconst (-1), 1) := by decide +kernel
theorem dX8_init_100 : decode cX8_init 100 = .ok (.iastore, 1) := by decide +kernel
theorem dX8_init_101 : decode cX8_init 101 = .ok (.dup, 1) := by decide +kernel
theorem dX8_init_102 : decode cX8_init 102 = .ok (.iconst 3, 1) := by decide +kernel
theorem dX8_init_103 : decode cX8_init 103 = .ok (.iconst (-1), 1) := by decide +kernel
theorem dX8_init_104 : decode cX8_init 104 = .ok (.iastore, 1) := by decide +kernel
theorem dX8_init_105 : decode cX8_init 105 = .ok (.dup, 1) := by decide +kernel
theorem dX8_init_106 : decode cX8_init 106 = .ok (.iconst 4, 1) := by decide +kernel
theorem dX8_init_107 : decode cX8_init 107 = .ok (.iconst (-1), 1) := by decide +kernel
theorem dX8_init_108 : decode cX8_init 108 = .ok (.iastore, 1) := by decide +kernel
theorem dX8_init_109 : decode cX8_init 109 = .ok (.dup, 1) := by decide +kernel
theorem dX8_init_110 : decode cX8_init 110 = .ok (.iconst 5, 1) := by decide +kernel
theorem dX8_init_111 : decode cX8_init 111 = .ok (.iconst (-1), 1) := by decide +kernel
theorem dX8_init_112 : decode cX8_init 112 = .ok (.iastore, 1) := by decide +kernel
theorem dX8_init_113 : decode cX8_init 113 = .ok (.putfield 44, 3) := by decide +kernel
theorem dX8_init_116 : decode cX8_init 116 = .ok (.aload_n 0, 1) := by decide +kernel
theorem dX8_init_117 : decode cX8_init 117 = .ok (.bipush 8, 2) := by decide +kernel
theorem dX8_init_119 : decode cX8_init 119 = .ok (.newarray .int, 2) := by decide +kernel
theorem dX8_init_121 : decode cX8_init 121 = .ok (.dup, 1) := by decide +kernel
theorem dX8_init_122 : decode cX8_init 122 = .ok (.iconst 0, 1) := by decide +kernel
theorem dX8_init_123 : decode cX8_init 123 = .ok (.iconst (-1), 1) := by decide +kernel
theorem dX8_init_124 : decode cX8_init 124 = .ok (.iastore, 1) := by decide +kernel
theorem dX8_init_125 : decode cX8_init 125 = .ok (.dup, 1) := by decide +kernel
theorem dX8_init_126 : decode cX8_init 126 = .ok (.iconst 1, 1) := by decide +kernel
theorem dX8_init_127 : decode cX8_init 127 = .ok (.iconst (-1), 1) := by decide +kernel
theorem dX8_init_128 : decode cX8_init 128 = .ok (.iastore, 1) := by decide +kernel
theorem dX8_init_129 : decode cX8_init 129 = .ok (.dup, 1) := by decide +kernel
theorem dX8_init_130 : decode cX8_init 130 = .ok (.iconst 2, 1) := by decide +kernel
theorem dX8_init_131 : decode cX8_init 131 = .ok (.iconst (-1), 1) := by decide +kernel
theorem dX8_init_132 : decode cX8_init 132 = .ok (.iastore, 1) := by decide +kernel
theorem dX8_init_133 : decode cX8_init 133 = .ok (.dup, 1) := by decide +kernel
theorem dX8_init_134 : decode cX8_init 134 = .ok (.iconst 3, 1) := by decide +kernel
theorem dX8_init_135 : decode cX8_init 135 = .ok (.iconst (-1), 1) := by decide +kernel
theorem dX8_init_136 : decode cX8_init 136 = .ok (.iastore, 1) := by decide +kernel
theorem dX8_init_137 : decode cX8_init 137 = .ok (.dup, 1) := by decide +kernel
theorem dX8_init_138 : decode cX8_init 138 = .ok (.iconst 4, 1) := by decide +kernel
theorem dX8_init_139 : decode cX8_init 139 = .ok (.iconst (-1), 1) := by decide +kernel
theorem dX8_init_140 : decode cX8_init 140 = .ok (.iastore, 1) := by decide +kernel
theorem dX8_init_141 : decode cX8_init 141 = .ok (.dup, 1) := by decide +kernel
theorem dX8_init_142 : decode cX8_init 142 = .ok (.iconst 5, 1) := by decide +kernel
theorem dX8_init_143 : decode cX8_init 143 = .ok (.iconst (-1), 1) := by decide +kernel
theorem dX8_init_144 : decode cX8_init 144 = .ok (.iastore, 1) := by decide +kernel
theorem dX8_init_145 : decode cX8_init 145 = .ok (.dup, 1) := by decide +kernel
theorem dX8_init_146 : decode cX8_init 146 = .ok (.bipush 6, 2) := by decide +kernel
theorem dX8_init_148 : decode cX8_init 148 = .ok (.iconst (-1), 1) := by decide +kernel
theorem dX8_init_149 : decode cX8_init 149 = .ok (.iastore, 1) := by decide +kernel
theorem dX8_init_150 : decode cX8_init 150 = .ok (.dup, 1) := by decide +kernel
theorem dX8_init_151 : decode cX8_init 151 = .ok (.bipush 7, 2) := by decide +kernel
theorem dX8_init_153 : decode cX8_init 153 = .ok (.iconst (-1), 1) := by decide +kernel
theorem dX8_init_154 : decode cX8_init 154 = .ok (.iastore, 1) := by decide +kernel
theorem dX8_init_155 : decode cX8_init 155 = .ok (.putfield 47, 3) := by decide +kernel
theorem dX8_init_158 : decode cX8_init 158 = .ok (.aload_n 0, 1) := by decide +kernel
theorem dX8_init_159 : decode cX8_init 159 = .ok (.bipush 16, 2) := by decide +kernel
theorem dX8_init_161 : decode cX8_init 161 = .ok (.newarray .int, 2) := by decide +kernel
theorem dX8_init_163 : decode cX8_init 163 = .ok (.dup, 1) := by decide +kernel
theorem dX8_init_164 : decode cX8_init 164 = .ok (.iconst 0, 1) := by decide +kernel
theorem dX8_init_165 : decode cX8_init 165 = .ok (.iconst (-1), 1) := by decide +kernel
theorem dX8_init_166 : decode cX8_init 166 = .ok (.iastore, 1) := by decide +kernel
theorem dX8_init_167 : decode cX8_init 167 = .ok (.dup, 1) := by decide +kernel
theorem dX8_init_168 : decode cX8_init 168 = .ok (.iconst 1, 1) := by decide +kernel
theorem dX8_init_169 : decode cX8_init 169 = .ok (.iconst (-1), 1) := by decide +kernel
theorem dX8_init_170 : decode cX8_init 170 = .ok (.iastore, 1) := by decide +kernel
theorem dX8_init_171 : decode cX8_init 171 = .ok (.dup, 1) := by decide +kernel
theorem dX8_init_172 : decode cX8_init 172 = .ok (.iconst 2, 1) := by decide +kernel
theorem dX8_init_173 : decode cX8_init 173 = .ok (.iconst (-1), 1) := by decide +kernel
theorem dX8_init_174 : decode cX8_init 174 = .ok (.iastore, 1) := by decide +kernel
theorem dX8_init_175 : decode cX8_init 175 = .ok (.dup, 1) := by decide +kernel
theorem dX8_init_176 : decode cX8_init 176 = .ok (.iconst 3, 1) := by decide +kernel
theorem dX8_init_177 : decode cX8_init 177 = .ok (.iconst (-1), 1) := by decide +kernel
theorem dX8_init_178 : decode cX8_init 178 = .ok (.iastore, 1) := by decide +kernel
theorem dX8_init_179 : decode cX8_init 179 = .ok (.dup, 1) := by decide +kernel
theorem dX8_init_180 : decode cX8_init 180 = .ok (.iconst 4, 1) := by decide +kernel
theorem dX8_init_181 : decode cX8_init 181 = .ok (.iconst (-1), 1) := by decide +kernel
theorem dX8_init_182 : decode cX8_init 182 = .ok (.iastore, 1) := by decide +kernel
theorem dX8_init_183 : decode cX8_init 183 = .ok (.dup, 1) := by decide +kernel
theorem dX8_init_184 : decode cX8_init 184 = .ok (.iconst 5, 1) := by decide +kernel
theorem dX8_init_185 : decode cX8_init 185 = .ok (.iconst (-1), 1) := by decide +kernel
theorem dX8_init_186 : decode cX8_init 186 = .ok (.iastore, 1) := by decide +kernel
theorem dX8_init_187 : decode cX8_init 187 = .ok (.dup, 1) := by decide +kernel
theorem dX8_init_188 : decode cX8_init 188 = .ok (.bipush 6, 2) := by decide +kernel
theorem dX8_init_190 : decode cX8_init 190 = .ok (.iconst (-1), 1) := by decide +kernel
theorem dX8_init_191 : decode cX8_init 191 = .ok (.iastore, 1) := by decide +kernel
theorem dX8_init_192 : decode cX8_init 192 = .ok (.dup, 1) := by decide +kernel
theorem dX8_init_193 : decode cX8_init 193 = .ok (.bipush 7, 2) := by decide +kernel
theorem dX8_init_195 : decode cX8_init 195 = .ok (.iconst (-1), 1) := by decide +kernel
theorem dX8_init_196 : decode cX8_init 196 = .ok (.iastore, 1) := by decide +kernel
theorem dX8_init_197 : decode cX8_init 197 = .ok (.dup, 1) := by decide +kernel
theorem dX8_init_198 : decode cX8_init 198 = .ok (.bipush 8, 2) := by decide +kernel
theorem dX8_init_200 : decode cX8_init 200 = .ok (.iconst (-1), 1) := by decide +kernel
theorem dX8_init_201 : decode cX8_init 201 = .ok (.iastore, 1) := by decide +kernel
theorem dX8_init_202 : decode cX8_init 202 = .ok (.dup, 1) := by decide +kernel
theorem dX8_init_203 : decode cX8_init 203 = .ok (.bipush 9, 2) := by decide +kernel
theorem dX8_init_205 : decode cX8_init 205 = .ok (.iconst (-1), 1) := by decide +kernel
theorem dX8_init_206 : decode cX8_init 206 = .ok (.iastore, 1) := by decide +kernel
theorem dX8_init_207 : decode cX8_init 207 = .ok (.dup, 1) := by decide +kernel
theorem dX8_init_208 : decode cX8_init 208 = .ok (.bipush 10, 2) := by decide +kernel
theorem dX8_init_210 : decode cX8_init 210 = .ok (.iconst (-1), 1) := by decide +kernel
theorem dX8_init_211 : decode cX8_init 211 = .ok (.iastore, 1) := by decide +kernel
theorem dX8_init_212 : decode cX8_init 212 = .ok (.dup, 1) := by decide +kernel
theorem dX8_init_213 : decode cX8_init 213 = .ok (.bipush 11, 2) := by decide +kernel
theorem dX8_init_215 : decode cX8_init 215 = .ok (.iconst (-1), 1) := by decide +kernel
theorem dX8_init_216 : decode cX8_init 216 = .ok (.iastore, 1) := by decide +kernel
theorem dX8_init_217 : decode cX8_init 217 = .ok (.dup, 1) := by decide +kernel
theorem dX8_init_218 : decode cX8_init 218 = .ok (.bipush 12, 2) := by decide +kernel
theorem dX8_init_220 : decode cX8_init 220 = .ok (.iconst (-1), 1) := by decide +kernel
theorem dX8_init_221 : decode cX8_init 221 = .ok (.iastore, 1) := by decide +kernel
theorem dX8_init_222 : decode cX8_init 222 = .ok (.dup, 1) := by decide +kernel
theorem dX8_init_223 : decode cX8_init 223 = .ok (.bipush 13, 2) := by decide +kernel
theorem dX8_init_225 : decode cX8_init 225 = .ok (.iconst (-1), 1) := by decide +kernel
theorem dX8_init_226 : decode cX8_init 226 = .ok (.iastore, 1) := by decide +kernel
theorem dX8_init_227 : decode cX8_init 227 = .ok (.dup, 1) := by decide +kernel
theorem dX8_init_228 : decode cX8_init 228 = .ok (.bipush 14, 2) := by decide +kernel
theorem dX8_init_230 : decode cX8_init 230 = .ok (.iconst (-1), 1) := by decide +kernel
theorem dX8_init_231 : decode cX8_init 231 = .ok (.iastore, 1) := by decide +kernel
theorem dX8_init_232 : decode cX8_init 232 = .ok (.dup, 1) := by decide +kernel
theorem dX8_init_233 : decode cX8_init 233 = .ok (.bipush 15, 2) := by decide +kernel
theorem dX8_init_235 : decode cX8_init 235 = .ok (.iconst (-1), 1) := by decide +kernel
theorem dX8_init_236 : decode cX8_init 236 = .ok (.iastore, 1) := by decide +kernel
theorem dX8_init_237 : decode cX8_init 237 = .ok (.putfield 50, 3) := by decide +kernel
theorem dX8_init_240 : decode cX8_init 240 = .ok (.aload_n 0, 1) := by decide +kernel
theorem dX8_init_241 : decode cX8_init 241 = .ok (.sipush 128, 3) := by decide +kernel
theorem dX8_init_244 : decode cX8_init 244 = .ok (.newarray .float, 2) := by decide +kernel
theorem dX8_init_246 : decode cX8_init 246 = .ok (.putfield 53, 3) := by decide +kernel
theorem dX8_init_249 : decode cX8_init 249 = .ok (.aload_n 0, 1) := by decide +kernel
theorem dX8_init_250 : decode cX8_init 250 = .ok (.sipush 128, 3) := by decide +kernel
theorem dX8_init_253 : decode cX8_init 253 = .ok (.newarray .double, 2) := by decide +kernel
theorem dX8_init_255 : decode cX8_init 255 = .ok (.putfield 56, 3) := by decide +kernel
theorem dX8_init_258 : decode cX8_init 258 = .ok (.aload_n 0, 1) := by decide +kernel
theorem dX8_init_259 : decode cX8_init 259 = .ok (.iconst 5, 1) := by decide +kernel
theorem dX8_init_260 : decode cX8_init 260 = .ok (.newarray .int, 2) := by decide +kernel
theorem dX8_init_262 : decode cX8_init 262 = .ok (.putfield 59, 3) := by decide +kernel
theorem dX8_init_265 : decode cX8_init 265 = .ok (.aload_n 0, 1) := by decide +kernel
theorem dX8_init_266 : decode cX8_init 266 = .ok (.iconst 0, 1) := by decide +kernel
theorem dX8_init_267 : decode cX8_init 267 = .ok (.putfield 62, 3) := by decide +kernel
theorem dX8_init_270 : decode cX8_init 270 = .ok (.return_, 1) := by decide +kernel
theorem dX8_in_0 : decode cX8_in 0 = .ok (.lload_n 0, 1) := by decide +kernel
theorem dX8_in_1 : decode cX8_in 1 = .ok (.lload_n 2, 1) := by decide +kernel
theorem dX8_in_2 : decode cX8_in 2 = .ok (.lcmp, 1) := by decide +kernel
theorem dX8_in_3 : decode cX8_in 3 = .ok (.ifCond .lt 14, 3) := by decide +kernel
theorem dX8_in_6 : decode cX8_in 6 = .ok (.lload_n 0, 1) := by decide +kernel
theorem dX8_in_7 : decode cX8_in 7 = .ok (.lload 4, 2) := by decide +kernel
theorem dX8_in_9 : decode cX8_in 9 = .ok (.lcmp, 1) := by decide +kernel
theorem dX8_in_10 : decode cX8_in 10 = .ok (.ifCond .gt 7, 3) := by decide +kernel
theorem dX8_in_13 : decode cX8_in 13 = .ok (.iconst 1, 1) := by decide +kernel
theorem dX8_in_14 : decode cX8_in 14 = .ok (.goto 4, 3) := by decide +kernel
theorem dX8_in_17 : decode cX8_in 17 = .ok (.iconst 0, 1) := by decide +kernel
theorem dX8_in_18 : decode cX8_in 18 = .ok (.ireturn, 1) := by decide +kernel
theorem dX8_done_0 : decode cX8_done 0 = .ok (.aload_n 0, 1) := by decide +kernel
theorem dX8_done_1 : decode cX8_done 1 = .ok (.iconst 0, 1) := by decide +kernel
theorem dX8_done_2 : decode cX8_done 2 = .ok (.putfield 66, 3) := by decide +kernel
theorem dX8_done_5 : decode cX8_done 5 = .ok (.iload_n 1, 1) := by decide +kernel
theorem dX8_done_6 : decode cX8_done 6 = .ok (.ireturn, 1) := by decide +kernel
theorem dX8_fails_0 : decode cX8_fails 0 = .ok (.aload_n 0, 1) := by decide +kernel
theorem dX8_fails_1 : decode cX8_fails 1 = .ok (.iload_n 1, 1) := by decide +kernel
theorem dX8_fails_2 : decode cX8_fails 2 = .ok (.putfield 66, 3) := by decide +kernel
theorem dX8_fails_5 : decode cX8_fails 5 = .ok (.aload_n 0, 1) := by decide +kernel
theorem dX8_fails_6 : decode cX8_fails 6 = .ok (.getfield 59, 3) := by decide +kernel
theorem dX8_fails_9 : decode cX8_fails 9 = .ok (.bipush (-11), 2) := by decide +kernel
theorem dX8_fails_11 : decode cX8_fails 11 = .ok (.iload_n 1, 1) := by decide +kernel
theorem dX8_fails_12 : decode cX8_fails 12 = .ok (.isub, 1) := by decide +kernel
theorem dX8_fails_13 : decode cX8_fails 13 = .ok (.dup2, 1) := by decide +kernel
theorem dX8_fails_14 : decode cX8_fails 14 = .ok (.iaload, 1) := by decide +kernel
theorem dX8_fails_15 : decode cX8_fails 15 = .ok (.iconst 1, 1) := by decide +kernel
theorem dX8_fails_16 : decode cX8_fails 16 = .ok (.iadd, 1) := by decide +kernel
theorem dX8_fails_17 : decode cX8_fails 17 = .ok (.iastore, 1) := by decide +kernel
theorem dX8_fails_18 : decode cX8_fails 18 = .ok (.iload_n 1, 1) := by decide +kernel
theorem dX8_fails_19 : decode cX8_fails 19 = .ok (.ireturn, 1) := by decide +kernel
theorem dX8_isFitFloat_0 : decode cX8_isFitFloat 0 = .ok (.lload_n 0, 1) := by decide +kernel
theorem dX8_isFitFloat_1 : decode cX8_isFitFloat 1 = .ok (.l2i, 1) := by decide +kernel
theorem dX8_isFitFloat_2 : decode cX8_isFitFloat 2 = .ok (.ldc 69, 2) := by decide +kernel
theorem dX8_isFitFloat_4 : decode cX8_isFitFloat 4 = .ok (.iand, 1) := by decide +kernel
theorem dX8_isFitFloat_5 : decode cX8_isFitFloat 5 = .ok (.ldc 69, 2) := by decide +kernel
theorem dX8_isFitFloat_7 : decode cX8_isFitFloat 7 = .ok (.if_icmp .eq 7, 3) := by decide +kernel
theorem dX8_isFitFloat_10 : decode cX8_isFitFloat 10 = .ok (.iconst 1, 1) := by decide +kernel
theorem dX8_isFitFloat_11 : decode cX8_isFitFloat 11 = .ok (.goto 4, 3) := by decide +kernel
theorem dX8_isFitFloat_14 : decode cX8_isFitFloat 14 = .ok (.iconst 0, 1) := by decide +kernel
theorem dX8_isFitFloat_15 : decode cX8_isFitFloat 15 = .ok (.ireturn, 1) := by decide +kernel
theorem dX8_isFitDouble_0 : decode cX8_isFitDouble 0 = .ok (.lload_n 0, 1) := by decide +kernel
theorem dX8_isFitDouble_1 : decode cX8_isFitDouble 1 = .ok (.ldc2_w 70, 3) := by decide +kernel
theorem dX8_isFitDouble_4 : decode cX8_isFitDouble 4 = .ok (.land, 1) := by decide +kernel
theorem dX8_isFitDouble_5 : decode cX8_isFitDouble 5 = .ok (.ldc2_w 70, 3) := by decide +kernel
theorem dX8_isFitDouble_8 : decode cX8_isFitDouble 8 = .ok (.lcmp, 1) := by decide +kernel
theorem dX8_isFitDouble_9 : decode cX8_isFitDouble 9 = .ok (.ifCond .eq 7, 3) := by decide +kernel
theorem dX8_isFitDouble_12 : decode cX8_isFitDouble 12 = .ok (.iconst 1, 1) := by decide +kernel
theorem dX8_isFitDouble_13 : decode cX8_isFitDouble 13 = .ok (.goto 4, 3) := by decide +kernel
theorem dX8_isFitDouble_16 : decode cX8_isFitDouble 16 = .ok (.iconst 0, 1) := by decide +kernel
theorem dX8_isFitDouble_17 : decode cX8_isFitDouble 17 = .ok (.ireturn, 1) := by decide +kernel
set_option maxRecDepth 20000 in
theorem ggX8_isFit_X8_isFitDouble : GoodIn wsX8_isFit wsX8_isFitDouble := goodIn_r _ [4, 5] (by decide +kernel) (by decide +kernel)
set_option maxRecDepth 20000 in
theorem gX8_isFit_X8_isFitDouble : GoodIn wsX8_isFit (va_wsS RX8 72 yX8_isFitDouble wsX8_isFitDouble) := goodIn_app (goodIn_of _ (by decide +kernel)) ggX8_isFit_X8_isFitDouble
set_option maxRecDepth 20000 in
theorem ggX8_isFit_X8_isFitFloat : GoodIn wsX8_isFit wsX8_isFitFloat := goodIn_r _ [8, 9] (by decide +kernel) (by decide +kernel)
set_option maxRecDepth 20000 in
theorem gX8_isFit_X8_isFitFloat : GoodIn wsX8_isFit (va_wsS RX8 76 yX8_isFitFloat wsX8_isFitFloat) := goodIn_app (goodIn_of _ (by decide +kernel)) ggX8_isFit_X8_isFitFloat
theorem dX8_isFit_0 : decode cX8_isFit 0 = .ok (.iload_n 0, 1) := by decide +kernel
theorem dX8_isFit_1 : decode cX8_isFit 1 = .ok (.ifCond .eq 10, 3) := by decide +kernel
theorem dX8_isFit_4 : decode cX8_isFit 4 = .ok (.lload_n 1, 1) := by decide +kernel
theorem dX8_isFit_5 : decode cX8_isFit 5 = .ok (.invokestatic 72, 3) := by decide +kernel
theorem dX8_isFit_8 : decode cX8_isFit 8 = .ok (.goto 7, 3) := by decide +kernel
theorem dX8_isFit_11 : decode cX8_isFit 11 = .ok (.lload_n 1, 1) := by decide +kernel
theorem dX8_isFit_12 : decode cX8_isFit 12 = .ok (.invokestatic 76, 3) := by decide +kernel
theorem dX8_isFit_15 : decode cX8_isFit 15 = .ok (.ireturn, 1) := by decide +kernel
theorem dX8_isNone_0 : decode cX8_isNone 0 = .ok (.iload_n 0, 1) := by decide +kernel
theorem dX8_isNone_1 : decode cX8_isNone 1 = .ok (.iconst 2, 1) := by decide +kernel
theorem dX8_isNone_2 : decode cX8_isNone 2 = .ok (.if_icmp .ne 21, 3) := by decide +kernel
theorem dX8_isNone_5 : decode cX8_isNone 5 = .ok (.lload_n 1, 1) := by decide +kernel
theorem dX8_isNone_6 : decode cX8_isNone 6 = .ok (.l2i, 1) := by decide +kernel
theorem dX8_isNone_7 : decode cX8_isNone 7 = .ok (.ldc 79, 2) := by decide +kernel
theorem dX8_isNone_9 : decode cX8_isNone 9 = .ok (.iand, 1) := by decide +kernel
theorem dX8_isNone_10 : decode cX8_isNone 10 = .ok (.ldc 69, 2) := by decide +kernel
theorem dX8_isNone_12 : decode cX8_isNone 12 = .ok (.if_icmp .le 7, 3) := by decide +kernel
theorem dX8_isNone_15 : decode cX8_isNone 15 = .ok (.iconst 1, 1) := by decide +kernel
theorem dX8_isNone_16 : decode cX8_isNone 16 = .ok (.goto 29, 3) := by decide +kernel
theorem dX8_isNone_19 : decode cX8_isNone 19 = .ok (.iconst 0, 1) := by decide +kernel
theorem dX8_isNone_20 : decode cX8_isNone 20 = .ok (.goto 25, 3) := by decide +kernel
theorem dX8_isNone_23 : decode cX8_isNone 23 = .ok (.iload_n 0, 1) := by decide +kernel
theorem dX8_isNone_24 : decode cX8_isNone 24 = .ok (.iconst 3, 1) := by decide +kernel
theorem dX8_isNone_25 : decode cX8_isNone 25 = .ok (.if_icmp .ne 19, 3) := by decide +kernel
theorem dX8_isNone_28 : decode cX8_isNone 28 = .ok (.lload_n 1, 1) := by decide +kernel
theorem dX8_isNone_29 : decode cX8_isNone 29 = .ok (.ldc2_w 80, 3) := by decide +kernel
theorem dX8_isNone_32 : decode cX8_isNone 32 = .ok (.land, 1) := by decide +kernel
theorem dX8_isNone_33 : decode cX8_isNone 33 = .ok (.ldc2_w 70, 3) := by decide +kernel
theorem dX8_isNone_36 : decode cX8_isNone 36 = .ok (.lcmp, 1) := by decide +kernel
theorem dX8_isNone_37 : decode cX8_isNone 37 = .ok (.ifCond .le 7, 3) := by decide +kernel
theorem dX8_isNone_40 : decode cX8_isNone 40 = .ok (.iconst 1, 1) := by decide +kernel
theorem dX8_isNone_41 : decode cX8_isNone 41 = .ok (.goto 4, 3) := by decide +kernel
theorem dX8_isNone_44 : decode cX8_isNone 44 = .ok (.iconst 0, 1) := by decide +kernel
theorem dX8_isNone_45 : decode cX8_isNone 45 = .ok (.ireturn, 1) := by decide +kernel
theorem dX8_isEndless_0 : decode cX8_isEndless 0 = .ok (.dload_n 0, 1) := by decide +kernel
theorem dX8_isEndless_1 : decode cX8_isEndless 1 = .ok (.ldc2_w 82, 3) := by decide +kernel
theorem dX8_isEndless_4 : decode cX8_isEndless 4 = .ok (.dcmp .l, 1) := by decide +kernel
theorem dX8_isEndless_5 : decode cX8_isEndless 5 = .ok (.ifCond .gt 11, 3) := by decide +kernel
theorem dX8_isEndless_8 : decode cX8_isEndless 8 = .ok (.dload_n 0, 1) := by decide +kernel
theorem dX8_isEndless_9 : decode cX8_isEndless 9 = .ok (.ldc2_w 84, 3) := by decide +kernel
theorem dX8_isEndless_12 : decode cX8_isEndless 12 = .ok (.dcmp .g, 1) := by decide +kernel
theorem dX8_isEndless_13 : decode cX8_isEndless 13 = .ok (.ifCond .ge 7, 3) := by decide +kernel
theorem dX8_isEndless_16 : decode cX8_isEndless 16 = .ok (.iconst 1, 1) := by decide +kernel
theorem dX8_isEndless_17 : decode cX8_isEndless 17 = .ok (.goto 4, 3) := by decide +kernel
theorem dX8_isEndless_20 : decode cX8_isEndless 20 = .ok (.iconst 0, 1) := by decide +kernel
theorem dX8_isEndless_21 : decode cX8_isEndless 21 = .ok (.ireturn, 1) := by decide +kernel
theorem dX8_isEndlessFloat_0 : decode cX8_isEndlessFloat 0 = .ok (.fload_n 0, 1) := by decide +kernel
theorem dX8_isEndlessFloat_1 : decode cX8_isEndlessFloat 1 = .ok (.ldc 86, 2) := by decide +kernel
theorem dX8_isEndlessFloat_3 : decode cX8_isEndlessFloat 3 = .ok (.fcmp .l, 1) := by decide +kernel
theorem dX8_isEndlessFloat_4 : decode cX8_isEndlessFloat 4 = .ok (.ifCond .gt 10, 3) := by decide +kernel
theorem dX8_isEndlessFloat_7 : decode cX8_isEndlessFloat 7 = .ok (.fload_n 0, 1) := by decide +kernel
theorem dX8_isEndlessFloat_8 : decode cX8_isEndlessFloat 8 = .ok (.ldc 87, 2) := by decide +kernel
theorem dX8_isEndlessFloat_10 : decode cX8_isEndlessFloat 10 = .ok (.fcmp .g, 1) := by decide +kernel
theorem dX8_isEndlessFloat_11 : decode cX8_isEndlessFloat 11 = .ok (.ifCond .ge 7, 3) := by decide +kernel
theorem dX8_isEndlessFloat_14 : decode cX8_isEndlessFloat 14 = .ok (.iconst 1, 1) := by decide +kernel
theorem dX8_isEndlessFloat_15 : decode cX8_isEndlessFloat 15 = .ok (.goto 4, 3) := by decide +kernel
theorem dX8_isEndlessFloat_18 : decode cX8_isEndlessFloat 18 = .ok (.iconst 0, 1) := by decide +kernel
theorem dX8_isEndlessFloat_19 : decode cX8_isEndlessFloat 19 = .ok (.ireturn, 1) := by decide +kernel
theorem dX8_floatOf_0 : decode cX8_floatOf 0 = .ok (.lload_n 0, 1) := by decide +kernel
theorem dX8_floatOf_1 : decode cX8_floatOf 1 = .ok (.l2i, 1) := by decide +kernel
theorem dX8_floatOf_2 : decode cX8_floatOf 2 = .ok (.invokestatic 88, 3) := by decide +kernel
theorem dX8_floatOf_5 : decode cX8_floatOf 5 = .ok (.freturn, 1) := by decide +kernel
theorem dX8_doubleOf_0 : decode cX8_doubleOf 0 = .ok (.lload_n 0, 1) := by decide +kernel
theorem dX8_doubleOf_1 : decode cX8_doubleOf 1 = .ok (.invokestatic 94, 3) := by decide +kernel
theorem dX8_doubleOf_4 : decode cX8_doubleOf 4 = .ok (.dreturn, 1) := by decide +kernel
set_option maxRecDepth 20000 in
theorem ggX8_isDial_X8_in : GoodIn wsX8_isDial wsX8_in := goodIn_r _ [5] (by decide +kernel) (by decide +kernel)
set_option maxRecDepth 20000 in
theorem gX8_isDial_X8_in : GoodIn wsX8_isDial (va_wsS RX8 100 yX8_in wsX8_in) := goodIn_app (goodIn_of _ (by decide +kernel)) ggX8_isDial_X8_in
theorem dX8_isDial_0 : decode cX8_isDial 0 = .ok (.iload_n 1, 1) := by decide +kernel
theorem dX8_isDial_1 : decode cX8_isDial 1 = .ok (.i2l, 1) := by decide +kernel
theorem dX8_isDial_2 : decode cX8_isDial 2 = .ok (.lconst 0, 1) := by decide +kernel
theorem dX8_isDial_3 : decode cX8_isDial 3 = .ok (.aload_n 0, 1) := by decide +kernel
theorem dX8_isDial_4 : decode cX8_isDial 4 = .ok (.getfield 62, 3) := by decide +kernel
theorem dX8_isDial_7 : decode cX8_isDial 7 = .ok (.i2l, 1) := by decide +kernel
theorem dX8_isDial_8 : decode cX8_isDial 8 = .ok (.lconst 1, 1) := by decide +kernel
theorem dX8_isDial_9 : decode cX8_isDial 9 = .ok (.lsub, 1) := by decide +kernel
theorem dX8_isDial_10 : decode cX8_isDial 10 = .ok (.invokestatic 100, 3) := by decide +kernel
theorem dX8_isDial_13 : decode cX8_isDial 13 = .ok (.ireturn, 1) := by decide +kernel
set_option maxRecDepth 20000 in
theorem ggX8_dial_X8_isFit : GoodIn wsX8_dial wsX8_isFit := goodIn_r _ [11, 12, 13, 10, 14, 15, 16, 17, 18, 19] (by decide +kernel) (by decide +kernel)
set_option maxRecDepth 20000 in
theorem gX8_dial_X8_isFit : GoodIn wsX8_dial (va_wsS RX8 104 yX8_isFit wsX8_isFit) := goodIn_app (goodIn_of _ (by decide +kernel)) ggX8_dial_X8_isFit
set_option maxRecDepth 20000 in
theorem ggX8_dial_X8_doubleOf : GoodIn wsX8_dial wsX8_doubleOf := goodIn_r _ [22, 23, 24, 25, 26] (by decide +kernel) (by decide +kernel)
set_option maxRecDepth 20000 in
theorem gX8_dial_X8_doubleOf : GoodIn wsX8_dial (va_wsS RX8 108 yX8_doubleOf wsX8_doubleOf) := goodIn_app (goodIn_of _ (by decide +kernel)) ggX8_dial_X8_doubleOf
set_option maxRecDepth 20000 in
theorem ggX8_dial_X8_floatOf : GoodIn wsX8_dial wsX8_floatOf := goodIn_r _ [29, 30, 31, 32, 33] (by decide +kernel) (by decide +kernel)
set_option maxRecDepth 20000 in
theorem gX8_dial_X8_floatOf : GoodIn wsX8_dial (va_wsS RX8 111 yX8_floatOf wsX8_floatOf) := goodIn_app (goodIn_of _ (by decide +kernel)) ggX8_dial_X8_floatOf
theorem dX8_dial_0 : decode cX8_dial 0 = .ok (.iload_n 1, 1) := by decide +kernel
theorem dX8_dial_1 : decode cX8_dial 1 = .ok (.lload_n 2, 1) := by decide +kernel
theorem dX8_dial_2 : decode cX8_dial 2 = .ok (.invokestatic 104, 3) := by decide +kernel
theorem dX8_dial_5 : decode cX8_dial 5 = .ok (.ifCond .eq 28, 3) := by decide +kernel
theorem dX8_dial_8 : decode cX8_dial 8 = .ok (.iload_n 1, 1) := by decide +kernel
theorem dX8_dial_9 : decode cX8_dial 9 = .ok (.ifCond .eq 15, 3) := by decide +kernel
theorem dX8_dial_12 : decode cX8_dial 12 = .ok (.lload_n 2, 1) := by decide +kernel
theorem dX8_dial_13 : decode cX8_dial 13 = .ok (.invokestatic 108, 3) := by decide +kernel
theorem dX8_dial_16 : decode cX8_dial 16 = .ok (.dconst 0, 1) := by decide +kernel
theorem dX8_dial_17 : decode cX8_dial 17 = .ok (.dcmp .l, 1) := by decide +kernel
theorem dX8_dial_18 : decode cX8_dial 18 = .ok (.ifCond .ne 18, 3) := by decide +kernel
theorem dX8_dial_21 : decode cX8_dial 21 = .ok (.goto 12, 3) := by decide +kernel
theorem dX8_dial_24 : decode cX8_dial 24 = .ok (.lload_n 2, 1) := by decide +kernel
theorem dX8_dial_25 : decode cX8_dial 25 = .ok (.invokestatic 111, 3) := by decide +kernel
theorem dX8_dial_28 : decode cX8_dial 28 = .ok (.fconst 0, 1) := by decide +kernel
theorem dX8_dial_29 : decode cX8_dial 29 = .ok (.fcmp .l, 1) := by decide +kernel
theorem dX8_dial_30 : decode cX8_dial 30 = .ok (.ifCond .ne 6, 3) := by decide +kernel
theorem dX8_dial_33 : decode cX8_dial 33 = .ok (.bipush (-102), 2) := by decide +kernel
theorem dX8_dial_35 : decode cX8_dial 35 = .ok (.ireturn, 1) := by decide +kernel
theorem dX8_dial_36 : decode cX8_dial 36 = .ok (.aload_n 0, 1) := by decide +kernel
theorem dX8_dial_37 : decode cX8_dial 37 = .ok (.getfield 62, 3) := by decide +kernel
theorem dX8_dial_40 : decode cX8_dial 40 = .ok (.bipush 12, 2) := by decide +kernel
theorem dX8_dial_42 : decode cX8_dial 42 = .ok (.if_icmp .ne 6, 3) := by decide +kernel
theorem dX8_dial_45 : decode cX8_dial 45 = .ok (.bipush (-103), 2) := by decide +kernel
theorem dX8_dial_47 : decode cX8_dial 47 = .ok (.ireturn, 1) := by decide +kernel
theorem dX8_dial_48 : decode cX8_dial 48 = .ok (.aload_n 0, 1) := by decide +kernel
theorem dX8_dial_49 : decode cX8_dial 49 = .ok (.getfield 7, 3) := by decide +kernel
theorem dX8_dial_52 : decode cX8_dial 52 = .ok (.aload_n 0, 1) := by decide +kernel
theorem dX8_dial_53 : decode cX8_dial 53 = .ok (.getfield 62, 3) := by decide +kernel
theorem dX8_dial_56 : decode cX8_dial 56 = .ok (.iload_n 1, 1) := by decide +kernel
theorem dX8_dial_57 : decode cX8_dial 57 = .ok (.bastore, 1) := by decide +kernel
theorem dX8_dial_58 : decode cX8_dial 58 = .ok (.aload_n 0, 1) := by decide +kernel
theorem dX8_dial_59 : decode cX8_dial 59 = .ok (.getfield 13, 3) := by decide +kernel
theorem dX8_dial_62 : decode cX8_dial 62 = .ok (.aload_n 0, 1) := by decide +kernel
theorem dX8_dial_63 : decode cX8_dial 63 = .ok (.getfield 62, 3) := by decide +kernel
theorem dX8_dial_66 : decode cX8_dial 66 = .ok (.iload_n 1, 1) := by decide +kernel
theorem dX8_dial_67 : decode cX8_dial 67 = .ok (.ifCond .eq 7, 3) := by decide +kernel
theorem dX8_dial_70 : decode cX8_dial 70 = .ok (.fconst 1, 1) := by decide +kernel
theorem dX8_dial_71 : decode cX8_dial 71 = .ok (.goto 7, 3) := by decide +kernel
theorem dX8_dial_74 : decode cX8_dial 74 = .ok (.lload_n 2, 1) := by decide +kernel
theorem dX8_dial_75 : decode cX8_dial 75 = .ok (.invokestatic 111, 3) := by decide +kernel
theorem dX8_dial_78 : decode cX8_dial 78 = .ok (.fastore, 1) := by decide +kernel
theorem dX8_dial_79 : decode cX8_dial 79 = .ok (.aload_n 0, 1) := by decide +kernel
theorem dX8_dial_80 : decode cX8_dial 80 = .ok (.getfield 20, 3) := by decide +kernel
theorem dX8_dial_83 : decode cX8_dial 83 = .ok (.aload_n 0, 1) := by decide +kernel
theorem dX8_dial_84 : decode cX8_dial 84 = .ok (.getfield 62, 3) := by decide +kernel
theorem dX8_dial_87 : decode cX8_dial 87 = .ok (.iload_n 1, 1) := by decide +kernel
theorem dX8_dial_88 : decode cX8_dial 88 = .ok (.ifCond .eq 10, 3) := by decide +kernel
theorem dX8_dial_91 : decode cX8_dial 91 = .ok (.lload_n 2, 1) := by decide +kernel
theorem dX8_dial_92 : decode cX8_dial 92 = .ok (.invokestatic 108, 3) := by decide +kernel
theorem dX8_dial_95 : decode cX8_dial 95 = .ok (.goto 4, 3) := by decide +kernel
theorem dX8_dial_98 : decode cX8_dial 98 = .ok (.dconst 1, 1) := by decide +kernel
theorem dX8_dial_99 : decode cX8_dial 99 = .ok (.dastore, 1) := by decide +kernel
theorem dX8_dial_100 : decode cX8_dial 100 = .ok (.aload_n 0, 1) := by decide +kernel
theorem dX8_dial_101 : decode cX8_dial 101 = .ok (.getfield 17, 3) := by decide +kernel
theorem dX8_dial_104 : decode cX8_dial 104 = .ok (.aload_n 0, 1) := by decide +kernel
theorem dX8_dial_105 : decode cX8_dial 105 = .ok (.getfield 62, 3) := by decide +kernel
theorem dX8_dial_108 : decode cX8_dial 108 = .ok (.fconst 0, 1) := by decide +kernel
theorem dX8_dial_109 : decode cX8_dial 109 = .ok (.fastore, 1) := by decide +kernel
theorem dX8_dial_110 : decode cX8_dial 110 = .ok (.aload_n 0, 1) := by decide +kernel
theorem dX8_dial_111 : decode cX8_dial 111 = .ok (.getfield 24, 3) := by decide +kernel
theorem dX8_dial_114 : decode cX8_dial 114 = .ok (.aload_n 0, 1) := by decide +kernel
theorem dX8_dial_115 : decode cX8_dial 115 = .ok (.getfield 62, 3) := by decide +kernel
theorem dX8_dial_118 : decode cX8_dial 118 = .ok (.dconst 0, 1) := by decide +kernel
theorem dX8_dial_119 : decode cX8_dial 119 = .ok (.dastore, 1) := by decide +kernel
theorem dX8_dial_120 : decode cX8_dial 120 = .ok (.aload_n 0, 1) := by decide +kernel
theorem dX8_dial_121 : decode cX8_dial 121 = .ok (.getfield 27, 3) := by decide +kernel
theorem dX8_dial_124 : decode cX8_dial 124 = .ok (.aload_n 0, 1) := by decide +kernel
theorem dX8_dial_125 : decode cX8_dial 125 = .ok (.getfield 62, 3) := by decide +kernel
theorem dX8_dial_128 : decode cX8_dial 128 = .ok (.lconst 0, 1) := by decide +kernel
theorem dX8_dial_129 : decode cX8_dial 129 = .ok (.lastore, 1) := by decide +kernel
theorem dX8_dial_130 : decode cX8_dial 130 = .ok (.aload_n 0, 1) := by decide +kernel
theorem dX8_dial_131 : decode cX8_dial 131 = .ok (.dup, 1) := by decide +kernel
theorem dX8_dial_132 : decode cX8_dial 132 = .ok (.getfield 62, 3) := by decide +kernel
theorem dX8_dial_135 : decode cX8_dial 135 = .ok (.iconst 1, 1) := by decide +kernel
theorem dX8_dial_136 : decode cX8_dial 136 = .ok (.iadd, 1) := by decide +kernel
theorem dX8_dial_137 : decode cX8_dial 137 = .ok (.putfield 62, 3) := by decide +kernel
theorem dX8_dial_140 : decode cX8_dial 140 = .ok (.aload_n 0, 1) := by decide +kernel
theorem dX8_dial_141 : decode cX8_dial 141 = .ok (.getfield 62, 3) := by decide +kernel
theorem dX8_dial_144 : decode cX8_dial 144 = .ok (.iconst 1, 1) := by decide +kernel
theorem dX8_dial_145 : decode cX8_dial 145 = .ok (.isub, 1) := by decide +kernel
theorem dX8_dial_146 : decode cX8_dial 146 = .ok (.ireturn, 1) := by decide +kernel
set_option maxRecDepth 20000 in
theorem ggX8_goesFloat_X8_isEndlessFloat : GoodIn wsX8_goesFloat wsX8_isEndlessFloat := goodIn_r _ [7, 8, 9] (by decide +kernel) (by decide +kernel)
set_option maxRecDepth 20000 in
theorem gX8_goesFloat_X8_isEndlessFloat : GoodIn wsX8_goesFloat (va_wsS RX8 115 yX8_isEndlessFloat wsX8_isEndlessFloat) := goodIn_app (goodIn_of _ (by decide +kernel)) ggX8_goesFloat_X8_isEndlessFloat
theorem dX8_goesFloat_0 : decode cX8_goesFloat 0 = .ok (.aload_n 0, 1) := by decide +kernel
theorem dX8_goesFloat_1 : decode cX8_goesFloat 1 = .ok (.getfield 17, 3) := by decide +kernel
theorem dX8_goesFloat_4 : decode cX8_goesFloat 4 = .ok (.iload_n 1, 1) := by decide +kernel
theorem dX8_goesFloat_5 : decode cX8_goesFloat 5 = .ok (.faload, 1) := by decide +kernel
theorem dX8_goesFloat_6 : decode cX8_goesFloat 6 = .ok (.fload_n 2, 1) := by decide +kernel
theorem dX8_goesFloat_7 : decode cX8_goesFloat 7 = .ok (.fadd, 1) := by decide +kernel
theorem dX8_goesFloat_8 : decode cX8_goesFloat 8 = .ok (.fstore_n 3, 1) := by decide +kernel
theorem dX8_goesFloat_9 : decode cX8_goesFloat 9 = .ok (.fload_n 3, 1) := by decide +kernel
theorem dX8_goesFloat_10 : decode cX8_goesFloat 10 = .ok (.invokestatic 115, 3) := by decide +kernel
theorem dX8_goesFloat_13 : decode cX8_goesFloat 13 = .ok (.ifCond .eq 5, 3) := by decide +kernel
theorem dX8_goesFloat_16 : decode cX8_goesFloat 16 = .ok (.iconst 0, 1) := by decide +kernel
theorem dX8_goesFloat_17 : decode cX8_goesFloat 17 = .ok (.ireturn, 1) := by decide +kernel
theorem dX8_goesFloat_18 : decode cX8_goesFloat 18 = .ok (.aload_n 0, 1) := by decide +kernel
theorem dX8_goesFloat_19 : decode cX8_goesFloat 19 = .ok (.getfield 27, 3) := by decide +kernel
theorem dX8_goesFloat_22 : decode cX8_goesFloat 22 = .ok (.iload_n 1, 1) := by decide +kernel
theorem dX8_goesFloat_23 : decode cX8_goesFloat 23 = .ok (.dup2, 1) := by decide +kernel
theorem dX8_goesFloat_24 : decode cX8_goesFloat 24 = .ok (.laload, 1) := by decide +kernel
theorem dX8_goesFloat_25 : decode cX8_goesFloat 25 = .ok (.fload_n 3, 1) := by decide +kernel
theorem dX8_goesFloat_26 : decode cX8_goesFloat 26 = .ok (.aload_n 0, 1) := by decide +kernel
theorem dX8_goesFloat_27 : decode cX8_goesFloat 27 = .ok (.getfield 13, 3) := by decide +kernel
theorem dX8_goesFloat_30 : decode cX8_goesFloat 30 = .ok (.iload_n 1, 1) := by decide +kernel
theorem dX8_goesFloat_31 : decode cX8_goesFloat 31 = .ok (.faload, 1) := by decide +kernel
theorem dX8_goesFloat_32 : decode cX8_goesFloat 32 = .ok (.fdiv, 1) := by decide +kernel
theorem dX8_goesFloat_33 : decode cX8_goesFloat 33 = .ok (.f2l, 1) := by decide +kernel
theorem dX8_goesFloat_34 : decode cX8_goesFloat 34 = .ok (.ladd, 1) := by decide +kernel
theorem dX8_goesFloat_35 : decode cX8_goesFloat 35 = .ok (.lastore, 1) := by decide +kernel
theorem dX8_goesFloat_36 : decode cX8_goesFloat 36 = .ok (.aload_n 0, 1) := by decide +kernel
theorem dX8_goesFloat_37 : decode cX8_goesFloat 37 = .ok (.getfield 17, 3) := by decide +kernel
theorem dX8_goesFloat_40 : decode cX8_goesFloat 40 = .ok (.iload_n 1, 1) := by decide +kernel
theorem dX8_goesFloat_41 : decode cX8_goesFloat 41 = .ok (.fload_n 3, 1) := by decide +kernel
theorem dX8_goesFloat_42 : decode cX8_goesFloat 42 = .ok (.aload_n 0, 1) := by decide +kernel
theorem dX8_goesFloat_43 : decode cX8_goesFloat 43 = .ok (.getfield 13, 3) := by decide +kernel
theorem dX8_goesFloat_46 : decode cX8_goesFloat 46 = .ok (.iload_n 1, 1) := by decide +kernel
theorem dX8_goesFloat_47 : decode cX8_goesFloat 47 = .ok (.faload, 1) := by decide +kernel
theorem dX8_goesFloat_48 : decode cX8_goesFloat 48 = .ok (.frem, 1) := by decide +kernel
theorem dX8_goesFloat_49 : decode cX8_goesFloat 49 = .ok (.fastore, 1) := by decide +kernel
theorem dX8_goesFloat_50 : decode cX8_goesFloat 50 = .ok (.iconst 1, 1) := by decide +kernel
theorem dX8_goesFloat_51 : decode cX8_goesFloat 51 = .ok (.ireturn, 1) := by decide +kernel
set_option maxRecDepth 20000 in
theorem ggX8_goesDouble_X8_isEndless : GoodIn wsX8_goesDouble wsX8_isEndless := goodIn_r _ [7, 8, 9] (by decide +kernel) (by decide +kernel)
set_option maxRecDepth 20000 in
theorem gX8_goesDouble_X8_isEndless : GoodIn wsX8_goesDouble (va_wsS RX8 119 yX8_isEndless wsX8_isEndless) := goodIn_app (goodIn_of _ (by decide +kernel)) ggX8_goesDouble_X8_isEndless
theorem dX8_goesDouble_0 : decode cX8_goesDouble 0 = .ok (.aload_n 0, 1) := by decide +kernel
theorem dX8_goesDouble_1 : decode cX8_goesDouble 1 = .ok (.getfield 24, 3) := by decide +kernel
theorem dX8_goesDouble_4 : decode cX8_goesDouble 4 = .ok (.iload_n 1, 1) := by decide +kernel
theorem dX8_goesDouble_5 : decode cX8_goesDouble 5 = .ok (.daload, 1) := by decide +kernel
theorem dX8_goesDouble_6 : decode cX8_goesDouble 6 = .ok (.dload_n 2, 1) := by decide +kernel
theorem dX8_goesDouble_7 : decode cX8_goesDouble 7 = .ok (.dadd, 1) := by decide +kernel
theorem dX8_goesDouble_8 : decode cX8_goesDouble 8 = .ok (.dstore 4, 2) := by decide +kernel
theorem dX8_goesDouble_10 : decode cX8_goesDouble 10 = .ok (.dload 4, 2) := by decide +kernel
theorem dX8_goesDouble_12 : decode cX8_goesDouble 12 = .ok (.invokestatic 119, 3) := by decide +kernel
theorem dX8_goesDouble_15 : decode cX8_goesDouble 15 = .ok (.ifCond .eq 5, 3) := by decide +kernel
theorem dX8_goesDouble_18 : decode cX8_goesDouble 18 = .ok (.iconst 0, 1) := by decide +kernel
theorem dX8_goesDouble_19 : decode cX8_goesDouble 19 = .ok (.ireturn, 1) := by decide +kernel
theorem dX8_goesDouble_20 : decode cX8_goesDouble 20 = .ok (.aload_n 0, 1) := by decide +kernel
theorem dX8_goesDouble_21 : decode cX8_goesDouble 21 = .ok (.getfield 27, 3) := by decide +kernel
theorem dX8_goesDouble_24 : decode cX8_goesDouble 24 = .ok (.iload_n 1, 1) := by decide +kernel
theorem dX8_goesDouble_25 : decode cX8_goesDouble 25 = .ok (.dup2, 1) := by decide +kernel
theorem dX8_goesDouble_26 : decode cX8_goesDouble 26 = .ok (.laload, 1) := by decide +kernel
theorem dX8_goesDouble_27 : decode cX8_goesDouble 27 = .ok (.dload 4, 2) := by decide +kernel
theorem dX8_goesDouble_29 : decode cX8_goesDouble 29 = .ok (.aload_n 0, 1) := by decide +kernel
theorem dX8_goesDouble_30 : decode cX8_goesDouble 30 = .ok (.getfield 20, 3) := by decide +kernel
theorem dX8_goesDouble_33 : decode cX8_goesDouble 33 = .ok (.iload_n 1, 1) := by decide +kernel
theorem dX8_goesDouble_34 : decode cX8_goesDouble 34 = .ok (.daload, 1) := by decide +kernel
theorem dX8_goesDouble_35 : decode cX8_goesDouble 35 = .ok (.ddiv, 1) := by decide +kernel
theorem dX8_goesDouble_36 : decode cX8_goesDouble 36 = .ok (.d2l, 1) := by decide +kernel
theorem dX8_goesDouble_37 : decode cX8_goesDouble 37 = .ok (.ladd, 1) := by decide +kernel
theorem dX8_goesDouble_38 : decode cX8_goesDouble 38 = .ok (.lastore, 1) := by decide +kernel
theorem dX8_goesDouble_39 : decode cX8_goesDouble 39 = .ok (.aload_n 0, 1) := by decide +kernel
theorem dX8_goesDouble_40 : decode cX8_goesDouble 40 = .ok (.getfield 24, 3) := by decide +kernel
theorem dX8_goesDouble_43 : decode cX8_goesDouble 43 = .ok (.iload_n 1, 1) := by decide +kernel
theorem dX8_goesDouble_44 : decode cX8_goesDouble 44 = .ok (.dload 4, 2) := by decide +kernel
theorem dX8_goesDouble_46 : decode cX8_goesDouble 46 = .ok (.aload_n 0, 1) := by decide +kernel
theorem dX8_goesDouble_47 : decode cX8_goesDouble 47 = .ok (.getfield 20, 3) := by decide +kernel
theorem dX8_goesDouble_50 : decode cX8_goesDouble 50 = .ok (.iload_n 1, 1) := by decide +kernel
theorem dX8_goesDouble_51 : decode cX8_goesDouble 51 = .ok (.daload, 1) := by decide +kernel
theorem dX8_goesDouble_52 : decode cX8_goesDouble 52 = .ok (.drem, 1) := by decide +kernel
theorem dX8_goesDouble_53 : decode cX8_goesDouble 53 = .ok (.dastore, 1) := by decide +kernel
theorem dX8_goesDouble_54 : decode cX8_goesDouble 54 = .ok (.iconst 1, 1) := by decide +kernel
theorem dX8_goesDouble_55 : decode cX8_goesDouble 55 = .ok (.ireturn, 1) := by decide +kernel
set_option maxRecDepth 20000 in
theorem ggX8_goes_X8_doubleOf : GoodIn wsX8_goes wsX8_doubleOf := goodIn_r _ [5, 6, 7, 8, 9] (by decide +kernel) (by decide +kernel)
set_option maxRecDepth 20000 in
theorem gX8_goes_X8_doubleOf : GoodIn wsX8_goes (va_wsS RX8 108 yX8_doubleOf wsX8_doubleOf) := goodIn_app (goodIn_of _ (by decide +kernel)) ggX8_goes_X8_doubleOf
set_option maxRecDepth 20000 in
theorem ggX8_goes_X8_goesDouble : GoodIn wsX8_goes wsX8_goesDouble := goodIn_r _ [13, 14, 15, 16, 17, 18, 4, 19, 20, 21, 40, 41, 42, 43, 44, 45, 46, 47, 48, 49, 50, 51, 52, 53, 54, 55, 56, 57, 58, 59] (by decide +kernel) (by decide +kernel)
set_option maxRecDepth 20000 in
theorem gX8_goes_X8_goesDouble : GoodIn wsX8_goes (wsV RX8 123 RX8 yX8_goesDouble wsX8_goesDouble) := goodIn_app (goodIn_of _ (by decide +kernel)) ggX8_goes_X8_goesDouble
set_option maxRecDepth 20000 in
theorem ggX8_goes_X8_floatOf : GoodIn wsX8_goes wsX8_floatOf := goodIn_r _ [24, 25, 26, 27, 28] (by decide +kernel) (by decide +kernel)
set_option maxRecDepth 20000 in
theorem gX8_goes_X8_floatOf : GoodIn wsX8_goes (va_wsS RX8 111 yX8_floatOf wsX8_floatOf) := goodIn_app (goodIn_of _ (by decide +kernel)) ggX8_goes_X8_floatOf
set_option maxRecDepth 20000 in
theorem ggX8_goes_X8_goesFloat : GoodIn wsX8_goes wsX8_goesFloat := goodIn_r _ [32, 33, 15, 34, 35, 36, 4, 37, 38, 39, 40, 41, 42, 43, 44, 45, 46, 47, 48, 49, 50, 51, 52, 53, 54, 55, 56, 57, 58, 59] (by decide +kernel) (by decide +kernel)
set_option maxRecDepth 20000 in
theorem gX8_goes_X8_goesFloat : GoodIn wsX8_goes (wsV RX8 127 RX8 yX8_goesFloat wsX8_goesFloat) := goodIn_app (goodIn_of _ (by decide +kernel)) ggX8_goes_X8_goesFloat
theorem dX8_goes_0 : decode cX8_goes 0 = .ok (.aload_n 0, 1) := by decide +kernel
theorem dX8_goes_1 : decode cX8_goes 1 = .ok (.getfield 7, 3) := by decide +kernel
theorem dX8_goes_4 : decode cX8_goes 4 = .ok (.iload_n 1, 1) := by decide +kernel
theorem dX8_goes_5 : decode cX8_goes 5 = .ok (.baload, 1) := by decide +kernel
theorem dX8_goes_6 : decode cX8_goes 6 = .ok (.ifCond .eq 15, 3) := by decide +kernel
theorem dX8_goes_9 : decode cX8_goes 9 = .ok (.aload_n 0, 1) := by decide +kernel
theorem dX8_goes_10 : decode cX8_goes 10 = .ok (.iload_n 1, 1) := by decide +kernel
theorem dX8_goes_11 : decode cX8_goes 11 = .ok (.lload_n 2, 1) := by decide +kernel
theorem dX8_goes_12 : decode cX8_goes 12 = .ok (.invokestatic 108, 3) := by decide +kernel
theorem dX8_goes_15 : decode cX8_goes 15 = .ok (.invokevirtual 123, 3) := by decide +kernel
theorem dX8_goes_18 : decode cX8_goes 18 = .ok (.goto 12, 3) := by decide +kernel
theorem dX8_goes_21 : decode cX8_goes 21 = .ok (.aload_n 0, 1) := by decide +kernel
theorem dX8_goes_22 : decode cX8_goes 22 = .ok (.iload_n 1, 1) := by decide +kernel
theorem dX8_goes_23 : decode cX8_goes 23 = .ok (.lload_n 2, 1) := by decide +kernel
theorem dX8_goes_24 : decode cX8_goes 24 = .ok (.invokestatic 111, 3) := by decide +kernel
theorem dX8_goes_27 : decode cX8_goes 27 = .ok (.invokevirtual 127, 3) := by decide +kernel
theorem dX8_goes_30 : decode cX8_goes 30 = .ok (.ireturn, 1) := by decide +kernel
set_option maxRecDepth 20000 in
theorem ggX8_turn_X8_isDial : GoodIn wsX8_turn wsX8_isDial := goodIn_r _ [6, 7, 8, 9, 5, 10, 73, 74, 75, 76, 77, 78, 79, 80, 81, 82, 83, 84, 85, 86, 87, 88, 89, 90, 91, 92] (by decide +kernel) (by decide +kernel)
set_option maxRecDepth 20000 in
theorem gX8_turn_X8_isDial : GoodIn wsX8_turn (wsV RX8 131 RX8 yX8_isDial wsX8_isDial) := goodIn_app (goodIn_of _ (by decide +kernel)) ggX8_turn_X8_isDial
set_option maxRecDepth 20000 in
theorem ggX8_turn_X8_isFit : GoodIn wsX8_turn wsX8_isFit := goodIn_r _ [13, 14, 15, 5, 16, 17, 18, 19, 20, 21] (by decide +kernel) (by decide +kernel)
set_option maxRecDepth 20000 in
theorem gX8_turn_X8_isFit : GoodIn wsX8_turn (va_wsS RX8 104 yX8_isFit wsX8_isFit) := goodIn_app (goodIn_of _ (by decide +kernel)) ggX8_turn_X8_isFit
set_option maxRecDepth 20000 in
theorem ggX8_turn_X8_goes : GoodIn wsX8_turn wsX8_goes := goodIn_r _ [25, 1, 26, 27, 5, 28, 29, 30, 31, 32, 33, 34, 35, 36, 37, 38, 39, 40, 41, 42, 43, 44, 45, 46, 47, 48, 49, 50, 51, 52, 53, 54, 55, 56, 57, 58, 59, 60, 61, 62, 73, 74, 75, 76, 77, 78, 79, 80, 81, 82, 83, 84, 85, 86, 87, 88, 89, 90, 91, 92] (by decide +kernel) (by decide +kernel)
set_option maxRecDepth 20000 in
theorem gX8_turn_X8_goes : GoodIn wsX8_turn (wsV RX8 135 RX8 yX8_goes wsX8_goes) := goodIn_app (goodIn_of _ (by decide +kernel)) ggX8_turn_X8_goes
set_option maxRecDepth 20000 in
theorem ggX8_turn_X8_done : GoodIn wsX8_turn wsX8_done := goodIn_r _ [66, 67, 73, 74, 75, 76, 77, 78, 79, 80, 81, 82, 83, 84, 85, 86, 87, 88, 89, 90, 91, 92] (by decide +kernel) (by decide +kernel)
set_option maxRecDepth 20000 in
theorem gX8_turn_X8_done : GoodIn wsX8_turn (wsV RX8 139 RX8 yX8_done wsX8_done) := goodIn_app (goodIn_of _ (by decide +kernel)) ggX8_turn_X8_done
set_option maxRecDepth 20000 in
theorem ggX8_turn_X8_fails : GoodIn wsX8_turn wsX8_fails := goodIn_r _ [71, 67, 72, 73, 74, 75, 76, 77, 78, 79, 80, 81, 82, 83, 84, 85, 86, 87, 88, 89, 90, 91, 92] (by decide +kernel) (by decide +kernel)
set_option maxRecDepth 20000 in
theorem gX8_turn_X8_fails : GoodIn wsX8_turn (wsV RX8 143 RX8 yX8_fails wsX8_fails) := goodIn_app (goodIn_of _ (by decide +kernel)) ggX8_turn_X8_fails
theorem dX8_turn_0 : decode cX8_turn 0 = .ok (.aload_n 0, 1) := by decide +kernel
theorem dX8_turn_1 : decode cX8_turn 1 = .ok (.iload_n 1, 1) := by decide +kernel
theorem dX8_turn_2 : decode cX8_turn 2 = .ok (.invokevirtual 131, 3) := by decide +kernel
theorem dX8_turn_5 : decode cX8_turn 5 = .ok (.ifCond .ne 6, 3) := by decide +kernel
theorem dX8_turn_8 : decode cX8_turn 8 = .ok (.bipush (-101), 2) := by decide +kernel
theorem dX8_turn_10 : decode cX8_turn 10 = .ok (.ireturn, 1) := by decide +kernel
theorem dX8_turn_11 : decode cX8_turn 11 = .ok (.aload_n 0, 1) := by decide +kernel
theorem dX8_turn_12 : decode cX8_turn 12 = .ok (.getfield 7, 3) := by decide +kernel
theorem dX8_turn_15 : decode cX8_turn 15 = .ok (.iload_n 1, 1) := by decide +kernel
theorem dX8_turn_16 : decode cX8_turn 16 = .ok (.baload, 1) := by decide +kernel
theorem dX8_turn_17 : decode cX8_turn 17 = .ok (.lload_n 2, 1) := by decide +kernel
theorem dX8_turn_18 : decode cX8_turn 18 = .ok (.invokestatic 104, 3) := by decide +kernel
theorem dX8_turn_21 : decode cX8_turn 21 = .ok (.ifCond .ne 6, 3) := by decide +kernel
theorem dX8_turn_24 : decode cX8_turn 24 = .ok (.bipush (-102), 2) := by decide +kernel
theorem dX8_turn_26 : decode cX8_turn 26 = .ok (.ireturn, 1) := by decide +kernel
theorem dX8_turn_27 : decode cX8_turn 27 = .ok (.aload_n 0, 1) := by decide +kernel
theorem dX8_turn_28 : decode cX8_turn 28 = .ok (.iload_n 1, 1) := by decide +kernel
theorem dX8_turn_29 : decode cX8_turn 29 = .ok (.lload_n 2, 1) := by decide +kernel
theorem dX8_turn_30 : decode cX8_turn 30 = .ok (.invokevirtual 135, 3) := by decide +kernel
theorem dX8_turn_33 : decode cX8_turn 33 = .ok (.ifCond .eq 11, 3) := by decide +kernel
theorem dX8_turn_36 : decode cX8_turn 36 = .ok (.aload_n 0, 1) := by decide +kernel
theorem dX8_turn_37 : decode cX8_turn 37 = .ok (.iconst 1, 1) := by decide +kernel
theorem dX8_turn_38 : decode cX8_turn 38 = .ok (.invokevirtual 139, 3) := by decide +kernel
theorem dX8_turn_41 : decode cX8_turn 41 = .ok (.goto 9, 3) := by decide +kernel
theorem dX8_turn_44 : decode cX8_turn 44 = .ok (.aload_n 0, 1) := by decide +kernel
theorem dX8_turn_45 : decode cX8_turn 45 = .ok (.bipush (-15), 2) := by decide +kernel
theorem dX8_turn_47 : decode cX8_turn 47 = .ok (.invokevirtual 143, 3) := by decide +kernel
theorem dX8_turn_50 : decode cX8_turn 50 = .ok (.ireturn, 1) := by decide +kernel
set_option maxRecDepth 20000 in
theorem ggX8_spin_X8_isDial : GoodIn wsX8_spin wsX8_isDial := goodIn_r _ [8, 9, 10, 11, 7, 12, 70, 71, 72, 73, 74, 75, 76, 77, 78, 79, 80, 81, 82, 83, 84, 85, 86, 87, 88, 89] (by decide +kernel) (by decide +kernel)
set_option maxRecDepth 20000 in
theorem gX8_spin_X8_isDial : GoodIn wsX8_spin (wsV RX8 131 RX8 yX8_isDial wsX8_isDial) := goodIn_app (goodIn_of _ (by decide +kernel)) ggX8_spin_X8_isDial
set_option maxRecDepth 20000 in
theorem ggX8_spin_X8_isFit : GoodIn wsX8_spin wsX8_isFit := goodIn_r _ [15, 16, 17, 7, 18, 19, 20, 21, 22, 23] (by decide +kernel) (by decide +kernel)
set_option maxRecDepth 20000 in
theorem gX8_spin_X8_isFit : GoodIn wsX8_spin (va_wsS RX8 104 yX8_isFit wsX8_isFit) := goodIn_app (goodIn_of _ (by decide +kernel)) ggX8_spin_X8_isFit
set_option maxRecDepth 20000 in
theorem ggX8_spin_X8_in : GoodIn wsX8_spin wsX8_in := goodIn_r _ [12] (by decide +kernel) (by decide +kernel)
set_option maxRecDepth 20000 in
theorem gX8_spin_X8_in : GoodIn wsX8_spin (va_wsS RX8 100 yX8_in wsX8_in) := goodIn_app (goodIn_of _ (by decide +kernel)) ggX8_spin_X8_in
set_option maxRecDepth 20000 in
theorem ggX8_spin_X8_goes : GoodIn wsX8_spin wsX8_goes := goodIn_r _ [27, 1, 28, 29, 7, 30, 31, 32, 33, 34, 35, 36, 37, 38, 39, 40, 41, 42, 43, 44, 45, 46, 47, 48, 49, 50, 51, 52, 53, 54, 55, 56, 57, 58, 59, 60, 61, 62, 63, 64, 70, 71, 72, 73, 74, 75, 76, 77, 78, 79, 80, 81, 82, 83, 84, 85, 86, 87, 88, 89] (by decide +kernel) (by decide +kernel)
set_option maxRecDepth 20000 in
theorem gX8_spin_X8_goes : GoodIn wsX8_spin (wsV RX8 135 RX8 yX8_goes wsX8_goes) := goodIn_app (goodIn_of _ (by decide +kernel)) ggX8_spin_X8_goes
set_option maxRecDepth 20000 in
theorem ggX8_spin_X8_fails : GoodIn wsX8_spin wsX8_fails := goodIn_r _ [68, 3, 69, 70, 71, 72, 73, 74, 75, 76, 77, 78, 79, 80, 81, 82, 83, 84, 85, 86, 87, 88, 89] (by decide +kernel) (by decide +kernel)
set_option maxRecDepth 20000 in
theorem gX8_spin_X8_fails : GoodIn wsX8_spin (wsV RX8 143 RX8 yX8_fails wsX8_fails) := goodIn_app (goodIn_of _ (by decide +kernel)) ggX8_spin_X8_fails
theorem dX8_spin_0 : decode cX8_spin 0 = .ok (.aload_n 0, 1) := by decide +kernel
theorem dX8_spin_1 : decode cX8_spin 1 = .ok (.iload_n 1, 1) := by decide +kernel
theorem dX8_spin_2 : decode cX8_spin 2 = .ok (.invokevirtual 131, 3) := by decide +kernel
theorem dX8_spin_5 : decode cX8_spin 5 = .ok (.ifCond .ne 6, 3) := by decide +kernel
theorem dX8_spin_8 : decode cX8_spin 8 = .ok (.bipush (-101), 2) := by decide +kernel
theorem dX8_spin_10 : decode cX8_spin 10 = .ok (.ireturn, 1) := by decide +kernel
theorem dX8_spin_11 : decode cX8_spin 11 = .ok (.aload_n 0, 1) := by decide +kernel
theorem dX8_spin_12 : decode cX8_spin 12 = .ok (.getfield 7, 3) := by decide +kernel
theorem dX8_spin_15 : decode cX8_spin 15 = .ok (.iload_n 1, 1) := by decide +kernel
theorem dX8_spin_16 : decode cX8_spin 16 = .ok (.baload, 1) := by decide +kernel
theorem dX8_spin_17 : decode cX8_spin 17 = .ok (.lload_n 2, 1) := by decide +kernel
theorem dX8_spin_18 : decode cX8_spin 18 = .ok (.invokestatic 104, 3) := by decide +kernel
theorem dX8_spin_21 : decode cX8_spin 21 = .ok (.ifCond .eq 16, 3) := by decide +kernel
theorem dX8_spin_24 : decode cX8_spin 24 = .ok (.iload 4, 2) := by decide +kernel
theorem dX8_spin_26 : decode cX8_spin 26 = .ok (.i2l, 1) := by decide +kernel
theorem dX8_spin_27 : decode cX8_spin 27 = .ok (.lconst 0, 1) := by decide +kernel
theorem dX8_spin_28 : decode cX8_spin 28 = .ok (.ldc2_w 146, 3) := by decide +kernel
theorem dX8_spin_31 : decode cX8_spin 31 = .ok (.invokestatic 100, 3) := by decide +kernel
theorem dX8_spin_34 : decode cX8_spin 34 = .ok (.ifCond .ne 6, 3) := by decide +kernel
theorem dX8_spin_37 : decode cX8_spin 37 = .ok (.bipush (-102), 2) := by decide +kernel
theorem dX8_spin_39 : decode cX8_spin 39 = .ok (.ireturn, 1) := by decide +kernel
theorem dX8_spin_40 : decode cX8_spin 40 = .ok (.aload_n 0, 1) := by decide +kernel
theorem dX8_spin_41 : decode cX8_spin 41 = .ok (.iconst 0, 1) := by decide +kernel
theorem dX8_spin_42 : decode cX8_spin 42 = .ok (.putfield 66, 3) := by decide +kernel
theorem dX8_spin_45 : decode cX8_spin 45 = .ok (.iconst 0, 1) := by decide +kernel
theorem dX8_spin_46 : decode cX8_spin 46 = .ok (.istore 5, 2) := by decide +kernel
theorem dX8_spin_48 : decode cX8_spin 48 = .ok (.iload 5, 2) := by decide +kernel
theorem dX8_spin_50 : decode cX8_spin 50 = .ok (.iload 4, 2) := by decide +kernel
theorem dX8_spin_52 : decode cX8_spin 52 = .ok (.if_icmp .ge 29, 3) := by decide +kernel
theorem dX8_spin_55 : decode cX8_spin 55 = .ok (.aload_n 0, 1) := by decide +kernel
theorem dX8_spin_56 : decode cX8_spin 56 = .ok (.iload_n 1, 1) := by decide +kernel
theorem dX8_spin_57 : decode cX8_spin 57 = .ok (.lload_n 2, 1) := by decide +kernel
theorem dX8_spin_58 : decode cX8_spin 58 = .ok (.invokevirtual 135, 3) := by decide +kernel
theorem dX8_spin_61 : decode cX8_spin 61 = .ok (.ifCond .ne 14, 3) := by decide +kernel
theorem dX8_spin_64 : decode cX8_spin 64 = .ok (.aload_n 0, 1) := by decide +kernel
theorem dX8_spin_65 : decode cX8_spin 65 = .ok (.bipush (-15), 2) := by decide +kernel
theorem dX8_spin_67 : decode cX8_spin 67 = .ok (.invokevirtual 143, 3) := by decide +kernel
theorem dX8_spin_70 : decode cX8_spin 70 = .ok (.istore 6, 2) := by decide +kernel
theorem dX8_spin_72 : decode cX8_spin 72 = .ok (.iload 5, 2) := by decide +kernel
theorem dX8_spin_74 : decode cX8_spin 74 = .ok (.ireturn, 1) := by decide +kernel
theorem dX8_spin_75 : decode cX8_spin 75 = .ok (.iinc 5 1, 3) := by decide +kernel
theorem dX8_spin_78 : decode cX8_spin 78 = .ok (.goto (-30), 3) := by decide +kernel
theorem dX8_spin_81 : decode cX8_spin 81 = .ok (.iload 4, 2) := by decide +kernel
theorem dX8_spin_83 : decode cX8_spin 83 = .ok (.ireturn, 1) := by decide +kernel
set_option maxRecDepth 20000 in
theorem ggX8_place_X8_isDial : GoodIn wsX8_place wsX8_isDial := goodIn_r _ [10, 11, 12, 13, 9, 14, 39, 40, 41, 42, 43, 44, 45, 46, 47, 48, 49, 50, 51, 52, 53, 54, 55, 56, 57, 58] (by decide +kernel) (by decide +kernel)
set_option maxRecDepth 20000 in
theorem gX8_place_X8_isDial : GoodIn wsX8_place (wsV RX8 131 RX8 yX8_isDial wsX8_isDial) := goodIn_app (goodIn_of _ (by decide +kernel)) ggX8_place_X8_isDial
set_option maxRecDepth 20000 in
theorem ggX8_place_X8_in : GoodIn wsX8_place wsX8_in := goodIn_r _ [14] (by decide +kernel) (by decide +kernel)
set_option maxRecDepth 20000 in
theorem gX8_place_X8_in : GoodIn wsX8_place (va_wsS RX8 100 yX8_in wsX8_in) := goodIn_app (goodIn_of _ (by decide +kernel)) ggX8_place_X8_in
set_option maxRecDepth 20000 in
theorem ggX8_place_Jxe99ae_doubleToLongBits_ccdee : GoodIn wsX8_place wsJxe99ae_doubleToLongBits_ccdee := goodIn_r _ [18, 19, 20, 21, 22, 23, 24, 25, 17, 26] (by decide +kernel) (by decide +kernel)
set_option maxRecDepth 20000 in
theorem gX8_place_Jxe99ae_doubleToLongBits_ccdee : GoodIn wsX8_place (va_wsS RX8 148 yJxe99ae_doubleToLongBits_ccdee wsJxe99ae_doubleToLongBits_ccdee) := goodIn_app (goodIn_of _ (by decide +kernel)) ggX8_place_Jxe99ae_doubleToLongBits_ccdee
set_option maxRecDepth 20000 in
theorem ggX8_place_Jxf58ca_floatToIntBits_5c35a : GoodIn wsX8_place wsJxf58ca_floatToIntBits_5c35a := goodIn_r _ [30, 31, 32, 33, 34, 35, 36, 37, 29, 38] (by decide +kernel) (by decide +kernel)
set_option maxRecDepth 20000 in
theorem gX8_place_Jxf58ca_floatToIntBits_5c35a : GoodIn wsX8_place (va_wsS RX8 152 yJxf58ca_floatToIntBits_5c35a wsJxf58ca_floatToIntBits_5c35a) := goodIn_app (goodIn_of _ (by decide +kernel)) ggX8_place_Jxf58ca_floatToIntBits_5c35a
theorem dX8_place_0 : decode cX8_place 0 = .ok (.aload_n 0, 1) := by decide +kernel
theorem dX8_place_1 : decode cX8_place 1 = .ok (.iload_n 1, 1) := by decide +kernel
theorem dX8_place_2 : decode cX8_place 2 = .ok (.invokevirtual 131, 3) := by decide +kernel
theorem dX8_place_5 : decode cX8_place 5 = .ok (.ifCond .eq 13, 3) := by decide +kernel
theorem dX8_place_8 : decode cX8_place 8 = .ok (.iload_n 2, 1) := by decide +kernel
theorem dX8_place_9 : decode cX8_place 9 = .ok (.i2l, 1) := by decide +kernel
theorem dX8_place_10 : decode cX8_place 10 = .ok (.lconst 0, 1) := by decide +kernel
theorem dX8_place_11 : decode cX8_place 11 = .ok (.lconst 1, 1) := by decide +kernel
theorem dX8_place_12 : decode cX8_place 12 = .ok (.invokestatic 100, 3) := by decide +kernel
theorem dX8_place_15 : decode cX8_place 15 = .ok (.ifCond .ne 5, 3) := by decide +kernel
theorem dX8_place_18 : decode cX8_place 18 = .ok (.lconst 0, 1) := by decide +kernel
theorem dX8_place_19 : decode cX8_place 19 = .ok (.lreturn, 1) := by decide +kernel
theorem dX8_place_20 : decode cX8_place 20 = .ok (.aload_n 0, 1) := by decide +kernel
theorem dX8_place_21 : decode cX8_place 21 = .ok (.getfield 7, 3) := by decide +kernel
theorem dX8_place_24 : decode cX8_place 24 = .ok (.iload_n 1, 1) := by decide +kernel
theorem dX8_place_25 : decode cX8_place 25 = .ok (.baload, 1) := by decide +kernel
theorem dX8_place_26 : decode cX8_place 26 = .ok (.ifCond .eq 26, 3) := by decide +kernel
theorem dX8_place_29 : decode cX8_place 29 = .ok (.iload_n 2, 1) := by decide +kernel
theorem dX8_place_30 : decode cX8_place 30 = .ok (.ifCond .ne 12, 3) := by decide +kernel
theorem dX8_place_33 : decode cX8_place 33 = .ok (.aload_n 0, 1) := by decide +kernel
theorem dX8_place_34 : decode cX8_place 34 = .ok (.getfield 24, 3) := by decide +kernel
theorem dX8_place_37 : decode cX8_place 37 = .ok (.iload_n 1, 1) := by decide +kernel
theorem dX8_place_38 : decode cX8_place 38 = .ok (.daload, 1) := by decide +kernel
theorem dX8_place_39 : decode cX8_place 39 = .ok (.goto 9, 3) := by decide +kernel
theorem dX8_place_42 : decode cX8_place 42 = .ok (.aload_n 0, 1) := by decide +kernel
theorem dX8_place_43 : decode cX8_place 43 = .ok (.getfield 20, 3) := by decide +kernel
theorem dX8_place_46 : decode cX8_place 46 = .ok (.iload_n 1, 1) := by decide +kernel
theorem dX8_place_47 : decode cX8_place 47 = .ok (.daload, 1) := by decide +kernel
theorem dX8_place_48 : decode cX8_place 48 = .ok (.invokestatic 148, 3) := by decide +kernel
theorem dX8_place_51 : decode cX8_place 51 = .ok (.lreturn, 1) := by decide +kernel
theorem dX8_place_52 : decode cX8_place 52 = .ok (.iload_n 2, 1) := by decide +kernel
theorem dX8_place_53 : decode cX8_place 53 = .ok (.ifCond .ne 12, 3) := by decide +kernel
theorem dX8_place_56 : decode cX8_place 56 = .ok (.aload_n 0, 1) := by decide +kernel
theorem dX8_place_57 : decode cX8_place 57 = .ok (.getfield 17, 3) := by decide +kernel
theorem dX8_place_60 : decode cX8_place 60 = .ok (.iload_n 1, 1) := by decide +kernel
theorem dX8_place_61 : decode cX8_place 61 = .ok (.faload, 1) := by decide +kernel
theorem dX8_place_62 : decode cX8_place 62 = .ok (.goto 9, 3) := by decide +kernel
theorem dX8_place_65 : decode cX8_place 65 = .ok (.aload_n 0, 1) := by decide +kernel
theorem dX8_place_66 : decode cX8_place 66 = .ok (.getfield 13, 3) := by decide +kernel
theorem dX8_place_69 : decode cX8_place 69 = .ok (.iload_n 1, 1) := by decide +kernel
theorem dX8_place_70 : decode cX8_place 70 = .ok (.faload, 1) := by decide +kernel
theorem dX8_place_71 : decode cX8_place 71 = .ok (.invokestatic 152, 3) := by decide +kernel
theorem dX8_place_74 : decode cX8_place 74 = .ok (.i2l, 1) := by decide +kernel
theorem dX8_place_75 : decode cX8_place 75 = .ok (.lreturn, 1) := by decide +kernel
set_option maxRecDepth 20000 in
theorem ggX8_laps_X8_isDial : GoodIn wsX8_laps wsX8_isDial := goodIn_r _ [6, 7, 8, 9, 5, 10, 11, 12, 13, 14, 15, 16, 17, 18, 19, 20, 21, 22, 23, 24, 25, 26, 27, 28, 29, 30] (by decide +kernel) (by decide +kernel)
set_option maxRecDepth 20000 in
theorem gX8_laps_X8_isDial : GoodIn wsX8_laps (wsV RX8 131 RX8 yX8_isDial wsX8_isDial) := goodIn_app (goodIn_of _ (by decide +kernel)) ggX8_laps_X8_isDial
theorem dX8_laps_0 : decode cX8_laps 0 = .ok (.aload_n 0, 1) := by decide +kernel
theorem dX8_laps_1 : decode cX8_laps 1 = .ok (.iload_n 1, 1) := by decide +kernel
theorem dX8_laps_2 : decode cX8_laps 2 = .ok (.invokevirtual 131, 3) := by decide +kernel
theorem dX8_laps_5 : decode cX8_laps 5 = .ok (.ifCond .eq 12, 3) := by decide +kernel
theorem dX8_laps_8 : decode cX8_laps 8 = .ok (.aload_n 0, 1) := by decide +kernel
theorem dX8_laps_9 : decode cX8_laps 9 = .ok (.getfield 27, 3) := by decide +kernel
theorem dX8_laps_12 : decode cX8_laps 12 = .ok (.iload_n 1, 1) := by decide +kernel
theorem dX8_laps_13 : decode cX8_laps 13 = .ok (.laload, 1) := by decide +kernel
theorem dX8_laps_14 : decode cX8_laps 14 = .ok (.goto 4, 3) := by decide +kernel
theorem dX8_laps_17 : decode cX8_laps 17 = .ok (.lconst 0, 1) := by decide +kernel
theorem dX8_laps_18 : decode cX8_laps 18 = .ok (.lreturn, 1) := by decide +kernel
set_option maxRecDepth 20000 in
theorem ggX8_fine_X8_isDial : GoodIn wsX8_fine wsX8_isDial := goodIn_r _ [6, 7, 8, 9, 5, 10, 11, 12, 13, 14, 15, 16, 17, 18, 19, 20, 21, 22, 23, 24, 25, 26, 27, 28, 29, 30] (by decide +kernel) (by decide +kernel)
set_option maxRecDepth 20000 in
theorem gX8_fine_X8_isDial : GoodIn wsX8_fine (wsV RX8 131 RX8 yX8_isDial wsX8_isDial) := goodIn_app (goodIn_of _ (by decide +kernel)) ggX8_fine_X8_isDial
theorem dX8_fine_0 : decode cX8_fine 0 = .ok (.aload_n 0, 1) := by decide +kernel
theorem dX8_fine_1 : decode cX8_fine 1 = .ok (.iload_n 1, 1) := by decide +kernel
theorem dX8_fine_2 : decode cX8_fine 2 = .ok (.invokevirtual 131, 3) := by decide +kernel
theorem dX8_fine_5 : decode cX8_fine 5 = .ok (.ifCond .ne 8, 3) := by decide +kernel
theorem dX8_fine_8 : decode cX8_fine 8 = .ok (.bipush (-101), 2) := by decide +kernel
theorem dX8_fine_10 : decode cX8_fine 10 = .ok (.goto 17, 3) := by decide +kernel
theorem dX8_fine_13 : decode cX8_fine 13 = .ok (.aload_n 0, 1) := by decide +kernel
theorem dX8_fine_14 : decode cX8_fine 14 = .ok (.getfield 7, 3) := by decide +kernel
theorem dX8_fine_17 : decode cX8_fine 17 = .ok (.iload_n 1, 1) := by decide +kernel
theorem dX8_fine_18 : decode cX8_fine 18 = .ok (.baload, 1) := by decide +kernel
theorem dX8_fine_19 : decode cX8_fine 19 = .ok (.ifCond .eq 7, 3) := by decide +kernel
theorem dX8_fine_22 : decode cX8_fine 22 = .ok (.iconst 1, 1) := by decide +kernel
theorem dX8_fine_23 : decode cX8_fine 23 = .ok (.goto 4, 3) := by decide +kernel
theorem dX8_fine_26 : decode cX8_fine 26 = .ok (.iconst 0, 1) := by decide +kernel
theorem dX8_fine_27 : decode cX8_fine 27 = .ok (.ireturn, 1) := by decide +kernel
set_option maxRecDepth 20000 in
theorem ggX8_isDrive_X8_in : GoodIn wsX8_isDrive wsX8_in := goodIn_r _ [5] (by decide +kernel) (by decide +kernel)
set_option maxRecDepth 20000 in
theorem gX8_isDrive_X8_in : GoodIn wsX8_isDrive (va_wsS RX8 100 yX8_in wsX8_in) := goodIn_app (goodIn_of _ (by decide +kernel)) ggX8_isDrive_X8_in
theorem dX8_isDrive_0 : decode cX8_isDrive 0 = .ok (.iload_n 1, 1) := by decide +kernel
theorem dX8_isDrive_1 : decode cX8_isDrive 1 = .ok (.i2l, 1) := by decide +kernel
theorem dX8_isDrive_2 : decode cX8_isDrive 2 = .ok (.lconst 0, 1) := by decide +kernel
theorem dX8_isDrive_3 : decode cX8_isDrive 3 = .ok (.aload_n 0, 1) := by decide +kernel
theorem dX8_isDrive_4 : decode cX8_isDrive 4 = .ok (.getfield 156, 3) := by decide +kernel
theorem dX8_isDrive_7 : decode cX8_isDrive 7 = .ok (.i2l, 1) := by decide +kernel
theorem dX8_isDrive_8 : decode cX8_isDrive 8 = .ok (.lconst 1, 1) := by decide +kernel
theorem dX8_isDrive_9 : decode cX8_isDrive 9 = .ok (.lsub, 1) := by decide +kernel
theorem dX8_isDrive_10 : decode cX8_isDrive 10 = .ok (.invokestatic 100, 3) := by decide +kernel
theorem dX8_isDrive_13 : decode cX8_isDrive 13 = .ok (.ireturn, 1) := by decide +kernel
set_option maxRecDepth 20000 in
theorem ggX8_isSlot_X8_in : GoodIn wsX8_isSlot wsX8_in := goodIn_r _ [5] (by decide +kernel) (by decide +kernel)
set_option maxRecDepth 20000 in
theorem gX8_isSlot_X8_in : GoodIn wsX8_isSlot (va_wsS RX8 100 yX8_in wsX8_in) := goodIn_app (goodIn_of _ (by decide +kernel)) ggX8_isSlot_X8_in
theorem dX8_isSlot_0 : decode cX8_isSlot 0 = .ok (.iload_n 0, 1) := by decide +kernel
theorem dX8_isSlot_1 : decode cX8_isSlot 1 = .ok (.i2l, 1) := by decide +kernel
theorem dX8_isSlot_2 : decode cX8_isSlot 2 = .ok (.lconst 0, 1) := by decide +kernel
theorem dX8_isSlot_3 : decode cX8_isSlot 3 = .ok (.ldc2_w 159, 3) := by decide +kernel
theorem dX8_isSlot_6 : decode cX8_isSlot 6 = .ok (.invokestatic 100, 3) := by decide +kernel
theorem dX8_isSlot_9 : decode cX8_isSlot 9 = .ok (.ireturn, 1) := by decide +kernel
set_option maxRecDepth 20000 in
theorem ggX8_isShaft_X8_in : GoodIn wsX8_isShaft wsX8_in := goodIn_r _ [4] (by decide +kernel) (by decide +kernel)
set_option maxRecDepth 20000 in
theorem gX8_isShaft_X8_in : GoodIn wsX8_isShaft (va_wsS RX8 100 yX8_in wsX8_in) := goodIn_app (goodIn_of _ (by decide +kernel)) ggX8_isShaft_X8_in
theorem dX8_isShaft_0 : decode cX8_isShaft 0 = .ok (.iload_n 0, 1) := by decide +kernel
theorem dX8_isShaft_1 : decode cX8_isShaft 1 = .ok (.i2l, 1) := by decide +kernel
theorem dX8_isShaft_2 : decode cX8_isShaft 2 = .ok (.lconst 0, 1) := by decide +kernel
theorem dX8_isShaft_3 : decode cX8_isShaft 3 = .ok (.lconst 1, 1) := by decide +kernel
theorem dX8_isShaft_4 : decode cX8_isShaft 4 = .ok (.invokestatic 100, 3) := by decide +kernel
theorem dX8_isShaft_7 : decode cX8_isShaft 7 = .ok (.ireturn, 1) := by decide +kernel
set_option maxRecDepth 20000 in
theorem ggX8_drive_X8_in : GoodIn wsX8_drive wsX8_in := goodIn_r _ [10] (by decide +kernel) (by decide +kernel)
set_option maxRecDepth 20000 in
theorem gX8_drive_X8_in : GoodIn wsX8_drive (va_wsS RX8 100 yX8_in wsX8_in) := goodIn_app (goodIn_of _ (by decide +kernel)) ggX8_drive_X8_in
set_option maxRecDepth 20000 in
theorem ggX8_drive_X8_isFitDouble : GoodIn wsX8_drive wsX8_isFitDouble := goodIn_r _ [13, 14] (by decide +kernel) (by decide +kernel)
set_option maxRecDepth 20000 in
theorem gX8_drive_X8_isFitDouble : GoodIn wsX8_drive (va_wsS RX8 72 yX8_isFitDouble wsX8_isFitDouble) := goodIn_app (goodIn_of _ (by decide +kernel)) ggX8_drive_X8_isFitDouble
set_option maxRecDepth 20000 in
theorem ggX8_drive_X8_doubleOf : GoodIn wsX8_drive wsX8_doubleOf := goodIn_r _ [17, 18, 19, 20, 21] (by decide +kernel) (by decide +kernel)
set_option maxRecDepth 20000 in
theorem gX8_drive_X8_doubleOf : GoodIn wsX8_drive (va_wsS RX8 108 yX8_doubleOf wsX8_doubleOf) := goodIn_app (goodIn_of _ (by decide +kernel)) ggX8_drive_X8_doubleOf
theorem dX8_drive_0 : decode cX8_drive 0 = .ok (.iload_n 1, 1) := by decide +kernel
theorem dX8_drive_1 : decode cX8_drive 1 = .ok (.i2l, 1) := by decide +kernel
theorem dX8_drive_2 : decode cX8_drive 2 = .ok (.lconst 0, 1) := by decide +kernel
theorem dX8_drive_3 : decode cX8_drive 3 = .ok (.ldc2_w 161, 3) := by decide +kernel
theorem dX8_drive_6 : decode cX8_drive 6 = .ok (.invokestatic 100, 3) := by decide +kernel
theorem dX8_drive_9 : decode cX8_drive 9 = .ok (.ifCond .eq 10, 3) := by decide +kernel
theorem dX8_drive_12 : decode cX8_drive 12 = .ok (.lload_n 2, 1) := by decide +kernel
theorem dX8_drive_13 : decode cX8_drive 13 = .ok (.invokestatic 72, 3) := by decide +kernel
theorem dX8_drive_16 : decode cX8_drive 16 = .ok (.ifCond .ne 6, 3) := by decide +kernel
theorem dX8_drive_19 : decode cX8_drive 19 = .ok (.bipush (-102), 2) := by decide +kernel
theorem dX8_drive_21 : decode cX8_drive 21 = .ok (.ireturn, 1) := by decide +kernel
theorem dX8_drive_22 : decode cX8_drive 22 = .ok (.aload_n 0, 1) := by decide +kernel
theorem dX8_drive_23 : decode cX8_drive 23 = .ok (.getfield 156, 3) := by decide +kernel
theorem dX8_drive_26 : decode cX8_drive 26 = .ok (.bipush 20, 2) := by decide +kernel
theorem dX8_drive_28 : decode cX8_drive 28 = .ok (.if_icmp .ne 6, 3) := by decide +kernel
theorem dX8_drive_31 : decode cX8_drive 31 = .ok (.bipush (-103), 2) := by decide +kernel
theorem dX8_drive_33 : decode cX8_drive 33 = .ok (.ireturn, 1) := by decide +kernel
theorem dX8_drive_34 : decode cX8_drive 34 = .ok (.aload_n 0, 1) := by decide +kernel
theorem dX8_drive_35 : decode cX8_drive 35 = .ok (.getfield 31, 3) := by decide +kernel
theorem dX8_drive_38 : decode cX8_drive 38 = .ok (.aload_n 0, 1) := by decide +kernel
theorem dX8_drive_39 : decode cX8_drive 39 = .ok (.getfield 156, 3) := by decide +kernel
theorem dX8_drive_42 : decode cX8_drive 42 = .ok (.iload_n 1, 1) := by decide +kernel
theorem dX8_drive_43 : decode cX8_drive 43 = .ok (.iastore, 1) := by decide +kernel
theorem dX8_drive_44 : decode cX8_drive 44 = .ok (.aload_n 0, 1) := by decide +kernel
theorem dX8_drive_45 : decode cX8_drive 45 = .ok (.getfield 35, 3) := by decide +kernel
theorem dX8_drive_48 : decode cX8_drive 48 = .ok (.aload_n 0, 1) := by decide +kernel
theorem dX8_drive_49 : decode cX8_drive 49 = .ok (.getfield 156, 3) := by decide +kernel
theorem dX8_drive_52 : decode cX8_drive 52 = .ok (.lload_n 2, 1) := by decide +kernel
theorem dX8_drive_53 : decode cX8_drive 53 = .ok (.invokestatic 108, 3) := by decide +kernel
theorem dX8_drive_56 : decode cX8_drive 56 = .ok (.dastore, 1) := by decide +kernel
theorem dX8_drive_57 : decode cX8_drive 57 = .ok (.aload_n 0, 1) := by decide +kernel
theorem dX8_drive_58 : decode cX8_drive 58 = .ok (.getfield 38, 3) := by decide +kernel
theorem dX8_drive_61 : decode cX8_drive 61 = .ok (.aload_n 0, 1) := by decide +kernel
theorem dX8_drive_62 : decode cX8_drive 62 = .ok (.getfield 156, 3) := by decide +kernel
theorem dX8_drive_65 : decode cX8_drive 65 = .ok (.iconst 1, 1) := by decide +kernel
theorem dX8_drive_66 : decode cX8_drive 66 = .ok (.iastore, 1) := by decide +kernel
theorem dX8_drive_67 : decode cX8_drive 67 = .ok (.aload_n 0, 1) := by decide +kernel
theorem dX8_drive_68 : decode cX8_drive 68 = .ok (.getfield 41, 3) := by decide +kernel
theorem dX8_drive_71 : decode cX8_drive 71 = .ok (.aload_n 0, 1) := by decide +kernel
theorem dX8_drive_72 : decode cX8_drive 72 = .ok (.getfield 156, 3) := by decide +kernel
theorem dX8_drive_75 : decode cX8_drive 75 = .ok (.iconst 0, 1) := by decide +kernel
theorem dX8_drive_76 : decode cX8_drive 76 = .ok (.iastore, 1) := by decide +kernel
theorem dX8_drive_77 : decode cX8_drive 77 = .ok (.aload_n 0, 1) := by decide +kernel
theorem dX8_drive_78 : decode cX8_drive 78 = .ok (.dup, 1) := by decide +kernel
theorem dX8_drive_79 : decode cX8_drive 79 = .ok (.getfield 156, 3) := by decide +kernel
theorem dX8_drive_82 : decode cX8_drive 82 = .ok (.iconst 1, 1) := by decide +kernel
theorem dX8_drive_83 : decode cX8_drive 83 = .ok (.iadd, 1) := by decide +kernel
theorem dX8_drive_84 : decode cX8_drive 84 = .ok (.putfield 156, 3) := by decide +kernel
theorem dX8_drive_87 : decode cX8_drive 87 = .ok (.aload_n 0, 1) := by decide +kernel
theorem dX8_drive_88 : decode cX8_drive 88 = .ok (.getfield 156, 3) := by decide +kernel
theorem dX8_drive_91 : decode cX8_drive 91 = .ok (.iconst 1, 1) := by decide +kernel
theorem dX8_drive_92 : decode cX8_drive 92 = .ok (.isub, 1) := by decide +kernel
theorem dX8_drive_93 : decode cX8_drive 93 = .ok (.ireturn, 1) := by decide +kernel
set_option maxRecDepth 20000 in
theorem ggX8_fit_X8_isSlot : GoodIn wsX8_fit wsX8_isSlot := goodIn_r _ [5, 6, 7, 8, 4, 9] (by decide +kernel) (by decide +kernel)
set_option maxRecDepth 20000 in
theorem gX8_fit_X8_isSlot : GoodIn wsX8_fit (va_wsS RX8 163 yX8_isSlot wsX8_isSlot) := goodIn_app (goodIn_of _ (by decide +kernel)) ggX8_fit_X8_isSlot
set_option maxRecDepth 20000 in
theorem ggX8_fit_X8_isDrive : GoodIn wsX8_fit wsX8_isDrive := goodIn_r _ [13, 14, 7, 8, 4, 9, 15, 16, 17, 18, 19, 20, 21, 22, 23, 24, 25, 26, 27, 28, 29, 30, 31, 32, 33, 34] (by decide +kernel) (by decide +kernel)
set_option maxRecDepth 20000 in
theorem gX8_fit_X8_isDrive : GoodIn wsX8_fit (wsV RX8 166 RX8 yX8_isDrive wsX8_isDrive) := goodIn_app (goodIn_of _ (by decide +kernel)) ggX8_fit_X8_isDrive
theorem dX8_fit_0 : decode cX8_fit 0 = .ok (.iload_n 1, 1) := by decide +kernel
theorem dX8_fit_1 : decode cX8_fit 1 = .ok (.invokestatic 163, 3) := by decide +kernel
theorem dX8_fit_4 : decode cX8_fit 4 = .ok (.ifCond .eq 16, 3) := by decide +kernel
theorem dX8_fit_7 : decode cX8_fit 7 = .ok (.iload_n 2, 1) := by decide +kernel
theorem dX8_fit_8 : decode cX8_fit 8 = .ok (.iconst (-1), 1) := by decide +kernel
theorem dX8_fit_9 : decode cX8_fit 9 = .ok (.if_icmp .eq 14, 3) := by decide +kernel
theorem dX8_fit_12 : decode cX8_fit 12 = .ok (.aload_n 0, 1) := by decide +kernel
theorem dX8_fit_13 : decode cX8_fit 13 = .ok (.iload_n 2, 1) := by decide +kernel
theorem dX8_fit_14 : decode cX8_fit 14 = .ok (.invokevirtual 166, 3) := by decide +kernel
theorem dX8_fit_17 : decode cX8_fit 17 = .ok (.ifCond .ne 6, 3) := by decide +kernel
theorem dX8_fit_20 : decode cX8_fit 20 = .ok (.bipush (-101), 2) := by decide +kernel
theorem dX8_fit_22 : decode cX8_fit 22 = .ok (.ireturn, 1) := by decide +kernel
theorem dX8_fit_23 : decode cX8_fit 23 = .ok (.aload_n 0, 1) := by decide +kernel
theorem dX8_fit_24 : decode cX8_fit 24 = .ok (.getfield 44, 3) := by decide +kernel
theorem dX8_fit_27 : decode cX8_fit 27 = .ok (.iload_n 1, 1) := by decide +kernel
theorem dX8_fit_28 : decode cX8_fit 28 = .ok (.iload_n 2, 1) := by decide +kernel
theorem dX8_fit_29 : decode cX8_fit 29 = .ok (.iastore, 1) := by decide +kernel
theorem dX8_fit_30 : decode cX8_fit 30 = .ok (.iconst 1, 1) := by decide +kernel
theorem dX8_fit_31 : decode cX8_fit 31 = .ok (.ireturn, 1) := by decide +kernel
set_option maxRecDepth 20000 in
theorem ggX8_hauls_X8_isEndless : GoodIn wsX8_hauls wsX8_isEndless := goodIn_r _ [11, 12, 13] (by decide +kernel) (by decide +kernel)
set_option maxRecDepth 20000 in
theorem gX8_hauls_X8_isEndless : GoodIn wsX8_hauls (va_wsS RX8 119 yX8_isEndless wsX8_isEndless) := goodIn_app (goodIn_of _ (by decide +kernel)) ggX8_hauls_X8_isEndless
set_option maxRecDepth 20000 in
theorem ggX8_hauls_X8_goesDouble : GoodIn wsX8_hauls wsX8_goesDouble := goodIn_r _ [17, 4, 18, 19, 8, 9, 10, 11, 12, 13, 30, 31, 32, 33, 34, 35, 36, 37, 38, 39, 40, 41, 42, 43, 44, 45, 46, 47, 48, 49] (by decide +kernel) (by decide +kernel)
set_option maxRecDepth 20000 in
theorem gX8_hauls_X8_goesDouble : GoodIn wsX8_hauls (wsV RX8 123 RX8 yX8_goesDouble wsX8_goesDouble) := goodIn_app (goodIn_of _ (by decide +kernel)) ggX8_hauls_X8_goesDouble
set_option maxRecDepth 20000 in
theorem ggX8_hauls_X8_isEndlessFloat : GoodIn wsX8_hauls wsX8_isEndlessFloat := goodIn_r _ [22, 23, 24] (by decide +kernel) (by decide +kernel)
set_option maxRecDepth 20000 in
theorem gX8_hauls_X8_isEndlessFloat : GoodIn wsX8_hauls (va_wsS RX8 115 yX8_isEndlessFloat wsX8_isEndlessFloat) := goodIn_app (goodIn_of _ (by decide +kernel)) ggX8_hauls_X8_isEndlessFloat
set_option maxRecDepth 20000 in
theorem ggX8_hauls_X8_goesFloat : GoodIn wsX8_hauls wsX8_goesFloat := goodIn_r _ [28, 5, 18, 29, 20, 21, 10, 22, 23, 24, 30, 31, 32, 33, 34, 35, 36, 37, 38, 39, 40, 41, 42, 43, 44, 45, 46, 47, 48, 49] (by decide +kernel) (by decide +kernel)
set_option maxRecDepth 20000 in
theorem gX8_hauls_X8_goesFloat : GoodIn wsX8_hauls (wsV RX8 127 RX8 yX8_goesFloat wsX8_goesFloat) := goodIn_app (goodIn_of _ (by decide +kernel)) ggX8_hauls_X8_goesFloat
theorem dX8_hauls_0 : decode cX8_hauls 0 = .ok (.aload_n 0, 1) := by decide +kernel
theorem dX8_hauls_1 : decode cX8_hauls 1 = .ok (.getfield 35, 3) := by decide +kernel
theorem dX8_hauls_4 : decode cX8_hauls 4 = .ok (.iload_n 1, 1) := by decide +kernel
theorem dX8_hauls_5 : decode cX8_hauls 5 = .ok (.daload, 1) := by decide +kernel
theorem dX8_hauls_6 : decode cX8_hauls 6 = .ok (.dstore_n 3, 1) := by decide +kernel
theorem dX8_hauls_7 : decode cX8_hauls 7 = .ok (.aload_n 0, 1) := by decide +kernel
theorem dX8_hauls_8 : decode cX8_hauls 8 = .ok (.getfield 31, 3) := by decide +kernel
theorem dX8_hauls_11 : decode cX8_hauls 11 = .ok (.iload_n 1, 1) := by decide +kernel
theorem dX8_hauls_12 : decode cX8_hauls 12 = .ok (.iaload, 1) := by decide +kernel
theorem dX8_hauls_13 : decode cX8_hauls 13 = .ok (.ifCond .ne 33, 3) := by decide +kernel
theorem dX8_hauls_16 : decode cX8_hauls 16 = .ok (.dload_n 3, 1) := by decide +kernel
theorem dX8_hauls_17 : decode cX8_hauls 17 = .ok (.aload_n 0, 1) := by decide +kernel
theorem dX8_hauls_18 : decode cX8_hauls 18 = .ok (.getfield 7, 3) := by decide +kernel
theorem dX8_hauls_21 : decode cX8_hauls 21 = .ok (.iload_n 2, 1) := by decide +kernel
theorem dX8_hauls_22 : decode cX8_hauls 22 = .ok (.baload, 1) := by decide +kernel
theorem dX8_hauls_23 : decode cX8_hauls 23 = .ok (.ifCond .eq 12, 3) := by decide +kernel
theorem dX8_hauls_26 : decode cX8_hauls 26 = .ok (.aload_n 0, 1) := by decide +kernel
theorem dX8_hauls_27 : decode cX8_hauls 27 = .ok (.getfield 24, 3) := by decide +kernel
theorem dX8_hauls_30 : decode cX8_hauls 30 = .ok (.iload_n 2, 1) := by decide +kernel
theorem dX8_hauls_31 : decode cX8_hauls 31 = .ok (.daload, 1) := by decide +kernel
theorem dX8_hauls_32 : decode cX8_hauls 32 = .ok (.goto 10, 3) := by decide +kernel
theorem dX8_hauls_35 : decode cX8_hauls 35 = .ok (.aload_n 0, 1) := by decide +kernel
theorem dX8_hauls_36 : decode cX8_hauls 36 = .ok (.getfield 17, 3) := by decide +kernel
theorem dX8_hauls_39 : decode cX8_hauls 39 = .ok (.iload_n 2, 1) := by decide +kernel
theorem dX8_hauls_40 : decode cX8_hauls 40 = .ok (.faload, 1) := by decide +kernel
theorem dX8_hauls_41 : decode cX8_hauls 41 = .ok (.f2d, 1) := by decide +kernel
theorem dX8_hauls_42 : decode cX8_hauls 42 = .ok (.dsub, 1) := by decide +kernel
theorem dX8_hauls_43 : decode cX8_hauls 43 = .ok (.goto 12, 3) := by decide +kernel
theorem dX8_hauls_46 : decode cX8_hauls 46 = .ok (.dload_n 3, 1) := by decide +kernel
theorem dX8_hauls_47 : decode cX8_hauls 47 = .ok (.aload_n 0, 1) := by decide +kernel
theorem dX8_hauls_48 : decode cX8_hauls 48 = .ok (.getfield 38, 3) := by decide +kernel
theorem dX8_hauls_51 : decode cX8_hauls 51 = .ok (.iload_n 1, 1) := by decide +kernel
theorem dX8_hauls_52 : decode cX8_hauls 52 = .ok (.iaload, 1) := by decide +kernel
theorem dX8_hauls_53 : decode cX8_hauls 53 = .ok (.i2d, 1) := by decide +kernel
theorem dX8_hauls_54 : decode cX8_hauls 54 = .ok (.dmul, 1) := by decide +kernel
theorem dX8_hauls_55 : decode cX8_hauls 55 = .ok (.dstore 5, 2) := by decide +kernel
theorem dX8_hauls_57 : decode cX8_hauls 57 = .ok (.aload_n 0, 1) := by decide +kernel
theorem dX8_hauls_58 : decode cX8_hauls 58 = .ok (.getfield 31, 3) := by decide +kernel
theorem dX8_hauls_61 : decode cX8_hauls 61 = .ok (.iload_n 1, 1) := by decide +kernel
theorem dX8_hauls_62 : decode cX8_hauls 62 = .ok (.iaload, 1) := by decide +kernel
theorem dX8_hauls_63 : decode cX8_hauls 63 = .ok (.iconst 2, 1) := by decide +kernel
theorem dX8_hauls_64 : decode cX8_hauls 64 = .ok (.if_icmp .ne 15, 3) := by decide +kernel
theorem dX8_hauls_67 : decode cX8_hauls 67 = .ok (.dload_n 3, 1) := by decide +kernel
theorem dX8_hauls_68 : decode cX8_hauls 68 = .ok (.aload_n 0, 1) := by decide +kernel
theorem dX8_hauls_69 : decode cX8_hauls 69 = .ok (.getfield 41, 3) := by decide +kernel
theorem dX8_hauls_72 : decode cX8_hauls 72 = .ok (.iload_n 1, 1) := by decide +kernel
theorem dX8_hauls_73 : decode cX8_hauls 73 = .ok (.iaload, 1) := by decide +kernel
theorem dX8_hauls_74 : decode cX8_hauls 74 = .ok (.i2d, 1) := by decide +kernel
theorem dX8_hauls_75 : decode cX8_hauls 75 = .ok (.dmul, 1) := by decide +kernel
theorem dX8_hauls_76 : decode cX8_hauls 76 = .ok (.goto 4, 3) := by decide +kernel
theorem dX8_hauls_79 : decode cX8_hauls 79 = .ok (.dconst 0, 1) := by decide +kernel
theorem dX8_hauls_80 : decode cX8_hauls 80 = .ok (.dstore 7, 2) := by decide +kernel
theorem dX8_hauls_82 : decode cX8_hauls 82 = .ok (.aload_n 0, 1) := by decide +kernel
theorem dX8_hauls_83 : decode cX8_hauls 83 = .ok (.getfield 41, 3) := by decide +kernel
theorem dX8_hauls_86 : decode cX8_hauls 86 = .ok (.iload_n 1, 1) := by decide +kernel
theorem dX8_hauls_87 : decode cX8_hauls 87 = .ok (.dup2, 1) := by decide +kernel
theorem dX8_hauls_88 : decode cX8_hauls 88 = .ok (.iaload, 1) := by decide +kernel
theorem dX8_hauls_89 : decode cX8_hauls 89 = .ok (.iconst 1, 1) := by decide +kernel
theorem dX8_hauls_90 : decode cX8_hauls 90 = .ok (.iadd, 1) := by decide +kernel
theorem dX8_hauls_91 : decode cX8_hauls 91 = .ok (.iastore, 1) := by decide +kernel
theorem dX8_hauls_92 : decode cX8_hauls 92 = .ok (.dload 5, 2) := by decide +kernel
theorem dX8_hauls_94 : decode cX8_hauls 94 = .ok (.invokestatic 119, 3) := by decide +kernel
theorem dX8_hauls_97 : decode cX8_hauls 97 = .ok (.ifCond .ne 11, 3) := by decide +kernel
theorem dX8_hauls_100 : decode cX8_hauls 100 = .ok (.dload 7, 2) := by decide +kernel
theorem dX8_hauls_102 : decode cX8_hauls 102 = .ok (.invokestatic 119, 3) := by decide +kernel
theorem dX8_hauls_105 : decode cX8_hauls 105 = .ok (.ifCond .eq 5, 3) := by decide +kernel
theorem dX8_hauls_108 : decode cX8_hauls 108 = .ok (.iconst 0, 1) := by decide +kernel
theorem dX8_hauls_109 : decode cX8_hauls 109 = .ok (.ireturn, 1) := by decide +kernel
theorem dX8_hauls_110 : decode cX8_hauls 110 = .ok (.aload_n 0, 1) := by decide +kernel
theorem dX8_hauls_111 : decode cX8_hauls 111 = .ok (.getfield 31, 3) := by decide +kernel
theorem dX8_hauls_114 : decode cX8_hauls 114 = .ok (.iload_n 1, 1) := by decide +kernel
theorem dX8_hauls_115 : decode cX8_hauls 115 = .ok (.iaload, 1) := by decide +kernel
theorem dX8_hauls_116 : decode cX8_hauls 116 = .ok (.iconst 2, 1) := by decide +kernel
theorem dX8_hauls_117 : decode cX8_hauls 117 = .ok (.if_icmp .ne 11, 3) := by decide +kernel
theorem dX8_hauls_120 : decode cX8_hauls 120 = .ok (.dload 5, 2) := by decide +kernel
theorem dX8_hauls_122 : decode cX8_hauls 122 = .ok (.dload 7, 2) := by decide +kernel
theorem dX8_hauls_124 : decode cX8_hauls 124 = .ok (.dadd, 1) := by decide +kernel
theorem dX8_hauls_125 : decode cX8_hauls 125 = .ok (.goto 5, 3) := by decide +kernel
theorem dX8_hauls_128 : decode cX8_hauls 128 = .ok (.dload 5, 2) := by decide +kernel
theorem dX8_hauls_130 : decode cX8_hauls 130 = .ok (.dstore 9, 2) := by decide +kernel
theorem dX8_hauls_132 : decode cX8_hauls 132 = .ok (.dload 9, 2) := by decide +kernel
theorem dX8_hauls_134 : decode cX8_hauls 134 = .ok (.invokestatic 119, 3) := by decide +kernel
theorem dX8_hauls_137 : decode cX8_hauls 137 = .ok (.ifCond .eq 5, 3) := by decide +kernel
theorem dX8_hauls_140 : decode cX8_hauls 140 = .ok (.iconst 0, 1) := by decide +kernel
theorem dX8_hauls_141 : decode cX8_hauls 141 = .ok (.ireturn, 1) := by decide +kernel
theorem dX8_hauls_142 : decode cX8_hauls 142 = .ok (.aload_n 0, 1) := by decide +kernel
theorem dX8_hauls_143 : decode cX8_hauls 143 = .ok (.getfield 7, 3) := by decide +kernel
theorem dX8_hauls_146 : decode cX8_hauls 146 = .ok (.iload_n 2, 1) := by decide +kernel
theorem dX8_hauls_147 : decode cX8_hauls 147 = .ok (.baload, 1) := by decide +kernel
theorem dX8_hauls_148 : decode cX8_hauls 148 = .ok (.ifCond .eq 11, 3) := by decide +kernel
theorem dX8_hauls_151 : decode cX8_hauls 151 = .ok (.aload_n 0, 1) := by decide +kernel
theorem dX8_hauls_152 : decode cX8_hauls 152 = .ok (.iload_n 2, 1) := by decide +kernel
theorem dX8_hauls_153 : decode cX8_hauls 153 = .ok (.dload 9, 2) := by decide +kernel
theorem dX8_hauls_155 : decode cX8_hauls 155 = .ok (.invokevirtual 123, 3) := by decide +kernel
theorem dX8_hauls_158 : decode cX8_hauls 158 = .ok (.ireturn, 1) := by decide +kernel
theorem dX8_hauls_159 : decode cX8_hauls 159 = .ok (.dload 9, 2) := by decide +kernel
theorem dX8_hauls_161 : decode cX8_hauls 161 = .ok (.d2f, 1) := by decide +kernel
theorem dX8_hauls_162 : decode cX8_hauls 162 = .ok (.fstore 11, 2) := by decide +kernel
theorem dX8_hauls_164 : decode cX8_hauls 164 = .ok (.fload 11, 2) := by decide +kernel
theorem dX8_hauls_166 : decode cX8_hauls 166 = .ok (.invokestatic 115, 3) := by decide +kernel
theorem dX8_hauls_169 : decode cX8_hauls 169 = .ok (.ifCond .ne 17, 3) := by decide +kernel
theorem dX8_hauls_172 : decode cX8_hauls 172 = .ok (.aload_n 0, 1) := by decide +kernel
theorem dX8_hauls_173 : decode cX8_hauls 173 = .ok (.iload_n 2, 1) := by decide +kernel
theorem dX8_hauls_174 : decode cX8_hauls 174 = .ok (.fload 11, 2) := by decide +kernel
theorem dX8_hauls_176 : decode cX8_hauls 176 = .ok (.invokevirtual 127, 3) := by decide +kernel
theorem dX8_hauls_179 : decode cX8_hauls 179 = .ok (.ifCond .eq 7, 3) := by decide +kernel
theorem dX8_hauls_182 : decode cX8_hauls 182 = .ok (.iconst 1, 1) := by decide +kernel
theorem dX8_hauls_183 : decode cX8_hauls 183 = .ok (.goto 4, 3) := by decide +kernel
theorem dX8_hauls_186 : decode cX8_hauls 186 = .ok (.iconst 0, 1) := by decide +kernel
theorem dX8_hauls_187 : decode cX8_hauls 187 = .ok (.ireturn, 1) := by decide +kernel
set_option maxRecDepth 20000 in
theorem ggX8_pullCause_X8_hauls : GoodIn wsX8_pullCause wsX8_hauls := goodIn_r _ [5, 6, 7, 8, 9, 10, 11, 12, 13, 14, 4, 15, 16, 17, 18, 19, 20, 21, 22, 23, 24, 25, 26, 27, 28, 29, 30, 31, 32, 33, 34, 35, 36, 37, 38, 39, 40, 41, 42, 43, 44, 45, 46, 47, 48, 49, 50, 51, 52, 53] (by decide +kernel) (by decide +kernel)
set_option maxRecDepth 20000 in
theorem gX8_pullCause_X8_hauls : GoodIn wsX8_pullCause (wsV RX8 169 RX8 yX8_hauls wsX8_hauls) := goodIn_app (goodIn_of _ (by decide +kernel)) ggX8_pullCause_X8_hauls
theorem dX8_pullCause_0 : decode cX8_pullCause 0 = .ok (.iload_n 1, 1) := by decide +kernel
theorem dX8_pullCause_1 : decode cX8_pullCause 1 = .ok (.iconst (-1), 1) := by decide +kernel
theorem dX8_pullCause_2 : decode cX8_pullCause 2 = .ok (.if_icmp .ne 8, 3) := by decide +kernel
theorem dX8_pullCause_5 : decode cX8_pullCause 5 = .ok (.bipush (-11), 2) := by decide +kernel
theorem dX8_pullCause_7 : decode cX8_pullCause 7 = .ok (.goto 18, 3) := by decide +kernel
theorem dX8_pullCause_10 : decode cX8_pullCause 10 = .ok (.aload_n 0, 1) := by decide +kernel
theorem dX8_pullCause_11 : decode cX8_pullCause 11 = .ok (.iload_n 1, 1) := by decide +kernel
theorem dX8_pullCause_12 : decode cX8_pullCause 12 = .ok (.iload_n 2, 1) := by decide +kernel
theorem dX8_pullCause_13 : decode cX8_pullCause 13 = .ok (.invokevirtual 169, 3) := by decide +kernel
theorem dX8_pullCause_16 : decode cX8_pullCause 16 = .ok (.ifCond .eq 7, 3) := by decide +kernel
theorem dX8_pullCause_19 : decode cX8_pullCause 19 = .ok (.iconst 0, 1) := by decide +kernel
theorem dX8_pullCause_20 : decode cX8_pullCause 20 = .ok (.goto 5, 3) := by decide +kernel
theorem dX8_pullCause_23 : decode cX8_pullCause 23 = .ok (.bipush (-15), 2) := by decide +kernel
theorem dX8_pullCause_25 : decode cX8_pullCause 25 = .ok (.ireturn, 1) := by decide +kernel
set_option maxRecDepth 20000 in
theorem ggX8_pull_X8_isSlot : GoodIn wsX8_pull wsX8_isSlot := goodIn_r _ [5, 6, 7, 8, 4, 9] (by decide +kernel) (by decide +kernel)
set_option maxRecDepth 20000 in
theorem gX8_pull_X8_isSlot : GoodIn wsX8_pull (va_wsS RX8 163 yX8_isSlot wsX8_isSlot) := goodIn_app (goodIn_of _ (by decide +kernel)) ggX8_pull_X8_isSlot
set_option maxRecDepth 20000 in
theorem ggX8_pull_X8_isDial : GoodIn wsX8_pull wsX8_isDial := goodIn_r _ [13, 14, 7, 8, 4, 9, 61, 62, 63, 64, 65, 66, 67, 68, 69, 70, 71, 72, 73, 74, 75, 76, 77, 78, 79, 80] (by decide +kernel) (by decide +kernel)
set_option maxRecDepth 20000 in
theorem gX8_pull_X8_isDial : GoodIn wsX8_pull (wsV RX8 131 RX8 yX8_isDial wsX8_isDial) := goodIn_app (goodIn_of _ (by decide +kernel)) ggX8_pull_X8_isDial
set_option maxRecDepth 20000 in
theorem ggX8_pull_X8_pullCause : GoodIn wsX8_pull wsX8_pullCause := goodIn_r _ [18, 19, 20, 21, 4, 22, 23, 24, 25, 26, 27, 28, 29, 30, 31, 32, 33, 34, 35, 36, 37, 38, 39, 40, 41, 42, 43, 44, 45, 46, 47, 48, 49, 50, 61, 62, 63, 64, 65, 66, 67, 68, 69, 70, 71, 72, 73, 74, 75, 76, 77, 78, 79, 80] (by decide +kernel) (by decide +kernel)
set_option maxRecDepth 20000 in
theorem gX8_pull_X8_pullCause : GoodIn wsX8_pull (wsV RX8 173 RX8 yX8_pullCause wsX8_pullCause) := goodIn_app (goodIn_of _ (by decide +kernel)) ggX8_pull_X8_pullCause
set_option maxRecDepth 20000 in
theorem ggX8_pull_X8_done : GoodIn wsX8_pull wsX8_done := goodIn_r _ [54, 55, 61, 62, 63, 64, 65, 66, 67, 68, 69, 70, 71, 72, 73, 74, 75, 76, 77, 78, 79, 80] (by decide +kernel) (by decide +kernel)
set_option maxRecDepth 20000 in
theorem gX8_pull_X8_done : GoodIn wsX8_pull (wsV RX8 139 RX8 yX8_done wsX8_done) := goodIn_app (goodIn_of _ (by decide +kernel)) ggX8_pull_X8_done
set_option maxRecDepth 20000 in
theorem ggX8_pull_X8_fails : GoodIn wsX8_pull wsX8_fails := goodIn_r _ [59, 55, 60, 61, 62, 63, 64, 65, 66, 67, 68, 69, 70, 71, 72, 73, 74, 75, 76, 77, 78, 79, 80] (by decide +kernel) (by decide +kernel)
set_option maxRecDepth 20000 in
theorem gX8_pull_X8_fails : GoodIn wsX8_pull (wsV RX8 143 RX8 yX8_fails wsX8_fails) := goodIn_app (goodIn_of _ (by decide +kernel)) ggX8_pull_X8_fails
theorem dX8_pull_0 : decode cX8_pull 0 = .ok (.iload_n 1, 1) := by decide +kernel
theorem dX8_pull_1 : decode cX8_pull 1 = .ok (.invokestatic 163, 3) := by decide +kernel
theorem dX8_pull_4 : decode cX8_pull 4 = .ok (.ifCond .eq 11, 3) := by decide +kernel
theorem dX8_pull_7 : decode cX8_pull 7 = .ok (.aload_n 0, 1) := by decide +kernel
theorem dX8_pull_8 : decode cX8_pull 8 = .ok (.iload_n 2, 1) := by decide +kernel
theorem dX8_pull_9 : decode cX8_pull 9 = .ok (.invokevirtual 131, 3) := by decide +kernel
theorem dX8_pull_12 : decode cX8_pull 12 = .ok (.ifCond .ne 6, 3) := by decide +kernel
theorem dX8_pull_15 : decode cX8_pull 15 = .ok (.bipush (-101), 2) := by decide +kernel
theorem dX8_pull_17 : decode cX8_pull 17 = .ok (.ireturn, 1) := by decide +kernel
theorem dX8_pull_18 : decode cX8_pull 18 = .ok (.aload_n 0, 1) := by decide +kernel
theorem dX8_pull_19 : decode cX8_pull 19 = .ok (.aload_n 0, 1) := by decide +kernel
theorem dX8_pull_20 : decode cX8_pull 20 = .ok (.getfield 44, 3) := by decide +kernel
theorem dX8_pull_23 : decode cX8_pull 23 = .ok (.iload_n 1, 1) := by decide +kernel
theorem dX8_pull_24 : decode cX8_pull 24 = .ok (.iaload, 1) := by decide +kernel
theorem dX8_pull_25 : decode cX8_pull 25 = .ok (.iload_n 2, 1) := by decide +kernel
theorem dX8_pull_26 : decode cX8_pull 26 = .ok (.invokevirtual 173, 3) := by decide +kernel
theorem dX8_pull_29 : decode cX8_pull 29 = .ok (.istore_n 3, 1) := by decide +kernel
theorem dX8_pull_30 : decode cX8_pull 30 = .ok (.iload_n 3, 1) := by decide +kernel
theorem dX8_pull_31 : decode cX8_pull 31 = .ok (.ifCond .ne 11, 3) := by decide +kernel
theorem dX8_pull_34 : decode cX8_pull 34 = .ok (.aload_n 0, 1) := by decide +kernel
theorem dX8_pull_35 : decode cX8_pull 35 = .ok (.iconst 1, 1) := by decide +kernel
theorem dX8_pull_36 : decode cX8_pull 36 = .ok (.invokevirtual 139, 3) := by decide +kernel
theorem dX8_pull_39 : decode cX8_pull 39 = .ok (.goto 8, 3) := by decide +kernel
theorem dX8_pull_42 : decode cX8_pull 42 = .ok (.aload_n 0, 1) := by decide +kernel
theorem dX8_pull_43 : decode cX8_pull 43 = .ok (.iload_n 3, 1) := by decide +kernel
theorem dX8_pull_44 : decode cX8_pull 44 = .ok (.invokevirtual 143, 3) := by decide +kernel
theorem dX8_pull_47 : decode cX8_pull 47 = .ok (.ireturn, 1) := by decide +kernel
set_option maxRecDepth 20000 in
theorem ggX8_gear_X8_isSlot : GoodIn wsX8_gear wsX8_isSlot := goodIn_r _ [9, 10, 11, 12, 8, 13] (by decide +kernel) (by decide +kernel)
set_option maxRecDepth 20000 in
theorem gX8_gear_X8_isSlot : GoodIn wsX8_gear (va_wsS RX8 163 yX8_isSlot wsX8_isSlot) := goodIn_app (goodIn_of _ (by decide +kernel)) ggX8_gear_X8_isSlot
set_option maxRecDepth 20000 in
theorem ggX8_gear_X8_in : GoodIn wsX8_gear wsX8_in := goodIn_r _ [13] (by decide +kernel) (by decide +kernel)
set_option maxRecDepth 20000 in
theorem gX8_gear_X8_in : GoodIn wsX8_gear (va_wsS RX8 100 yX8_in wsX8_in) := goodIn_app (goodIn_of _ (by decide +kernel)) ggX8_gear_X8_in
set_option maxRecDepth 20000 in
theorem ggX8_gear_X8_fails : GoodIn wsX8_gear wsX8_fails := goodIn_r _ [17, 18, 19, 24, 25, 26, 27, 28, 29, 30, 31, 32, 33, 34, 35, 36, 37, 38, 39, 40, 41, 42, 43] (by decide +kernel) (by decide +kernel)
set_option maxRecDepth 20000 in
theorem gX8_gear_X8_fails : GoodIn wsX8_gear (wsV RX8 143 RX8 yX8_fails wsX8_fails) := goodIn_app (goodIn_of _ (by decide +kernel)) ggX8_gear_X8_fails
