theorem dX5_init_0 : decode cX5_init 0 = .ok (.aload_n 0, 1) := by decide +kernel
theorem dX5_init_1 : decode cX5_init 1 = .ok (.invokespecial 1, 3) := by decide +kernel
theorem dX5_init_4 : decode cX5_init 4 = .ok (.aload_n 0, 1) := by decide +kernel
theorem dX5_init_5 : decode cX5_init 5 = .ok (.sipush 200, 3) := by decide +kernel
theorem dX5_init_8 : decode cX5_init 8 = .ok (.newarray .int, 2) := by decide +kernel
theorem dX5_init_10 : decode cX5_init 10 = .ok (.putfield 7, 3) := by decide +kernel
theorem dX5_init_13 : decode cX5_init 13 = .ok (.aload_n 0, 1) := by decide +kernel
theorem dX5_init_14 : decode cX5_init 14 = .ok (.bipush 108, 2) := by decide +kernel
theorem dX5_init_16 : decode cX5_init 16 = .ok (.newarray .int, 2) := by decide +kernel
theorem dX5_init_18 : decode cX5_init 18 = .ok (.putfield 13, 3) := by decide +kernel
theorem dX5_init_21 : decode cX5_init 21 = .ok (.aload_n 0, 1) := by decide +kernel
theorem dX5_init_22 : decode cX5_init 22 = .ok (.sipush 144, 3) := by decide +kernel
theorem dX5_init_25 : decode cX5_init 25 = .ok (.newarray .int, 2) := by decide +kernel
theorem dX5_init_27 : decode cX5_init 27 = .ok (.putfield 16, 3) := by decide +kernel
theorem dX5_init_30 : decode cX5_init 30 = .ok (.aload_n 0, 1) := by decide +kernel
theorem dX5_init_31 : decode cX5_init 31 = .ok (.bipush 8, 2) := by decide +kernel
theorem dX5_init_33 : decode cX5_init 33 = .ok (.newarray .int, 2) := by decide +kernel
theorem dX5_init_35 : decode cX5_init 35 = .ok (.putfield 19, 3) := by decide +kernel
theorem dX5_init_38 : decode cX5_init 38 = .ok (.aload_n 0, 1) := by decide +kernel
theorem dX5_init_39 : decode cX5_init 39 = .ok (.bipush 16, 2) := by decide +kernel
theorem dX5_init_41 : decode cX5_init 41 = .ok (.newarray .int, 2) := by decide +kernel
theorem dX5_init_43 : decode cX5_init 43 = .ok (.putfield 22, 3) := by decide +kernel
theorem dX5_init_46 : decode cX5_init 46 = .ok (.aload_n 0, 1) := by decide +kernel
theorem dX5_init_47 : decode cX5_init 47 = .ok (.bipush 16, 2) := by decide +kernel
theorem dX5_init_49 : decode cX5_init 49 = .ok (.newarray .int, 2) := by decide +kernel
theorem dX5_init_51 : decode cX5_init 51 = .ok (.putfield 25, 3) := by decide +kernel
theorem dX5_init_54 : decode cX5_init 54 = .ok (.aload_n 0, 1) := by decide +kernel
theorem dX5_init_55 : decode cX5_init 55 = .ok (.bipush 16, 2) := by decide +kernel
theorem dX5_init_57 : decode cX5_init 57 = .ok (.newarray .int, 2) := by decide +kernel
theorem dX5_init_59 : decode cX5_init 59 = .ok (.putfield 28, 3) := by decide +kernel
theorem dX5_init_62 : decode cX5_init 62 = .ok (.aload_n 0, 1) := by decide +kernel
theorem dX5_init_63 : decode cX5_init 63 = .ok (.bipush 30, 2) := by decide +kernel
theorem dX5_init_65 : decode cX5_init 65 = .ok (.newarray .int, 2) := by decide +kernel
theorem dX5_init_67 : decode cX5_init 67 = .ok (.putfield 31, 3) := by decide +kernel
theorem dX5_init_70 : decode cX5_init 70 = .ok (.aload_n 0, 1) := by decide +kernel
theorem dX5_init_71 : decode cX5_init 71 = .ok (.bipush 30, 2) := by decide +kernel
theorem dX5_init_73 : decode cX5_init 73 = .ok (.newarray .int, 2) := by decide +kernel
theorem dX5_init_75 : decode cX5_init 75 = .ok (.dup, 1) := by decide +kernel
theorem dX5_init_76 : decode cX5_init 76 = .ok (.iconst 0, 1) := by decide +kernel
theorem dX5_init_77 : decode cX5_init 77 = .ok (.iconst 2, 1) := by decide +kernel
theorem dX5_init_78 : decode cX5_init 78 = .ok (.iastore, 1) := by decide +kernel
theorem dX5_init_79 : decode cX5_init 79 = .ok (.dup, 1) := by decide +kernel
theorem dX5_init_80 : decode cX5_init 80 = .ok (.iconst 1, 1) := by decide +kernel
theorem dX5_init_81 : decode cX5_init 81 = .ok (.iconst 0, 1) := by decide +kernel
theorem dX5_init_82 : decode cX5_init 82 = .ok (.iastore, 1) := by decide +kernel
theorem dX5_init_83 : decode cX5_init 83 = .ok (.dup, 1) := by decide +kernel
theorem dX5_init_84 : decode cX5_init 84 = .ok (.iconst 2, 1) := by decide +kernel
theorem dX5_init_85 : decode cX5_init 85 = .ok (.bipush 31, 2) := by decide +kernel
theorem dX5_init_87 : decode cX5_init 87 = .ok (.iastore, 1) := by decide +kernel
theorem dX5_init_88 : decode cX5_init 88 = .ok (.dup, 1) := by decide +kernel
theorem dX5_init_89 : decode cX5_init 89 = .ok (.iconst 3, 1) := by decide +kernel
theorem dX5_init_90 : decode cX5_init 90 = .ok (.iconst 1, 1) := by decide +kernel
theorem dX5_init_91 : decode cX5_init 91 = .ok (.iastore, 1) := by decide +kernel
theorem dX5_init_92 : decode cX5_init 92 = .ok (.dup, 1) := by decide +kernel
theorem dX5_init_93 : decode cX5_init 93 = .ok (.iconst 4, 1) := by decide +kernel
theorem dX5_init_94 : decode cX5_init 94 = .ok (.iconst 0, 1) := by decide +kernel
theorem dX5_init_95 : decode cX5_init 95 = .ok (.iastore, 1) := by decide +kernel
theorem dX5_init_96 : decode cX5_init 96 = .ok (.dup, 1) := by decide +kernel
theorem dX5_init_97 : decode cX5_init 97 = .ok (.iconst 5, 1) := by decide +kernel
theorem dX5_init_98 : decode cX5_init 98 = .ok (.iconst 1, 1) := by decide +kernel
theorem dX5_init_99 : decode cX5_init 99 = .ok (.iastore, 1) := by decide +kernel
theorem dX5_init_100 : decode cX5_init 100 = .ok (.dup, 1) := by decide +kernel
theorem dX5_init_101 : decode cX5_init 101 = .ok (.bipush 6, 2) := by decide +kernel
theorem dX5_init_103 : decode cX5_init 103 = .ok (.iconst 4, 1) := by decide +kernel
theorem dX5_init_104 : decode cX5_init 104 = .ok (.iastore, 1) := by decide +kernel
theorem dX5_init_105 : decode cX5_init 105 = .ok (.dup, 1) := by decide +kernel
theorem dX5_init_106 : decode cX5_init 106 = .ok (.bipush 7, 2) := by decide +kernel
theorem dX5_init_108 : decode cX5_init 108 = .ok (.bipush 31, 2) := by decide +kernel
theorem dX5_init_110 : decode cX5_init 110 = .ok (.iastore, 1) := by decide +kernel
theorem dX5_init_111 : decode cX5_init 111 = .ok (.dup, 1) := by decide +kernel
theorem dX5_init_112 : decode cX5_init 112 = .ok (.bipush 8, 2) := by decide +kernel
theorem dX5_init_114 : decode cX5_init 114 = .ok (.iconst 2, 1) := by decide +kernel
theorem dX5_init_115 : decode cX5_init 115 = .ok (.iastore, 1) := by decide +kernel
theorem dX5_init_116 : decode cX5_init 116 = .ok (.dup, 1) := by decide +kernel
theorem dX5_init_117 : decode cX5_init 117 = .ok (.bipush 9, 2) := by decide +kernel
theorem dX5_init_119 : decode cX5_init 119 = .ok (.iconst 5, 1) := by decide +kernel
theorem dX5_init_120 : decode cX5_init 120 = .ok (.iastore, 1) := by decide +kernel
theorem dX5_init_121 : decode cX5_init 121 = .ok (.dup, 1) := by decide +kernel
theorem dX5_init_122 : decode cX5_init 122 = .ok (.bipush 10, 2) := by decide +kernel
theorem dX5_init_124 : decode cX5_init 124 = .ok (.iconst 0, 1) := by decide +kernel
theorem dX5_init_125 : decode cX5_init 125 = .ok (.iastore, 1) := by decide +kernel
theorem dX5_init_126 : decode cX5_init 126 = .ok (.dup, 1) := by decide +kernel
theorem dX5_init_127 : decode cX5_init 127 = .ok (.bipush 11, 2) := by decide +kernel
theorem dX5_init_129 : decode cX5_init 129 = .ok (.bipush 7, 2) := by decide +kernel
theorem dX5_init_131 : decode cX5_init 131 = .ok (.iastore, 1) := by decide +kernel
theorem dX5_init_132 : decode cX5_init 132 = .ok (.dup, 1) := by decide +kernel
theorem dX5_init_133 : decode cX5_init 133 = .ok (.bipush 12, 2) := by decide +kernel
theorem dX5_init_135 : decode cX5_init 135 = .ok (.iconst 1, 1) := by decide +kernel
theorem dX5_init_136 : decode cX5_init 136 = .ok (.iastore, 1) := by decide +kernel
theorem dX5_init_137 : decode cX5_init 137 = .ok (.dup, 1) := by decide +kernel
theorem dX5_init_138 : decode cX5_init 138 = .ok (.bipush 13, 2) := by decide +kernel
theorem dX5_init_140 : decode cX5_init 140 = .ok (.iconst 1, 1) := by decide +kernel
theorem dX5_init_141 : decode cX5_init 141 = .ok (.iastore, 1) := by decide +kernel
theorem dX5_init_142 : decode cX5_init 142 = .ok (.dup, 1) := by decide +kernel
theorem dX5_init_143 : decode cX5_init 143 = .ok (.bipush 14, 2) := by decide +kernel
theorem dX5_init_145 : decode cX5_init 145 = .ok (.iconst 0, 1) := by decide +kernel
theorem dX5_init_146 : decode cX5_init 146 = .ok (.iastore, 1) := by decide +kernel
theorem dX5_init_147 : decode cX5_init 147 = .ok (.dup, 1) := by decide +kernel
theorem dX5_init_148 : decode cX5_init 148 = .ok (.bipush 15, 2) := by decide +kernel
theorem dX5_init_150 : decode cX5_init 150 = .ok (.iconst 0, 1) := by decide +kernel
theorem dX5_init_151 : decode cX5_init 151 = .ok (.iastore, 1) := by decide +kernel
theorem dX5_init_152 : decode cX5_init 152 = .ok (.dup, 1) := by decide +kernel
theorem dX5_init_153 : decode cX5_init 153 = .ok (.bipush 16, 2) := by decide +kernel
theorem dX5_init_155 : decode cX5_init 155 = .ok (.bipush 7, 2) := by decide +kernel
theorem dX5_init_157 : decode cX5_init 157 = .ok (.iastore, 1) := by decide +kernel
theorem dX5_init_158 : decode cX5_init 158 = .ok (.dup, 1) := by decide +kernel
theorem dX5_init_159 : decode cX5_init 159 = .ok (.bipush 17, 2) := by decide +kernel
theorem dX5_init_161 : decode cX5_init 161 = .ok (.iconst 2, 1) := by decide +kernel
theorem dX5_init_162 : decode cX5_init 162 = .ok (.iastore, 1) := by decide +kernel
theorem dX5_init_163 : decode cX5_init 163 = .ok (.dup, 1) := by decide +kernel
theorem dX5_init_164 : decode cX5_init 164 = .ok (.bipush 18, 2) := by decide +kernel
theorem dX5_init_166 : decode cX5_init 166 = .ok (.iconst 4, 1) := by decide +kernel
theorem dX5_init_167 : decode cX5_init 167 = .ok (.iastore, 1) := by decide +kernel
theorem dX5_init_168 : decode cX5_init 168 = .ok (.dup, 1) := by decide +kernel
theorem dX5_init_169 : decode cX5_init 169 = .ok (.bipush 19, 2) := by decide +kernel
theorem dX5_init_171 : decode cX5_init 171 = .ok (.iconst 0, 1) := by decide +kernel
theorem dX5_init_172 : decode cX5_init 172 = .ok (.iastore, 1) := by decide +kernel
theorem dX5_init_173 : decode cX5_init 173 = .ok (.dup, 1) := by decide +kernel
theorem dX5_init_174 : decode cX5_init 174 = .ok (.bipush 20, 2) := by decide +kernel
theorem dX5_init_176 : decode cX5_init 176 = .ok (.iconst 1, 1) := by decide +kernel
theorem dX5_init_177 : decode cX5_init 177 = .ok (.iastore, 1) := by decide +kernel
theorem dX5_init_178 : decode cX5_init 178 = .ok (.dup, 1) := by decide +kernel
theorem dX5_init_179 : decode cX5_init 179 = .ok (.bipush 21, 2) := by decide +kernel
theorem dX5_init_181 : decode cX5_init 181 = .ok (.bipush 9, 2) := by decide +kernel
theorem dX5_init_183 : decode cX5_init 183 = .ok (.iastore, 1) := by decide +kernel
theorem dX5_init_184 : decode cX5_init 184 = .ok (.dup, 1) := by decide +kernel
theorem dX5_init_185 : decode cX5_init 185 = .ok (.bipush 22, 2) := by decide +kernel
theorem dX5_init_187 : decode cX5_init 187 = .ok (.bipush 31, 2) := by decide +kernel
theorem dX5_init_189 : decode cX5_init 189 = .ok (.iastore, 1) := by decide +kernel
theorem dX5_init_190 : decode cX5_init 190 = .ok (.dup, 1) := by decide +kernel
theorem dX5_init_191 : decode cX5_init 191 = .ok (.bipush 23, 2) := by decide +kernel
theorem dX5_init_193 : decode cX5_init 193 = .ok (.iconst 5, 1) := by decide +kernel
theorem dX5_init_194 : decode cX5_init 194 = .ok (.iastore, 1) := by decide +kernel
theorem dX5_init_195 : decode cX5_init 195 = .ok (.dup, 1) := by decide +kernel
theorem dX5_init_196 : decode cX5_init 196 = .ok (.bipush 24, 2) := by decide +kernel
theorem dX5_init_198 : decode cX5_init 198 = .ok (.iconst 2, 1) := by decide +kernel
theorem dX5_init_199 : decode cX5_init 199 = .ok (.iastore, 1) := by decide +kernel
theorem dX5_init_200 : decode cX5_init 200 = .ok (.dup, 1) := by decide +kernel
theorem dX5_init_201 : decode cX5_init 201 = .ok (.bipush 25, 2) := by decide +kernel
theorem dX5_init_203 : decode cX5_init 203 = .ok (.iconst 2, 1) := by decide +kernel
theorem dX5_init_204 : decode cX5_init 204 = .ok (.iastore, 1) := by decide +kernel
theorem dX5_init_205 : decode cX5_init 205 = .ok (.dup, 1) := by decide +kernel
theorem dX5_init_206 : decode cX5_init 206 = .ok (.bipush 26, 2) := by decide +kernel
theorem dX5_init_208 : decode cX5_init 208 = .ok (.bipush 21, 2) := by decide +kernel
theorem dX5_init_210 : decode cX5_init 210 = .ok (.iastore, 1) := by decide +kernel
theorem dX5_init_211 : decode cX5_init 211 = .ok (.dup, 1) := by decide +kernel
theorem dX5_init_212 : decode cX5_init 212 = .ok (.bipush 27, 2) := by decide +kernel
theorem dX5_init_214 : decode cX5_init 214 = .ok (.bipush 31, 2) := by decide +kernel
theorem dX5_init_216 : decode cX5_init 216 = .ok (.iastore, 1) := by decide +kernel
theorem dX5_init_217 : decode cX5_init 217 = .ok (.dup, 1) := by decide +kernel
theorem dX5_init_218 : decode cX5_init 218 = .ok (.bipush 28, 2) := by decide +kernel
theorem dX5_init_220 : decode cX5_init 220 = .ok (.iconst 1, 1) := by decide +kernel
theorem dX5_init_221 : decode cX5_init 221 = .ok (.iastore, 1) := by decide +kernel
theorem dX5_init_222 : decode cX5_init 222 = .ok (.dup, 1) := by decide +kernel
theorem dX5_init_223 : decode cX5_init 223 = .ok (.bipush 29, 2) := by decide +kernel
theorem dX5_init_225 : decode cX5_init 225 = .ok (.iconst 0, 1) := by decide +kernel
theorem dX5_init_226 : decode cX5_init 226 = .ok (.iastore, 1) := by decide +kernel
theorem dX5_init_227 : decode cX5_init 227 = .ok (.putfield 34, 3) := by decide +kernel
theorem dX5_init_230 : decode cX5_init 230 = .ok (.aload_n 0, 1) := by decide +kernel
theorem dX5_init_231 : decode cX5_init 231 = .ok (.bipush 6, 2) := by decide +kernel
theorem dX5_init_233 : decode cX5_init 233 = .ok (.putfield 37, 3) := by decide +kernel
theorem dX5_init_236 : decode cX5_init 236 = .ok (.iconst 0, 1) := by decide +kernel
theorem dX5_init_237 : decode cX5_init 237 = .ok (.istore_n 1, 1) := by decide +kernel
theorem dX5_init_238 : decode cX5_init 238 = .ok (.iload_n 1, 1) := by decide +kernel
theorem dX5_init_239 : decode cX5_init 239 = .ok (.bipush 30, 2) := by decide +kernel
theorem dX5_init_241 : decode cX5_init 241 = .ok (.if_icmp .ge 21, 3) := by decide +kernel
theorem dX5_init_244 : decode cX5_init 244 = .ok (.aload_n 0, 1) := by decide +kernel
theorem dX5_init_245 : decode cX5_init 245 = .ok (.getfield 31, 3) := by decide +kernel
theorem dX5_init_248 : decode cX5_init 248 = .ok (.iload_n 1, 1) := by decide +kernel
theorem dX5_init_249 : decode cX5_init 249 = .ok (.aload_n 0, 1) := by decide +kernel
theorem dX5_init_250 : decode cX5_init 250 = .ok (.getfield 34, 3) := by decide +kernel
theorem dX5_init_253 : decode cX5_init 253 = .ok (.iload_n 1, 1) := by decide +kernel
theorem dX5_init_254 : decode cX5_init 254 = .ok (.iaload, 1) := by decide +kernel
theorem dX5_init_255 : decode cX5_init 255 = .ok (.iastore, 1) := by decide +kernel
theorem dX5_init_256 : decode cX5_init 256 = .ok (.iinc 1 1, 3) := by decide +kernel
theorem dX5_init_259 : decode cX5_init 259 = .ok (.goto (-21), 3) := by decide +kernel
theorem dX5_init_262 : decode cX5_init 262 = .ok (.aload_n 0, 1) := by decide +kernel
theorem dX5_init_263 : decode cX5_init 263 = .ok (.invokevirtual 41, 3) := by decide +kernel
theorem dX5_init_266 : decode cX5_init 266 = .ok (.return_, 1) := by decide +kernel
theorem dX5_isIn_0 : decode cX5_isIn 0 = .ok (.iload_n 0, 1) := by decide +kernel
theorem dX5_isIn_1 : decode cX5_isIn 1 = .ok (.iload_n 1, 1) := by decide +kernel
theorem dX5_isIn_2 : decode cX5_isIn 2 = .ok (.if_icmp .lt 12, 3) := by decide +kernel
theorem dX5_isIn_5 : decode cX5_isIn 5 = .ok (.iload_n 0, 1) := by decide +kernel
theorem dX5_isIn_6 : decode cX5_isIn 6 = .ok (.iload_n 2, 1) := by decide +kernel
theorem dX5_isIn_7 : decode cX5_isIn 7 = .ok (.if_icmp .gt 7, 3) := by decide +kernel
theorem dX5_isIn_10 : decode cX5_isIn 10 = .ok (.iconst 1, 1) := by decide +kernel
theorem dX5_isIn_11 : decode cX5_isIn 11 = .ok (.goto 4, 3) := by decide +kernel
theorem dX5_isIn_14 : decode cX5_isIn 14 = .ok (.iconst 0, 1) := by decide +kernel
theorem dX5_isIn_15 : decode cX5_isIn 15 = .ok (.ireturn, 1) := by decide +kernel
theorem dX5_of_0 : decode cX5_of 0 = .ok (.aload_n 0, 1) := by decide +kernel
theorem dX5_of_1 : decode cX5_of 1 = .ok (.getfield 13, 3) := by decide +kernel
theorem dX5_of_4 : decode cX5_of 4 = .ok (.bipush 18, 2) := by decide +kernel
theorem dX5_of_6 : decode cX5_of 6 = .ok (.iload_n 1, 1) := by decide +kernel
theorem dX5_of_7 : decode cX5_of 7 = .ok (.imul, 1) := by decide +kernel
theorem dX5_of_8 : decode cX5_of 8 = .ok (.iload_n 2, 1) := by decide +kernel
theorem dX5_of_9 : decode cX5_of 9 = .ok (.iadd, 1) := by decide +kernel
theorem dX5_of_10 : decode cX5_of 10 = .ok (.iaload, 1) := by decide +kernel
theorem dX5_of_11 : decode cX5_of 11 = .ok (.ireturn, 1) := by decide +kernel
theorem dX5_puts_0 : decode cX5_puts 0 = .ok (.aload_n 0, 1) := by decide +kernel
theorem dX5_puts_1 : decode cX5_puts 1 = .ok (.getfield 13, 3) := by decide +kernel
theorem dX5_puts_4 : decode cX5_puts 4 = .ok (.bipush 18, 2) := by decide +kernel
theorem dX5_puts_6 : decode cX5_puts 6 = .ok (.iload_n 1, 1) := by decide +kernel
theorem dX5_puts_7 : decode cX5_puts 7 = .ok (.imul, 1) := by decide +kernel
theorem dX5_puts_8 : decode cX5_puts 8 = .ok (.iload_n 2, 1) := by decide +kernel
theorem dX5_puts_9 : decode cX5_puts 9 = .ok (.iadd, 1) := by decide +kernel
theorem dX5_puts_10 : decode cX5_puts 10 = .ok (.iload_n 3, 1) := by decide +kernel
theorem dX5_puts_11 : decode cX5_puts 11 = .ok (.iastore, 1) := by decide +kernel
theorem dX5_puts_12 : decode cX5_puts 12 = .ok (.return_, 1) := by decide +kernel
theorem dX5_begins_0 : decode cX5_begins 0 = .ok (.aload_n 0, 1) := by decide +kernel
theorem dX5_begins_1 : decode cX5_begins 1 = .ok (.aload_n 0, 1) := by decide +kernel
theorem dX5_begins_2 : decode cX5_begins 2 = .ok (.getfield 37, 3) := by decide +kernel
theorem dX5_begins_5 : decode cX5_begins 5 = .ok (.putfield 44, 3) := by decide +kernel
theorem dX5_begins_8 : decode cX5_begins 8 = .ok (.iconst 0, 1) := by decide +kernel
theorem dX5_begins_9 : decode cX5_begins 9 = .ok (.istore_n 1, 1) := by decide +kernel
theorem dX5_begins_10 : decode cX5_begins 10 = .ok (.iload_n 1, 1) := by decide +kernel
theorem dX5_begins_11 : decode cX5_begins 11 = .ok (.bipush 6, 2) := by decide +kernel
theorem dX5_begins_13 : decode cX5_begins 13 = .ok (.if_icmp .ge 74, 3) := by decide +kernel
theorem dX5_begins_16 : decode cX5_begins 16 = .ok (.iconst 0, 1) := by decide +kernel
theorem dX5_begins_17 : decode cX5_begins 17 = .ok (.istore_n 2, 1) := by decide +kernel
theorem dX5_begins_18 : decode cX5_begins 18 = .ok (.iload_n 2, 1) := by decide +kernel
theorem dX5_begins_19 : decode cX5_begins 19 = .ok (.bipush 18, 2) := by decide +kernel
theorem dX5_begins_21 : decode cX5_begins 21 = .ok (.if_icmp .ge 42, 3) := by decide +kernel
theorem dX5_begins_24 : decode cX5_begins 24 = .ok (.aload_n 0, 1) := by decide +kernel
theorem dX5_begins_25 : decode cX5_begins 25 = .ok (.iload_n 1, 1) := by decide +kernel
theorem dX5_begins_26 : decode cX5_begins 26 = .ok (.iload_n 2, 1) := by decide +kernel
theorem dX5_begins_27 : decode cX5_begins 27 = .ok (.iload_n 2, 1) := by decide +kernel
theorem dX5_begins_28 : decode cX5_begins 28 = .ok (.iconst 5, 1) := by decide +kernel
theorem dX5_begins_29 : decode cX5_begins 29 = .ok (.if_icmp .ge 24, 3) := by decide +kernel
theorem dX5_begins_32 : decode cX5_begins 32 = .ok (.iload_n 1, 1) := by decide +kernel
theorem dX5_begins_33 : decode cX5_begins 33 = .ok (.aload_n 0, 1) := by decide +kernel
theorem dX5_begins_34 : decode cX5_begins 34 = .ok (.getfield 37, 3) := by decide +kernel
theorem dX5_begins_37 : decode cX5_begins 37 = .ok (.if_icmp .ge 16, 3) := by decide +kernel
theorem dX5_begins_40 : decode cX5_begins 40 = .ok (.aload_n 0, 1) := by decide +kernel
theorem dX5_begins_41 : decode cX5_begins 41 = .ok (.getfield 31, 3) := by decide +kernel
theorem dX5_begins_44 : decode cX5_begins 44 = .ok (.iconst 5, 1) := by decide +kernel
theorem dX5_begins_45 : decode cX5_begins 45 = .ok (.iload_n 1, 1) := by decide +kernel
theorem dX5_begins_46 : decode cX5_begins 46 = .ok (.imul, 1) := by decide +kernel
theorem dX5_begins_47 : decode cX5_begins 47 = .ok (.iload_n 2, 1) := by decide +kernel
theorem dX5_begins_48 : decode cX5_begins 48 = .ok (.iadd, 1) := by decide +kernel
theorem dX5_begins_49 : decode cX5_begins 49 = .ok (.iaload, 1) := by decide +kernel
theorem dX5_begins_50 : decode cX5_begins 50 = .ok (.goto 4, 3) := by decide +kernel
theorem dX5_begins_53 : decode cX5_begins 53 = .ok (.iconst 0, 1) := by decide +kernel
theorem dX5_begins_54 : decode cX5_begins 54 = .ok (.invokevirtual 47, 3) := by decide +kernel
theorem dX5_begins_57 : decode cX5_begins 57 = .ok (.iinc 2 1, 3) := by decide +kernel
theorem dX5_begins_60 : decode cX5_begins 60 = .ok (.goto (-42), 3) := by decide +kernel
theorem dX5_begins_63 : decode cX5_begins 63 = .ok (.aload_n 0, 1) := by decide +kernel
theorem dX5_begins_64 : decode cX5_begins 64 = .ok (.iload_n 1, 1) := by decide +kernel
theorem dX5_begins_65 : decode cX5_begins 65 = .ok (.bipush 11, 2) := by decide +kernel
theorem dX5_begins_67 : decode cX5_begins 67 = .ok (.bipush (-4), 2) := by decide +kernel
theorem dX5_begins_69 : decode cX5_begins 69 = .ok (.invokevirtual 47, 3) := by decide +kernel
theorem dX5_begins_72 : decode cX5_begins 72 = .ok (.aload_n 0, 1) := by decide +kernel
theorem dX5_begins_73 : decode cX5_begins 73 = .ok (.iload_n 1, 1) := by decide +kernel
theorem dX5_begins_74 : decode cX5_begins 74 = .ok (.bipush 14, 2) := by decide +kernel
theorem dX5_begins_76 : decode cX5_begins 76 = .ok (.bipush (-4), 2) := by decide +kernel
theorem dX5_begins_78 : decode cX5_begins 78 = .ok (.invokevirtual 47, 3) := by decide +kernel
theorem dX5_begins_81 : decode cX5_begins 81 = .ok (.iinc 1 1, 3) := by decide +kernel
theorem dX5_begins_84 : decode cX5_begins 84 = .ok (.goto (-74), 3) := by decide +kernel
theorem dX5_begins_87 : decode cX5_begins 87 = .ok (.aload_n 0, 1) := by decide +kernel
theorem dX5_begins_88 : decode cX5_begins 88 = .ok (.iconst 0, 1) := by decide +kernel
theorem dX5_begins_89 : decode cX5_begins 89 = .ok (.putfield 51, 3) := by decide +kernel
theorem dX5_begins_92 : decode cX5_begins 92 = .ok (.aload_n 0, 1) := by decide +kernel
theorem dX5_begins_93 : decode cX5_begins 93 = .ok (.iconst 0, 1) := by decide +kernel
theorem dX5_begins_94 : decode cX5_begins 94 = .ok (.putfield 54, 3) := by decide +kernel
theorem dX5_begins_97 : decode cX5_begins 97 = .ok (.aload_n 0, 1) := by decide +kernel
theorem dX5_begins_98 : decode cX5_begins 98 = .ok (.iconst 0, 1) := by decide +kernel
theorem dX5_begins_99 : decode cX5_begins 99 = .ok (.putfield 57, 3) := by decide +kernel
theorem dX5_begins_102 : decode cX5_begins 102 = .ok (.aload_n 0, 1) := by decide +kernel
theorem dX5_begins_103 : decode cX5_begins 103 = .ok (.bipush (-4), 2) := by decide +kernel
theorem dX5_begins_105 : decode cX5_begins 105 = .ok (.putfield 60, 3) := by decide +kernel
theorem dX5_begins_108 : decode cX5_begins 108 = .ok (.aload_n 0, 1) := by decide +kernel
theorem dX5_begins_109 : decode cX5_begins 109 = .ok (.iconst 0, 1) := by decide +kernel
theorem dX5_begins_110 : decode cX5_begins 110 = .ok (.putfield 63, 3) := by decide +kernel
theorem dX5_begins_113 : decode cX5_begins 113 = .ok (.aload_n 0, 1) := by decide +kernel
theorem dX5_begins_114 : decode cX5_begins 114 = .ok (.iconst 0, 1) := by decide +kernel
theorem dX5_begins_115 : decode cX5_begins 115 = .ok (.putfield 66, 3) := by decide +kernel
theorem dX5_begins_118 : decode cX5_begins 118 = .ok (.iconst 0, 1) := by decide +kernel
theorem dX5_begins_119 : decode cX5_begins 119 = .ok (.istore_n 1, 1) := by decide +kernel
theorem dX5_begins_120 : decode cX5_begins 120 = .ok (.iload_n 1, 1) := by decide +kernel
theorem dX5_begins_121 : decode cX5_begins 121 = .ok (.bipush 8, 2) := by decide +kernel
theorem dX5_begins_123 : decode cX5_begins 123 = .ok (.if_icmp .ge 16, 3) := by decide +kernel
theorem dX5_begins_126 : decode cX5_begins 126 = .ok (.aload_n 0, 1) := by decide +kernel
theorem dX5_begins_127 : decode cX5_begins 127 = .ok (.getfield 19, 3) := by decide +kernel
theorem dX5_begins_130 : decode cX5_begins 130 = .ok (.iload_n 1, 1) := by decide +kernel
theorem dX5_begins_131 : decode cX5_begins 131 = .ok (.iconst 0, 1) := by decide +kernel
theorem dX5_begins_132 : decode cX5_begins 132 = .ok (.iastore, 1) := by decide +kernel
theorem dX5_begins_133 : decode cX5_begins 133 = .ok (.iinc 1 1, 3) := by decide +kernel
theorem dX5_begins_136 : decode cX5_begins 136 = .ok (.goto (-16), 3) := by decide +kernel
theorem dX5_begins_139 : decode cX5_begins 139 = .ok (.return_, 1) := by decide +kernel
theorem dX5_letterAt_0 : decode cX5_letterAt 0 = .ok (.iload_n 1, 1) := by decide +kernel
theorem dX5_letterAt_1 : decode cX5_letterAt 1 = .ok (.aload_n 0, 1) := by decide +kernel
theorem dX5_letterAt_2 : decode cX5_letterAt 2 = .ok (.getfield 69, 3) := by decide +kernel
theorem dX5_letterAt_5 : decode cX5_letterAt 5 = .ok (.if_icmp .ge 12, 3) := by decide +kernel
theorem dX5_letterAt_8 : decode cX5_letterAt 8 = .ok (.aload_n 0, 1) := by decide +kernel
theorem dX5_letterAt_9 : decode cX5_letterAt 9 = .ok (.getfield 7, 3) := by decide +kernel
theorem dX5_letterAt_12 : decode cX5_letterAt 12 = .ok (.iload_n 1, 1) := by decide +kernel
theorem dX5_letterAt_13 : decode cX5_letterAt 13 = .ok (.iaload, 1) := by decide +kernel
theorem dX5_letterAt_14 : decode cX5_letterAt 14 = .ok (.goto 4, 3) := by decide +kernel
theorem dX5_letterAt_17 : decode cX5_letterAt 17 = .ok (.iconst 0, 1) := by decide +kernel
theorem dX5_letterAt_18 : decode cX5_letterAt 18 = .ok (.ireturn, 1) := by decide +kernel
theorem dX5_number_0 : decode cX5_number 0 = .ok (.iload_n 1, 1) := by decide +kernel
theorem dX5_number_1 : decode cX5_number 1 = .ok (.istore 4, 2) := by decide +kernel
theorem dX5_number_3 : decode cX5_number 3 = .ok (.aload_n 0, 1) := by decide +kernel
theorem dX5_number_4 : decode cX5_number 4 = .ok (.iconst 0, 1) := by decide +kernel
theorem dX5_number_5 : decode cX5_number 5 = .ok (.putfield 72, 3) := by decide +kernel
theorem dX5_number_8 : decode cX5_number 8 = .ok (.aload_n 0, 1) := by decide +kernel
theorem dX5_number_9 : decode cX5_number 9 = .ok (.iload 4, 2) := by decide +kernel
theorem dX5_number_11 : decode cX5_number 11 = .ok (.invokevirtual 75, 3) := by decide +kernel
theorem dX5_number_14 : decode cX5_number 14 = .ok (.bipush 48, 2) := by decide +kernel
theorem dX5_number_16 : decode cX5_number 16 = .ok (.if_icmp .lt 49, 3) := by decide +kernel
theorem dX5_number_19 : decode cX5_number 19 = .ok (.aload_n 0, 1) := by decide +kernel
theorem dX5_number_20 : decode cX5_number 20 = .ok (.iload 4, 2) := by decide +kernel
theorem dX5_number_22 : decode cX5_number 22 = .ok (.invokevirtual 75, 3) := by decide +kernel
theorem dX5_number_25 : decode cX5_number 25 = .ok (.bipush 57, 2) := by decide +kernel
theorem dX5_number_27 : decode cX5_number 27 = .ok (.if_icmp .gt 38, 3) := by decide +kernel
theorem dX5_number_30 : decode cX5_number 30 = .ok (.iload 4, 2) := by decide +kernel
theorem dX5_number_32 : decode cX5_number 32 = .ok (.iload_n 1, 1) := by decide +kernel
theorem dX5_number_33 : decode cX5_number 33 = .ok (.iconst 2, 1) := by decide +kernel
theorem dX5_number_34 : decode cX5_number 34 = .ok (.iadd, 1) := by decide +kernel
theorem dX5_number_35 : decode cX5_number 35 = .ok (.if_icmp .ge 30, 3) := by decide +kernel
theorem dX5_number_38 : decode cX5_number 38 = .ok (.aload_n 0, 1) := by decide +kernel
theorem dX5_number_39 : decode cX5_number 39 = .ok (.bipush 10, 2) := by decide +kernel
theorem dX5_number_41 : decode cX5_number 41 = .ok (.aload_n 0, 1) := by decide +kernel
theorem dX5_number_42 : decode cX5_number 42 = .ok (.getfield 72, 3) := by decide +kernel
theorem dX5_number_45 : decode cX5_number 45 = .ok (.imul, 1) := by decide +kernel
theorem dX5_number_46 : decode cX5_number 46 = .ok (.aload_n 0, 1) := by decide +kernel
theorem dX5_number_47 : decode cX5_number 47 = .ok (.iload 4, 2) := by decide +kernel
theorem dX5_number_49 : decode cX5_number 49 = .ok (.invokevirtual 75, 3) := by decide +kernel
theorem dX5_number_52 : decode cX5_number 52 = .ok (.iadd, 1) := by decide +kernel
theorem dX5_number_53 : decode cX5_number 53 = .ok (.bipush 48, 2) := by decide +kernel
theorem dX5_number_55 : decode cX5_number 55 = .ok (.isub, 1) := by decide +kernel
theorem dX5_number_56 : decode cX5_number 56 = .ok (.putfield 72, 3) := by decide +kernel
theorem dX5_number_59 : decode cX5_number 59 = .ok (.iinc 4 1, 3) := by decide +kernel
theorem dX5_number_62 : decode cX5_number 62 = .ok (.goto (-54), 3) := by decide +kernel
theorem dX5_number_65 : decode cX5_number 65 = .ok (.aload_n 0, 1) := by decide +kernel
theorem dX5_number_66 : decode cX5_number 66 = .ok (.iload 4, 2) := by decide +kernel
theorem dX5_number_68 : decode cX5_number 68 = .ok (.putfield 79, 3) := by decide +kernel
theorem dX5_number_71 : decode cX5_number 71 = .ok (.iload 4, 2) := by decide +kernel
theorem dX5_number_73 : decode cX5_number 73 = .ok (.iload_n 1, 1) := by decide +kernel
theorem dX5_number_74 : decode cX5_number 74 = .ok (.if_icmp .le 19, 3) := by decide +kernel
theorem dX5_number_77 : decode cX5_number 77 = .ok (.aload_n 0, 1) := by decide +kernel
theorem dX5_number_78 : decode cX5_number 78 = .ok (.getfield 72, 3) := by decide +kernel
theorem dX5_number_81 : decode cX5_number 81 = .ok (.iload_n 2, 1) := by decide +kernel
theorem dX5_number_82 : decode cX5_number 82 = .ok (.iload_n 3, 1) := by decide +kernel
theorem dX5_number_83 : decode cX5_number 83 = .ok (.invokestatic 82, 3) := by decide +kernel
theorem dX5_number_86 : decode cX5_number 86 = .ok (.ifCond .eq 7, 3) := by decide +kernel
theorem dX5_number_89 : decode cX5_number 89 = .ok (.iconst 1, 1) := by decide +kernel
theorem dX5_number_90 : decode cX5_number 90 = .ok (.goto 4, 3) := by decide +kernel
theorem dX5_number_93 : decode cX5_number 93 = .ok (.iconst 0, 1) := by decide +kernel
theorem dX5_number_94 : decode cX5_number 94 = .ok (.ireturn, 1) := by decide +kernel
theorem dX5_highest_0 : decode cX5_highest 0 = .ok (.iload_n 0, 1) := by decide +kernel
theorem dX5_highest_1 : decode cX5_highest 1 = .ok (.ifCond .ne 7, 3) := by decide +kernel
theorem dX5_highest_4 : decode cX5_highest 4 = .ok (.iconst 2, 1) := by decide +kernel
theorem dX5_highest_5 : decode cX5_highest 5 = .ok (.goto 35, 3) := by decide +kernel
theorem dX5_highest_8 : decode cX5_highest 8 = .ok (.iload_n 0, 1) := by decide +kernel
theorem dX5_highest_9 : decode cX5_highest 9 = .ok (.iconst 1, 1) := by decide +kernel
theorem dX5_highest_10 : decode cX5_highest 10 = .ok (.if_icmp .ne 8, 3) := by decide +kernel
theorem dX5_highest_13 : decode cX5_highest 13 = .ok (.bipush 30, 2) := by decide +kernel
theorem dX5_highest_15 : decode cX5_highest 15 = .ok (.goto 25, 3) := by decide +kernel
theorem dX5_highest_18 : decode cX5_highest 18 = .ok (.iload_n 0, 1) := by decide +kernel
theorem dX5_highest_19 : decode cX5_highest 19 = .ok (.iconst 2, 1) := by decide +kernel
theorem dX5_highest_20 : decode cX5_highest 20 = .ok (.if_icmp .ne 8, 3) := by decide +kernel
theorem dX5_highest_23 : decode cX5_highest 23 = .ok (.bipush 31, 2) := by decide +kernel
theorem dX5_highest_25 : decode cX5_highest 25 = .ok (.goto 15, 3) := by decide +kernel
theorem dX5_highest_28 : decode cX5_highest 28 = .ok (.iload_n 0, 1) := by decide +kernel
theorem dX5_highest_29 : decode cX5_highest 29 = .ok (.iconst 3, 1) := by decide +kernel
theorem dX5_highest_30 : decode cX5_highest 30 = .ok (.if_icmp .ne 8, 3) := by decide +kernel
theorem dX5_highest_33 : decode cX5_highest 33 = .ok (.bipush 9, 2) := by decide +kernel
theorem dX5_highest_35 : decode cX5_highest 35 = .ok (.goto 5, 3) := by decide +kernel
theorem dX5_highest_38 : decode cX5_highest 38 = .ok (.bipush 60, 2) := by decide +kernel
theorem dX5_highest_40 : decode cX5_highest 40 = .ok (.ireturn, 1) := by decide +kernel
theorem dX5_readsItem_0 : decode cX5_readsItem 0 = .ok (.aload_n 0, 1) := by decide +kernel
theorem dX5_readsItem_1 : decode cX5_readsItem 1 = .ok (.iload_n 1, 1) := by decide +kernel
theorem dX5_readsItem_2 : decode cX5_readsItem 2 = .ok (.invokevirtual 75, 3) := by decide +kernel
theorem dX5_readsItem_5 : decode cX5_readsItem 5 = .ok (.bipush 100, 2) := by decide +kernel
theorem dX5_readsItem_7 : decode cX5_readsItem 7 = .ok (.if_icmp .ne 12, 3) := by decide +kernel
theorem dX5_readsItem_10 : decode cX5_readsItem 10 = .ok (.aload_n 0, 1) := by decide +kernel
theorem dX5_readsItem_11 : decode cX5_readsItem 11 = .ok (.getfield 37, 3) := by decide +kernel
theorem dX5_readsItem_14 : decode cX5_readsItem 14 = .ok (.bipush 6, 2) := by decide +kernel
theorem dX5_readsItem_16 : decode cX5_readsItem 16 = .ok (.if_icmp .ne 5, 3) := by decide +kernel
theorem dX5_readsItem_19 : decode cX5_readsItem 19 = .ok (.iconst 0, 1) := by decide +kernel
theorem dX5_readsItem_20 : decode cX5_readsItem 20 = .ok (.ireturn, 1) := by decide +kernel
theorem dX5_readsItem_21 : decode cX5_readsItem 21 = .ok (.aload_n 0, 1) := by decide +kernel
theorem dX5_readsItem_22 : decode cX5_readsItem 22 = .ok (.iload_n 1, 1) := by decide +kernel
theorem dX5_readsItem_23 : decode cX5_readsItem 23 = .ok (.putfield 79, 3) := by decide +kernel
theorem dX5_readsItem_26 : decode cX5_readsItem 26 = .ok (.iconst 5, 1) := by decide +kernel
theorem dX5_readsItem_27 : decode cX5_readsItem 27 = .ok (.aload_n 0, 1) := by decide +kernel
theorem dX5_readsItem_28 : decode cX5_readsItem 28 = .ok (.getfield 37, 3) := by decide +kernel
theorem dX5_readsItem_31 : decode cX5_readsItem 31 = .ok (.imul, 1) := by decide +kernel
theorem dX5_readsItem_32 : decode cX5_readsItem 32 = .ok (.istore_n 2, 1) := by decide +kernel
theorem dX5_readsItem_33 : decode cX5_readsItem 33 = .ok (.iconst 0, 1) := by decide +kernel
theorem dX5_readsItem_34 : decode cX5_readsItem 34 = .ok (.istore_n 3, 1) := by decide +kernel
theorem dX5_readsItem_35 : decode cX5_readsItem 35 = .ok (.iload_n 3, 1) := by decide +kernel
theorem dX5_readsItem_36 : decode cX5_readsItem 36 = .ok (.iconst 5, 1) := by decide +kernel
theorem dX5_readsItem_37 : decode cX5_readsItem 37 = .ok (.if_icmp .ge 67, 3) := by decide +kernel
theorem dX5_readsItem_40 : decode cX5_readsItem 40 = .ok (.iload_n 3, 1) := by decide +kernel
theorem dX5_readsItem_41 : decode cX5_readsItem 41 = .ok (.ifCond .le 16, 3) := by decide +kernel
theorem dX5_readsItem_44 : decode cX5_readsItem 44 = .ok (.aload_n 0, 1) := by decide +kernel
theorem dX5_readsItem_45 : decode cX5_readsItem 45 = .ok (.aload_n 0, 1) := by decide +kernel
theorem dX5_readsItem_46 : decode cX5_readsItem 46 = .ok (.getfield 79, 3) := by decide +kernel
theorem dX5_readsItem_49 : decode cX5_readsItem 49 = .ok (.invokevirtual 75, 3) := by decide +kernel
theorem dX5_readsItem_52 : decode cX5_readsItem 52 = .ok (.bipush 44, 2) := by decide +kernel
theorem dX5_readsItem_54 : decode cX5_readsItem 54 = .ok (.if_icmp .ne 30, 3) := by decide +kernel
theorem dX5_readsItem_57 : decode cX5_readsItem 57 = .ok (.aload_n 0, 1) := by decide +kernel
theorem dX5_readsItem_58 : decode cX5_readsItem 58 = .ok (.aload_n 0, 1) := by decide +kernel
theorem dX5_readsItem_59 : decode cX5_readsItem 59 = .ok (.getfield 79, 3) := by decide +kernel
theorem dX5_readsItem_62 : decode cX5_readsItem 62 = .ok (.iconst 1, 1) := by decide +kernel
theorem dX5_readsItem_63 : decode cX5_readsItem 63 = .ok (.iadd, 1) := by decide +kernel
theorem dX5_readsItem_64 : decode cX5_readsItem 64 = .ok (.iload_n 3, 1) := by decide +kernel
theorem dX5_readsItem_65 : decode cX5_readsItem 65 = .ok (.iconst 3, 1) := by decide +kernel
theorem dX5_readsItem_66 : decode cX5_readsItem 66 = .ok (.if_icmp .ne 7, 3) := by decide +kernel
theorem dX5_readsItem_69 : decode cX5_readsItem 69 = .ok (.iconst 1, 1) := by decide +kernel
theorem dX5_readsItem_70 : decode cX5_readsItem 70 = .ok (.goto 4, 3) := by decide +kernel
theorem dX5_readsItem_73 : decode cX5_readsItem 73 = .ok (.iconst 0, 1) := by decide +kernel
theorem dX5_readsItem_74 : decode cX5_readsItem 74 = .ok (.iload_n 3, 1) := by decide +kernel
theorem dX5_readsItem_75 : decode cX5_readsItem 75 = .ok (.invokestatic 86, 3) := by decide +kernel
theorem dX5_readsItem_78 : decode cX5_readsItem 78 = .ok (.invokevirtual 89, 3) := by decide +kernel
theorem dX5_readsItem_81 : decode cX5_readsItem 81 = .ok (.ifCond .ne 5, 3) := by decide +kernel
theorem dX5_readsItem_84 : decode cX5_readsItem 84 = .ok (.iconst 0, 1) := by decide +kernel
theorem dX5_readsItem_85 : decode cX5_readsItem 85 = .ok (.ireturn, 1) := by decide +kernel
theorem dX5_readsItem_86 : decode cX5_readsItem 86 = .ok (.aload_n 0, 1) := by decide +kernel
theorem dX5_readsItem_87 : decode cX5_readsItem 87 = .ok (.getfield 31, 3) := by decide +kernel
theorem dX5_readsItem_90 : decode cX5_readsItem 90 = .ok (.iload_n 2, 1) := by decide +kernel
theorem dX5_readsItem_91 : decode cX5_readsItem 91 = .ok (.iload_n 3, 1) := by decide +kernel
theorem dX5_readsItem_92 : decode cX5_readsItem 92 = .ok (.iadd, 1) := by decide +kernel
theorem dX5_readsItem_93 : decode cX5_readsItem 93 = .ok (.aload_n 0, 1) := by decide +kernel
theorem dX5_readsItem_94 : decode cX5_readsItem 94 = .ok (.getfield 72, 3) := by decide +kernel
theorem dX5_readsItem_97 : decode cX5_readsItem 97 = .ok (.iastore, 1) := by decide +kernel
theorem dX5_readsItem_98 : decode cX5_readsItem 98 = .ok (.iinc 3 1, 3) := by decide +kernel
theorem dX5_readsItem_101 : decode cX5_readsItem 101 = .ok (.goto (-66), 3) := by decide +kernel
theorem dX5_readsItem_104 : decode cX5_readsItem 104 = .ok (.aload_n 0, 1) := by decide +kernel
theorem dX5_readsItem_105 : decode cX5_readsItem 105 = .ok (.aload_n 0, 1) := by decide +kernel
theorem dX5_readsItem_106 : decode cX5_readsItem 106 = .ok (.getfield 79, 3) := by decide +kernel
theorem dX5_readsItem_109 : decode cX5_readsItem 109 = .ok (.invokevirtual 75, 3) := by decide +kernel
theorem dX5_readsItem_112 : decode cX5_readsItem 112 = .ok (.bipush 59, 2) := by decide +kernel
theorem dX5_readsItem_114 : decode cX5_readsItem 114 = .ok (.if_icmp .ne 7, 3) := by decide +kernel
theorem dX5_readsItem_117 : decode cX5_readsItem 117 = .ok (.iconst 1, 1) := by decide +kernel
theorem dX5_readsItem_118 : decode cX5_readsItem 118 = .ok (.goto 4, 3) := by decide +kernel
theorem dX5_readsItem_121 : decode cX5_readsItem 121 = .ok (.iconst 0, 1) := by decide +kernel
theorem dX5_readsItem_122 : decode cX5_readsItem 122 = .ok (.istore_n 3, 1) := by decide +kernel
theorem dX5_readsItem_123 : decode cX5_readsItem 123 = .ok (.iconst 0, 1) := by decide +kernel
theorem dX5_readsItem_124 : decode cX5_readsItem 124 = .ok (.istore 4, 2) := by decide +kernel
theorem dX5_readsItem_126 : decode cX5_readsItem 126 = .ok (.iload 4, 2) := by decide +kernel
theorem dX5_readsItem_128 : decode cX5_readsItem 128 = .ok (.aload_n 0, 1) := by decide +kernel
theorem dX5_readsItem_129 : decode cX5_readsItem 129 = .ok (.getfield 37, 3) := by decide +kernel
theorem dX5_readsItem_132 : decode cX5_readsItem 132 = .ok (.if_icmp .ge 104, 3) := by decide +kernel
theorem dX5_readsItem_135 : decode cX5_readsItem 135 = .ok (.aload_n 0, 1) := by decide +kernel
theorem dX5_readsItem_136 : decode cX5_readsItem 136 = .ok (.getfield 31, 3) := by decide +kernel
theorem dX5_readsItem_139 : decode cX5_readsItem 139 = .ok (.iconst 5, 1) := by decide +kernel
theorem dX5_readsItem_140 : decode cX5_readsItem 140 = .ok (.iload 4, 2) := by decide +kernel
theorem dX5_readsItem_142 : decode cX5_readsItem 142 = .ok (.imul, 1) := by decide +kernel
theorem dX5_readsItem_143 : decode cX5_readsItem 143 = .ok (.iconst 2, 1) := by decide +kernel
theorem dX5_readsItem_144 : decode cX5_readsItem 144 = .ok (.iadd, 1) := by decide +kernel
theorem dX5_readsItem_145 : decode cX5_readsItem 145 = .ok (.iaload, 1) := by decide +kernel
theorem dX5_readsItem_146 : decode cX5_readsItem 146 = .ok (.aload_n 0, 1) := by decide +kernel
theorem dX5_readsItem_147 : decode cX5_readsItem 147 = .ok (.getfield 31, 3) := by decide +kernel
theorem dX5_readsItem_150 : decode cX5_readsItem 150 = .ok (.iload_n 2, 1) := by decide +kernel
theorem dX5_readsItem_151 : decode cX5_readsItem 151 = .ok (.iconst 2, 1) := by decide +kernel
theorem dX5_readsItem_152 : decode cX5_readsItem 152 = .ok (.iadd, 1) := by decide +kernel
theorem dX5_readsItem_153 : decode cX5_readsItem 153 = .ok (.iaload, 1) := by decide +kernel
theorem dX5_readsItem_154 : decode cX5_readsItem 154 = .ok (.if_icmp .eq 36, 3) := by decide +kernel
theorem dX5_readsItem_157 : decode cX5_readsItem 157 = .ok (.aload_n 0, 1) := by decide +kernel
theorem dX5_readsItem_158 : decode cX5_readsItem 158 = .ok (.getfield 31, 3) := by decide +kernel
theorem dX5_readsItem_161 : decode cX5_readsItem 161 = .ok (.iconst 5, 1) := by decide +kernel
theorem dX5_readsItem_162 : decode cX5_readsItem 162 = .ok (.iload 4, 2) := by decide +kernel
theorem dX5_readsItem_164 : decode cX5_readsItem 164 = .ok (.imul, 1) := by decide +kernel
theorem dX5_readsItem_165 : decode cX5_readsItem 165 = .ok (.iconst 2, 1) := by decide +kernel
theorem dX5_readsItem_166 : decode cX5_readsItem 166 = .ok (.iadd, 1) := by decide +kernel
theorem dX5_readsItem_167 : decode cX5_readsItem 167 = .ok (.iaload, 1) := by decide +kernel
theorem dX5_readsItem_168 : decode cX5_readsItem 168 = .ok (.bipush 31, 2) := by decide +kernel
theorem dX5_readsItem_170 : decode cX5_readsItem 170 = .ok (.if_icmp .ge 20, 3) := by decide +kernel
theorem dX5_readsItem_173 : decode cX5_readsItem 173 = .ok (.aload_n 0, 1) := by decide +kernel
theorem dX5_readsItem_174 : decode cX5_readsItem 174 = .ok (.getfield 31, 3) := by decide +kernel
theorem dX5_readsItem_177 : decode cX5_readsItem 177 = .ok (.iload_n 2, 1) := by decide +kernel
theorem dX5_readsItem_178 : decode cX5_readsItem 178 = .ok (.iconst 2, 1) := by decide +kernel
theorem dX5_readsItem_179 : decode cX5_readsItem 179 = .ok (.iadd, 1) := by decide +kernel
theorem dX5_readsItem_180 : decode cX5_readsItem 180 = .ok (.iaload, 1) := by decide +kernel
theorem dX5_readsItem_181 : decode cX5_readsItem 181 = .ok (.bipush 31, 2) := by decide +kernel
theorem dX5_readsItem_183 : decode cX5_readsItem 183 = .ok (.if_icmp .ge 7, 3) := by decide +kernel
theorem dX5_readsItem_186 : decode cX5_readsItem 186 = .ok (.iconst 1, 1) := by decide +kernel
theorem dX5_readsItem_187 : decode cX5_readsItem 187 = .ok (.goto 4, 3) := by decide +kernel
theorem dX5_readsItem_190 : decode cX5_readsItem 190 = .ok (.iconst 0, 1) := by decide +kernel
theorem dX5_readsItem_191 : decode cX5_readsItem 191 = .ok (.istore 5, 2) := by decide +kernel
theorem dX5_readsItem_193 : decode cX5_readsItem 193 = .ok (.iload_n 3, 1) := by decide +kernel
theorem dX5_readsItem_194 : decode cX5_readsItem 194 = .ok (.ifCond .eq 34, 3) := by decide +kernel
theorem dX5_readsItem_197 : decode cX5_readsItem 197 = .ok (.aload_n 0, 1) := by decide +kernel
theorem dX5_readsItem_198 : decode cX5_readsItem 198 = .ok (.getfield 31, 3) := by decide +kernel
theorem dX5_readsItem_201 : decode cX5_readsItem 201 = .ok (.iconst 5, 1) := by decide +kernel
theorem dX5_readsItem_202 : decode cX5_readsItem 202 = .ok (.iload 4, 2) := by decide +kernel
theorem dX5_readsItem_204 : decode cX5_readsItem 204 = .ok (.imul, 1) := by decide +kernel
theorem dX5_readsItem_205 : decode cX5_readsItem 205 = .ok (.iconst 1, 1) := by decide +kernel
theorem dX5_readsItem_206 : decode cX5_readsItem 206 = .ok (.iadd, 1) := by decide +kernel
theorem dX5_readsItem_207 : decode cX5_readsItem 207 = .ok (.iaload, 1) := by decide +kernel
theorem dX5_readsItem_208 : decode cX5_readsItem 208 = .ok (.aload_n 0, 1) := by decide +kernel
theorem dX5_readsItem_209 : decode cX5_readsItem 209 = .ok (.getfield 31, 3) := by decide +kernel
theorem dX5_readsItem_212 : decode cX5_readsItem 212 = .ok (.iload_n 2, 1) := by decide +kernel
theorem dX5_readsItem_213 : decode cX5_readsItem 213 = .ok (.iconst 1, 1) := by decide +kernel
theorem dX5_readsItem_214 : decode cX5_readsItem 214 = .ok (.iadd, 1) := by decide +kernel
theorem dX5_readsItem_215 : decode cX5_readsItem 215 = .ok (.iaload, 1) := by decide +kernel
theorem dX5_readsItem_216 : decode cX5_readsItem 216 = .ok (.if_icmp .ne 8, 3) := by decide +kernel
theorem dX5_readsItem_219 : decode cX5_readsItem 219 = .ok (.iload 5, 2) := by decide +kernel
theorem dX5_readsItem_221 : decode cX5_readsItem 221 = .ok (.ifCond .eq 7, 3) := by decide +kernel
theorem dX5_readsItem_224 : decode cX5_readsItem 224 = .ok (.iconst 1, 1) := by decide +kernel
theorem dX5_readsItem_225 : decode cX5_readsItem 225 = .ok (.goto 4, 3) := by decide +kernel
theorem dX5_readsItem_228 : decode cX5_readsItem 228 = .ok (.iconst 0, 1) := by decide +kernel
theorem dX5_readsItem_229 : decode cX5_readsItem 229 = .ok (.istore_n 3, 1) := by decide +kernel
theorem dX5_readsItem_230 : decode cX5_readsItem 230 = .ok (.iinc 4 1, 3) := by decide +kernel
theorem dX5_readsItem_233 : decode cX5_readsItem 233 = .ok (.goto (-107), 3) := by decide +kernel
theorem dX5_readsItem_236 : decode cX5_readsItem 236 = .ok (.aload_n 0, 1) := by decide +kernel
theorem dX5_readsItem_237 : decode cX5_readsItem 237 = .ok (.dup, 1) := by decide +kernel
theorem dX5_readsItem_238 : decode cX5_readsItem 238 = .ok (.getfield 37, 3) := by decide +kernel
theorem dX5_readsItem_241 : decode cX5_readsItem 241 = .ok (.iconst 1, 1) := by decide +kernel
theorem dX5_readsItem_242 : decode cX5_readsItem 242 = .ok (.iadd, 1) := by decide +kernel
theorem dX5_readsItem_243 : decode cX5_readsItem 243 = .ok (.putfield 37, 3) := by decide +kernel
theorem dX5_readsItem_246 : decode cX5_readsItem 246 = .ok (.iload_n 3, 1) := by decide +kernel
theorem dX5_readsItem_247 : decode cX5_readsItem 247 = .ok (.ireturn, 1) := by decide +kernel
theorem dX5_reads_0 : decode cX5_reads 0 = .ok (.aload_n 0, 1) := by decide +kernel
theorem dX5_reads_1 : decode cX5_reads 1 = .ok (.iconst 0, 1) := by decide +kernel
theorem dX5_reads_2 : decode cX5_reads 2 = .ok (.putfield 37, 3) := by decide +kernel
theorem dX5_reads_5 : decode cX5_reads 5 = .ok (.iconst 0, 1) := by decide +kernel
theorem dX5_reads_6 : decode cX5_reads 6 = .ok (.istore_n 1, 1) := by decide +kernel
theorem dX5_reads_7 : decode cX5_reads 7 = .ok (.iload_n 1, 1) := by decide +kernel
theorem dX5_reads_8 : decode cX5_reads 8 = .ok (.aload_n 0, 1) := by decide +kernel
theorem dX5_reads_9 : decode cX5_reads 9 = .ok (.getfield 69, 3) := by decide +kernel
theorem dX5_reads_12 : decode cX5_reads 12 = .ok (.if_icmp .ge 23, 3) := by decide +kernel
theorem dX5_reads_15 : decode cX5_reads 15 = .ok (.aload_n 0, 1) := by decide +kernel
theorem dX5_reads_16 : decode cX5_reads 16 = .ok (.iload_n 1, 1) := by decide +kernel
theorem dX5_reads_17 : decode cX5_reads 17 = .ok (.invokevirtual 92, 3) := by decide +kernel
theorem dX5_reads_20 : decode cX5_reads 20 = .ok (.ifCond .ne 5, 3) := by decide +kernel
theorem dX5_reads_23 : decode cX5_reads 23 = .ok (.iload_n 1, 1) := by decide +kernel
theorem dX5_reads_24 : decode cX5_reads 24 = .ok (.ireturn, 1) := by decide +kernel
theorem dX5_reads_25 : decode cX5_reads 25 = .ok (.aload_n 0, 1) := by decide +kernel
theorem dX5_reads_26 : decode cX5_reads 26 = .ok (.getfield 79, 3) := by decide +kernel
theorem dX5_reads_29 : decode cX5_reads 29 = .ok (.iconst 1, 1) := by decide +kernel
theorem dX5_reads_30 : decode cX5_reads 30 = .ok (.iadd, 1) := by decide +kernel
theorem dX5_reads_31 : decode cX5_reads 31 = .ok (.istore_n 1, 1) := by decide +kernel
theorem dX5_reads_32 : decode cX5_reads 32 = .ok (.goto (-25), 3) := by decide +kernel
theorem dX5_reads_35 : decode cX5_reads 35 = .ok (.bipush (-4), 2) := by decide +kernel
theorem dX5_reads_37 : decode cX5_reads 37 = .ok (.ireturn, 1) := by decide +kernel
theorem dX5_write_0 : decode cX5_write 0 = .ok (.iload_n 1, 1) := by decide +kernel
theorem dX5_write_1 : decode cX5_write 1 = .ok (.bipush 32, 2) := by decide +kernel
theorem dX5_write_3 : decode cX5_write 3 = .ok (.if_icmp .lt 9, 3) := by decide +kernel
theorem dX5_write_6 : decode cX5_write 6 = .ok (.iload_n 1, 1) := by decide +kernel
theorem dX5_write_7 : decode cX5_write 7 = .ok (.bipush 126, 2) := by decide +kernel
theorem dX5_write_9 : decode cX5_write 9 = .ok (.if_icmp .le 5, 3) := by decide +kernel
theorem dX5_write_12 : decode cX5_write 12 = .ok (.iconst (-1), 1) := by decide +kernel
theorem dX5_write_13 : decode cX5_write 13 = .ok (.ireturn, 1) := by decide +kernel
theorem dX5_write_14 : decode cX5_write 14 = .ok (.aload_n 0, 1) := by decide +kernel
theorem dX5_write_15 : decode cX5_write 15 = .ok (.getfield 69, 3) := by decide +kernel
theorem dX5_write_18 : decode cX5_write 18 = .ok (.sipush 200, 3) := by decide +kernel
theorem dX5_write_21 : decode cX5_write 21 = .ok (.if_icmp .ne 6, 3) := by decide +kernel
theorem dX5_write_24 : decode cX5_write 24 = .ok (.bipush (-3), 2) := by decide +kernel
theorem dX5_write_26 : decode cX5_write 26 = .ok (.ireturn, 1) := by decide +kernel
theorem dX5_write_27 : decode cX5_write 27 = .ok (.aload_n 0, 1) := by decide +kernel
theorem dX5_write_28 : decode cX5_write 28 = .ok (.getfield 7, 3) := by decide +kernel
theorem dX5_write_31 : decode cX5_write 31 = .ok (.aload_n 0, 1) := by decide +kernel
theorem dX5_write_32 : decode cX5_write 32 = .ok (.getfield 69, 3) := by decide +kernel
theorem dX5_write_35 : decode cX5_write 35 = .ok (.iload_n 1, 1) := by decide +kernel
theorem dX5_write_36 : decode cX5_write 36 = .ok (.iastore, 1) := by decide +kernel
theorem dX5_write_37 : decode cX5_write 37 = .ok (.aload_n 0, 1) := by decide +kernel
theorem dX5_write_38 : decode cX5_write 38 = .ok (.dup, 1) := by decide +kernel
theorem dX5_write_39 : decode cX5_write 39 = .ok (.getfield 69, 3) := by decide +kernel
theorem dX5_write_42 : decode cX5_write 42 = .ok (.iconst 1, 1) := by decide +kernel
theorem dX5_write_43 : decode cX5_write 43 = .ok (.iadd, 1) := by decide +kernel
theorem dX5_write_44 : decode cX5_write 44 = .ok (.putfield 69, 3) := by decide +kernel
theorem dX5_write_47 : decode cX5_write 47 = .ok (.aload_n 0, 1) := by decide +kernel
theorem dX5_write_48 : decode cX5_write 48 = .ok (.getfield 69, 3) := by decide +kernel
theorem dX5_write_51 : decode cX5_write 51 = .ok (.ireturn, 1) := by decide +kernel
theorem dX5_wipe_0 : decode cX5_wipe 0 = .ok (.aload_n 0, 1) := by decide +kernel
theorem dX5_wipe_1 : decode cX5_wipe 1 = .ok (.getfield 69, 3) := by decide +kernel
theorem dX5_wipe_4 : decode cX5_wipe 4 = .ok (.istore_n 1, 1) := by decide +kernel
theorem dX5_wipe_5 : decode cX5_wipe 5 = .ok (.aload_n 0, 1) := by decide +kernel
theorem dX5_wipe_6 : decode cX5_wipe 6 = .ok (.iconst 0, 1) := by decide +kernel
theorem dX5_wipe_7 : decode cX5_wipe 7 = .ok (.putfield 69, 3) := by decide +kernel
theorem dX5_wipe_10 : decode cX5_wipe 10 = .ok (.iload_n 1, 1) := by decide +kernel
theorem dX5_wipe_11 : decode cX5_wipe 11 = .ok (.ireturn, 1) := by decide +kernel
theorem dX5_fault_0 : decode cX5_fault 0 = .ok (.aload_n 0, 1) := by decide +kernel
theorem dX5_fault_1 : decode cX5_fault 1 = .ok (.invokevirtual 96, 3) := by decide +kernel
theorem dX5_fault_4 : decode cX5_fault 4 = .ok (.ireturn, 1) := by decide +kernel
theorem dX5_lay_0 : decode cX5_lay 0 = .ok (.aload_n 0, 1) := by decide +kernel
theorem dX5_lay_1 : decode cX5_lay 1 = .ok (.invokevirtual 96, 3) := by decide +kernel
theorem dX5_lay_4 : decode cX5_lay 4 = .ok (.bipush (-4), 2) := by decide +kernel
theorem dX5_lay_6 : decode cX5_lay 6 = .ok (.if_icmp .ne 20, 3) := by decide +kernel
theorem dX5_lay_9 : decode cX5_lay 9 = .ok (.aload_n 0, 1) := by decide +kernel
theorem dX5_lay_10 : decode cX5_lay 10 = .ok (.getfield 37, 3) := by decide +kernel
theorem dX5_lay_13 : decode cX5_lay 13 = .ok (.ifCond .eq 13, 3) := by decide +kernel
theorem dX5_lay_16 : decode cX5_lay 16 = .ok (.aload_n 0, 1) := by decide +kernel
theorem dX5_lay_17 : decode cX5_lay 17 = .ok (.getfield 31, 3) := by decide +kernel
theorem dX5_lay_20 : decode cX5_lay 20 = .ok (.iconst 0, 1) := by decide +kernel
theorem dX5_lay_21 : decode cX5_lay 21 = .ok (.iaload, 1) := by decide +kernel
theorem dX5_lay_22 : decode cX5_lay 22 = .ok (.iconst 2, 1) := by decide +kernel
theorem dX5_lay_23 : decode cX5_lay 23 = .ok (.if_icmp .eq 6, 3) := by decide +kernel
theorem dX5_lay_26 : decode cX5_lay 26 = .ok (.bipush (-2), 2) := by decide +kernel
theorem dX5_lay_28 : decode cX5_lay 28 = .ok (.ireturn, 1) := by decide +kernel
theorem dX5_lay_29 : decode cX5_lay 29 = .ok (.aload_n 0, 1) := by decide +kernel
theorem dX5_lay_30 : decode cX5_lay 30 = .ok (.invokevirtual 41, 3) := by decide +kernel
theorem dX5_lay_33 : decode cX5_lay 33 = .ok (.aload_n 0, 1) := by decide +kernel
theorem dX5_lay_34 : decode cX5_lay 34 = .ok (.getfield 44, 3) := by decide +kernel
theorem dX5_lay_37 : decode cX5_lay 37 = .ok (.ireturn, 1) := by decide +kernel
theorem dX5_comes_0 : decode cX5_comes 0 = .ok (.iconst 0, 1) := by decide +kernel
theorem dX5_comes_1 : decode cX5_comes 1 = .ok (.istore_n 1, 1) := by decide +kernel
theorem dX5_comes_2 : decode cX5_comes 2 = .ok (.iload_n 1, 1) := by decide +kernel
theorem dX5_comes_3 : decode cX5_comes 3 = .ok (.aload_n 0, 1) := by decide +kernel
theorem dX5_comes_4 : decode cX5_comes 4 = .ok (.getfield 44, 3) := by decide +kernel
theorem dX5_comes_7 : decode cX5_comes 7 = .ok (.if_icmp .ge 124, 3) := by decide +kernel
theorem dX5_comes_10 : decode cX5_comes 10 = .ok (.aload_n 0, 1) := by decide +kernel
theorem dX5_comes_11 : decode cX5_comes 11 = .ok (.iload_n 1, 1) := by decide +kernel
theorem dX5_comes_12 : decode cX5_comes 12 = .ok (.bipush 14, 2) := by decide +kernel
theorem dX5_comes_14 : decode cX5_comes 14 = .ok (.invokevirtual 100, 3) := by decide +kernel
theorem dX5_comes_17 : decode cX5_comes 17 = .ok (.aload_n 0, 1) := by decide +kernel
theorem dX5_comes_18 : decode cX5_comes 18 = .ok (.getfield 57, 3) := by decide +kernel
theorem dX5_comes_21 : decode cX5_comes 21 = .ok (.if_icmp .ne 104, 3) := by decide +kernel
theorem dX5_comes_24 : decode cX5_comes 24 = .ok (.bipush 7, 2) := by decide +kernel
theorem dX5_comes_26 : decode cX5_comes 26 = .ok (.aload_n 0, 1) := by decide +kernel
theorem dX5_comes_27 : decode cX5_comes 27 = .ok (.iload_n 1, 1) := by decide +kernel
theorem dX5_comes_28 : decode cX5_comes 28 = .ok (.bipush 13, 2) := by decide +kernel
theorem dX5_comes_30 : decode cX5_comes 30 = .ok (.invokevirtual 100, 3) := by decide +kernel
theorem dX5_comes_33 : decode cX5_comes 33 = .ok (.imul, 1) := by decide +kernel
theorem dX5_comes_34 : decode cX5_comes 34 = .ok (.iconst 3, 1) := by decide +kernel
theorem dX5_comes_35 : decode cX5_comes 35 = .ok (.aload_n 0, 1) := by decide +kernel
theorem dX5_comes_36 : decode cX5_comes 36 = .ok (.iload_n 1, 1) := by decide +kernel
theorem dX5_comes_37 : decode cX5_comes 37 = .ok (.iconst 1, 1) := by decide +kernel
theorem dX5_comes_38 : decode cX5_comes 38 = .ok (.invokevirtual 100, 3) := by decide +kernel
theorem dX5_comes_41 : decode cX5_comes 41 = .ok (.imul, 1) := by decide +kernel
theorem dX5_comes_42 : decode cX5_comes 42 = .ok (.iadd, 1) := by decide +kernel
theorem dX5_comes_43 : decode cX5_comes 43 = .ok (.bipush 100, 2) := by decide +kernel
theorem dX5_comes_45 : decode cX5_comes 45 = .ok (.irem, 1) := by decide +kernel
theorem dX5_comes_46 : decode cX5_comes 46 = .ok (.istore_n 2, 1) := by decide +kernel
theorem dX5_comes_47 : decode cX5_comes 47 = .ok (.aload_n 0, 1) := by decide +kernel
theorem dX5_comes_48 : decode cX5_comes 48 = .ok (.getfield 16, 3) := by decide +kernel
theorem dX5_comes_51 : decode cX5_comes 51 = .ok (.bipush 24, 2) := by decide +kernel
theorem dX5_comes_53 : decode cX5_comes 53 = .ok (.iload_n 1, 1) := by decide +kernel
theorem dX5_comes_54 : decode cX5_comes 54 = .ok (.imul, 1) := by decide +kernel
theorem dX5_comes_55 : decode cX5_comes 55 = .ok (.bipush 48, 2) := by decide +kernel
theorem dX5_comes_57 : decode cX5_comes 57 = .ok (.iload_n 2, 1) := by decide +kernel
theorem dX5_comes_58 : decode cX5_comes 58 = .ok (.bipush 10, 2) := by decide +kernel
theorem dX5_comes_60 : decode cX5_comes 60 = .ok (.idiv, 1) := by decide +kernel
theorem dX5_comes_61 : decode cX5_comes 61 = .ok (.iadd, 1) := by decide +kernel
theorem dX5_comes_62 : decode cX5_comes 62 = .ok (.iastore, 1) := by decide +kernel
theorem dX5_comes_63 : decode cX5_comes 63 = .ok (.aload_n 0, 1) := by decide +kernel
theorem dX5_comes_64 : decode cX5_comes 64 = .ok (.getfield 16, 3) := by decide +kernel
theorem dX5_comes_67 : decode cX5_comes 67 = .ok (.bipush 24, 2) := by decide +kernel
theorem dX5_comes_69 : decode cX5_comes 69 = .ok (.iload_n 1, 1) := by decide +kernel
theorem dX5_comes_70 : decode cX5_comes 70 = .ok (.imul, 1) := by decide +kernel
theorem dX5_comes_71 : decode cX5_comes 71 = .ok (.iconst 1, 1) := by decide +kernel
theorem dX5_comes_72 : decode cX5_comes 72 = .ok (.iadd, 1) := by decide +kernel
theorem dX5_comes_73 : decode cX5_comes 73 = .ok (.bipush 48, 2) := by decide +kernel
theorem dX5_comes_75 : decode cX5_comes 75 = .ok (.iload_n 2, 1) := by decide +kernel
theorem dX5_comes_76 : decode cX5_comes 76 = .ok (.bipush 10, 2) := by decide +kernel
theorem dX5_comes_78 : decode cX5_comes 78 = .ok (.irem, 1) := by decide +kernel
theorem dX5_comes_79 : decode cX5_comes 79 = .ok (.iadd, 1) := by decide +kernel
theorem dX5_comes_80 : decode cX5_comes 80 = .ok (.iastore, 1) := by decide +kernel
theorem dX5_comes_81 : decode cX5_comes 81 = .ok (.aload_n 0, 1) := by decide +kernel
theorem dX5_comes_82 : decode cX5_comes 82 = .ok (.iload_n 1, 1) := by decide +kernel
theorem dX5_comes_83 : decode cX5_comes 83 = .ok (.bipush 15, 2) := by decide +kernel
theorem dX5_comes_85 : decode cX5_comes 85 = .ok (.iconst 2, 1) := by decide +kernel
theorem dX5_comes_86 : decode cX5_comes 86 = .ok (.invokevirtual 47, 3) := by decide +kernel
theorem dX5_comes_89 : decode cX5_comes 89 = .ok (.aload_n 0, 1) := by decide +kernel
theorem dX5_comes_90 : decode cX5_comes 90 = .ok (.iload_n 1, 1) := by decide +kernel
theorem dX5_comes_91 : decode cX5_comes 91 = .ok (.bipush 9, 2) := by decide +kernel
theorem dX5_comes_93 : decode cX5_comes 93 = .ok (.bipush 16, 2) := by decide +kernel
theorem dX5_comes_95 : decode cX5_comes 95 = .ok (.invokevirtual 47, 3) := by decide +kernel
theorem dX5_comes_98 : decode cX5_comes 98 = .ok (.aload_n 0, 1) := by decide +kernel
theorem dX5_comes_99 : decode cX5_comes 99 = .ok (.iload_n 1, 1) := by decide +kernel
theorem dX5_comes_100 : decode cX5_comes 100 = .ok (.bipush 10, 2) := by decide +kernel
theorem dX5_comes_102 : decode cX5_comes 102 = .ok (.iconst 1, 1) := by decide +kernel
theorem dX5_comes_103 : decode cX5_comes 103 = .ok (.invokevirtual 47, 3) := by decide +kernel
theorem dX5_comes_106 : decode cX5_comes 106 = .ok (.aload_n 0, 1) := by decide +kernel
theorem dX5_comes_107 : decode cX5_comes 107 = .ok (.iload_n 1, 1) := by decide +kernel
theorem dX5_comes_108 : decode cX5_comes 108 = .ok (.bipush 14, 2) := by decide +kernel
theorem dX5_comes_110 : decode cX5_comes 110 = .ok (.bipush (-4), 2) := by decide +kernel
theorem dX5_comes_112 : decode cX5_comes 112 = .ok (.invokevirtual 47, 3) := by decide +kernel
theorem dX5_comes_115 : decode cX5_comes 115 = .ok (.aload_n 0, 1) := by decide +kernel
theorem dX5_comes_116 : decode cX5_comes 116 = .ok (.getfield 19, 3) := by decide +kernel
theorem dX5_comes_119 : decode cX5_comes 119 = .ok (.iconst 3, 1) := by decide +kernel
theorem dX5_comes_120 : decode cX5_comes 120 = .ok (.dup2, 1) := by decide +kernel
theorem dX5_comes_121 : decode cX5_comes 121 = .ok (.iaload, 1) := by decide +kernel
theorem dX5_comes_122 : decode cX5_comes 122 = .ok (.iconst 1, 1) := by decide +kernel
theorem dX5_comes_123 : decode cX5_comes 123 = .ok (.iadd, 1) := by decide +kernel
theorem dX5_comes_124 : decode cX5_comes 124 = .ok (.iastore, 1) := by decide +kernel
theorem dX5_comes_125 : decode cX5_comes 125 = .ok (.iinc 1 1, 3) := by decide +kernel
theorem dX5_comes_128 : decode cX5_comes 128 = .ok (.goto (-126), 3) := by decide +kernel
theorem dX5_comes_131 : decode cX5_comes 131 = .ok (.return_, 1) := by decide +kernel
theorem dX5_ticks_0 : decode cX5_ticks 0 = .ok (.iconst 0, 1) := by decide +kernel
theorem dX5_ticks_1 : decode cX5_ticks 1 = .ok (.istore_n 2, 1) := by decide +kernel
theorem dX5_ticks_2 : decode cX5_ticks 2 = .ok (.iload_n 2, 1) := by decide +kernel
theorem dX5_ticks_3 : decode cX5_ticks 3 = .ok (.iload_n 1, 1) := by decide +kernel
theorem dX5_ticks_4 : decode cX5_ticks 4 = .ok (.if_icmp .ge 23, 3) := by decide +kernel
theorem dX5_ticks_7 : decode cX5_ticks 7 = .ok (.aload_n 0, 1) := by decide +kernel
theorem dX5_ticks_8 : decode cX5_ticks 8 = .ok (.dup, 1) := by decide +kernel
theorem dX5_ticks_9 : decode cX5_ticks 9 = .ok (.getfield 57, 3) := by decide +kernel
theorem dX5_ticks_12 : decode cX5_ticks 12 = .ok (.iconst 1, 1) := by decide +kernel
theorem dX5_ticks_13 : decode cX5_ticks 13 = .ok (.iadd, 1) := by decide +kernel
theorem dX5_ticks_14 : decode cX5_ticks 14 = .ok (.putfield 57, 3) := by decide +kernel
theorem dX5_ticks_17 : decode cX5_ticks 17 = .ok (.aload_n 0, 1) := by decide +kernel
theorem dX5_ticks_18 : decode cX5_ticks 18 = .ok (.invokevirtual 104, 3) := by decide +kernel
theorem dX5_ticks_21 : decode cX5_ticks 21 = .ok (.iinc 2 1, 3) := by decide +kernel
theorem dX5_ticks_24 : decode cX5_ticks 24 = .ok (.goto (-22), 3) := by decide +kernel
theorem dX5_ticks_27 : decode cX5_ticks 27 = .ok (.return_, 1) := by decide +kernel
theorem dX5_tick_0 : decode cX5_tick 0 = .ok (.iload_n 1, 1) := by decide +kernel
theorem dX5_tick_1 : decode cX5_tick 1 = .ok (.iconst 1, 1) := by decide +kernel
theorem dX5_tick_2 : decode cX5_tick 2 = .ok (.sipush 500, 3) := by decide +kernel
theorem dX5_tick_5 : decode cX5_tick 5 = .ok (.invokestatic 82, 3) := by decide +kernel
theorem dX5_tick_8 : decode cX5_tick 8 = .ok (.ifCond .ne 5, 3) := by decide +kernel
theorem dX5_tick_11 : decode cX5_tick 11 = .ok (.iconst (-1), 1) := by decide +kernel
theorem dX5_tick_12 : decode cX5_tick 12 = .ok (.ireturn, 1) := by decide +kernel
theorem dX5_tick_13 : decode cX5_tick 13 = .ok (.aload_n 0, 1) := by decide +kernel
theorem dX5_tick_14 : decode cX5_tick 14 = .ok (.iload_n 1, 1) := by decide +kernel
theorem dX5_tick_15 : decode cX5_tick 15 = .ok (.invokevirtual 107, 3) := by decide +kernel
theorem dX5_tick_18 : decode cX5_tick 18 = .ok (.aload_n 0, 1) := by decide +kernel
theorem dX5_tick_19 : decode cX5_tick 19 = .ok (.getfield 57, 3) := by decide +kernel
theorem dX5_tick_22 : decode cX5_tick 22 = .ok (.ireturn, 1) := by decide +kernel
theorem dX5_clears_0 : decode cX5_clears 0 = .ok (.aload_n 0, 1) := by decide +kernel
theorem dX5_clears_1 : decode cX5_clears 1 = .ok (.iload_n 1, 1) := by decide +kernel
theorem dX5_clears_2 : decode cX5_clears 2 = .ok (.bipush 9, 2) := by decide +kernel
theorem dX5_clears_4 : decode cX5_clears 4 = .ok (.iconst 0, 1) := by decide +kernel
theorem dX5_clears_5 : decode cX5_clears 5 = .ok (.invokevirtual 47, 3) := by decide +kernel
theorem dX5_clears_8 : decode cX5_clears 8 = .ok (.aload_n 0, 1) := by decide +kernel
theorem dX5_clears_9 : decode cX5_clears 9 = .ok (.iload_n 1, 1) := by decide +kernel
theorem dX5_clears_10 : decode cX5_clears 10 = .ok (.bipush 10, 2) := by decide +kernel
theorem dX5_clears_12 : decode cX5_clears 12 = .ok (.iconst 0, 1) := by decide +kernel
theorem dX5_clears_13 : decode cX5_clears 13 = .ok (.invokevirtual 47, 3) := by decide +kernel
theorem dX5_clears_16 : decode cX5_clears 16 = .ok (.aload_n 0, 1) := by decide +kernel
theorem dX5_clears_17 : decode cX5_clears 17 = .ok (.iload_n 1, 1) := by decide +kernel
theorem dX5_clears_18 : decode cX5_clears 18 = .ok (.bipush 14, 2) := by decide +kernel
theorem dX5_clears_20 : decode cX5_clears 20 = .ok (.bipush (-4), 2) := by decide +kernel
theorem dX5_clears_22 : decode cX5_clears 22 = .ok (.invokevirtual 47, 3) := by decide +kernel
theorem dX5_clears_25 : decode cX5_clears 25 = .ok (.aload_n 0, 1) := by decide +kernel
theorem dX5_clears_26 : decode cX5_clears 26 = .ok (.iload_n 1, 1) := by decide +kernel
theorem dX5_clears_27 : decode cX5_clears 27 = .ok (.bipush 15, 2) := by decide +kernel
theorem dX5_clears_29 : decode cX5_clears 29 = .ok (.iconst 0, 1) := by decide +kernel
theorem dX5_clears_30 : decode cX5_clears 30 = .ok (.invokevirtual 47, 3) := by decide +kernel
theorem dX5_clears_33 : decode cX5_clears 33 = .ok (.aload_n 0, 1) := by decide +kernel
theorem dX5_clears_34 : decode cX5_clears 34 = .ok (.iload_n 1, 1) := by decide +kernel
theorem dX5_clears_35 : decode cX5_clears 35 = .ok (.bipush 16, 2) := by decide +kernel
theorem dX5_clears_37 : decode cX5_clears 37 = .ok (.iconst 0, 1) := by decide +kernel
theorem dX5_clears_38 : decode cX5_clears 38 = .ok (.invokevirtual 47, 3) := by decide +kernel
theorem dX5_clears_41 : decode cX5_clears 41 = .ok (.return_, 1) := by decide +kernel
theorem dX5_triggers_0 : decode cX5_triggers 0 = .ok (.aload_n 0, 1) := by decide +kernel
theorem dX5_triggers_1 : decode cX5_triggers 1 = .ok (.iload_n 1, 1) := by decide +kernel
theorem dX5_triggers_2 : decode cX5_triggers 2 = .ok (.bipush 13, 2) := by decide +kernel
theorem dX5_triggers_4 : decode cX5_triggers 4 = .ok (.aload_n 0, 1) := by decide +kernel
theorem dX5_triggers_5 : decode cX5_triggers 5 = .ok (.iload_n 1, 1) := by decide +kernel
theorem dX5_triggers_6 : decode cX5_triggers 6 = .ok (.bipush 13, 2) := by decide +kernel
theorem dX5_triggers_8 : decode cX5_triggers 8 = .ok (.invokevirtual 100, 3) := by decide +kernel
theorem dX5_triggers_11 : decode cX5_triggers 11 = .ok (.sipush 999, 3) := by decide +kernel
theorem dX5_triggers_14 : decode cX5_triggers 14 = .ok (.if_icmp .ge 15, 3) := by decide +kernel
theorem dX5_triggers_17 : decode cX5_triggers 17 = .ok (.aload_n 0, 1) := by decide +kernel
theorem dX5_triggers_18 : decode cX5_triggers 18 = .ok (.iload_n 1, 1) := by decide +kernel
theorem dX5_triggers_19 : decode cX5_triggers 19 = .ok (.bipush 13, 2) := by decide +kernel
theorem dX5_triggers_21 : decode cX5_triggers 21 = .ok (.invokevirtual 100, 3) := by decide +kernel
theorem dX5_triggers_24 : decode cX5_triggers 24 = .ok (.iconst 1, 1) := by decide +kernel
theorem dX5_triggers_25 : decode cX5_triggers 25 = .ok (.iadd, 1) := by decide +kernel
theorem dX5_triggers_26 : decode cX5_triggers 26 = .ok (.goto 6, 3) := by decide +kernel
theorem dX5_triggers_29 : decode cX5_triggers 29 = .ok (.sipush 999, 3) := by decide +kernel
theorem dX5_triggers_32 : decode cX5_triggers 32 = .ok (.invokevirtual 47, 3) := by decide +kernel
theorem dX5_triggers_35 : decode cX5_triggers 35 = .ok (.aload_n 0, 1) := by decide +kernel
theorem dX5_triggers_36 : decode cX5_triggers 36 = .ok (.getfield 19, 3) := by decide +kernel
theorem dX5_triggers_39 : decode cX5_triggers 39 = .ok (.bipush 7, 2) := by decide +kernel
theorem dX5_triggers_41 : decode cX5_triggers 41 = .ok (.dup2, 1) := by decide +kernel
theorem dX5_triggers_42 : decode cX5_triggers 42 = .ok (.iaload, 1) := by decide +kernel
theorem dX5_triggers_43 : decode cX5_triggers 43 = .ok (.iconst 1, 1) := by decide +kernel
theorem dX5_triggers_44 : decode cX5_triggers 44 = .ok (.iadd, 1) := by decide +kernel
theorem dX5_triggers_45 : decode cX5_triggers 45 = .ok (.iastore, 1) := by decide +kernel
theorem dX5_triggers_46 : decode cX5_triggers 46 = .ok (.aload_n 0, 1) := by decide +kernel
theorem dX5_triggers_47 : decode cX5_triggers 47 = .ok (.iload_n 1, 1) := by decide +kernel
theorem dX5_triggers_48 : decode cX5_triggers 48 = .ok (.iconst 0, 1) := by decide +kernel
theorem dX5_triggers_49 : decode cX5_triggers 49 = .ok (.invokevirtual 100, 3) := by decide +kernel
theorem dX5_triggers_52 : decode cX5_triggers 52 = .ok (.iconst 1, 1) := by decide +kernel
theorem dX5_triggers_53 : decode cX5_triggers 53 = .ok (.if_icmp .ne 21, 3) := by decide +kernel
theorem dX5_triggers_56 : decode cX5_triggers 56 = .ok (.aload_n 0, 1) := by decide +kernel
theorem dX5_triggers_57 : decode cX5_triggers 57 = .ok (.iload_n 1, 1) := by decide +kernel
theorem dX5_triggers_58 : decode cX5_triggers 58 = .ok (.bipush 14, 2) := by decide +kernel
theorem dX5_triggers_60 : decode cX5_triggers 60 = .ok (.aload_n 0, 1) := by decide +kernel
theorem dX5_triggers_61 : decode cX5_triggers 61 = .ok (.getfield 57, 3) := by decide +kernel
theorem dX5_triggers_64 : decode cX5_triggers 64 = .ok (.aload_n 0, 1) := by decide +kernel
theorem dX5_triggers_65 : decode cX5_triggers 65 = .ok (.iload_n 1, 1) := by decide +kernel
theorem dX5_triggers_66 : decode cX5_triggers 66 = .ok (.iconst 4, 1) := by decide +kernel
theorem dX5_triggers_67 : decode cX5_triggers 67 = .ok (.invokevirtual 100, 3) := by decide +kernel
theorem dX5_triggers_70 : decode cX5_triggers 70 = .ok (.iadd, 1) := by decide +kernel
theorem dX5_triggers_71 : decode cX5_triggers 71 = .ok (.invokevirtual 47, 3) := by decide +kernel
theorem dX5_triggers_74 : decode cX5_triggers 74 = .ok (.return_, 1) := by decide +kernel
theorem dX5_toListener_0 : decode cX5_toListener 0 = .ok (.iload_n 2, 1) := by decide +kernel
theorem dX5_toListener_1 : decode cX5_toListener 1 = .ok (.iconst 1, 1) := by decide +kernel
theorem dX5_toListener_2 : decode cX5_toListener 2 = .ok (.if_icmp .ne 14, 3) := by decide +kernel
theorem dX5_toListener_5 : decode cX5_toListener 5 = .ok (.aload_n 0, 1) := by decide +kernel
theorem dX5_toListener_6 : decode cX5_toListener 6 = .ok (.iload_n 1, 1) := by decide +kernel
theorem dX5_toListener_7 : decode cX5_toListener 7 = .ok (.bipush 7, 2) := by decide +kernel
theorem dX5_toListener_9 : decode cX5_toListener 9 = .ok (.iconst 0, 1) := by decide +kernel
theorem dX5_toListener_10 : decode cX5_toListener 10 = .ok (.invokevirtual 47, 3) := by decide +kernel
theorem dX5_toListener_13 : decode cX5_toListener 13 = .ok (.goto 27, 3) := by decide +kernel
theorem dX5_toListener_16 : decode cX5_toListener 16 = .ok (.iload_n 2, 1) := by decide +kernel
theorem dX5_toListener_17 : decode cX5_toListener 17 = .ok (.iconst 4, 1) := by decide +kernel
theorem dX5_toListener_18 : decode cX5_toListener 18 = .ok (.if_icmp .ne 11, 3) := by decide +kernel
theorem dX5_toListener_21 : decode cX5_toListener 21 = .ok (.aload_n 0, 1) := by decide +kernel
theorem dX5_toListener_22 : decode cX5_toListener 22 = .ok (.iload_n 1, 1) := by decide +kernel
theorem dX5_toListener_23 : decode cX5_toListener 23 = .ok (.invokevirtual 111, 3) := by decide +kernel
theorem dX5_toListener_26 : decode cX5_toListener 26 = .ok (.goto 14, 3) := by decide +kernel
theorem dX5_toListener_29 : decode cX5_toListener 29 = .ok (.iload_n 2, 1) := by decide +kernel
theorem dX5_toListener_30 : decode cX5_toListener 30 = .ok (.bipush 8, 2) := by decide +kernel
theorem dX5_toListener_32 : decode cX5_toListener 32 = .ok (.if_icmp .ne 8, 3) := by decide +kernel
theorem dX5_toListener_35 : decode cX5_toListener 35 = .ok (.aload_n 0, 1) := by decide +kernel
theorem dX5_toListener_36 : decode cX5_toListener 36 = .ok (.iload_n 1, 1) := by decide +kernel
theorem dX5_toListener_37 : decode cX5_toListener 37 = .ok (.invokevirtual 114, 3) := by decide +kernel
theorem dX5_toListener_40 : decode cX5_toListener 40 = .ok (.return_, 1) := by decide +kernel
theorem dX5_talker_0 : decode cX5_talker 0 = .ok (.iconst 0, 1) := by decide +kernel
theorem dX5_talker_1 : decode cX5_talker 1 = .ok (.istore_n 1, 1) := by decide +kernel
theorem dX5_talker_2 : decode cX5_talker 2 = .ok (.iload_n 1, 1) := by decide +kernel
theorem dX5_talker_3 : decode cX5_talker 3 = .ok (.aload_n 0, 1) := by decide +kernel
theorem dX5_talker_4 : decode cX5_talker 4 = .ok (.getfield 44, 3) := by decide +kernel
theorem dX5_talker_7 : decode cX5_talker 7 = .ok (.if_icmp .ge 21, 3) := by decide +kernel
theorem dX5_talker_10 : decode cX5_talker 10 = .ok (.aload_n 0, 1) := by decide +kernel
theorem dX5_talker_11 : decode cX5_talker 11 = .ok (.iload_n 1, 1) := by decide +kernel
theorem dX5_talker_12 : decode cX5_talker 12 = .ok (.iconst 5, 1) := by decide +kernel
theorem dX5_talker_13 : decode cX5_talker 13 = .ok (.invokevirtual 100, 3) := by decide +kernel
theorem dX5_talker_16 : decode cX5_talker 16 = .ok (.iconst 1, 1) := by decide +kernel
theorem dX5_talker_17 : decode cX5_talker 17 = .ok (.if_icmp .ne 5, 3) := by decide +kernel
theorem dX5_talker_20 : decode cX5_talker 20 = .ok (.iload_n 1, 1) := by decide +kernel
theorem dX5_talker_21 : decode cX5_talker 21 = .ok (.ireturn, 1) := by decide +kernel
theorem dX5_talker_22 : decode cX5_talker 22 = .ok (.iinc 1 1, 3) := by decide +kernel
theorem dX5_talker_25 : decode cX5_talker 25 = .ok (.goto (-23), 3) := by decide +kernel
theorem dX5_talker_28 : decode cX5_talker 28 = .ok (.bipush (-4), 2) := by decide +kernel
theorem dX5_talker_30 : decode cX5_talker 30 = .ok (.ireturn, 1) := by decide +kernel
theorem dX5_silences_0 : decode cX5_silences 0 = .ok (.iconst 0, 1) := by decide +kernel
theorem dX5_silences_1 : decode cX5_silences 1 = .ok (.istore_n 1, 1) := by decide +kernel
theorem dX5_silences_2 : decode cX5_silences 2 = .ok (.iload_n 1, 1) := by decide +kernel
theorem dX5_silences_3 : decode cX5_silences 3 = .ok (.aload_n 0, 1) := by decide +kernel
theorem dX5_silences_4 : decode cX5_silences 4 = .ok (.getfield 44, 3) := by decide +kernel
theorem dX5_silences_7 : decode cX5_silences 7 = .ok (.if_icmp .ge 16, 3) := by decide +kernel
theorem dX5_silences_10 : decode cX5_silences 10 = .ok (.aload_n 0, 1) := by decide +kernel
theorem dX5_silences_11 : decode cX5_silences 11 = .ok (.iload_n 1, 1) := by decide +kernel
theorem dX5_silences_12 : decode cX5_silences 12 = .ok (.iconst 5, 1) := by decide +kernel
theorem dX5_silences_13 : decode cX5_silences 13 = .ok (.iconst 0, 1) := by decide +kernel
theorem dX5_silences_14 : decode cX5_silences 14 = .ok (.invokevirtual 47, 3) := by decide +kernel
theorem dX5_silences_17 : decode cX5_silences 17 = .ok (.iinc 1 1, 3) := by decide +kernel
theorem dX5_silences_20 : decode cX5_silences 20 = .ok (.goto (-18), 3) := by decide +kernel
theorem dX5_silences_23 : decode cX5_silences 23 = .ok (.return_, 1) := by decide +kernel
theorem dX5_passes_0 : decode cX5_passes 0 = .ok (.aload_n 0, 1) := by decide +kernel
theorem dX5_passes_1 : decode cX5_passes 1 = .ok (.invokevirtual 117, 3) := by decide +kernel
theorem dX5_passes_4 : decode cX5_passes 4 = .ok (.istore_n 1, 1) := by decide +kernel
theorem dX5_passes_5 : decode cX5_passes 5 = .ok (.iload_n 1, 1) := by decide +kernel
theorem dX5_passes_6 : decode cX5_passes 6 = .ok (.ifCond .lt 44, 3) := by decide +kernel
theorem dX5_passes_9 : decode cX5_passes 9 = .ok (.aload_n 0, 1) := by decide +kernel
theorem dX5_passes_10 : decode cX5_passes 10 = .ok (.iload_n 1, 1) := by decide +kernel
theorem dX5_passes_11 : decode cX5_passes 11 = .ok (.iconst 0, 1) := by decide +kernel
theorem dX5_passes_12 : decode cX5_passes 12 = .ok (.invokevirtual 100, 3) := by decide +kernel
theorem dX5_passes_15 : decode cX5_passes 15 = .ok (.iconst 2, 1) := by decide +kernel
theorem dX5_passes_16 : decode cX5_passes 16 = .ok (.if_icmp .ne 34, 3) := by decide +kernel
theorem dX5_passes_19 : decode cX5_passes 19 = .ok (.iload_n 1, 1) := by decide +kernel
theorem dX5_passes_20 : decode cX5_passes 20 = .ok (.aload_n 0, 1) := by decide +kernel
theorem dX5_passes_21 : decode cX5_passes 21 = .ok (.getfield 51, 3) := by decide +kernel
theorem dX5_passes_24 : decode cX5_passes 24 = .ok (.if_icmp .eq 26, 3) := by decide +kernel
theorem dX5_passes_27 : decode cX5_passes 27 = .ok (.aload_n 0, 1) := by decide +kernel
theorem dX5_passes_28 : decode cX5_passes 28 = .ok (.iload_n 1, 1) := by decide +kernel
theorem dX5_passes_29 : decode cX5_passes 29 = .ok (.putfield 51, 3) := by decide +kernel
theorem dX5_passes_32 : decode cX5_passes 32 = .ok (.aload_n 0, 1) := by decide +kernel
theorem dX5_passes_33 : decode cX5_passes 33 = .ok (.iload_n 1, 1) := by decide +kernel
theorem dX5_passes_34 : decode cX5_passes 34 = .ok (.iconst 5, 1) := by decide +kernel
theorem dX5_passes_35 : decode cX5_passes 35 = .ok (.iconst 0, 1) := by decide +kernel
theorem dX5_passes_36 : decode cX5_passes 36 = .ok (.invokevirtual 47, 3) := by decide +kernel
theorem dX5_passes_39 : decode cX5_passes 39 = .ok (.aload_n 0, 1) := by decide +kernel
theorem dX5_passes_40 : decode cX5_passes 40 = .ok (.getfield 19, 3) := by decide +kernel
theorem dX5_passes_43 : decode cX5_passes 43 = .ok (.bipush 6, 2) := by decide +kernel
theorem dX5_passes_45 : decode cX5_passes 45 = .ok (.dup2, 1) := by decide +kernel
theorem dX5_passes_46 : decode cX5_passes 46 = .ok (.iaload, 1) := by decide +kernel
theorem dX5_passes_47 : decode cX5_passes 47 = .ok (.iconst 1, 1) := by decide +kernel
theorem dX5_passes_48 : decode cX5_passes 48 = .ok (.iadd, 1) := by decide +kernel
theorem dX5_passes_49 : decode cX5_passes 49 = .ok (.iastore, 1) := by decide +kernel
theorem dX5_passes_50 : decode cX5_passes 50 = .ok (.return_, 1) := by decide +kernel
theorem dX5_listens_0 : decode cX5_listens 0 = .ok (.aload_n 0, 1) := by decide +kernel
theorem dX5_listens_1 : decode cX5_listens 1 = .ok (.iload_n 1, 1) := by decide +kernel
theorem dX5_listens_2 : decode cX5_listens 2 = .ok (.bipush 6, 2) := by decide +kernel
theorem dX5_listens_4 : decode cX5_listens 4 = .ok (.iconst 1, 1) := by decide +kernel
theorem dX5_listens_5 : decode cX5_listens 5 = .ok (.invokevirtual 47, 3) := by decide +kernel
theorem dX5_listens_8 : decode cX5_listens 8 = .ok (.aload_n 0, 1) := by decide +kernel
theorem dX5_listens_9 : decode cX5_listens 9 = .ok (.iload_n 1, 1) := by decide +kernel
theorem dX5_listens_10 : decode cX5_listens 10 = .ok (.bipush 7, 2) := by decide +kernel
theorem dX5_listens_12 : decode cX5_listens 12 = .ok (.iconst 1, 1) := by decide +kernel
theorem dX5_listens_13 : decode cX5_listens 13 = .ok (.invokevirtual 47, 3) := by decide +kernel
theorem dX5_listens_16 : decode cX5_listens 16 = .ok (.return_, 1) := by decide +kernel
theorem dX5_addresses_0 : decode cX5_addresses 0 = .ok (.iconst 0, 1) := by decide +kernel
theorem dX5_addresses_1 : decode cX5_addresses 1 = .ok (.istore_n 3, 1) := by decide +kernel
theorem dX5_addresses_2 : decode cX5_addresses 2 = .ok (.iload_n 3, 1) := by decide +kernel
theorem dX5_addresses_3 : decode cX5_addresses 3 = .ok (.aload_n 0, 1) := by decide +kernel
theorem dX5_addresses_4 : decode cX5_addresses 4 = .ok (.getfield 44, 3) := by decide +kernel
theorem dX5_addresses_7 : decode cX5_addresses 7 = .ok (.if_icmp .ge 61, 3) := by decide +kernel
theorem dX5_addresses_10 : decode cX5_addresses 10 = .ok (.aload_n 0, 1) := by decide +kernel
theorem dX5_addresses_11 : decode cX5_addresses 11 = .ok (.iload_n 3, 1) := by decide +kernel
theorem dX5_addresses_12 : decode cX5_addresses 12 = .ok (.iconst 1, 1) := by decide +kernel
theorem dX5_addresses_13 : decode cX5_addresses 13 = .ok (.invokevirtual 100, 3) := by decide +kernel
theorem dX5_addresses_16 : decode cX5_addresses 16 = .ok (.iload_n 1, 1) := by decide +kernel
theorem dX5_addresses_17 : decode cX5_addresses 17 = .ok (.if_icmp .ne 45, 3) := by decide +kernel
theorem dX5_addresses_20 : decode cX5_addresses 20 = .ok (.aload_n 0, 1) := by decide +kernel
theorem dX5_addresses_21 : decode cX5_addresses 21 = .ok (.iload_n 3, 1) := by decide +kernel
theorem dX5_addresses_22 : decode cX5_addresses 22 = .ok (.iconst 2, 1) := by decide +kernel
theorem dX5_addresses_23 : decode cX5_addresses 23 = .ok (.invokevirtual 100, 3) := by decide +kernel
theorem dX5_addresses_26 : decode cX5_addresses 26 = .ok (.bipush 31, 2) := by decide +kernel
theorem dX5_addresses_28 : decode cX5_addresses 28 = .ok (.if_icmp .ge 14, 3) := by decide +kernel
theorem dX5_addresses_31 : decode cX5_addresses 31 = .ok (.aload_n 0, 1) := by decide +kernel
theorem dX5_addresses_32 : decode cX5_addresses 32 = .ok (.iload_n 3, 1) := by decide +kernel
theorem dX5_addresses_33 : decode cX5_addresses 33 = .ok (.bipush 17, 2) := by decide +kernel
theorem dX5_addresses_35 : decode cX5_addresses 35 = .ok (.iload_n 2, 1) := by decide +kernel
theorem dX5_addresses_36 : decode cX5_addresses 36 = .ok (.invokevirtual 47, 3) := by decide +kernel
theorem dX5_addresses_39 : decode cX5_addresses 39 = .ok (.goto 23, 3) := by decide +kernel
theorem dX5_addresses_42 : decode cX5_addresses 42 = .ok (.iload_n 2, 1) := by decide +kernel
theorem dX5_addresses_43 : decode cX5_addresses 43 = .ok (.iconst 1, 1) := by decide +kernel
theorem dX5_addresses_44 : decode cX5_addresses 44 = .ok (.if_icmp .ne 11, 3) := by decide +kernel
theorem dX5_addresses_47 : decode cX5_addresses 47 = .ok (.aload_n 0, 1) := by decide +kernel
theorem dX5_addresses_48 : decode cX5_addresses 48 = .ok (.iload_n 3, 1) := by decide +kernel
theorem dX5_addresses_49 : decode cX5_addresses 49 = .ok (.invokevirtual 120, 3) := by decide +kernel
theorem dX5_addresses_52 : decode cX5_addresses 52 = .ok (.goto 10, 3) := by decide +kernel
theorem dX5_addresses_55 : decode cX5_addresses 55 = .ok (.aload_n 0, 1) := by decide +kernel
theorem dX5_addresses_56 : decode cX5_addresses 56 = .ok (.iload_n 3, 1) := by decide +kernel
theorem dX5_addresses_57 : decode cX5_addresses 57 = .ok (.iconst 5, 1) := by decide +kernel
theorem dX5_addresses_58 : decode cX5_addresses 58 = .ok (.iconst 1, 1) := by decide +kernel
theorem dX5_addresses_59 : decode cX5_addresses 59 = .ok (.invokevirtual 47, 3) := by decide +kernel
theorem dX5_addresses_62 : decode cX5_addresses 62 = .ok (.iinc 3 1, 3) := by decide +kernel
theorem dX5_addresses_65 : decode cX5_addresses 65 = .ok (.goto (-63), 3) := by decide +kernel
theorem dX5_addresses_68 : decode cX5_addresses 68 = .ok (.return_, 1) := by decide +kernel
theorem dX5_seconds_0 : decode cX5_seconds 0 = .ok (.iconst 0, 1) := by decide +kernel
theorem dX5_seconds_1 : decode cX5_seconds 1 = .ok (.istore 4, 2) := by decide +kernel
theorem dX5_seconds_3 : decode cX5_seconds 3 = .ok (.iload 4, 2) := by decide +kernel
theorem dX5_seconds_5 : decode cX5_seconds 5 = .ok (.aload_n 0, 1) := by decide +kernel
theorem dX5_seconds_6 : decode cX5_seconds 6 = .ok (.getfield 44, 3) := by decide +kernel
theorem dX5_seconds_9 : decode cX5_seconds 9 = .ok (.if_icmp .ge 69, 3) := by decide +kernel
theorem dX5_seconds_12 : decode cX5_seconds 12 = .ok (.iload_n 2, 1) := by decide +kernel
theorem dX5_seconds_13 : decode cX5_seconds 13 = .ok (.iload 4, 2) := by decide +kernel
theorem dX5_seconds_15 : decode cX5_seconds 15 = .ok (.ishr, 1) := by decide +kernel
theorem dX5_seconds_16 : decode cX5_seconds 16 = .ok (.iconst 1, 1) := by decide +kernel
theorem dX5_seconds_17 : decode cX5_seconds 17 = .ok (.iand, 1) := by decide +kernel
theorem dX5_seconds_18 : decode cX5_seconds 18 = .ok (.iconst 1, 1) := by decide +kernel
theorem dX5_seconds_19 : decode cX5_seconds 19 = .ok (.if_icmp .ne 20, 3) := by decide +kernel
theorem dX5_seconds_22 : decode cX5_seconds 22 = .ok (.aload_n 0, 1) := by decide +kernel
theorem dX5_seconds_23 : decode cX5_seconds 23 = .ok (.iload 4, 2) := by decide +kernel
theorem dX5_seconds_25 : decode cX5_seconds 25 = .ok (.iconst 2, 1) := by decide +kernel
theorem dX5_seconds_26 : decode cX5_seconds 26 = .ok (.invokevirtual 100, 3) := by decide +kernel
theorem dX5_seconds_29 : decode cX5_seconds 29 = .ok (.iload_n 1, 1) := by decide +kernel
theorem dX5_seconds_30 : decode cX5_seconds 30 = .ok (.if_icmp .ne 9, 3) := by decide +kernel
theorem dX5_seconds_33 : decode cX5_seconds 33 = .ok (.aload_n 0, 1) := by decide +kernel
theorem dX5_seconds_34 : decode cX5_seconds 34 = .ok (.iload 4, 2) := by decide +kernel
theorem dX5_seconds_36 : decode cX5_seconds 36 = .ok (.invokevirtual 120, 3) := by decide +kernel
theorem dX5_seconds_39 : decode cX5_seconds 39 = .ok (.iload_n 3, 1) := by decide +kernel
theorem dX5_seconds_40 : decode cX5_seconds 40 = .ok (.iload 4, 2) := by decide +kernel
theorem dX5_seconds_42 : decode cX5_seconds 42 = .ok (.ishr, 1) := by decide +kernel
theorem dX5_seconds_43 : decode cX5_seconds 43 = .ok (.iconst 1, 1) := by decide +kernel
theorem dX5_seconds_44 : decode cX5_seconds 44 = .ok (.iand, 1) := by decide +kernel
theorem dX5_seconds_45 : decode cX5_seconds 45 = .ok (.iconst 1, 1) := by decide +kernel
theorem dX5_seconds_46 : decode cX5_seconds 46 = .ok (.if_icmp .ne 26, 3) := by decide +kernel
theorem dX5_seconds_49 : decode cX5_seconds 49 = .ok (.aload_n 0, 1) := by decide +kernel
theorem dX5_seconds_50 : decode cX5_seconds 50 = .ok (.iload 4, 2) := by decide +kernel
theorem dX5_seconds_52 : decode cX5_seconds 52 = .ok (.iconst 2, 1) := by decide +kernel
theorem dX5_seconds_53 : decode cX5_seconds 53 = .ok (.invokevirtual 100, 3) := by decide +kernel
theorem dX5_seconds_56 : decode cX5_seconds 56 = .ok (.iload_n 1, 1) := by decide +kernel
theorem dX5_seconds_57 : decode cX5_seconds 57 = .ok (.if_icmp .ne 15, 3) := by decide +kernel
theorem dX5_seconds_60 : decode cX5_seconds 60 = .ok (.aload_n 0, 1) := by decide +kernel
theorem dX5_seconds_61 : decode cX5_seconds 61 = .ok (.invokevirtual 123, 3) := by decide +kernel
theorem dX5_seconds_64 : decode cX5_seconds 64 = .ok (.aload_n 0, 1) := by decide +kernel
theorem dX5_seconds_65 : decode cX5_seconds 65 = .ok (.iload 4, 2) := by decide +kernel
theorem dX5_seconds_67 : decode cX5_seconds 67 = .ok (.iconst 5, 1) := by decide +kernel
theorem dX5_seconds_68 : decode cX5_seconds 68 = .ok (.iconst 1, 1) := by decide +kernel
theorem dX5_seconds_69 : decode cX5_seconds 69 = .ok (.invokevirtual 47, 3) := by decide +kernel
theorem dX5_seconds_72 : decode cX5_seconds 72 = .ok (.iinc 4 1, 3) := by decide +kernel
theorem dX5_seconds_75 : decode cX5_seconds 75 = .ok (.goto (-72), 3) := by decide +kernel
theorem dX5_seconds_78 : decode cX5_seconds 78 = .ok (.return_, 1) := by decide +kernel
theorem dX5_prepares_0 : decode cX5_prepares 0 = .ok (.iconst 0, 1) := by decide +kernel
theorem dX5_prepares_1 : decode cX5_prepares 1 = .ok (.istore_n 2, 1) := by decide +kernel
theorem dX5_prepares_2 : decode cX5_prepares 2 = .ok (.iload_n 2, 1) := by decide +kernel
theorem dX5_prepares_3 : decode cX5_prepares 3 = .ok (.aload_n 0, 1) := by decide +kernel
theorem dX5_prepares_4 : decode cX5_prepares 4 = .ok (.getfield 44, 3) := by decide +kernel
theorem dX5_prepares_7 : decode cX5_prepares 7 = .ok (.if_icmp .ge 70, 3) := by decide +kernel
theorem dX5_prepares_10 : decode cX5_prepares 10 = .ok (.aload_n 0, 1) := by decide +kernel
theorem dX5_prepares_11 : decode cX5_prepares 11 = .ok (.getfield 63, 3) := by decide +kernel
theorem dX5_prepares_14 : decode cX5_prepares 14 = .ok (.iload_n 2, 1) := by decide +kernel
theorem dX5_prepares_15 : decode cX5_prepares 15 = .ok (.ishr, 1) := by decide +kernel
theorem dX5_prepares_16 : decode cX5_prepares 16 = .ok (.iconst 1, 1) := by decide +kernel
theorem dX5_prepares_17 : decode cX5_prepares 17 = .ok (.iand, 1) := by decide +kernel
theorem dX5_prepares_18 : decode cX5_prepares 18 = .ok (.iconst 1, 1) := by decide +kernel
theorem dX5_prepares_19 : decode cX5_prepares 19 = .ok (.if_icmp .ne 52, 3) := by decide +kernel
theorem dX5_prepares_22 : decode cX5_prepares 22 = .ok (.aload_n 0, 1) := by decide +kernel
theorem dX5_prepares_23 : decode cX5_prepares 23 = .ok (.iload_n 2, 1) := by decide +kernel
theorem dX5_prepares_24 : decode cX5_prepares 24 = .ok (.bipush 11, 2) := by decide +kernel
theorem dX5_prepares_26 : decode cX5_prepares 26 = .ok (.iload_n 1, 1) := by decide +kernel
theorem dX5_prepares_27 : decode cX5_prepares 27 = .ok (.bipush 112, 2) := by decide +kernel
theorem dX5_prepares_29 : decode cX5_prepares 29 = .ok (.if_icmp .ge 13, 3) := by decide +kernel
theorem dX5_prepares_32 : decode cX5_prepares 32 = .ok (.iload_n 1, 1) := by decide +kernel
theorem dX5_prepares_33 : decode cX5_prepares 33 = .ok (.bipush 96, 2) := by decide +kernel
theorem dX5_prepares_35 : decode cX5_prepares 35 = .ok (.isub, 1) := by decide +kernel
theorem dX5_prepares_36 : decode cX5_prepares 36 = .ok (.bipush 8, 2) := by decide +kernel
theorem dX5_prepares_38 : decode cX5_prepares 38 = .ok (.irem, 1) := by decide +kernel
theorem dX5_prepares_39 : decode cX5_prepares 39 = .ok (.goto 5, 3) := by decide +kernel
theorem dX5_prepares_42 : decode cX5_prepares 42 = .ok (.bipush (-4), 2) := by decide +kernel
theorem dX5_prepares_44 : decode cX5_prepares 44 = .ok (.invokevirtual 47, 3) := by decide +kernel
theorem dX5_prepares_47 : decode cX5_prepares 47 = .ok (.aload_n 0, 1) := by decide +kernel
theorem dX5_prepares_48 : decode cX5_prepares 48 = .ok (.iload_n 2, 1) := by decide +kernel
theorem dX5_prepares_49 : decode cX5_prepares 49 = .ok (.bipush 12, 2) := by decide +kernel
theorem dX5_prepares_51 : decode cX5_prepares 51 = .ok (.iload_n 1, 1) := by decide +kernel
theorem dX5_prepares_52 : decode cX5_prepares 52 = .ok (.bipush 112, 2) := by decide +kernel
theorem dX5_prepares_54 : decode cX5_prepares 54 = .ok (.if_icmp .ge 13, 3) := by decide +kernel
theorem dX5_prepares_57 : decode cX5_prepares 57 = .ok (.iload_n 1, 1) := by decide +kernel
theorem dX5_prepares_58 : decode cX5_prepares 58 = .ok (.bipush 96, 2) := by decide +kernel
theorem dX5_prepares_60 : decode cX5_prepares 60 = .ok (.isub, 1) := by decide +kernel
theorem dX5_prepares_61 : decode cX5_prepares 61 = .ok (.bipush 8, 2) := by decide +kernel
theorem dX5_prepares_63 : decode cX5_prepares 63 = .ok (.idiv, 1) := by decide +kernel
theorem dX5_prepares_64 : decode cX5_prepares 64 = .ok (.goto 4, 3) := by decide +kernel
theorem dX5_prepares_67 : decode cX5_prepares 67 = .ok (.iconst 0, 1) := by decide +kernel
theorem dX5_prepares_68 : decode cX5_prepares 68 = .ok (.invokevirtual 47, 3) := by decide +kernel
theorem dX5_prepares_71 : decode cX5_prepares 71 = .ok (.iinc 2 1, 3) := by decide +kernel
theorem dX5_prepares_74 : decode cX5_prepares 74 = .ok (.goto (-72), 3) := by decide +kernel
theorem dX5_prepares_77 : decode cX5_prepares 77 = .ok (.return_, 1) := by decide +kernel
theorem dX5_listeners_0 : decode cX5_listeners 0 = .ok (.iconst 0, 1) := by decide +kernel
theorem dX5_listeners_1 : decode cX5_listeners 1 = .ok (.istore_n 1, 1) := by decide +kernel
theorem dX5_listeners_2 : decode cX5_listeners 2 = .ok (.iconst 0, 1) := by decide +kernel
theorem dX5_listeners_3 : decode cX5_listeners 3 = .ok (.istore_n 2, 1) := by decide +kernel
theorem dX5_listeners_4 : decode cX5_listeners 4 = .ok (.iload_n 2, 1) := by decide +kernel
theorem dX5_listeners_5 : decode cX5_listeners 5 = .ok (.aload_n 0, 1) := by decide +kernel
theorem dX5_listeners_6 : decode cX5_listeners 6 = .ok (.getfield 44, 3) := by decide +kernel
theorem dX5_listeners_9 : decode cX5_listeners 9 = .ok (.if_icmp .ge 21, 3) := by decide +kernel
theorem dX5_listeners_12 : decode cX5_listeners 12 = .ok (.iload_n 1, 1) := by decide +kernel
theorem dX5_listeners_13 : decode cX5_listeners 13 = .ok (.aload_n 0, 1) := by decide +kernel
theorem dX5_listeners_14 : decode cX5_listeners 14 = .ok (.iload_n 2, 1) := by decide +kernel
theorem dX5_listeners_15 : decode cX5_listeners 15 = .ok (.bipush 6, 2) := by decide +kernel
theorem dX5_listeners_17 : decode cX5_listeners 17 = .ok (.invokevirtual 100, 3) := by decide +kernel
theorem dX5_listeners_20 : decode cX5_listeners 20 = .ok (.iload_n 2, 1) := by decide +kernel
theorem dX5_listeners_21 : decode cX5_listeners 21 = .ok (.ishl, 1) := by decide +kernel
theorem dX5_listeners_22 : decode cX5_listeners 22 = .ok (.ior, 1) := by decide +kernel
theorem dX5_listeners_23 : decode cX5_listeners 23 = .ok (.istore_n 1, 1) := by decide +kernel
theorem dX5_listeners_24 : decode cX5_listeners 24 = .ok (.iinc 2 1, 3) := by decide +kernel
theorem dX5_listeners_27 : decode cX5_listeners 27 = .ok (.goto (-23), 3) := by decide +kernel
theorem dX5_listeners_30 : decode cX5_listeners 30 = .ok (.iload_n 1, 1) := by decide +kernel
theorem dX5_listeners_31 : decode cX5_listeners 31 = .ok (.ireturn, 1) := by decide +kernel
theorem dX5_slowest_0 : decode cX5_slowest 0 = .ok (.iconst 0, 1) := by decide +kernel
theorem dX5_slowest_1 : decode cX5_slowest 1 = .ok (.istore_n 2, 1) := by decide +kernel
theorem dX5_slowest_2 : decode cX5_slowest 2 = .ok (.iconst 0, 1) := by decide +kernel
theorem dX5_slowest_3 : decode cX5_slowest 3 = .ok (.istore_n 3, 1) := by decide +kernel
theorem dX5_slowest_4 : decode cX5_slowest 4 = .ok (.iload_n 3, 1) := by decide +kernel
theorem dX5_slowest_5 : decode cX5_slowest 5 = .ok (.aload_n 0, 1) := by decide +kernel
theorem dX5_slowest_6 : decode cX5_slowest 6 = .ok (.getfield 44, 3) := by decide +kernel
theorem dX5_slowest_9 : decode cX5_slowest 9 = .ok (.if_icmp .ge 39, 3) := by decide +kernel
theorem dX5_slowest_12 : decode cX5_slowest 12 = .ok (.iload_n 1, 1) := by decide +kernel
theorem dX5_slowest_13 : decode cX5_slowest 13 = .ok (.iload_n 3, 1) := by decide +kernel
theorem dX5_slowest_14 : decode cX5_slowest 14 = .ok (.ishr, 1) := by decide +kernel
theorem dX5_slowest_15 : decode cX5_slowest 15 = .ok (.iconst 1, 1) := by decide +kernel
theorem dX5_slowest_16 : decode cX5_slowest 16 = .ok (.iand, 1) := by decide +kernel
theorem dX5_slowest_17 : decode cX5_slowest 17 = .ok (.iconst 1, 1) := by decide +kernel
theorem dX5_slowest_18 : decode cX5_slowest 18 = .ok (.if_icmp .ne 22, 3) := by decide +kernel
theorem dX5_slowest_21 : decode cX5_slowest 21 = .ok (.aload_n 0, 1) := by decide +kernel
theorem dX5_slowest_22 : decode cX5_slowest 22 = .ok (.iload_n 3, 1) := by decide +kernel
theorem dX5_slowest_23 : decode cX5_slowest 23 = .ok (.iconst 3, 1) := by decide +kernel
theorem dX5_slowest_24 : decode cX5_slowest 24 = .ok (.invokevirtual 100, 3) := by decide +kernel
theorem dX5_slowest_27 : decode cX5_slowest 27 = .ok (.iload_n 2, 1) := by decide +kernel
theorem dX5_slowest_28 : decode cX5_slowest 28 = .ok (.if_icmp .le 12, 3) := by decide +kernel
theorem dX5_slowest_31 : decode cX5_slowest 31 = .ok (.aload_n 0, 1) := by decide +kernel
theorem dX5_slowest_32 : decode cX5_slowest 32 = .ok (.iload_n 3, 1) := by decide +kernel
theorem dX5_slowest_33 : decode cX5_slowest 33 = .ok (.iconst 3, 1) := by decide +kernel
theorem dX5_slowest_34 : decode cX5_slowest 34 = .ok (.invokevirtual 100, 3) := by decide +kernel
theorem dX5_slowest_37 : decode cX5_slowest 37 = .ok (.goto 4, 3) := by decide +kernel
theorem dX5_slowest_40 : decode cX5_slowest 40 = .ok (.iload_n 2, 1) := by decide +kernel
theorem dX5_slowest_41 : decode cX5_slowest 41 = .ok (.istore_n 2, 1) := by decide +kernel
theorem dX5_slowest_42 : decode cX5_slowest 42 = .ok (.iinc 3 1, 3) := by decide +kernel
theorem dX5_slowest_45 : decode cX5_slowest 45 = .ok (.goto (-41), 3) := by decide +kernel
theorem dX5_slowest_48 : decode cX5_slowest 48 = .ok (.iload_n 2, 1) := by decide +kernel
theorem dX5_slowest_49 : decode cX5_slowest 49 = .ok (.ireturn, 1) := by decide +kernel
theorem dX5_logs_0 : decode cX5_logs 0 = .ok (.bipush 15, 2) := by decide +kernel
theorem dX5_logs_2 : decode cX5_logs 2 = .ok (.istore_n 2, 1) := by decide +kernel
theorem dX5_logs_3 : decode cX5_logs 3 = .ok (.iload_n 2, 1) := by decide +kernel
theorem dX5_logs_4 : decode cX5_logs 4 = .ok (.ifCond .le 51, 3) := by decide +kernel
theorem dX5_logs_7 : decode cX5_logs 7 = .ok (.aload_n 0, 1) := by decide +kernel
theorem dX5_logs_8 : decode cX5_logs 8 = .ok (.getfield 22, 3) := by decide +kernel
theorem dX5_logs_11 : decode cX5_logs 11 = .ok (.iload_n 2, 1) := by decide +kernel
theorem dX5_logs_12 : decode cX5_logs 12 = .ok (.aload_n 0, 1) := by decide +kernel
theorem dX5_logs_13 : decode cX5_logs 13 = .ok (.getfield 22, 3) := by decide +kernel
theorem dX5_logs_16 : decode cX5_logs 16 = .ok (.iload_n 2, 1) := by decide +kernel
theorem dX5_logs_17 : decode cX5_logs 17 = .ok (.iconst 1, 1) := by decide +kernel
theorem dX5_logs_18 : decode cX5_logs 18 = .ok (.isub, 1) := by decide +kernel
theorem dX5_logs_19 : decode cX5_logs 19 = .ok (.iaload, 1) := by decide +kernel
theorem dX5_logs_20 : decode cX5_logs 20 = .ok (.iastore, 1) := by decide +kernel
theorem dX5_logs_21 : decode cX5_logs 21 = .ok (.aload_n 0, 1) := by decide +kernel
theorem dX5_logs_22 : decode cX5_logs 22 = .ok (.getfield 25, 3) := by decide +kernel
theorem dX5_logs_25 : decode cX5_logs 25 = .ok (.iload_n 2, 1) := by decide +kernel
theorem dX5_logs_26 : decode cX5_logs 26 = .ok (.aload_n 0, 1) := by decide +kernel
theorem dX5_logs_27 : decode cX5_logs 27 = .ok (.getfield 25, 3) := by decide +kernel
theorem dX5_logs_30 : decode cX5_logs 30 = .ok (.iload_n 2, 1) := by decide +kernel
theorem dX5_logs_31 : decode cX5_logs 31 = .ok (.iconst 1, 1) := by decide +kernel
theorem dX5_logs_32 : decode cX5_logs 32 = .ok (.isub, 1) := by decide +kernel
theorem dX5_logs_33 : decode cX5_logs 33 = .ok (.iaload, 1) := by decide +kernel
theorem dX5_logs_34 : decode cX5_logs 34 = .ok (.iastore, 1) := by decide +kernel
theorem dX5_logs_35 : decode cX5_logs 35 = .ok (.aload_n 0, 1) := by decide +kernel
theorem dX5_logs_36 : decode cX5_logs 36 = .ok (.getfield 28, 3) := by decide +kernel
theorem dX5_logs_39 : decode cX5_logs 39 = .ok (.iload_n 2, 1) := by decide +kernel
theorem dX5_logs_40 : decode cX5_logs 40 = .ok (.aload_n 0, 1) := by decide +kernel
theorem dX5_logs_41 : decode cX5_logs 41 = .ok (.getfield 28, 3) := by decide +kernel
theorem dX5_logs_44 : decode cX5_logs 44 = .ok (.iload_n 2, 1) := by decide +kernel
theorem dX5_logs_45 : decode cX5_logs 45 = .ok (.iconst 1, 1) := by decide +kernel
theorem dX5_logs_46 : decode cX5_logs 46 = .ok (.isub, 1) := by decide +kernel
theorem dX5_logs_47 : decode cX5_logs 47 = .ok (.iaload, 1) := by decide +kernel
theorem dX5_logs_48 : decode cX5_logs 48 = .ok (.iastore, 1) := by decide +kernel
theorem dX5_logs_49 : decode cX5_logs 49 = .ok (.iinc 2 (-1), 3) := by decide +kernel
theorem dX5_logs_52 : decode cX5_logs 52 = .ok (.goto (-49), 3) := by decide +kernel
theorem dX5_logs_55 : decode cX5_logs 55 = .ok (.aload_n 0, 1) := by decide +kernel
theorem dX5_logs_56 : decode cX5_logs 56 = .ok (.getfield 22, 3) := by decide +kernel
theorem dX5_logs_59 : decode cX5_logs 59 = .ok (.iconst 0, 1) := by decide +kernel
theorem dX5_logs_60 : decode cX5_logs 60 = .ok (.aload_n 0, 1) := by decide +kernel
theorem dX5_logs_61 : decode cX5_logs 61 = .ok (.getfield 57, 3) := by decide +kernel
theorem dX5_logs_64 : decode cX5_logs 64 = .ok (.iastore, 1) := by decide +kernel
theorem dX5_logs_65 : decode cX5_logs 65 = .ok (.aload_n 0, 1) := by decide +kernel
theorem dX5_logs_66 : decode cX5_logs 66 = .ok (.getfield 25, 3) := by decide +kernel
theorem dX5_logs_69 : decode cX5_logs 69 = .ok (.iconst 0, 1) := by decide +kernel
theorem dX5_logs_70 : decode cX5_logs 70 = .ok (.iload_n 1, 1) := by decide +kernel
theorem dX5_logs_71 : decode cX5_logs 71 = .ok (.iastore, 1) := by decide +kernel
theorem dX5_logs_72 : decode cX5_logs 72 = .ok (.aload_n 0, 1) := by decide +kernel
theorem dX5_logs_73 : decode cX5_logs 73 = .ok (.getfield 28, 3) := by decide +kernel
theorem dX5_logs_76 : decode cX5_logs 76 = .ok (.iconst 0, 1) := by decide +kernel
theorem dX5_logs_77 : decode cX5_logs 77 = .ok (.aload_n 0, 1) := by decide +kernel
theorem dX5_logs_78 : decode cX5_logs 78 = .ok (.getfield 51, 3) := by decide +kernel
theorem dX5_logs_81 : decode cX5_logs 81 = .ok (.iastore, 1) := by decide +kernel
theorem dX5_logs_82 : decode cX5_logs 82 = .ok (.aload_n 0, 1) := by decide +kernel
theorem dX5_logs_83 : decode cX5_logs 83 = .ok (.aload_n 0, 1) := by decide +kernel
theorem dX5_logs_84 : decode cX5_logs 84 = .ok (.getfield 66, 3) := by decide +kernel
theorem dX5_logs_87 : decode cX5_logs 87 = .ok (.bipush 16, 2) := by decide +kernel
theorem dX5_logs_89 : decode cX5_logs 89 = .ok (.if_icmp .ge 12, 3) := by decide +kernel
theorem dX5_logs_92 : decode cX5_logs 92 = .ok (.aload_n 0, 1) := by decide +kernel
theorem dX5_logs_93 : decode cX5_logs 93 = .ok (.getfield 66, 3) := by decide +kernel
theorem dX5_logs_96 : decode cX5_logs 96 = .ok (.iconst 1, 1) := by decide +kernel
theorem dX5_logs_97 : decode cX5_logs 97 = .ok (.iadd, 1) := by decide +kernel
theorem dX5_logs_98 : decode cX5_logs 98 = .ok (.goto 5, 3) := by decide +kernel
theorem dX5_logs_101 : decode cX5_logs 101 = .ok (.bipush 16, 2) := by decide +kernel
theorem dX5_logs_103 : decode cX5_logs 103 = .ok (.putfield 66, 3) := by decide +kernel
theorem dX5_logs_106 : decode cX5_logs 106 = .ok (.return_, 1) := by decide +kernel
theorem dX5_all_0 : decode cX5_all 0 = .ok (.iconst 0, 1) := by decide +kernel
theorem dX5_all_1 : decode cX5_all 1 = .ok (.istore_n 3, 1) := by decide +kernel
theorem dX5_all_2 : decode cX5_all 2 = .ok (.iload_n 3, 1) := by decide +kernel
theorem dX5_all_3 : decode cX5_all 3 = .ok (.aload_n 0, 1) := by decide +kernel
theorem dX5_all_4 : decode cX5_all 4 = .ok (.getfield 44, 3) := by decide +kernel
theorem dX5_all_7 : decode cX5_all 7 = .ok (.if_icmp .ge 16, 3) := by decide +kernel
theorem dX5_all_10 : decode cX5_all 10 = .ok (.aload_n 0, 1) := by decide +kernel
theorem dX5_all_11 : decode cX5_all 11 = .ok (.iload_n 3, 1) := by decide +kernel
theorem dX5_all_12 : decode cX5_all 12 = .ok (.iload_n 1, 1) := by decide +kernel
theorem dX5_all_13 : decode cX5_all 13 = .ok (.iload_n 2, 1) := by decide +kernel
theorem dX5_all_14 : decode cX5_all 14 = .ok (.invokevirtual 47, 3) := by decide +kernel
theorem dX5_all_17 : decode cX5_all 17 = .ok (.iinc 3 1, 3) := by decide +kernel
theorem dX5_all_20 : decode cX5_all 20 = .ok (.goto (-18), 3) := by decide +kernel
theorem dX5_all_23 : decode cX5_all 23 = .ok (.return_, 1) := by decide +kernel
theorem dX5_sends_0 : decode cX5_sends 0 = .ok (.aload_n 0, 1) := by decide +kernel
theorem dX5_sends_1 : decode cX5_sends 1 = .ok (.iload_n 1, 1) := by decide +kernel
theorem dX5_sends_2 : decode cX5_sends 2 = .ok (.invokevirtual 126, 3) := by decide +kernel
theorem dX5_sends_5 : decode cX5_sends 5 = .ok (.aload_n 0, 1) := by decide +kernel
theorem dX5_sends_6 : decode cX5_sends 6 = .ok (.getfield 19, 3) := by decide +kernel
theorem dX5_sends_9 : decode cX5_sends 9 = .ok (.iconst 0, 1) := by decide +kernel
theorem dX5_sends_10 : decode cX5_sends 10 = .ok (.dup2, 1) := by decide +kernel
theorem dX5_sends_11 : decode cX5_sends 11 = .ok (.iaload, 1) := by decide +kernel
theorem dX5_sends_12 : decode cX5_sends 12 = .ok (.iconst 1, 1) := by decide +kernel
theorem dX5_sends_13 : decode cX5_sends 13 = .ok (.iadd, 1) := by decide +kernel
theorem dX5_sends_14 : decode cX5_sends 14 = .ok (.iastore, 1) := by decide +kernel
theorem dX5_sends_15 : decode cX5_sends 15 = .ok (.aload_n 0, 1) := by decide +kernel
theorem dX5_sends_16 : decode cX5_sends 16 = .ok (.aload_n 0, 1) := by decide +kernel
theorem dX5_sends_17 : decode cX5_sends 17 = .ok (.bipush 63, 2) := by decide +kernel
theorem dX5_sends_19 : decode cX5_sends 19 = .ok (.invokevirtual 129, 3) := by decide +kernel
theorem dX5_sends_22 : decode cX5_sends 22 = .ok (.invokevirtual 107, 3) := by decide +kernel
theorem dX5_sends_25 : decode cX5_sends 25 = .ok (.iconst 0, 1) := by decide +kernel
theorem dX5_sends_26 : decode cX5_sends 26 = .ok (.istore_n 2, 1) := by decide +kernel
theorem dX5_sends_27 : decode cX5_sends 27 = .ok (.iconst 0, 1) := by decide +kernel
theorem dX5_sends_28 : decode cX5_sends 28 = .ok (.istore_n 3, 1) := by decide +kernel
theorem dX5_sends_29 : decode cX5_sends 29 = .ok (.iconst 0, 1) := by decide +kernel
theorem dX5_sends_30 : decode cX5_sends 30 = .ok (.istore 4, 2) := by decide +kernel
theorem dX5_sends_32 : decode cX5_sends 32 = .ok (.iload 4, 2) := by decide +kernel
theorem dX5_sends_34 : decode cX5_sends 34 = .ok (.aload_n 0, 1) := by decide +kernel
theorem dX5_sends_35 : decode cX5_sends 35 = .ok (.getfield 44, 3) := by decide +kernel
theorem dX5_sends_38 : decode cX5_sends 38 = .ok (.if_icmp .ge 64, 3) := by decide +kernel
theorem dX5_sends_41 : decode cX5_sends 41 = .ok (.iload_n 2, 1) := by decide +kernel
theorem dX5_sends_42 : decode cX5_sends 42 = .ok (.aload_n 0, 1) := by decide +kernel
theorem dX5_sends_43 : decode cX5_sends 43 = .ok (.iload 4, 2) := by decide +kernel
theorem dX5_sends_45 : decode cX5_sends 45 = .ok (.bipush 17, 2) := by decide +kernel
theorem dX5_sends_47 : decode cX5_sends 47 = .ok (.invokevirtual 100, 3) := by decide +kernel
theorem dX5_sends_50 : decode cX5_sends 50 = .ok (.iconst 1, 1) := by decide +kernel
theorem dX5_sends_51 : decode cX5_sends 51 = .ok (.if_icmp .ne 10, 3) := by decide +kernel
theorem dX5_sends_54 : decode cX5_sends 54 = .ok (.iconst 1, 1) := by decide +kernel
theorem dX5_sends_55 : decode cX5_sends 55 = .ok (.iload 4, 2) := by decide +kernel
theorem dX5_sends_57 : decode cX5_sends 57 = .ok (.ishl, 1) := by decide +kernel
theorem dX5_sends_58 : decode cX5_sends 58 = .ok (.goto 4, 3) := by decide +kernel
theorem dX5_sends_61 : decode cX5_sends 61 = .ok (.iconst 0, 1) := by decide +kernel
theorem dX5_sends_62 : decode cX5_sends 62 = .ok (.ior, 1) := by decide +kernel
theorem dX5_sends_63 : decode cX5_sends 63 = .ok (.istore_n 2, 1) := by decide +kernel
theorem dX5_sends_64 : decode cX5_sends 64 = .ok (.iload_n 3, 1) := by decide +kernel
theorem dX5_sends_65 : decode cX5_sends 65 = .ok (.aload_n 0, 1) := by decide +kernel
theorem dX5_sends_66 : decode cX5_sends 66 = .ok (.iload 4, 2) := by decide +kernel
theorem dX5_sends_68 : decode cX5_sends 68 = .ok (.bipush 17, 2) := by decide +kernel
theorem dX5_sends_70 : decode cX5_sends 70 = .ok (.invokevirtual 100, 3) := by decide +kernel
theorem dX5_sends_73 : decode cX5_sends 73 = .ok (.iconst 2, 1) := by decide +kernel
theorem dX5_sends_74 : decode cX5_sends 74 = .ok (.if_icmp .ne 10, 3) := by decide +kernel
theorem dX5_sends_77 : decode cX5_sends 77 = .ok (.iconst 1, 1) := by decide +kernel
theorem dX5_sends_78 : decode cX5_sends 78 = .ok (.iload 4, 2) := by decide +kernel
theorem dX5_sends_80 : decode cX5_sends 80 = .ok (.ishl, 1) := by decide +kernel
theorem dX5_sends_81 : decode cX5_sends 81 = .ok (.goto 4, 3) := by decide +kernel
theorem dX5_sends_84 : decode cX5_sends 84 = .ok (.iconst 0, 1) := by decide +kernel
theorem dX5_sends_85 : decode cX5_sends 85 = .ok (.ior, 1) := by decide +kernel
theorem dX5_sends_86 : decode cX5_sends 86 = .ok (.istore_n 3, 1) := by decide +kernel
theorem dX5_sends_87 : decode cX5_sends 87 = .ok (.aload_n 0, 1) := by decide +kernel
theorem dX5_sends_88 : decode cX5_sends 88 = .ok (.iload 4, 2) := by decide +kernel
theorem dX5_sends_90 : decode cX5_sends 90 = .ok (.bipush 17, 2) := by decide +kernel
theorem dX5_sends_92 : decode cX5_sends 92 = .ok (.iconst 0, 1) := by decide +kernel
theorem dX5_sends_93 : decode cX5_sends 93 = .ok (.invokevirtual 47, 3) := by decide +kernel
theorem dX5_sends_96 : decode cX5_sends 96 = .ok (.iinc 4 1, 3) := by decide +kernel
theorem dX5_sends_99 : decode cX5_sends 99 = .ok (.goto (-67), 3) := by decide +kernel
theorem dX5_sends_102 : decode cX5_sends 102 = .ok (.aload_n 0, 1) := by decide +kernel
theorem dX5_sends_103 : decode cX5_sends 103 = .ok (.invokevirtual 132, 3) := by decide +kernel
theorem dX5_sends_106 : decode cX5_sends 106 = .ok (.istore 4, 2) := by decide +kernel
theorem dX5_sends_108 : decode cX5_sends 108 = .ok (.iload_n 1, 1) := by decide +kernel
theorem dX5_sends_109 : decode cX5_sends 109 = .ok (.bipush 9, 2) := by decide +kernel
theorem dX5_sends_111 : decode cX5_sends 111 = .ok (.if_icmp .lt 9, 3) := by decide +kernel
theorem dX5_sends_114 : decode cX5_sends 114 = .ok (.iload_n 1, 1) := by decide +kernel
theorem dX5_sends_115 : decode cX5_sends 115 = .ok (.bipush 20, 2) := by decide +kernel
theorem dX5_sends_117 : decode cX5_sends 117 = .ok (.if_icmp .ne 61, 3) := by decide +kernel
theorem dX5_sends_120 : decode cX5_sends 120 = .ok (.iconst 0, 1) := by decide +kernel
theorem dX5_sends_121 : decode cX5_sends 121 = .ok (.istore 5, 2) := by decide +kernel
theorem dX5_sends_123 : decode cX5_sends 123 = .ok (.iload 5, 2) := by decide +kernel
theorem dX5_sends_125 : decode cX5_sends 125 = .ok (.aload_n 0, 1) := by decide +kernel
theorem dX5_sends_126 : decode cX5_sends 126 = .ok (.getfield 44, 3) := by decide +kernel
theorem dX5_sends_129 : decode cX5_sends 129 = .ok (.if_icmp .ge 42, 3) := by decide +kernel
theorem dX5_sends_132 : decode cX5_sends 132 = .ok (.iload_n 1, 1) := by decide +kernel
theorem dX5_sends_133 : decode cX5_sends 133 = .ok (.bipush 20, 2) := by decide +kernel
theorem dX5_sends_135 : decode cX5_sends 135 = .ok (.if_icmp .ne 12, 3) := by decide +kernel
theorem dX5_sends_138 : decode cX5_sends 138 = .ok (.aload_n 0, 1) := by decide +kernel
theorem dX5_sends_139 : decode cX5_sends 139 = .ok (.iload 5, 2) := by decide +kernel
theorem dX5_sends_141 : decode cX5_sends 141 = .ok (.invokevirtual 111, 3) := by decide +kernel
theorem dX5_sends_144 : decode cX5_sends 144 = .ok (.goto 21, 3) := by decide +kernel
theorem dX5_sends_147 : decode cX5_sends 147 = .ok (.iload 4, 2) := by decide +kernel
theorem dX5_sends_149 : decode cX5_sends 149 = .ok (.iload 5, 2) := by decide +kernel
theorem dX5_sends_151 : decode cX5_sends 151 = .ok (.ishr, 1) := by decide +kernel
theorem dX5_sends_152 : decode cX5_sends 152 = .ok (.iconst 1, 1) := by decide +kernel
theorem dX5_sends_153 : decode cX5_sends 153 = .ok (.iand, 1) := by decide +kernel
theorem dX5_sends_154 : decode cX5_sends 154 = .ok (.iconst 1, 1) := by decide +kernel
theorem dX5_sends_155 : decode cX5_sends 155 = .ok (.if_icmp .ne 10, 3) := by decide +kernel
theorem dX5_sends_158 : decode cX5_sends 158 = .ok (.aload_n 0, 1) := by decide +kernel
theorem dX5_sends_159 : decode cX5_sends 159 = .ok (.iload 5, 2) := by decide +kernel
theorem dX5_sends_161 : decode cX5_sends 161 = .ok (.iload_n 1, 1) := by decide +kernel
theorem dX5_sends_162 : decode cX5_sends 162 = .ok (.invokevirtual 135, 3) := by decide +kernel
theorem dX5_sends_165 : decode cX5_sends 165 = .ok (.iinc 5 1, 3) := by decide +kernel
theorem dX5_sends_168 : decode cX5_sends 168 = .ok (.goto (-45), 3) := by decide +kernel
theorem dX5_sends_171 : decode cX5_sends 171 = .ok (.aload_n 0, 1) := by decide +kernel
theorem dX5_sends_172 : decode cX5_sends 172 = .ok (.invokevirtual 104, 3) := by decide +kernel
theorem dX5_sends_175 : decode cX5_sends 175 = .ok (.goto 187, 3) := by decide +kernel
theorem dX5_sends_178 : decode cX5_sends 178 = .ok (.iload_n 1, 1) := by decide +kernel
theorem dX5_sends_179 : decode cX5_sends 179 = .ok (.bipush 9, 2) := by decide +kernel
theorem dX5_sends_181 : decode cX5_sends 181 = .ok (.if_icmp .ne 10, 3) := by decide +kernel
theorem dX5_sends_184 : decode cX5_sends 184 = .ok (.aload_n 0, 1) := by decide +kernel
theorem dX5_sends_185 : decode cX5_sends 185 = .ok (.invokevirtual 139, 3) := by decide +kernel
theorem dX5_sends_188 : decode cX5_sends 188 = .ok (.goto 174, 3) := by decide +kernel
theorem dX5_sends_191 : decode cX5_sends 191 = .ok (.iload_n 1, 1) := by decide +kernel
theorem dX5_sends_192 : decode cX5_sends 192 = .ok (.bipush 17, 2) := by decide +kernel
theorem dX5_sends_194 : decode cX5_sends 194 = .ok (.if_icmp .ne 13, 3) := by decide +kernel
theorem dX5_sends_197 : decode cX5_sends 197 = .ok (.aload_n 0, 1) := by decide +kernel
theorem dX5_sends_198 : decode cX5_sends 198 = .ok (.bipush 8, 2) := by decide +kernel
theorem dX5_sends_200 : decode cX5_sends 200 = .ok (.iconst 1, 1) := by decide +kernel
theorem dX5_sends_201 : decode cX5_sends 201 = .ok (.invokevirtual 142, 3) := by decide +kernel
theorem dX5_sends_204 : decode cX5_sends 204 = .ok (.goto 158, 3) := by decide +kernel
theorem dX5_sends_207 : decode cX5_sends 207 = .ok (.iload_n 1, 1) := by decide +kernel
theorem dX5_sends_208 : decode cX5_sends 208 = .ok (.bipush 21, 2) := by decide +kernel
theorem dX5_sends_210 : decode cX5_sends 210 = .ok (.if_icmp .ne 14, 3) := by decide +kernel
theorem dX5_sends_213 : decode cX5_sends 213 = .ok (.aload_n 0, 1) := by decide +kernel
theorem dX5_sends_214 : decode cX5_sends 214 = .ok (.bipush 11, 2) := by decide +kernel
theorem dX5_sends_216 : decode cX5_sends 216 = .ok (.bipush (-4), 2) := by decide +kernel
theorem dX5_sends_218 : decode cX5_sends 218 = .ok (.invokevirtual 142, 3) := by decide +kernel
theorem dX5_sends_221 : decode cX5_sends 221 = .ok (.goto 141, 3) := by decide +kernel
theorem dX5_sends_224 : decode cX5_sends 224 = .ok (.iload_n 1, 1) := by decide +kernel
theorem dX5_sends_225 : decode cX5_sends 225 = .ok (.bipush 24, 2) := by decide +kernel
theorem dX5_sends_227 : decode cX5_sends 227 = .ok (.if_icmp .eq 9, 3) := by decide +kernel
theorem dX5_sends_230 : decode cX5_sends 230 = .ok (.iload_n 1, 1) := by decide +kernel
theorem dX5_sends_231 : decode cX5_sends 231 = .ok (.bipush 25, 2) := by decide +kernel
theorem dX5_sends_233 : decode cX5_sends 233 = .ok (.if_icmp .ne 14, 3) := by decide +kernel
theorem dX5_sends_236 : decode cX5_sends 236 = .ok (.aload_n 0, 1) := by decide +kernel
theorem dX5_sends_237 : decode cX5_sends 237 = .ok (.bipush 25, 2) := by decide +kernel
theorem dX5_sends_239 : decode cX5_sends 239 = .ok (.iload_n 1, 1) := by decide +kernel
theorem dX5_sends_240 : decode cX5_sends 240 = .ok (.isub, 1) := by decide +kernel
theorem dX5_sends_241 : decode cX5_sends 241 = .ok (.putfield 54, 3) := by decide +kernel
theorem dX5_sends_244 : decode cX5_sends 244 = .ok (.goto 118, 3) := by decide +kernel
theorem dX5_sends_247 : decode cX5_sends 247 = .ok (.iload_n 1, 1) := by decide +kernel
theorem dX5_sends_248 : decode cX5_sends 248 = .ok (.bipush 63, 2) := by decide +kernel
theorem dX5_sends_250 : decode cX5_sends 250 = .ok (.if_icmp .ne 13, 3) := by decide +kernel
theorem dX5_sends_253 : decode cX5_sends 253 = .ok (.aload_n 0, 1) := by decide +kernel
theorem dX5_sends_254 : decode cX5_sends 254 = .ok (.bipush 6, 2) := by decide +kernel
theorem dX5_sends_256 : decode cX5_sends 256 = .ok (.iconst 0, 1) := by decide +kernel
theorem dX5_sends_257 : decode cX5_sends 257 = .ok (.invokevirtual 142, 3) := by decide +kernel
theorem dX5_sends_260 : decode cX5_sends 260 = .ok (.goto 102, 3) := by decide +kernel
theorem dX5_sends_263 : decode cX5_sends 263 = .ok (.iload_n 1, 1) := by decide +kernel
theorem dX5_sends_264 : decode cX5_sends 264 = .ok (.bipush 32, 2) := by decide +kernel
theorem dX5_sends_266 : decode cX5_sends 266 = .ok (.bipush 62, 2) := by decide +kernel
theorem dX5_sends_268 : decode cX5_sends 268 = .ok (.invokestatic 82, 3) := by decide +kernel
theorem dX5_sends_271 : decode cX5_sends 271 = .ok (.ifCond .eq 15, 3) := by decide +kernel
theorem dX5_sends_274 : decode cX5_sends 274 = .ok (.aload_n 0, 1) := by decide +kernel
theorem dX5_sends_275 : decode cX5_sends 275 = .ok (.iload_n 1, 1) := by decide +kernel
theorem dX5_sends_276 : decode cX5_sends 276 = .ok (.bipush 32, 2) := by decide +kernel
theorem dX5_sends_278 : decode cX5_sends 278 = .ok (.isub, 1) := by decide +kernel
theorem dX5_sends_279 : decode cX5_sends 279 = .ok (.iconst 1, 1) := by decide +kernel
theorem dX5_sends_280 : decode cX5_sends 280 = .ok (.invokevirtual 145, 3) := by decide +kernel
theorem dX5_sends_283 : decode cX5_sends 283 = .ok (.goto 79, 3) := by decide +kernel
theorem dX5_sends_286 : decode cX5_sends 286 = .ok (.iload_n 1, 1) := by decide +kernel
theorem dX5_sends_287 : decode cX5_sends 287 = .ok (.bipush 64, 2) := by decide +kernel
theorem dX5_sends_289 : decode cX5_sends 289 = .ok (.bipush 95, 2) := by decide +kernel
theorem dX5_sends_291 : decode cX5_sends 291 = .ok (.invokestatic 82, 3) := by decide +kernel
theorem dX5_sends_294 : decode cX5_sends 294 = .ok (.ifCond .eq 30, 3) := by decide +kernel
theorem dX5_sends_297 : decode cX5_sends 297 = .ok (.aload_n 0, 1) := by decide +kernel
theorem dX5_sends_298 : decode cX5_sends 298 = .ok (.invokevirtual 123, 3) := by decide +kernel
theorem dX5_sends_301 : decode cX5_sends 301 = .ok (.aload_n 0, 1) := by decide +kernel
theorem dX5_sends_302 : decode cX5_sends 302 = .ok (.iload_n 1, 1) := by decide +kernel
theorem dX5_sends_303 : decode cX5_sends 303 = .ok (.bipush 95, 2) := by decide +kernel
theorem dX5_sends_305 : decode cX5_sends 305 = .ok (.if_icmp .ne 8, 3) := by decide +kernel
theorem dX5_sends_308 : decode cX5_sends 308 = .ok (.bipush (-4), 2) := by decide +kernel
theorem dX5_sends_310 : decode cX5_sends 310 = .ok (.goto 7, 3) := by decide +kernel
theorem dX5_sends_313 : decode cX5_sends 313 = .ok (.iload_n 1, 1) := by decide +kernel
theorem dX5_sends_314 : decode cX5_sends 314 = .ok (.bipush 64, 2) := by decide +kernel
theorem dX5_sends_316 : decode cX5_sends 316 = .ok (.isub, 1) := by decide +kernel
theorem dX5_sends_317 : decode cX5_sends 317 = .ok (.iconst 2, 1) := by decide +kernel
theorem dX5_sends_318 : decode cX5_sends 318 = .ok (.invokevirtual 145, 3) := by decide +kernel
theorem dX5_sends_321 : decode cX5_sends 321 = .ok (.goto 41, 3) := by decide +kernel
theorem dX5_sends_324 : decode cX5_sends 324 = .ok (.iload_n 1, 1) := by decide +kernel
theorem dX5_sends_325 : decode cX5_sends 325 = .ok (.bipush 95, 2) := by decide +kernel
theorem dX5_sends_327 : decode cX5_sends 327 = .ok (.if_icmp .le 35, 3) := by decide +kernel
theorem dX5_sends_330 : decode cX5_sends 330 = .ok (.aload_n 0, 1) := by decide +kernel
theorem dX5_sends_331 : decode cX5_sends 331 = .ok (.getfield 60, 3) := by decide +kernel
theorem dX5_sends_334 : decode cX5_sends 334 = .ok (.iconst 5, 1) := by decide +kernel
theorem dX5_sends_335 : decode cX5_sends 335 = .ok (.if_icmp .ne 11, 3) := by decide +kernel
theorem dX5_sends_338 : decode cX5_sends 338 = .ok (.aload_n 0, 1) := by decide +kernel
theorem dX5_sends_339 : decode cX5_sends 339 = .ok (.iload_n 1, 1) := by decide +kernel
theorem dX5_sends_340 : decode cX5_sends 340 = .ok (.invokevirtual 148, 3) := by decide +kernel
theorem dX5_sends_343 : decode cX5_sends 343 = .ok (.goto 19, 3) := by decide +kernel
theorem dX5_sends_346 : decode cX5_sends 346 = .ok (.iload_n 1, 1) := by decide +kernel
theorem dX5_sends_347 : decode cX5_sends 347 = .ok (.bipush 127, 2) := by decide +kernel
theorem dX5_sends_349 : decode cX5_sends 349 = .ok (.if_icmp .ge 13, 3) := by decide +kernel
theorem dX5_sends_352 : decode cX5_sends 352 = .ok (.aload_n 0, 1) := by decide +kernel
theorem dX5_sends_353 : decode cX5_sends 353 = .ok (.iload_n 1, 1) := by decide +kernel
theorem dX5_sends_354 : decode cX5_sends 354 = .ok (.bipush 96, 2) := by decide +kernel
theorem dX5_sends_356 : decode cX5_sends 356 = .ok (.isub, 1) := by decide +kernel
theorem dX5_sends_357 : decode cX5_sends 357 = .ok (.iload_n 2, 1) := by decide +kernel
theorem dX5_sends_358 : decode cX5_sends 358 = .ok (.iload_n 3, 1) := by decide +kernel
theorem dX5_sends_359 : decode cX5_sends 359 = .ok (.invokevirtual 151, 3) := by decide +kernel
theorem dX5_sends_362 : decode cX5_sends 362 = .ok (.aload_n 0, 1) := by decide +kernel
theorem dX5_sends_363 : decode cX5_sends 363 = .ok (.iload_n 1, 1) := by decide +kernel
theorem dX5_sends_364 : decode cX5_sends 364 = .ok (.iconst 5, 1) := by decide +kernel
theorem dX5_sends_365 : decode cX5_sends 365 = .ok (.if_icmp .ne 8, 3) := by decide +kernel
theorem dX5_sends_368 : decode cX5_sends 368 = .ok (.iload 4, 2) := by decide +kernel
theorem dX5_sends_370 : decode cX5_sends 370 = .ok (.goto 4, 3) := by decide +kernel
theorem dX5_sends_373 : decode cX5_sends 373 = .ok (.iconst 0, 1) := by decide +kernel
theorem dX5_sends_374 : decode cX5_sends 374 = .ok (.putfield 63, 3) := by decide +kernel
theorem dX5_sends_377 : decode cX5_sends 377 = .ok (.aload_n 0, 1) := by decide +kernel
theorem dX5_sends_378 : decode cX5_sends 378 = .ok (.iload_n 1, 1) := by decide +kernel
theorem dX5_sends_379 : decode cX5_sends 379 = .ok (.putfield 60, 3) := by decide +kernel
theorem dX5_sends_382 : decode cX5_sends 382 = .ok (.return_, 1) := by decide +kernel
theorem dX5_command_0 : decode cX5_command 0 = .ok (.iload_n 1, 1) := by decide +kernel
theorem dX5_command_1 : decode cX5_command 1 = .ok (.iconst 0, 1) := by decide +kernel
theorem dX5_command_2 : decode cX5_command 2 = .ok (.bipush 127, 2) := by decide +kernel
theorem dX5_command_4 : decode cX5_command 4 = .ok (.invokestatic 82, 3) := by decide +kernel
theorem dX5_command_7 : decode cX5_command 7 = .ok (.ifCond .ne 5, 3) := by decide +kernel
theorem dX5_command_10 : decode cX5_command 10 = .ok (.iconst (-1), 1) := by decide +kernel
theorem dX5_command_11 : decode cX5_command 11 = .ok (.ireturn, 1) := by decide +kernel
theorem dX5_command_12 : decode cX5_command 12 = .ok (.aload_n 0, 1) := by decide +kernel
theorem dX5_command_13 : decode cX5_command 13 = .ok (.iload_n 1, 1) := by decide +kernel
theorem dX5_command_14 : decode cX5_command 14 = .ok (.invokevirtual 154, 3) := by decide +kernel
theorem dX5_command_17 : decode cX5_command 17 = .ok (.aload_n 0, 1) := by decide +kernel
theorem dX5_command_18 : decode cX5_command 18 = .ok (.getfield 57, 3) := by decide +kernel
theorem dX5_command_21 : decode cX5_command 21 = .ok (.ireturn, 1) := by decide +kernel
theorem dX5_takers_0 : decode cX5_takers 0 = .ok (.aload_n 0, 1) := by decide +kernel
theorem dX5_takers_1 : decode cX5_takers 1 = .ok (.invokevirtual 117, 3) := by decide +kernel
theorem dX5_takers_4 : decode cX5_takers 4 = .ok (.istore_n 1, 1) := by decide +kernel
theorem dX5_takers_5 : decode cX5_takers 5 = .ok (.iload_n 1, 1) := by decide +kernel
theorem dX5_takers_6 : decode cX5_takers 6 = .ok (.ifCond .ge 7, 3) := by decide +kernel
theorem dX5_takers_9 : decode cX5_takers 9 = .ok (.iconst 0, 1) := by decide +kernel
theorem dX5_takers_10 : decode cX5_takers 10 = .ok (.goto 13, 3) := by decide +kernel
theorem dX5_takers_13 : decode cX5_takers 13 = .ok (.aload_n 0, 1) := by decide +kernel
theorem dX5_takers_14 : decode cX5_takers 14 = .ok (.invokevirtual 132, 3) := by decide +kernel
theorem dX5_takers_17 : decode cX5_takers 17 = .ok (.iconst 1, 1) := by decide +kernel
theorem dX5_takers_18 : decode cX5_takers 18 = .ok (.iload_n 1, 1) := by decide +kernel
theorem dX5_takers_19 : decode cX5_takers 19 = .ok (.ishl, 1) := by decide +kernel
theorem dX5_takers_20 : decode cX5_takers 20 = .ok (.iconst (-1), 1) := by decide +kernel
theorem dX5_takers_21 : decode cX5_takers 21 = .ok (.ixor, 1) := by decide +kernel
theorem dX5_takers_22 : decode cX5_takers 22 = .ok (.iand, 1) := by decide +kernel
theorem dX5_takers_23 : decode cX5_takers 23 = .ok (.istore_n 2, 1) := by decide +kernel
theorem dX5_takers_24 : decode cX5_takers 24 = .ok (.iload_n 2, 1) := by decide +kernel
theorem dX5_takers_25 : decode cX5_takers 25 = .ok (.ifCond .eq 20, 3) := by decide +kernel
theorem dX5_takers_28 : decode cX5_takers 28 = .ok (.aload_n 0, 1) := by decide +kernel
theorem dX5_takers_29 : decode cX5_takers 29 = .ok (.getfield 54, 3) := by decide +kernel
theorem dX5_takers_32 : decode cX5_takers 32 = .ok (.ifCond .ne 15, 3) := by decide +kernel
theorem dX5_takers_35 : decode cX5_takers 35 = .ok (.aload_n 0, 1) := by decide +kernel
theorem dX5_takers_36 : decode cX5_takers 36 = .ok (.iload_n 1, 1) := by decide +kernel
theorem dX5_takers_37 : decode cX5_takers 37 = .ok (.bipush 15, 2) := by decide +kernel
theorem dX5_takers_39 : decode cX5_takers 39 = .ok (.invokevirtual 100, 3) := by decide +kernel
theorem dX5_takers_42 : decode cX5_takers 42 = .ok (.ifCond .ne 5, 3) := by decide +kernel
theorem dX5_takers_45 : decode cX5_takers 45 = .ok (.iconst 0, 1) := by decide +kernel
theorem dX5_takers_46 : decode cX5_takers 46 = .ok (.ireturn, 1) := by decide +kernel
theorem dX5_takers_47 : decode cX5_takers 47 = .ok (.iconst 0, 1) := by decide +kernel
theorem dX5_takers_48 : decode cX5_takers 48 = .ok (.istore_n 3, 1) := by decide +kernel
theorem dX5_takers_49 : decode cX5_takers 49 = .ok (.iload_n 3, 1) := by decide +kernel
theorem dX5_takers_50 : decode cX5_takers 50 = .ok (.aload_n 0, 1) := by decide +kernel
theorem dX5_takers_51 : decode cX5_takers 51 = .ok (.getfield 44, 3) := by decide +kernel
theorem dX5_takers_54 : decode cX5_takers 54 = .ok (.if_icmp .ge 32, 3) := by decide +kernel
theorem dX5_takers_57 : decode cX5_takers 57 = .ok (.iload_n 2, 1) := by decide +kernel
theorem dX5_takers_58 : decode cX5_takers 58 = .ok (.iload_n 3, 1) := by decide +kernel
theorem dX5_takers_59 : decode cX5_takers 59 = .ok (.ishr, 1) := by decide +kernel
theorem dX5_takers_60 : decode cX5_takers 60 = .ok (.iconst 1, 1) := by decide +kernel
theorem dX5_takers_61 : decode cX5_takers 61 = .ok (.iand, 1) := by decide +kernel
theorem dX5_takers_62 : decode cX5_takers 62 = .ok (.iconst 1, 1) := by decide +kernel
theorem dX5_takers_63 : decode cX5_takers 63 = .ok (.if_icmp .ne 17, 3) := by decide +kernel
theorem dX5_takers_66 : decode cX5_takers 66 = .ok (.aload_n 0, 1) := by decide +kernel
theorem dX5_takers_67 : decode cX5_takers 67 = .ok (.iload_n 3, 1) := by decide +kernel
theorem dX5_takers_68 : decode cX5_takers 68 = .ok (.bipush 16, 2) := by decide +kernel
theorem dX5_takers_70 : decode cX5_takers 70 = .ok (.invokevirtual 100, 3) := by decide +kernel
theorem dX5_takers_73 : decode cX5_takers 73 = .ok (.bipush 12, 2) := by decide +kernel
theorem dX5_takers_75 : decode cX5_takers 75 = .ok (.if_icmp .ne 5, 3) := by decide +kernel
theorem dX5_takers_78 : decode cX5_takers 78 = .ok (.iconst 0, 1) := by decide +kernel
theorem dX5_takers_79 : decode cX5_takers 79 = .ok (.ireturn, 1) := by decide +kernel
theorem dX5_takers_80 : decode cX5_takers 80 = .ok (.iinc 3 1, 3) := by decide +kernel
theorem dX5_takers_83 : decode cX5_takers 83 = .ok (.goto (-34), 3) := by decide +kernel
theorem dX5_takers_86 : decode cX5_takers 86 = .ok (.iload_n 2, 1) := by decide +kernel
theorem dX5_takers_87 : decode cX5_takers 87 = .ok (.ireturn, 1) := by decide +kernel
theorem dX5_firstOf_0 : decode cX5_firstOf 0 = .ok (.aload_n 0, 1) := by decide +kernel
theorem dX5_firstOf_1 : decode cX5_firstOf 1 = .ok (.getfield 16, 3) := by decide +kernel
theorem dX5_firstOf_4 : decode cX5_firstOf 4 = .ok (.bipush 24, 2) := by decide +kernel
theorem dX5_firstOf_6 : decode cX5_firstOf 6 = .ok (.iload_n 1, 1) := by decide +kernel
theorem dX5_firstOf_7 : decode cX5_firstOf 7 = .ok (.imul, 1) := by decide +kernel
theorem dX5_firstOf_8 : decode cX5_firstOf 8 = .ok (.iload_n 2, 1) := by decide +kernel
theorem dX5_firstOf_9 : decode cX5_firstOf 9 = .ok (.iadd, 1) := by decide +kernel
theorem dX5_firstOf_10 : decode cX5_firstOf 10 = .ok (.iaload, 1) := by decide +kernel
theorem dX5_firstOf_11 : decode cX5_firstOf 11 = .ok (.istore 4, 2) := by decide +kernel
theorem dX5_firstOf_13 : decode cX5_firstOf 13 = .ok (.aload_n 0, 1) := by decide +kernel
theorem dX5_firstOf_14 : decode cX5_firstOf 14 = .ok (.iload_n 1, 1) := by decide +kernel
theorem dX5_firstOf_15 : decode cX5_firstOf 15 = .ok (.iload_n 3, 1) := by decide +kernel
theorem dX5_firstOf_16 : decode cX5_firstOf 16 = .ok (.aload_n 0, 1) := by decide +kernel
theorem dX5_firstOf_17 : decode cX5_firstOf 17 = .ok (.iload_n 1, 1) := by decide +kernel
theorem dX5_firstOf_18 : decode cX5_firstOf 18 = .ok (.iload_n 3, 1) := by decide +kernel
theorem dX5_firstOf_19 : decode cX5_firstOf 19 = .ok (.invokevirtual 100, 3) := by decide +kernel
theorem dX5_firstOf_22 : decode cX5_firstOf 22 = .ok (.iconst 1, 1) := by decide +kernel
theorem dX5_firstOf_23 : decode cX5_firstOf 23 = .ok (.isub, 1) := by decide +kernel
theorem dX5_firstOf_24 : decode cX5_firstOf 24 = .ok (.invokevirtual 47, 3) := by decide +kernel
theorem dX5_firstOf_27 : decode cX5_firstOf 27 = .ok (.iconst 0, 1) := by decide +kernel
theorem dX5_firstOf_28 : decode cX5_firstOf 28 = .ok (.istore 5, 2) := by decide +kernel
theorem dX5_firstOf_30 : decode cX5_firstOf 30 = .ok (.iload 5, 2) := by decide +kernel
theorem dX5_firstOf_32 : decode cX5_firstOf 32 = .ok (.aload_n 0, 1) := by decide +kernel
theorem dX5_firstOf_33 : decode cX5_firstOf 33 = .ok (.iload_n 1, 1) := by decide +kernel
theorem dX5_firstOf_34 : decode cX5_firstOf 34 = .ok (.iload_n 3, 1) := by decide +kernel
theorem dX5_firstOf_35 : decode cX5_firstOf 35 = .ok (.invokevirtual 100, 3) := by decide +kernel
theorem dX5_firstOf_38 : decode cX5_firstOf 38 = .ok (.if_icmp .ge 39, 3) := by decide +kernel
theorem dX5_firstOf_41 : decode cX5_firstOf 41 = .ok (.aload_n 0, 1) := by decide +kernel
theorem dX5_firstOf_42 : decode cX5_firstOf 42 = .ok (.getfield 16, 3) := by decide +kernel
theorem dX5_firstOf_45 : decode cX5_firstOf 45 = .ok (.bipush 24, 2) := by decide +kernel
theorem dX5_firstOf_47 : decode cX5_firstOf 47 = .ok (.iload_n 1, 1) := by decide +kernel
theorem dX5_firstOf_48 : decode cX5_firstOf 48 = .ok (.imul, 1) := by decide +kernel
theorem dX5_firstOf_49 : decode cX5_firstOf 49 = .ok (.iload_n 2, 1) := by decide +kernel
theorem dX5_firstOf_50 : decode cX5_firstOf 50 = .ok (.iadd, 1) := by decide +kernel
theorem dX5_firstOf_51 : decode cX5_firstOf 51 = .ok (.iload 5, 2) := by decide +kernel
theorem dX5_firstOf_53 : decode cX5_firstOf 53 = .ok (.iadd, 1) := by decide +kernel
theorem dX5_firstOf_54 : decode cX5_firstOf 54 = .ok (.aload_n 0, 1) := by decide +kernel
theorem dX5_firstOf_55 : decode cX5_firstOf 55 = .ok (.getfield 16, 3) := by decide +kernel
theorem dX5_firstOf_58 : decode cX5_firstOf 58 = .ok (.bipush 24, 2) := by decide +kernel
theorem dX5_firstOf_60 : decode cX5_firstOf 60 = .ok (.iload_n 1, 1) := by decide +kernel
theorem dX5_firstOf_61 : decode cX5_firstOf 61 = .ok (.imul, 1) := by decide +kernel
theorem dX5_firstOf_62 : decode cX5_firstOf 62 = .ok (.iload_n 2, 1) := by decide +kernel
theorem dX5_firstOf_63 : decode cX5_firstOf 63 = .ok (.iadd, 1) := by decide +kernel
theorem dX5_firstOf_64 : decode cX5_firstOf 64 = .ok (.iload 5, 2) := by decide +kernel
theorem dX5_firstOf_66 : decode cX5_firstOf 66 = .ok (.iadd, 1) := by decide +kernel
theorem dX5_firstOf_67 : decode cX5_firstOf 67 = .ok (.iconst 1, 1) := by decide +kernel
theorem dX5_firstOf_68 : decode cX5_firstOf 68 = .ok (.iadd, 1) := by decide +kernel
theorem dX5_firstOf_69 : decode cX5_firstOf 69 = .ok (.iaload, 1) := by decide +kernel
theorem dX5_firstOf_70 : decode cX5_firstOf 70 = .ok (.iastore, 1) := by decide +kernel
theorem dX5_firstOf_71 : decode cX5_firstOf 71 = .ok (.iinc 5 1, 3) := by decide +kernel
theorem dX5_firstOf_74 : decode cX5_firstOf 74 = .ok (.goto (-44), 3) := by decide +kernel
theorem dX5_firstOf_77 : decode cX5_firstOf 77 = .ok (.iload 4, 2) := by decide +kernel
theorem dX5_firstOf_79 : decode cX5_firstOf 79 = .ok (.ireturn, 1) := by decide +kernel
theorem dX5_gives_0 : decode cX5_gives 0 = .ok (.aload_n 0, 1) := by decide +kernel
theorem dX5_gives_1 : decode cX5_gives 1 = .ok (.invokevirtual 157, 3) := by decide +kernel
theorem dX5_gives_4 : decode cX5_gives 4 = .ok (.istore_n 1, 1) := by decide +kernel
theorem dX5_gives_5 : decode cX5_gives 5 = .ok (.iload_n 1, 1) := by decide +kernel
theorem dX5_gives_6 : decode cX5_gives 6 = .ok (.ifCond .ne 6, 3) := by decide +kernel
theorem dX5_gives_9 : decode cX5_gives 9 = .ok (.bipush (-2), 2) := by decide +kernel
theorem dX5_gives_11 : decode cX5_gives 11 = .ok (.ireturn, 1) := by decide +kernel
theorem dX5_gives_12 : decode cX5_gives 12 = .ok (.aload_n 0, 1) := by decide +kernel
theorem dX5_gives_13 : decode cX5_gives 13 = .ok (.invokevirtual 117, 3) := by decide +kernel
theorem dX5_gives_16 : decode cX5_gives 16 = .ok (.istore_n 2, 1) := by decide +kernel
theorem dX5_gives_17 : decode cX5_gives 17 = .ok (.aload_n 0, 1) := by decide +kernel
theorem dX5_gives_18 : decode cX5_gives 18 = .ok (.aload_n 0, 1) := by decide +kernel
theorem dX5_gives_19 : decode cX5_gives 19 = .ok (.iload_n 1, 1) := by decide +kernel
theorem dX5_gives_20 : decode cX5_gives 20 = .ok (.invokevirtual 129, 3) := by decide +kernel
theorem dX5_gives_23 : decode cX5_gives 23 = .ok (.iconst 2, 1) := by decide +kernel
theorem dX5_gives_24 : decode cX5_gives 24 = .ok (.iadd, 1) := by decide +kernel
theorem dX5_gives_25 : decode cX5_gives 25 = .ok (.invokevirtual 107, 3) := by decide +kernel
theorem dX5_gives_28 : decode cX5_gives 28 = .ok (.aload_n 0, 1) := by decide +kernel
theorem dX5_gives_29 : decode cX5_gives 29 = .ok (.getfield 54, 3) := by decide +kernel
theorem dX5_gives_32 : decode cX5_gives 32 = .ok (.iconst 1, 1) := by decide +kernel
theorem dX5_gives_33 : decode cX5_gives 33 = .ok (.if_icmp .ne 33, 3) := by decide +kernel
theorem dX5_gives_36 : decode cX5_gives 36 = .ok (.aload_n 0, 1) := by decide +kernel
theorem dX5_gives_37 : decode cX5_gives 37 = .ok (.iload_n 2, 1) := by decide +kernel
theorem dX5_gives_38 : decode cX5_gives 38 = .ok (.bipush 9, 2) := by decide +kernel
theorem dX5_gives_40 : decode cX5_gives 40 = .ok (.invokevirtual 100, 3) := by decide +kernel
theorem dX5_gives_43 : decode cX5_gives 43 = .ok (.bipush 64, 2) := by decide +kernel
theorem dX5_gives_45 : decode cX5_gives 45 = .ok (.aload_n 0, 1) := by decide +kernel
theorem dX5_gives_46 : decode cX5_gives 46 = .ok (.iload_n 2, 1) := by decide +kernel
theorem dX5_gives_47 : decode cX5_gives 47 = .ok (.bipush 10, 2) := by decide +kernel
theorem dX5_gives_49 : decode cX5_gives 49 = .ok (.invokevirtual 100, 3) := by decide +kernel
theorem dX5_gives_52 : decode cX5_gives 52 = .ok (.imul, 1) := by decide +kernel
theorem dX5_gives_53 : decode cX5_gives 53 = .ok (.iadd, 1) := by decide +kernel
theorem dX5_gives_54 : decode cX5_gives 54 = .ok (.istore_n 3, 1) := by decide +kernel
theorem dX5_gives_55 : decode cX5_gives 55 = .ok (.aload_n 0, 1) := by decide +kernel
theorem dX5_gives_56 : decode cX5_gives 56 = .ok (.iload_n 2, 1) := by decide +kernel
theorem dX5_gives_57 : decode cX5_gives 57 = .ok (.bipush 10, 2) := by decide +kernel
theorem dX5_gives_59 : decode cX5_gives 59 = .ok (.iconst 0, 1) := by decide +kernel
theorem dX5_gives_60 : decode cX5_gives 60 = .ok (.invokevirtual 47, 3) := by decide +kernel
theorem dX5_gives_63 : decode cX5_gives 63 = .ok (.goto 12, 3) := by decide +kernel
theorem dX5_gives_66 : decode cX5_gives 66 = .ok (.aload_n 0, 1) := by decide +kernel
theorem dX5_gives_67 : decode cX5_gives 67 = .ok (.iload_n 2, 1) := by decide +kernel
theorem dX5_gives_68 : decode cX5_gives 68 = .ok (.iconst 0, 1) := by decide +kernel
theorem dX5_gives_69 : decode cX5_gives 69 = .ok (.bipush 15, 2) := by decide +kernel
theorem dX5_gives_71 : decode cX5_gives 71 = .ok (.invokevirtual 160, 3) := by decide +kernel
theorem dX5_gives_74 : decode cX5_gives 74 = .ok (.istore_n 3, 1) := by decide +kernel
theorem dX5_gives_75 : decode cX5_gives 75 = .ok (.iconst 0, 1) := by decide +kernel
theorem dX5_gives_76 : decode cX5_gives 76 = .ok (.istore 4, 2) := by decide +kernel
theorem dX5_gives_78 : decode cX5_gives 78 = .ok (.iload 4, 2) := by decide +kernel
theorem dX5_gives_80 : decode cX5_gives 80 = .ok (.aload_n 0, 1) := by decide +kernel
theorem dX5_gives_81 : decode cX5_gives 81 = .ok (.getfield 44, 3) := by decide +kernel
theorem dX5_gives_84 : decode cX5_gives 84 = .ok (.if_icmp .ge 70, 3) := by decide +kernel
theorem dX5_gives_87 : decode cX5_gives 87 = .ok (.iload_n 1, 1) := by decide +kernel
theorem dX5_gives_88 : decode cX5_gives 88 = .ok (.iload 4, 2) := by decide +kernel
theorem dX5_gives_90 : decode cX5_gives 90 = .ok (.ishr, 1) := by decide +kernel
theorem dX5_gives_91 : decode cX5_gives 91 = .ok (.iconst 1, 1) := by decide +kernel
theorem dX5_gives_92 : decode cX5_gives 92 = .ok (.iand, 1) := by decide +kernel
theorem dX5_gives_93 : decode cX5_gives 93 = .ok (.iconst 1, 1) := by decide +kernel
theorem dX5_gives_94 : decode cX5_gives 94 = .ok (.if_icmp .ne 54, 3) := by decide +kernel
theorem dX5_gives_97 : decode cX5_gives 97 = .ok (.aload_n 0, 1) := by decide +kernel
theorem dX5_gives_98 : decode cX5_gives 98 = .ok (.getfield 16, 3) := by decide +kernel
theorem dX5_gives_101 : decode cX5_gives 101 = .ok (.bipush 24, 2) := by decide +kernel
theorem dX5_gives_103 : decode cX5_gives 103 = .ok (.iload 4, 2) := by decide +kernel
theorem dX5_gives_105 : decode cX5_gives 105 = .ok (.imul, 1) := by decide +kernel
theorem dX5_gives_106 : decode cX5_gives 106 = .ok (.bipush 12, 2) := by decide +kernel
theorem dX5_gives_108 : decode cX5_gives 108 = .ok (.iadd, 1) := by decide +kernel
theorem dX5_gives_109 : decode cX5_gives 109 = .ok (.aload_n 0, 1) := by decide +kernel
theorem dX5_gives_110 : decode cX5_gives 110 = .ok (.iload 4, 2) := by decide +kernel
theorem dX5_gives_112 : decode cX5_gives 112 = .ok (.bipush 16, 2) := by decide +kernel
theorem dX5_gives_114 : decode cX5_gives 114 = .ok (.invokevirtual 100, 3) := by decide +kernel
theorem dX5_gives_117 : decode cX5_gives 117 = .ok (.iadd, 1) := by decide +kernel
theorem dX5_gives_118 : decode cX5_gives 118 = .ok (.iload_n 3, 1) := by decide +kernel
theorem dX5_gives_119 : decode cX5_gives 119 = .ok (.iastore, 1) := by decide +kernel
theorem dX5_gives_120 : decode cX5_gives 120 = .ok (.aload_n 0, 1) := by decide +kernel
theorem dX5_gives_121 : decode cX5_gives 121 = .ok (.iload 4, 2) := by decide +kernel
theorem dX5_gives_123 : decode cX5_gives 123 = .ok (.bipush 16, 2) := by decide +kernel
theorem dX5_gives_125 : decode cX5_gives 125 = .ok (.aload_n 0, 1) := by decide +kernel
theorem dX5_gives_126 : decode cX5_gives 126 = .ok (.iload 4, 2) := by decide +kernel
theorem dX5_gives_128 : decode cX5_gives 128 = .ok (.bipush 16, 2) := by decide +kernel
theorem dX5_gives_130 : decode cX5_gives 130 = .ok (.invokevirtual 100, 3) := by decide +kernel
theorem dX5_gives_133 : decode cX5_gives 133 = .ok (.iconst 1, 1) := by decide +kernel
theorem dX5_gives_134 : decode cX5_gives 134 = .ok (.iadd, 1) := by decide +kernel
theorem dX5_gives_135 : decode cX5_gives 135 = .ok (.invokevirtual 47, 3) := by decide +kernel
theorem dX5_gives_138 : decode cX5_gives 138 = .ok (.aload_n 0, 1) := by decide +kernel
theorem dX5_gives_139 : decode cX5_gives 139 = .ok (.getfield 19, 3) := by decide +kernel
theorem dX5_gives_142 : decode cX5_gives 142 = .ok (.iconst 2, 1) := by decide +kernel
theorem dX5_gives_143 : decode cX5_gives 143 = .ok (.dup2, 1) := by decide +kernel
theorem dX5_gives_144 : decode cX5_gives 144 = .ok (.iaload, 1) := by decide +kernel
theorem dX5_gives_145 : decode cX5_gives 145 = .ok (.iconst 1, 1) := by decide +kernel
theorem dX5_gives_146 : decode cX5_gives 146 = .ok (.iadd, 1) := by decide +kernel
theorem dX5_gives_147 : decode cX5_gives 147 = .ok (.iastore, 1) := by decide +kernel
theorem dX5_gives_148 : decode cX5_gives 148 = .ok (.iinc 4 1, 3) := by decide +kernel
theorem dX5_gives_151 : decode cX5_gives 151 = .ok (.goto (-73), 3) := by decide +kernel
theorem dX5_gives_154 : decode cX5_gives 154 = .ok (.aload_n 0, 1) := by decide +kernel
theorem dX5_gives_155 : decode cX5_gives 155 = .ok (.getfield 19, 3) := by decide +kernel
theorem dX5_gives_158 : decode cX5_gives 158 = .ok (.iconst 1, 1) := by decide +kernel
theorem dX5_gives_159 : decode cX5_gives 159 = .ok (.dup2, 1) := by decide +kernel
theorem dX5_gives_160 : decode cX5_gives 160 = .ok (.iaload, 1) := by decide +kernel
theorem dX5_gives_161 : decode cX5_gives 161 = .ok (.iconst 1, 1) := by decide +kernel
theorem dX5_gives_162 : decode cX5_gives 162 = .ok (.iadd, 1) := by decide +kernel
theorem dX5_gives_163 : decode cX5_gives 163 = .ok (.iastore, 1) := by decide +kernel
theorem dX5_gives_164 : decode cX5_gives 164 = .ok (.iload_n 3, 1) := by decide +kernel
theorem dX5_gives_165 : decode cX5_gives 165 = .ok (.ireturn, 1) := by decide +kernel
theorem dX5_give_0 : decode cX5_give 0 = .ok (.aload_n 0, 1) := by decide +kernel
theorem dX5_give_1 : decode cX5_give 1 = .ok (.invokevirtual 164, 3) := by decide +kernel
theorem dX5_give_4 : decode cX5_give 4 = .ok (.ireturn, 1) := by decide +kernel
theorem dX5_sendsTo_0 : decode cX5_sendsTo 0 = .ok (.aload_n 0, 1) := by decide +kernel
theorem dX5_sendsTo_1 : decode cX5_sendsTo 1 = .ok (.iload_n 2, 1) := by decide +kernel
theorem dX5_sendsTo_2 : decode cX5_sendsTo 2 = .ok (.aload_n 0, 1) := by decide +kernel
theorem dX5_sendsTo_3 : decode cX5_sendsTo 3 = .ok (.iload_n 1, 1) := by decide +kernel
theorem dX5_sendsTo_4 : decode cX5_sendsTo 4 = .ok (.iconst 1, 1) := by decide +kernel
theorem dX5_sendsTo_5 : decode cX5_sendsTo 5 = .ok (.invokevirtual 100, 3) := by decide +kernel
theorem dX5_sendsTo_8 : decode cX5_sendsTo 8 = .ok (.iadd, 1) := by decide +kernel
theorem dX5_sendsTo_9 : decode cX5_sendsTo 9 = .ok (.invokevirtual 154, 3) := by decide +kernel
theorem dX5_sendsTo_12 : decode cX5_sendsTo 12 = .ok (.aload_n 0, 1) := by decide +kernel
theorem dX5_sendsTo_13 : decode cX5_sendsTo 13 = .ok (.iload_n 1, 1) := by decide +kernel
theorem dX5_sendsTo_14 : decode cX5_sendsTo 14 = .ok (.iconst 2, 1) := by decide +kernel
theorem dX5_sendsTo_15 : decode cX5_sendsTo 15 = .ok (.invokevirtual 100, 3) := by decide +kernel
theorem dX5_sendsTo_18 : decode cX5_sendsTo 18 = .ok (.bipush 31, 2) := by decide +kernel
theorem dX5_sendsTo_20 : decode cX5_sendsTo 20 = .ok (.if_icmp .ge 16, 3) := by decide +kernel
theorem dX5_sendsTo_23 : decode cX5_sendsTo 23 = .ok (.aload_n 0, 1) := by decide +kernel
theorem dX5_sendsTo_24 : decode cX5_sendsTo 24 = .ok (.bipush 96, 2) := by decide +kernel
theorem dX5_sendsTo_26 : decode cX5_sendsTo 26 = .ok (.aload_n 0, 1) := by decide +kernel
theorem dX5_sendsTo_27 : decode cX5_sendsTo 27 = .ok (.iload_n 1, 1) := by decide +kernel
theorem dX5_sendsTo_28 : decode cX5_sendsTo 28 = .ok (.iconst 2, 1) := by decide +kernel
theorem dX5_sendsTo_29 : decode cX5_sendsTo 29 = .ok (.invokevirtual 100, 3) := by decide +kernel
theorem dX5_sendsTo_32 : decode cX5_sendsTo 32 = .ok (.iadd, 1) := by decide +kernel
theorem dX5_sendsTo_33 : decode cX5_sendsTo 33 = .ok (.invokevirtual 154, 3) := by decide +kernel
theorem dX5_sendsTo_36 : decode cX5_sendsTo 36 = .ok (.return_, 1) := by decide +kernel
theorem dX5_poll_0 : decode cX5_poll 0 = .ok (.aload_n 0, 1) := by decide +kernel
theorem dX5_poll_1 : decode cX5_poll 1 = .ok (.getfield 19, 3) := by decide +kernel
theorem dX5_poll_4 : decode cX5_poll 4 = .ok (.iconst 4, 1) := by decide +kernel
theorem dX5_poll_5 : decode cX5_poll 5 = .ok (.dup2, 1) := by decide +kernel
theorem dX5_poll_6 : decode cX5_poll 6 = .ok (.iaload, 1) := by decide +kernel
theorem dX5_poll_7 : decode cX5_poll 7 = .ok (.iconst 1, 1) := by decide +kernel
theorem dX5_poll_8 : decode cX5_poll 8 = .ok (.iadd, 1) := by decide +kernel
theorem dX5_poll_9 : decode cX5_poll 9 = .ok (.iastore, 1) := by decide +kernel
theorem dX5_poll_10 : decode cX5_poll 10 = .ok (.aload_n 0, 1) := by decide +kernel
theorem dX5_poll_11 : decode cX5_poll 11 = .ok (.bipush 63, 2) := by decide +kernel
theorem dX5_poll_13 : decode cX5_poll 13 = .ok (.invokevirtual 154, 3) := by decide +kernel
theorem dX5_poll_16 : decode cX5_poll 16 = .ok (.aload_n 0, 1) := by decide +kernel
theorem dX5_poll_17 : decode cX5_poll 17 = .ok (.aload_n 0, 1) := by decide +kernel
theorem dX5_poll_18 : decode cX5_poll 18 = .ok (.getfield 51, 3) := by decide +kernel
theorem dX5_poll_21 : decode cX5_poll 21 = .ok (.bipush 32, 2) := by decide +kernel
theorem dX5_poll_23 : decode cX5_poll 23 = .ok (.invokevirtual 167, 3) := by decide +kernel
theorem dX5_poll_26 : decode cX5_poll 26 = .ok (.aload_n 0, 1) := by decide +kernel
theorem dX5_poll_27 : decode cX5_poll 27 = .ok (.bipush 24, 2) := by decide +kernel
theorem dX5_poll_29 : decode cX5_poll 29 = .ok (.invokevirtual 154, 3) := by decide +kernel
theorem dX5_poll_32 : decode cX5_poll 32 = .ok (.bipush (-4), 2) := by decide +kernel
theorem dX5_poll_34 : decode cX5_poll 34 = .ok (.istore_n 1, 1) := by decide +kernel
theorem dX5_poll_35 : decode cX5_poll 35 = .ok (.iconst 0, 1) := by decide +kernel
theorem dX5_poll_36 : decode cX5_poll 36 = .ok (.istore_n 2, 1) := by decide +kernel
theorem dX5_poll_37 : decode cX5_poll 37 = .ok (.iload_n 2, 1) := by decide +kernel
theorem dX5_poll_38 : decode cX5_poll 38 = .ok (.aload_n 0, 1) := by decide +kernel
theorem dX5_poll_39 : decode cX5_poll 39 = .ok (.getfield 44, 3) := by decide +kernel
theorem dX5_poll_42 : decode cX5_poll 42 = .ok (.if_icmp .ge 44, 3) := by decide +kernel
theorem dX5_poll_45 : decode cX5_poll 45 = .ok (.iload_n 1, 1) := by decide +kernel
theorem dX5_poll_46 : decode cX5_poll 46 = .ok (.ifCond .ge 40, 3) := by decide +kernel
theorem dX5_poll_49 : decode cX5_poll 49 = .ok (.iload_n 2, 1) := by decide +kernel
theorem dX5_poll_50 : decode cX5_poll 50 = .ok (.aload_n 0, 1) := by decide +kernel
theorem dX5_poll_51 : decode cX5_poll 51 = .ok (.getfield 51, 3) := by decide +kernel
theorem dX5_poll_54 : decode cX5_poll 54 = .ok (.if_icmp .eq 26, 3) := by decide +kernel
theorem dX5_poll_57 : decode cX5_poll 57 = .ok (.aload_n 0, 1) := by decide +kernel
theorem dX5_poll_58 : decode cX5_poll 58 = .ok (.iload_n 2, 1) := by decide +kernel
theorem dX5_poll_59 : decode cX5_poll 59 = .ok (.bipush 64, 2) := by decide +kernel
theorem dX5_poll_61 : decode cX5_poll 61 = .ok (.invokevirtual 167, 3) := by decide +kernel
theorem dX5_poll_64 : decode cX5_poll 64 = .ok (.aload_n 0, 1) := by decide +kernel
theorem dX5_poll_65 : decode cX5_poll 65 = .ok (.invokevirtual 164, 3) := by decide +kernel
theorem dX5_poll_68 : decode cX5_poll 68 = .ok (.bipush 64, 2) := by decide +kernel
theorem dX5_poll_70 : decode cX5_poll 70 = .ok (.if_icmp .lt 7, 3) := by decide +kernel
theorem dX5_poll_73 : decode cX5_poll 73 = .ok (.iload_n 2, 1) := by decide +kernel
theorem dX5_poll_74 : decode cX5_poll 74 = .ok (.goto 5, 3) := by decide +kernel
theorem dX5_poll_77 : decode cX5_poll 77 = .ok (.bipush (-4), 2) := by decide +kernel
theorem dX5_poll_79 : decode cX5_poll 79 = .ok (.istore_n 1, 1) := by decide +kernel
theorem dX5_poll_80 : decode cX5_poll 80 = .ok (.iinc 2 1, 3) := by decide +kernel
theorem dX5_poll_83 : decode cX5_poll 83 = .ok (.goto (-46), 3) := by decide +kernel
theorem dX5_poll_86 : decode cX5_poll 86 = .ok (.aload_n 0, 1) := by decide +kernel
theorem dX5_poll_87 : decode cX5_poll 87 = .ok (.bipush 25, 2) := by decide +kernel
theorem dX5_poll_89 : decode cX5_poll 89 = .ok (.invokevirtual 154, 3) := by decide +kernel
theorem dX5_poll_92 : decode cX5_poll 92 = .ok (.aload_n 0, 1) := by decide +kernel
theorem dX5_poll_93 : decode cX5_poll 93 = .ok (.bipush 95, 2) := by decide +kernel
theorem dX5_poll_95 : decode cX5_poll 95 = .ok (.invokevirtual 154, 3) := by decide +kernel
theorem dX5_poll_98 : decode cX5_poll 98 = .ok (.aload_n 0, 1) := by decide +kernel
theorem dX5_poll_99 : decode cX5_poll 99 = .ok (.getfield 19, 3) := by decide +kernel
theorem dX5_poll_102 : decode cX5_poll 102 = .ok (.iconst 5, 1) := by decide +kernel
theorem dX5_poll_103 : decode cX5_poll 103 = .ok (.dup2, 1) := by decide +kernel
theorem dX5_poll_104 : decode cX5_poll 104 = .ok (.iaload, 1) := by decide +kernel
theorem dX5_poll_105 : decode cX5_poll 105 = .ok (.iload_n 1, 1) := by decide +kernel
theorem dX5_poll_106 : decode cX5_poll 106 = .ok (.ifCond .ge 7, 3) := by decide +kernel
theorem dX5_poll_109 : decode cX5_poll 109 = .ok (.iconst 0, 1) := by decide +kernel
theorem dX5_poll_110 : decode cX5_poll 110 = .ok (.goto 4, 3) := by decide +kernel
theorem dX5_poll_113 : decode cX5_poll 113 = .ok (.iconst 1, 1) := by decide +kernel
theorem dX5_poll_114 : decode cX5_poll 114 = .ok (.iadd, 1) := by decide +kernel
theorem dX5_poll_115 : decode cX5_poll 115 = .ok (.iastore, 1) := by decide +kernel
theorem dX5_poll_116 : decode cX5_poll 116 = .ok (.iload_n 1, 1) := by decide +kernel
theorem dX5_poll_117 : decode cX5_poll 117 = .ok (.ireturn, 1) := by decide +kernel
theorem dX5_parallel_0 : decode cX5_parallel 0 = .ok (.aload_n 0, 1) := by decide +kernel
theorem dX5_parallel_1 : decode cX5_parallel 1 = .ok (.iconst 1, 1) := by decide +kernel
theorem dX5_parallel_2 : decode cX5_parallel 2 = .ok (.invokevirtual 107, 3) := by decide +kernel
theorem dX5_parallel_5 : decode cX5_parallel 5 = .ok (.iconst 0, 1) := by decide +kernel
theorem dX5_parallel_6 : decode cX5_parallel 6 = .ok (.istore_n 1, 1) := by decide +kernel
theorem dX5_parallel_7 : decode cX5_parallel 7 = .ok (.iconst 0, 1) := by decide +kernel
theorem dX5_parallel_8 : decode cX5_parallel 8 = .ok (.istore_n 2, 1) := by decide +kernel
theorem dX5_parallel_9 : decode cX5_parallel 9 = .ok (.iload_n 2, 1) := by decide +kernel
theorem dX5_parallel_10 : decode cX5_parallel 10 = .ok (.aload_n 0, 1) := by decide +kernel
theorem dX5_parallel_11 : decode cX5_parallel 11 = .ok (.getfield 44, 3) := by decide +kernel
theorem dX5_parallel_14 : decode cX5_parallel 14 = .ok (.if_icmp .ge 52, 3) := by decide +kernel
theorem dX5_parallel_17 : decode cX5_parallel 17 = .ok (.iload_n 1, 1) := by decide +kernel
theorem dX5_parallel_18 : decode cX5_parallel 18 = .ok (.aload_n 0, 1) := by decide +kernel
theorem dX5_parallel_19 : decode cX5_parallel 19 = .ok (.iload_n 2, 1) := by decide +kernel
theorem dX5_parallel_20 : decode cX5_parallel 20 = .ok (.bipush 11, 2) := by decide +kernel
theorem dX5_parallel_22 : decode cX5_parallel 22 = .ok (.invokevirtual 100, 3) := by decide +kernel
theorem dX5_parallel_25 : decode cX5_parallel 25 = .ok (.ifCond .lt 32, 3) := by decide +kernel
theorem dX5_parallel_28 : decode cX5_parallel 28 = .ok (.aload_n 0, 1) := by decide +kernel
theorem dX5_parallel_29 : decode cX5_parallel 29 = .ok (.iload_n 2, 1) := by decide +kernel
theorem dX5_parallel_30 : decode cX5_parallel 30 = .ok (.bipush 10, 2) := by decide +kernel
theorem dX5_parallel_32 : decode cX5_parallel 32 = .ok (.invokevirtual 100, 3) := by decide +kernel
theorem dX5_parallel_35 : decode cX5_parallel 35 = .ok (.aload_n 0, 1) := by decide +kernel
theorem dX5_parallel_36 : decode cX5_parallel 36 = .ok (.iload_n 2, 1) := by decide +kernel
theorem dX5_parallel_37 : decode cX5_parallel 37 = .ok (.bipush 12, 2) := by decide +kernel
theorem dX5_parallel_39 : decode cX5_parallel 39 = .ok (.invokevirtual 100, 3) := by decide +kernel
theorem dX5_parallel_42 : decode cX5_parallel 42 = .ok (.if_icmp .ne 15, 3) := by decide +kernel
theorem dX5_parallel_45 : decode cX5_parallel 45 = .ok (.iconst 1, 1) := by decide +kernel
theorem dX5_parallel_46 : decode cX5_parallel 46 = .ok (.aload_n 0, 1) := by decide +kernel
theorem dX5_parallel_47 : decode cX5_parallel 47 = .ok (.iload_n 2, 1) := by decide +kernel
theorem dX5_parallel_48 : decode cX5_parallel 48 = .ok (.bipush 11, 2) := by decide +kernel
theorem dX5_parallel_50 : decode cX5_parallel 50 = .ok (.invokevirtual 100, 3) := by decide +kernel
theorem dX5_parallel_53 : decode cX5_parallel 53 = .ok (.ishl, 1) := by decide +kernel
theorem dX5_parallel_54 : decode cX5_parallel 54 = .ok (.goto 4, 3) := by decide +kernel
theorem dX5_parallel_57 : decode cX5_parallel 57 = .ok (.iconst 0, 1) := by decide +kernel
theorem dX5_parallel_58 : decode cX5_parallel 58 = .ok (.ior, 1) := by decide +kernel
theorem dX5_parallel_59 : decode cX5_parallel 59 = .ok (.istore_n 1, 1) := by decide +kernel
theorem dX5_parallel_60 : decode cX5_parallel 60 = .ok (.iinc 2 1, 3) := by decide +kernel
theorem dX5_parallel_63 : decode cX5_parallel 63 = .ok (.goto (-54), 3) := by decide +kernel
theorem dX5_parallel_66 : decode cX5_parallel 66 = .ok (.iload_n 1, 1) := by decide +kernel
theorem dX5_parallel_67 : decode cX5_parallel 67 = .ok (.ireturn, 1) := by decide +kernel
theorem dX5_takeBack_0 : decode cX5_takeBack 0 = .ok (.aload_n 0, 1) := by decide +kernel
theorem dX5_takeBack_1 : decode cX5_takeBack 1 = .ok (.getfield 51, 3) := by decide +kernel
theorem dX5_takeBack_4 : decode cX5_takeBack 4 = .ok (.istore_n 1, 1) := by decide +kernel
theorem dX5_takeBack_5 : decode cX5_takeBack 5 = .ok (.aload_n 0, 1) := by decide +kernel
theorem dX5_takeBack_6 : decode cX5_takeBack 6 = .ok (.iconst 5, 1) := by decide +kernel
theorem dX5_takeBack_7 : decode cX5_takeBack 7 = .ok (.iconst 0, 1) := by decide +kernel
theorem dX5_takeBack_8 : decode cX5_takeBack 8 = .ok (.invokevirtual 142, 3) := by decide +kernel
theorem dX5_takeBack_11 : decode cX5_takeBack 11 = .ok (.aload_n 0, 1) := by decide +kernel
theorem dX5_takeBack_12 : decode cX5_takeBack 12 = .ok (.bipush 6, 2) := by decide +kernel
theorem dX5_takeBack_14 : decode cX5_takeBack 14 = .ok (.iconst 0, 1) := by decide +kernel
theorem dX5_takeBack_15 : decode cX5_takeBack 15 = .ok (.invokevirtual 142, 3) := by decide +kernel
theorem dX5_takeBack_18 : decode cX5_takeBack 18 = .ok (.aload_n 0, 1) := by decide +kernel
theorem dX5_takeBack_19 : decode cX5_takeBack 19 = .ok (.bipush 17, 2) := by decide +kernel
theorem dX5_takeBack_21 : decode cX5_takeBack 21 = .ok (.iconst 0, 1) := by decide +kernel
theorem dX5_takeBack_22 : decode cX5_takeBack 22 = .ok (.invokevirtual 142, 3) := by decide +kernel
theorem dX5_takeBack_25 : decode cX5_takeBack 25 = .ok (.aload_n 0, 1) := by decide +kernel
theorem dX5_takeBack_26 : decode cX5_takeBack 26 = .ok (.iconst 0, 1) := by decide +kernel
theorem dX5_takeBack_27 : decode cX5_takeBack 27 = .ok (.putfield 63, 3) := by decide +kernel
theorem dX5_takeBack_30 : decode cX5_takeBack 30 = .ok (.aload_n 0, 1) := by decide +kernel
theorem dX5_takeBack_31 : decode cX5_takeBack 31 = .ok (.iconst 0, 1) := by decide +kernel
theorem dX5_takeBack_32 : decode cX5_takeBack 32 = .ok (.putfield 54, 3) := by decide +kernel
theorem dX5_takeBack_35 : decode cX5_takeBack 35 = .ok (.aload_n 0, 1) := by decide +kernel
theorem dX5_takeBack_36 : decode cX5_takeBack 36 = .ok (.iconst 0, 1) := by decide +kernel
theorem dX5_takeBack_37 : decode cX5_takeBack 37 = .ok (.putfield 51, 3) := by decide +kernel
theorem dX5_takeBack_40 : decode cX5_takeBack 40 = .ok (.iload_n 1, 1) := by decide +kernel
theorem dX5_takeBack_41 : decode cX5_takeBack 41 = .ok (.ireturn, 1) := by decide +kernel
theorem dX5_isDevice_0 : decode cX5_isDevice 0 = .ok (.iload_n 1, 1) := by decide +kernel
theorem dX5_isDevice_1 : decode cX5_isDevice 1 = .ok (.iconst 0, 1) := by decide +kernel
theorem dX5_isDevice_2 : decode cX5_isDevice 2 = .ok (.aload_n 0, 1) := by decide +kernel
theorem dX5_isDevice_3 : decode cX5_isDevice 3 = .ok (.getfield 44, 3) := by decide +kernel
theorem dX5_isDevice_6 : decode cX5_isDevice 6 = .ok (.iconst 1, 1) := by decide +kernel
theorem dX5_isDevice_7 : decode cX5_isDevice 7 = .ok (.isub, 1) := by decide +kernel
theorem dX5_isDevice_8 : decode cX5_isDevice 8 = .ok (.invokestatic 82, 3) := by decide +kernel
theorem dX5_isDevice_11 : decode cX5_isDevice 11 = .ok (.ireturn, 1) := by decide +kernel
theorem dX5_put_0 : decode cX5_put 0 = .ok (.aload_n 0, 1) := by decide +kernel
theorem dX5_put_1 : decode cX5_put 1 = .ok (.iload_n 1, 1) := by decide +kernel
theorem dX5_put_2 : decode cX5_put 2 = .ok (.invokevirtual 170, 3) := by decide +kernel
theorem dX5_put_5 : decode cX5_put 5 = .ok (.ifCond .eq 14, 3) := by decide +kernel
theorem dX5_put_8 : decode cX5_put 8 = .ok (.iload_n 2, 1) := by decide +kernel
theorem dX5_put_9 : decode cX5_put 9 = .ok (.iconst 0, 1) := by decide +kernel
theorem dX5_put_10 : decode cX5_put 10 = .ok (.sipush 255, 3) := by decide +kernel
theorem dX5_put_13 : decode cX5_put 13 = .ok (.invokestatic 82, 3) := by decide +kernel
theorem dX5_put_16 : decode cX5_put 16 = .ok (.ifCond .ne 5, 3) := by decide +kernel
theorem dX5_put_19 : decode cX5_put 19 = .ok (.iconst (-1), 1) := by decide +kernel
theorem dX5_put_20 : decode cX5_put 20 = .ok (.ireturn, 1) := by decide +kernel
theorem dX5_put_21 : decode cX5_put 21 = .ok (.aload_n 0, 1) := by decide +kernel
theorem dX5_put_22 : decode cX5_put 22 = .ok (.iload_n 1, 1) := by decide +kernel
theorem dX5_put_23 : decode cX5_put 23 = .ok (.bipush 15, 2) := by decide +kernel
theorem dX5_put_25 : decode cX5_put 25 = .ok (.invokevirtual 100, 3) := by decide +kernel
theorem dX5_put_28 : decode cX5_put 28 = .ok (.istore_n 3, 1) := by decide +kernel
theorem dX5_put_29 : decode cX5_put 29 = .ok (.iload_n 3, 1) := by decide +kernel
theorem dX5_put_30 : decode cX5_put 30 = .ok (.bipush 12, 2) := by decide +kernel
theorem dX5_put_32 : decode cX5_put 32 = .ok (.if_icmp .ne 6, 3) := by decide +kernel
theorem dX5_put_35 : decode cX5_put 35 = .ok (.bipush (-3), 2) := by decide +kernel
theorem dX5_put_37 : decode cX5_put 37 = .ok (.ireturn, 1) := by decide +kernel
theorem dX5_put_38 : decode cX5_put 38 = .ok (.aload_n 0, 1) := by decide +kernel
theorem dX5_put_39 : decode cX5_put 39 = .ok (.getfield 16, 3) := by decide +kernel
theorem dX5_put_42 : decode cX5_put 42 = .ok (.bipush 24, 2) := by decide +kernel
theorem dX5_put_44 : decode cX5_put 44 = .ok (.iload_n 1, 1) := by decide +kernel
theorem dX5_put_45 : decode cX5_put 45 = .ok (.imul, 1) := by decide +kernel
theorem dX5_put_46 : decode cX5_put 46 = .ok (.iload_n 3, 1) := by decide +kernel
theorem dX5_put_47 : decode cX5_put 47 = .ok (.iadd, 1) := by decide +kernel
theorem dX5_put_48 : decode cX5_put 48 = .ok (.iload_n 2, 1) := by decide +kernel
theorem dX5_put_49 : decode cX5_put 49 = .ok (.iastore, 1) := by decide +kernel
theorem dX5_put_50 : decode cX5_put 50 = .ok (.aload_n 0, 1) := by decide +kernel
theorem dX5_put_51 : decode cX5_put 51 = .ok (.iload_n 1, 1) := by decide +kernel
theorem dX5_put_52 : decode cX5_put 52 = .ok (.bipush 15, 2) := by decide +kernel
theorem dX5_put_54 : decode cX5_put 54 = .ok (.iload_n 3, 1) := by decide +kernel
theorem dX5_put_55 : decode cX5_put 55 = .ok (.iconst 1, 1) := by decide +kernel
theorem dX5_put_56 : decode cX5_put 56 = .ok (.iadd, 1) := by decide +kernel
theorem dX5_put_57 : decode cX5_put 57 = .ok (.invokevirtual 47, 3) := by decide +kernel
theorem dX5_put_60 : decode cX5_put 60 = .ok (.iload_n 3, 1) := by decide +kernel
theorem dX5_put_61 : decode cX5_put 61 = .ok (.iconst 1, 1) := by decide +kernel
theorem dX5_put_62 : decode cX5_put 62 = .ok (.iadd, 1) := by decide +kernel
theorem dX5_put_63 : decode cX5_put 63 = .ok (.ireturn, 1) := by decide +kernel
theorem dX5_take_0 : decode cX5_take 0 = .ok (.aload_n 0, 1) := by decide +kernel
theorem dX5_take_1 : decode cX5_take 1 = .ok (.iload_n 1, 1) := by decide +kernel
theorem dX5_take_2 : decode cX5_take 2 = .ok (.invokevirtual 170, 3) := by decide +kernel
theorem dX5_take_5 : decode cX5_take 5 = .ok (.ifCond .ne 5, 3) := by decide +kernel
theorem dX5_take_8 : decode cX5_take 8 = .ok (.iconst (-1), 1) := by decide +kernel
theorem dX5_take_9 : decode cX5_take 9 = .ok (.ireturn, 1) := by decide +kernel
theorem dX5_take_10 : decode cX5_take 10 = .ok (.aload_n 0, 1) := by decide +kernel
theorem dX5_take_11 : decode cX5_take 11 = .ok (.iload_n 1, 1) := by decide +kernel
theorem dX5_take_12 : decode cX5_take 12 = .ok (.bipush 16, 2) := by decide +kernel
theorem dX5_take_14 : decode cX5_take 14 = .ok (.invokevirtual 100, 3) := by decide +kernel
theorem dX5_take_17 : decode cX5_take 17 = .ok (.ifCond .ne 8, 3) := by decide +kernel
theorem dX5_take_20 : decode cX5_take 20 = .ok (.bipush (-4), 2) := by decide +kernel
theorem dX5_take_22 : decode cX5_take 22 = .ok (.goto 12, 3) := by decide +kernel
theorem dX5_take_25 : decode cX5_take 25 = .ok (.aload_n 0, 1) := by decide +kernel
theorem dX5_take_26 : decode cX5_take 26 = .ok (.iload_n 1, 1) := by decide +kernel
theorem dX5_take_27 : decode cX5_take 27 = .ok (.bipush 12, 2) := by decide +kernel
theorem dX5_take_29 : decode cX5_take 29 = .ok (.bipush 16, 2) := by decide +kernel
theorem dX5_take_31 : decode cX5_take 31 = .ok (.invokevirtual 160, 3) := by decide +kernel
theorem dX5_take_34 : decode cX5_take 34 = .ok (.ireturn, 1) := by decide +kernel
theorem dX5_ask_0 : decode cX5_ask 0 = .ok (.aload_n 0, 1) := by decide +kernel
theorem dX5_ask_1 : decode cX5_ask 1 = .ok (.iload_n 1, 1) := by decide +kernel
theorem dX5_ask_2 : decode cX5_ask 2 = .ok (.invokevirtual 170, 3) := by decide +kernel
theorem dX5_ask_5 : decode cX5_ask 5 = .ok (.ifCond .eq 22, 3) := by decide +kernel
theorem dX5_ask_8 : decode cX5_ask 8 = .ok (.iload_n 2, 1) := by decide +kernel
theorem dX5_ask_9 : decode cX5_ask 9 = .ok (.iconst 0, 1) := by decide +kernel
theorem dX5_ask_10 : decode cX5_ask 10 = .ok (.bipush 63, 2) := by decide +kernel
theorem dX5_ask_12 : decode cX5_ask 12 = .ok (.invokestatic 82, 3) := by decide +kernel
theorem dX5_ask_15 : decode cX5_ask 15 = .ok (.ifCond .eq 12, 3) := by decide +kernel
theorem dX5_ask_18 : decode cX5_ask 18 = .ok (.iload_n 3, 1) := by decide +kernel
theorem dX5_ask_19 : decode cX5_ask 19 = .ok (.iconst 0, 1) := by decide +kernel
theorem dX5_ask_20 : decode cX5_ask 20 = .ok (.iconst 1, 1) := by decide +kernel
theorem dX5_ask_21 : decode cX5_ask 21 = .ok (.invokestatic 82, 3) := by decide +kernel
theorem dX5_ask_24 : decode cX5_ask 24 = .ok (.ifCond .ne 5, 3) := by decide +kernel
theorem dX5_ask_27 : decode cX5_ask 27 = .ok (.iconst (-1), 1) := by decide +kernel
theorem dX5_ask_28 : decode cX5_ask 28 = .ok (.ireturn, 1) := by decide +kernel
theorem dX5_ask_29 : decode cX5_ask 29 = .ok (.aload_n 0, 1) := by decide +kernel
theorem dX5_ask_30 : decode cX5_ask 30 = .ok (.iload_n 1, 1) := by decide +kernel
theorem dX5_ask_31 : decode cX5_ask 31 = .ok (.bipush 9, 2) := by decide +kernel
theorem dX5_ask_33 : decode cX5_ask 33 = .ok (.invokevirtual 100, 3) := by decide +kernel
theorem dX5_ask_36 : decode cX5_ask 36 = .ok (.bipush 64, 2) := by decide +kernel
theorem dX5_ask_38 : decode cX5_ask 38 = .ok (.aload_n 0, 1) := by decide +kernel
theorem dX5_ask_39 : decode cX5_ask 39 = .ok (.iload_n 1, 1) := by decide +kernel
theorem dX5_ask_40 : decode cX5_ask 40 = .ok (.bipush 10, 2) := by decide +kernel
theorem dX5_ask_42 : decode cX5_ask 42 = .ok (.invokevirtual 100, 3) := by decide +kernel
theorem dX5_ask_45 : decode cX5_ask 45 = .ok (.imul, 1) := by decide +kernel
theorem dX5_ask_46 : decode cX5_ask 46 = .ok (.iadd, 1) := by decide +kernel
theorem dX5_ask_47 : decode cX5_ask 47 = .ok (.istore 4, 2) := by decide +kernel
theorem dX5_ask_49 : decode cX5_ask 49 = .ok (.aload_n 0, 1) := by decide +kernel
theorem dX5_ask_50 : decode cX5_ask 50 = .ok (.iload_n 1, 1) := by decide +kernel
theorem dX5_ask_51 : decode cX5_ask 51 = .ok (.bipush 9, 2) := by decide +kernel
theorem dX5_ask_53 : decode cX5_ask 53 = .ok (.iload_n 2, 1) := by decide +kernel
theorem dX5_ask_54 : decode cX5_ask 54 = .ok (.invokevirtual 47, 3) := by decide +kernel
theorem dX5_ask_57 : decode cX5_ask 57 = .ok (.aload_n 0, 1) := by decide +kernel
theorem dX5_ask_58 : decode cX5_ask 58 = .ok (.iload_n 1, 1) := by decide +kernel
theorem dX5_ask_59 : decode cX5_ask 59 = .ok (.bipush 10, 2) := by decide +kernel
theorem dX5_ask_61 : decode cX5_ask 61 = .ok (.iload_n 3, 1) := by decide +kernel
theorem dX5_ask_62 : decode cX5_ask 62 = .ok (.invokevirtual 47, 3) := by decide +kernel
theorem dX5_ask_65 : decode cX5_ask 65 = .ok (.iload 4, 2) := by decide +kernel
theorem dX5_ask_67 : decode cX5_ask 67 = .ok (.ireturn, 1) := by decide +kernel
theorem dX5_front_0 : decode cX5_front 0 = .ok (.aload_n 0, 1) := by decide +kernel
theorem dX5_front_1 : decode cX5_front 1 = .ok (.iload_n 1, 1) := by decide +kernel
theorem dX5_front_2 : decode cX5_front 2 = .ok (.invokevirtual 170, 3) := by decide +kernel
theorem dX5_front_5 : decode cX5_front 5 = .ok (.ifCond .ne 5, 3) := by decide +kernel
theorem dX5_front_8 : decode cX5_front 8 = .ok (.iconst (-1), 1) := by decide +kernel
theorem dX5_front_9 : decode cX5_front 9 = .ok (.ireturn, 1) := by decide +kernel
theorem dX5_front_10 : decode cX5_front 10 = .ok (.aload_n 0, 1) := by decide +kernel
theorem dX5_front_11 : decode cX5_front 11 = .ok (.iload_n 1, 1) := by decide +kernel
theorem dX5_front_12 : decode cX5_front 12 = .ok (.bipush 8, 2) := by decide +kernel
theorem dX5_front_14 : decode cX5_front 14 = .ok (.invokevirtual 100, 3) := by decide +kernel
theorem dX5_front_17 : decode cX5_front 17 = .ok (.ifCond .ne 11, 3) := by decide +kernel
theorem dX5_front_20 : decode cX5_front 20 = .ok (.aload_n 0, 1) := by decide +kernel
theorem dX5_front_21 : decode cX5_front 21 = .ok (.iload_n 1, 1) := by decide +kernel
theorem dX5_front_22 : decode cX5_front 22 = .ok (.bipush 7, 2) := by decide +kernel
theorem dX5_front_24 : decode cX5_front 24 = .ok (.iconst 0, 1) := by decide +kernel
theorem dX5_front_25 : decode cX5_front 25 = .ok (.invokevirtual 47, 3) := by decide +kernel
theorem dX5_front_28 : decode cX5_front 28 = .ok (.iconst 1, 1) := by decide +kernel
theorem dX5_front_29 : decode cX5_front 29 = .ok (.aload_n 0, 1) := by decide +kernel
theorem dX5_front_30 : decode cX5_front 30 = .ok (.iload_n 1, 1) := by decide +kernel
theorem dX5_front_31 : decode cX5_front 31 = .ok (.bipush 7, 2) := by decide +kernel
theorem dX5_front_33 : decode cX5_front 33 = .ok (.invokevirtual 100, 3) := by decide +kernel
theorem dX5_front_36 : decode cX5_front 36 = .ok (.isub, 1) := by decide +kernel
theorem dX5_front_37 : decode cX5_front 37 = .ok (.ireturn, 1) := by decide +kernel
theorem dX5_tune_0 : decode cX5_tune 0 = .ok (.aload_n 0, 1) := by decide +kernel
theorem dX5_tune_1 : decode cX5_tune 1 = .ok (.iload_n 1, 1) := by decide +kernel
theorem dX5_tune_2 : decode cX5_tune 2 = .ok (.invokevirtual 170, 3) := by decide +kernel
theorem dX5_tune_5 : decode cX5_tune 5 = .ok (.ifCond .eq 28, 3) := by decide +kernel
theorem dX5_tune_8 : decode cX5_tune 8 = .ok (.iload_n 2, 1) := by decide +kernel
theorem dX5_tune_9 : decode cX5_tune 9 = .ok (.iconst 0, 1) := by decide +kernel
theorem dX5_tune_10 : decode cX5_tune 10 = .ok (.iconst 1, 1) := by decide +kernel
theorem dX5_tune_11 : decode cX5_tune 11 = .ok (.invokestatic 82, 3) := by decide +kernel
theorem dX5_tune_14 : decode cX5_tune 14 = .ok (.ifCond .eq 19, 3) := by decide +kernel
theorem dX5_tune_17 : decode cX5_tune 17 = .ok (.iload_n 3, 1) := by decide +kernel
theorem dX5_tune_18 : decode cX5_tune 18 = .ok (.iconst 1, 1) := by decide +kernel
theorem dX5_tune_19 : decode cX5_tune 19 = .ok (.iload_n 2, 1) := by decide +kernel
theorem dX5_tune_20 : decode cX5_tune 20 = .ok (.isub, 1) := by decide +kernel
theorem dX5_tune_21 : decode cX5_tune 21 = .ok (.iconst 3, 1) := by decide +kernel
theorem dX5_tune_22 : decode cX5_tune 22 = .ok (.iload_n 2, 1) := by decide +kernel
theorem dX5_tune_23 : decode cX5_tune 23 = .ok (.iadd, 1) := by decide +kernel
theorem dX5_tune_24 : decode cX5_tune 24 = .ok (.invokestatic 86, 3) := by decide +kernel
theorem dX5_tune_27 : decode cX5_tune 27 = .ok (.invokestatic 82, 3) := by decide +kernel
theorem dX5_tune_30 : decode cX5_tune 30 = .ok (.ifCond .ne 5, 3) := by decide +kernel
theorem dX5_tune_33 : decode cX5_tune 33 = .ok (.iconst (-1), 1) := by decide +kernel
theorem dX5_tune_34 : decode cX5_tune 34 = .ok (.ireturn, 1) := by decide +kernel
theorem dX5_tune_35 : decode cX5_tune 35 = .ok (.aload_n 0, 1) := by decide +kernel
theorem dX5_tune_36 : decode cX5_tune 36 = .ok (.iload_n 1, 1) := by decide +kernel
theorem dX5_tune_37 : decode cX5_tune 37 = .ok (.iconst 3, 1) := by decide +kernel
theorem dX5_tune_38 : decode cX5_tune 38 = .ok (.iload_n 2, 1) := by decide +kernel
theorem dX5_tune_39 : decode cX5_tune 39 = .ok (.iadd, 1) := by decide +kernel
theorem dX5_tune_40 : decode cX5_tune 40 = .ok (.invokevirtual 100, 3) := by decide +kernel
theorem dX5_tune_43 : decode cX5_tune 43 = .ok (.istore 4, 2) := by decide +kernel
theorem dX5_tune_45 : decode cX5_tune 45 = .ok (.iload 4, 2) := by decide +kernel
theorem dX5_tune_47 : decode cX5_tune 47 = .ok (.iload_n 3, 1) := by decide +kernel
theorem dX5_tune_48 : decode cX5_tune 48 = .ok (.if_icmp .ne 6, 3) := by decide +kernel
theorem dX5_tune_51 : decode cX5_tune 51 = .ok (.bipush (-2), 2) := by decide +kernel
theorem dX5_tune_53 : decode cX5_tune 53 = .ok (.ireturn, 1) := by decide +kernel
theorem dX5_tune_54 : decode cX5_tune 54 = .ok (.aload_n 0, 1) := by decide +kernel
theorem dX5_tune_55 : decode cX5_tune 55 = .ok (.iload_n 1, 1) := by decide +kernel
theorem dX5_tune_56 : decode cX5_tune 56 = .ok (.iconst 3, 1) := by decide +kernel
theorem dX5_tune_57 : decode cX5_tune 57 = .ok (.iload_n 2, 1) := by decide +kernel
theorem dX5_tune_58 : decode cX5_tune 58 = .ok (.iadd, 1) := by decide +kernel
theorem dX5_tune_59 : decode cX5_tune 59 = .ok (.iload_n 3, 1) := by decide +kernel
theorem dX5_tune_60 : decode cX5_tune 60 = .ok (.invokevirtual 47, 3) := by decide +kernel
theorem dX5_tune_63 : decode cX5_tune 63 = .ok (.iload 4, 2) := by decide +kernel
theorem dX5_tune_65 : decode cX5_tune 65 = .ok (.ireturn, 1) := by decide +kernel
theorem dX5_device_0 : decode cX5_device 0 = .ok (.aload_n 0, 1) := by decide +kernel
theorem dX5_device_1 : decode cX5_device 1 = .ok (.iload_n 1, 1) := by decide +kernel
theorem dX5_device_2 : decode cX5_device 2 = .ok (.invokevirtual 170, 3) := by decide +kernel
theorem dX5_device_5 : decode cX5_device 5 = .ok (.ifCond .eq 13, 3) := by decide +kernel
theorem dX5_device_8 : decode cX5_device 8 = .ok (.iload_n 2, 1) := by decide +kernel
theorem dX5_device_9 : decode cX5_device 9 = .ok (.iconst 0, 1) := by decide +kernel
theorem dX5_device_10 : decode cX5_device 10 = .ok (.bipush 17, 2) := by decide +kernel
theorem dX5_device_12 : decode cX5_device 12 = .ok (.invokestatic 82, 3) := by decide +kernel
theorem dX5_device_15 : decode cX5_device 15 = .ok (.ifCond .ne 5, 3) := by decide +kernel
theorem dX5_device_18 : decode cX5_device 18 = .ok (.iconst (-1), 1) := by decide +kernel
theorem dX5_device_19 : decode cX5_device 19 = .ok (.ireturn, 1) := by decide +kernel
theorem dX5_device_20 : decode cX5_device 20 = .ok (.iload_n 2, 1) := by decide +kernel
theorem dX5_device_21 : decode cX5_device 21 = .ok (.bipush 12, 2) := by decide +kernel
theorem dX5_device_23 : decode cX5_device 23 = .ok (.if_icmp .ne 26, 3) := by decide +kernel
theorem dX5_device_26 : decode cX5_device 26 = .ok (.aload_n 0, 1) := by decide +kernel
theorem dX5_device_27 : decode cX5_device 27 = .ok (.iload_n 1, 1) := by decide +kernel
theorem dX5_device_28 : decode cX5_device 28 = .ok (.bipush 11, 2) := by decide +kernel
theorem dX5_device_30 : decode cX5_device 30 = .ok (.invokevirtual 100, 3) := by decide +kernel
theorem dX5_device_33 : decode cX5_device 33 = .ok (.ifCond .ge 8, 3) := by decide +kernel
theorem dX5_device_36 : decode cX5_device 36 = .ok (.bipush (-4), 2) := by decide +kernel
theorem dX5_device_38 : decode cX5_device 38 = .ok (.goto 10, 3) := by decide +kernel
theorem dX5_device_41 : decode cX5_device 41 = .ok (.aload_n 0, 1) := by decide +kernel
theorem dX5_device_42 : decode cX5_device 42 = .ok (.iload_n 1, 1) := by decide +kernel
theorem dX5_device_43 : decode cX5_device 43 = .ok (.bipush 12, 2) := by decide +kernel
theorem dX5_device_45 : decode cX5_device 45 = .ok (.invokevirtual 100, 3) := by decide +kernel
theorem dX5_device_48 : decode cX5_device 48 = .ok (.ireturn, 1) := by decide +kernel
theorem dX5_device_49 : decode cX5_device 49 = .ok (.iload_n 2, 1) := by decide +kernel
theorem dX5_device_50 : decode cX5_device 50 = .ok (.bipush 14, 2) := by decide +kernel
theorem dX5_device_52 : decode cX5_device 52 = .ok (.if_icmp .ne 28, 3) := by decide +kernel
theorem dX5_device_55 : decode cX5_device 55 = .ok (.aload_n 0, 1) := by decide +kernel
theorem dX5_device_56 : decode cX5_device 56 = .ok (.iload_n 1, 1) := by decide +kernel
theorem dX5_device_57 : decode cX5_device 57 = .ok (.bipush 14, 2) := by decide +kernel
theorem dX5_device_59 : decode cX5_device 59 = .ok (.invokevirtual 100, 3) := by decide +kernel
theorem dX5_device_62 : decode cX5_device 62 = .ok (.ifCond .lt 18, 3) := by decide +kernel
theorem dX5_device_65 : decode cX5_device 65 = .ok (.aload_n 0, 1) := by decide +kernel
theorem dX5_device_66 : decode cX5_device 66 = .ok (.iload_n 1, 1) := by decide +kernel
theorem dX5_device_67 : decode cX5_device 67 = .ok (.bipush 14, 2) := by decide +kernel
theorem dX5_device_69 : decode cX5_device 69 = .ok (.invokevirtual 100, 3) := by decide +kernel
theorem dX5_device_72 : decode cX5_device 72 = .ok (.aload_n 0, 1) := by decide +kernel
theorem dX5_device_73 : decode cX5_device 73 = .ok (.getfield 57, 3) := by decide +kernel
theorem dX5_device_76 : decode cX5_device 76 = .ok (.isub, 1) := by decide +kernel
theorem dX5_device_77 : decode cX5_device 77 = .ok (.goto 9, 3) := by decide +kernel
theorem dX5_device_80 : decode cX5_device 80 = .ok (.aload_n 0, 1) := by decide +kernel
theorem dX5_device_81 : decode cX5_device 81 = .ok (.iload_n 1, 1) := by decide +kernel
theorem dX5_device_82 : decode cX5_device 82 = .ok (.iload_n 2, 1) := by decide +kernel
theorem dX5_device_83 : decode cX5_device 83 = .ok (.invokevirtual 100, 3) := by decide +kernel
theorem dX5_device_86 : decode cX5_device 86 = .ok (.ireturn, 1) := by decide +kernel
theorem dX5_row_0 : decode cX5_row 0 = .ok (.aload_n 0, 1) := by decide +kernel
theorem dX5_row_1 : decode cX5_row 1 = .ok (.iload_n 1, 1) := by decide +kernel
theorem dX5_row_2 : decode cX5_row 2 = .ok (.invokevirtual 170, 3) := by decide +kernel
theorem dX5_row_5 : decode cX5_row 5 = .ok (.ifCond .eq 16, 3) := by decide +kernel
theorem dX5_row_8 : decode cX5_row 8 = .ok (.iload_n 2, 1) := by decide +kernel
theorem dX5_row_9 : decode cX5_row 9 = .ok (.iconst 0, 1) := by decide +kernel
theorem dX5_row_10 : decode cX5_row 10 = .ok (.iconst 1, 1) := by decide +kernel
theorem dX5_row_11 : decode cX5_row 11 = .ok (.invokestatic 82, 3) := by decide +kernel
theorem dX5_row_14 : decode cX5_row 14 = .ok (.ifCond .eq 7, 3) := by decide +kernel
theorem dX5_row_17 : decode cX5_row 17 = .ok (.iload_n 3, 1) := by decide +kernel
theorem dX5_row_18 : decode cX5_row 18 = .ok (.ifCond .ge 5, 3) := by decide +kernel
theorem dX5_row_21 : decode cX5_row 21 = .ok (.iconst (-1), 1) := by decide +kernel
theorem dX5_row_22 : decode cX5_row 22 = .ok (.ireturn, 1) := by decide +kernel
theorem dX5_row_23 : decode cX5_row 23 = .ok (.iload_n 3, 1) := by decide +kernel
theorem dX5_row_24 : decode cX5_row 24 = .ok (.aload_n 0, 1) := by decide +kernel
theorem dX5_row_25 : decode cX5_row 25 = .ok (.iload_n 1, 1) := by decide +kernel
theorem dX5_row_26 : decode cX5_row 26 = .ok (.bipush 15, 2) := by decide +kernel
theorem dX5_row_28 : decode cX5_row 28 = .ok (.iload_n 2, 1) := by decide +kernel
theorem dX5_row_29 : decode cX5_row 29 = .ok (.iadd, 1) := by decide +kernel
theorem dX5_row_30 : decode cX5_row 30 = .ok (.invokevirtual 100, 3) := by decide +kernel
theorem dX5_row_33 : decode cX5_row 33 = .ok (.if_icmp .ge 22, 3) := by decide +kernel
theorem dX5_row_36 : decode cX5_row 36 = .ok (.aload_n 0, 1) := by decide +kernel
theorem dX5_row_37 : decode cX5_row 37 = .ok (.getfield 16, 3) := by decide +kernel
theorem dX5_row_40 : decode cX5_row 40 = .ok (.bipush 24, 2) := by decide +kernel
theorem dX5_row_42 : decode cX5_row 42 = .ok (.iload_n 1, 1) := by decide +kernel
theorem dX5_row_43 : decode cX5_row 43 = .ok (.imul, 1) := by decide +kernel
theorem dX5_row_44 : decode cX5_row 44 = .ok (.bipush 12, 2) := by decide +kernel
theorem dX5_row_46 : decode cX5_row 46 = .ok (.iload_n 2, 1) := by decide +kernel
theorem dX5_row_47 : decode cX5_row 47 = .ok (.imul, 1) := by decide +kernel
theorem dX5_row_48 : decode cX5_row 48 = .ok (.iadd, 1) := by decide +kernel
theorem dX5_row_49 : decode cX5_row 49 = .ok (.iload_n 3, 1) := by decide +kernel
theorem dX5_row_50 : decode cX5_row 50 = .ok (.iadd, 1) := by decide +kernel
theorem dX5_row_51 : decode cX5_row 51 = .ok (.iaload, 1) := by decide +kernel
theorem dX5_row_52 : decode cX5_row 52 = .ok (.goto 5, 3) := by decide +kernel
theorem dX5_row_55 : decode cX5_row 55 = .ok (.bipush (-4), 2) := by decide +kernel
theorem dX5_row_57 : decode cX5_row 57 = .ok (.ireturn, 1) := by decide +kernel
theorem dX5_anyAsks_0 : decode cX5_anyAsks 0 = .ok (.iconst 0, 1) := by decide +kernel
theorem dX5_anyAsks_1 : decode cX5_anyAsks 1 = .ok (.istore_n 1, 1) := by decide +kernel
theorem dX5_anyAsks_2 : decode cX5_anyAsks 2 = .ok (.iconst 0, 1) := by decide +kernel
theorem dX5_anyAsks_3 : decode cX5_anyAsks 3 = .ok (.istore_n 2, 1) := by decide +kernel
theorem dX5_anyAsks_4 : decode cX5_anyAsks 4 = .ok (.iload_n 2, 1) := by decide +kernel
theorem dX5_anyAsks_5 : decode cX5_anyAsks 5 = .ok (.aload_n 0, 1) := by decide +kernel
theorem dX5_anyAsks_6 : decode cX5_anyAsks 6 = .ok (.getfield 44, 3) := by decide +kernel
theorem dX5_anyAsks_9 : decode cX5_anyAsks 9 = .ok (.if_icmp .ge 19, 3) := by decide +kernel
theorem dX5_anyAsks_12 : decode cX5_anyAsks 12 = .ok (.iload_n 1, 1) := by decide +kernel
theorem dX5_anyAsks_13 : decode cX5_anyAsks 13 = .ok (.aload_n 0, 1) := by decide +kernel
theorem dX5_anyAsks_14 : decode cX5_anyAsks 14 = .ok (.iload_n 2, 1) := by decide +kernel
theorem dX5_anyAsks_15 : decode cX5_anyAsks 15 = .ok (.bipush 10, 2) := by decide +kernel
theorem dX5_anyAsks_17 : decode cX5_anyAsks 17 = .ok (.invokevirtual 100, 3) := by decide +kernel
theorem dX5_anyAsks_20 : decode cX5_anyAsks 20 = .ok (.ior, 1) := by decide +kernel
theorem dX5_anyAsks_21 : decode cX5_anyAsks 21 = .ok (.istore_n 1, 1) := by decide +kernel
theorem dX5_anyAsks_22 : decode cX5_anyAsks 22 = .ok (.iinc 2 1, 3) := by decide +kernel
theorem dX5_anyAsks_25 : decode cX5_anyAsks 25 = .ok (.goto (-21), 3) := by decide +kernel
theorem dX5_anyAsks_28 : decode cX5_anyAsks 28 = .ok (.iload_n 1, 1) := by decide +kernel
theorem dX5_anyAsks_29 : decode cX5_anyAsks 29 = .ok (.ireturn, 1) := by decide +kernel
theorem dX5_bus_0 : decode cX5_bus 0 = .ok (.iload_n 1, 1) := by decide +kernel
theorem dX5_bus_1 : decode cX5_bus 1 = .ok (.tableswitch 114 0 8 #[51, 56, 61, 66, 71, 76, 81, 104, 109], 51) := by decide +kernel
theorem dX5_bus_52 : decode cX5_bus 52 = .ok (.aload_n 0, 1) := by decide +kernel
theorem dX5_bus_53 : decode cX5_bus 53 = .ok (.invokevirtual 117, 3) := by decide +kernel
theorem dX5_bus_56 : decode cX5_bus 56 = .ok (.ireturn, 1) := by decide +kernel
theorem dX5_bus_57 : decode cX5_bus 57 = .ok (.aload_n 0, 1) := by decide +kernel
theorem dX5_bus_58 : decode cX5_bus 58 = .ok (.invokevirtual 132, 3) := by decide +kernel
theorem dX5_bus_61 : decode cX5_bus 61 = .ok (.ireturn, 1) := by decide +kernel
theorem dX5_bus_62 : decode cX5_bus 62 = .ok (.aload_n 0, 1) := by decide +kernel
theorem dX5_bus_63 : decode cX5_bus 63 = .ok (.getfield 51, 3) := by decide +kernel
theorem dX5_bus_66 : decode cX5_bus 66 = .ok (.ireturn, 1) := by decide +kernel
theorem dX5_bus_67 : decode cX5_bus 67 = .ok (.aload_n 0, 1) := by decide +kernel
theorem dX5_bus_68 : decode cX5_bus 68 = .ok (.getfield 54, 3) := by decide +kernel
theorem dX5_bus_71 : decode cX5_bus 71 = .ok (.ireturn, 1) := by decide +kernel
theorem dX5_bus_72 : decode cX5_bus 72 = .ok (.aload_n 0, 1) := by decide +kernel
theorem dX5_bus_73 : decode cX5_bus 73 = .ok (.getfield 57, 3) := by decide +kernel
theorem dX5_bus_76 : decode cX5_bus 76 = .ok (.ireturn, 1) := by decide +kernel
theorem dX5_bus_77 : decode cX5_bus 77 = .ok (.aload_n 0, 1) := by decide +kernel
theorem dX5_bus_78 : decode cX5_bus 78 = .ok (.invokevirtual 173, 3) := by decide +kernel
theorem dX5_bus_81 : decode cX5_bus 81 = .ok (.ireturn, 1) := by decide +kernel
theorem dX5_bus_82 : decode cX5_bus 82 = .ok (.aload_n 0, 1) := by decide +kernel
theorem dX5_bus_83 : decode cX5_bus 83 = .ok (.invokevirtual 157, 3) := by decide +kernel
theorem dX5_bus_86 : decode cX5_bus 86 = .ok (.ifCond .ne 8, 3) := by decide +kernel
theorem dX5_bus_89 : decode cX5_bus 89 = .ok (.bipush (-2), 2) := by decide +kernel
theorem dX5_bus_91 : decode cX5_bus 91 = .ok (.goto 13, 3) := by decide +kernel
theorem dX5_bus_94 : decode cX5_bus 94 = .ok (.aload_n 0, 1) := by decide +kernel
theorem dX5_bus_95 : decode cX5_bus 95 = .ok (.aload_n 0, 1) := by decide +kernel
theorem dX5_bus_96 : decode cX5_bus 96 = .ok (.invokevirtual 157, 3) := by decide +kernel
theorem dX5_bus_99 : decode cX5_bus 99 = .ok (.invokevirtual 129, 3) := by decide +kernel
theorem dX5_bus_102 : decode cX5_bus 102 = .ok (.iconst 2, 1) := by decide +kernel
theorem dX5_bus_103 : decode cX5_bus 103 = .ok (.iadd, 1) := by decide +kernel
theorem dX5_bus_104 : decode cX5_bus 104 = .ok (.ireturn, 1) := by decide +kernel
theorem dX5_bus_105 : decode cX5_bus 105 = .ok (.aload_n 0, 1) := by decide +kernel
theorem dX5_bus_106 : decode cX5_bus 106 = .ok (.getfield 44, 3) := by decide +kernel
theorem dX5_bus_109 : decode cX5_bus 109 = .ok (.ireturn, 1) := by decide +kernel
theorem dX5_bus_110 : decode cX5_bus 110 = .ok (.aload_n 0, 1) := by decide +kernel
theorem dX5_bus_111 : decode cX5_bus 111 = .ok (.getfield 69, 3) := by decide +kernel
theorem dX5_bus_114 : decode cX5_bus 114 = .ok (.ireturn, 1) := by decide +kernel
theorem dX5_bus_115 : decode cX5_bus 115 = .ok (.iconst (-1), 1) := by decide +kernel
theorem dX5_bus_116 : decode cX5_bus 116 = .ok (.ireturn, 1) := by decide +kernel
theorem dX5_sum_0 : decode cX5_sum 0 = .ok (.iload_n 1, 1) := by decide +kernel
theorem dX5_sum_1 : decode cX5_sum 1 = .ok (.iconst 0, 1) := by decide +kernel
theorem dX5_sum_2 : decode cX5_sum 2 = .ok (.bipush 7, 2) := by decide +kernel
theorem dX5_sum_4 : decode cX5_sum 4 = .ok (.invokestatic 82, 3) := by decide +kernel
theorem dX5_sum_7 : decode cX5_sum 7 = .ok (.ifCond .eq 12, 3) := by decide +kernel
theorem dX5_sum_10 : decode cX5_sum 10 = .ok (.aload_n 0, 1) := by decide +kernel
theorem dX5_sum_11 : decode cX5_sum 11 = .ok (.getfield 19, 3) := by decide +kernel
theorem dX5_sum_14 : decode cX5_sum 14 = .ok (.iload_n 1, 1) := by decide +kernel
theorem dX5_sum_15 : decode cX5_sum 15 = .ok (.iaload, 1) := by decide +kernel
theorem dX5_sum_16 : decode cX5_sum 16 = .ok (.goto 4, 3) := by decide +kernel
theorem dX5_sum_19 : decode cX5_sum 19 = .ok (.iconst (-1), 1) := by decide +kernel
theorem dX5_sum_20 : decode cX5_sum 20 = .ok (.ireturn, 1) := by decide +kernel
theorem dX5_log_0 : decode cX5_log 0 = .ok (.iload_n 1, 1) := by decide +kernel
theorem dX5_log_1 : decode cX5_log 1 = .ok (.iconst (-1), 1) := by decide +kernel
theorem dX5_log_2 : decode cX5_log 2 = .ok (.if_icmp .lt 12, 3) := by decide +kernel
theorem dX5_log_5 : decode cX5_log 5 = .ok (.iload_n 2, 1) := by decide +kernel
theorem dX5_log_6 : decode cX5_log 6 = .ok (.iconst 0, 1) := by decide +kernel
theorem dX5_log_7 : decode cX5_log 7 = .ok (.iconst 2, 1) := by decide +kernel
theorem dX5_log_8 : decode cX5_log 8 = .ok (.invokestatic 82, 3) := by decide +kernel
theorem dX5_log_11 : decode cX5_log 11 = .ok (.ifCond .ne 5, 3) := by decide +kernel
theorem dX5_log_14 : decode cX5_log 14 = .ok (.iconst (-1), 1) := by decide +kernel
theorem dX5_log_15 : decode cX5_log 15 = .ok (.ireturn, 1) := by decide +kernel
theorem dX5_log_16 : decode cX5_log 16 = .ok (.iload_n 1, 1) := by decide +kernel
theorem dX5_log_17 : decode cX5_log 17 = .ok (.ifCond .ge 8, 3) := by decide +kernel
theorem dX5_log_20 : decode cX5_log 20 = .ok (.aload_n 0, 1) := by decide +kernel
theorem dX5_log_21 : decode cX5_log 21 = .ok (.getfield 66, 3) := by decide +kernel
theorem dX5_log_24 : decode cX5_log 24 = .ok (.ireturn, 1) := by decide +kernel
theorem dX5_log_25 : decode cX5_log 25 = .ok (.iload_n 1, 1) := by decide +kernel
theorem dX5_log_26 : decode cX5_log 26 = .ok (.aload_n 0, 1) := by decide +kernel
theorem dX5_log_27 : decode cX5_log 27 = .ok (.getfield 66, 3) := by decide +kernel
theorem dX5_log_30 : decode cX5_log 30 = .ok (.if_icmp .lt 8, 3) := by decide +kernel
theorem dX5_log_33 : decode cX5_log 33 = .ok (.bipush (-4), 2) := by decide +kernel
theorem dX5_log_35 : decode cX5_log 35 = .ok (.goto 36, 3) := by decide +kernel
theorem dX5_log_38 : decode cX5_log 38 = .ok (.iload_n 2, 1) := by decide +kernel
theorem dX5_log_39 : decode cX5_log 39 = .ok (.ifCond .ne 12, 3) := by decide +kernel
theorem dX5_log_42 : decode cX5_log 42 = .ok (.aload_n 0, 1) := by decide +kernel
theorem dX5_log_43 : decode cX5_log 43 = .ok (.getfield 22, 3) := by decide +kernel
theorem dX5_log_46 : decode cX5_log 46 = .ok (.iload_n 1, 1) := by decide +kernel
theorem dX5_log_47 : decode cX5_log 47 = .ok (.iaload, 1) := by decide +kernel
theorem dX5_log_48 : decode cX5_log 48 = .ok (.goto 23, 3) := by decide +kernel
theorem dX5_log_51 : decode cX5_log 51 = .ok (.iload_n 2, 1) := by decide +kernel
theorem dX5_log_52 : decode cX5_log 52 = .ok (.iconst 1, 1) := by decide +kernel
theorem dX5_log_53 : decode cX5_log 53 = .ok (.if_icmp .ne 12, 3) := by decide +kernel
theorem dX5_log_56 : decode cX5_log 56 = .ok (.aload_n 0, 1) := by decide +kernel
theorem dX5_log_57 : decode cX5_log 57 = .ok (.getfield 25, 3) := by decide +kernel
theorem dX5_log_60 : decode cX5_log 60 = .ok (.iload_n 1, 1) := by decide +kernel
theorem dX5_log_61 : decode cX5_log 61 = .ok (.iaload, 1) := by decide +kernel
theorem dX5_log_62 : decode cX5_log 62 = .ok (.goto 9, 3) := by decide +kernel
theorem dX5_log_65 : decode cX5_log 65 = .ok (.aload_n 0, 1) := by decide +kernel
theorem dX5_log_66 : decode cX5_log 66 = .ok (.getfield 28, 3) := by decide +kernel
theorem dX5_log_69 : decode cX5_log 69 = .ok (.iload_n 1, 1) := by decide +kernel
theorem dX5_log_70 : decode cX5_log 70 = .ok (.iaload, 1) := by decide +kernel
theorem dX5_log_71 : decode cX5_log 71 = .ok (.ireturn, 1) := by decide +kernel
