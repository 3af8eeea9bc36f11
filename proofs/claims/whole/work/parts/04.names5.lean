theorem dX8_byteAt_37 : decode cX8_byteAt 37 = .ok (.iadd, 1) := by decide +kernel
theorem dX8_byteAt_38 : decode cX8_byteAt 38 = .ok (.iaload, 1) := by decide +kernel
theorem dX8_byteAt_39 : decode cX8_byteAt 39 = .ok (.ireturn, 1) := by decide +kernel
theorem dX8_agrees_0 : decode cX8_agrees 0 = .ok (.aload_n 0, 1) := by decide +kernel
theorem dX8_agrees_1 : decode cX8_agrees 1 = .ok (.getfield 13, 3) := by decide +kernel
theorem dX8_agrees_4 : decode cX8_agrees 4 = .ok (.iconst 1, 1) := by decide +kernel
theorem dX8_agrees_5 : decode cX8_agrees 5 = .ok (.iaload, 1) := by decide +kernel
theorem dX8_agrees_6 : decode cX8_agrees 6 = .ok (.aload_n 0, 1) := by decide +kernel
theorem dX8_agrees_7 : decode cX8_agrees 7 = .ok (.getfield 13, 3) := by decide +kernel
theorem dX8_agrees_10 : decode cX8_agrees 10 = .ok (.iconst 3, 1) := by decide +kernel
theorem dX8_agrees_11 : decode cX8_agrees 11 = .ok (.iaload, 1) := by decide +kernel
theorem dX8_agrees_12 : decode cX8_agrees 12 = .ok (.if_icmp .ne 7, 3) := by decide +kernel
theorem dX8_agrees_15 : decode cX8_agrees 15 = .ok (.iconst 1, 1) := by decide +kernel
theorem dX8_agrees_16 : decode cX8_agrees 16 = .ok (.goto 4, 3) := by decide +kernel
theorem dX8_agrees_19 : decode cX8_agrees 19 = .ok (.iconst 0, 1) := by decide +kernel
theorem dX8_agrees_20 : decode cX8_agrees 20 = .ok (.istore_n 1, 1) := by decide +kernel
theorem dX8_agrees_21 : decode cX8_agrees 21 = .ok (.iconst 0, 1) := by decide +kernel
theorem dX8_agrees_22 : decode cX8_agrees 22 = .ok (.istore_n 2, 1) := by decide +kernel
theorem dX8_agrees_23 : decode cX8_agrees 23 = .ok (.iload_n 2, 1) := by decide +kernel
theorem dX8_agrees_24 : decode cX8_agrees 24 = .ok (.aload_n 0, 1) := by decide +kernel
theorem dX8_agrees_25 : decode cX8_agrees 25 = .ok (.getfield 13, 3) := by decide +kernel
theorem dX8_agrees_28 : decode cX8_agrees 28 = .ok (.iconst 1, 1) := by decide +kernel
theorem dX8_agrees_29 : decode cX8_agrees 29 = .ok (.iaload, 1) := by decide +kernel
theorem dX8_agrees_30 : decode cX8_agrees 30 = .ok (.if_icmp .ge 42, 3) := by decide +kernel
theorem dX8_agrees_33 : decode cX8_agrees 33 = .ok (.iload_n 1, 1) := by decide +kernel
theorem dX8_agrees_34 : decode cX8_agrees 34 = .ok (.ifCond .eq 38, 3) := by decide +kernel
theorem dX8_agrees_37 : decode cX8_agrees 37 = .ok (.aload_n 0, 1) := by decide +kernel
theorem dX8_agrees_38 : decode cX8_agrees 38 = .ok (.getfield 7, 3) := by decide +kernel
theorem dX8_agrees_41 : decode cX8_agrees 41 = .ok (.sipush 1000, 3) := by decide +kernel
theorem dX8_agrees_44 : decode cX8_agrees 44 = .ok (.iload_n 2, 1) := by decide +kernel
theorem dX8_agrees_45 : decode cX8_agrees 45 = .ok (.iadd, 1) := by decide +kernel
theorem dX8_agrees_46 : decode cX8_agrees 46 = .ok (.iaload, 1) := by decide +kernel
theorem dX8_agrees_47 : decode cX8_agrees 47 = .ok (.aload_n 0, 1) := by decide +kernel
theorem dX8_agrees_48 : decode cX8_agrees 48 = .ok (.getfield 7, 3) := by decide +kernel
theorem dX8_agrees_51 : decode cX8_agrees 51 = .ok (.sipush 3000, 3) := by decide +kernel
theorem dX8_agrees_54 : decode cX8_agrees 54 = .ok (.iload_n 2, 1) := by decide +kernel
theorem dX8_agrees_55 : decode cX8_agrees 55 = .ok (.iadd, 1) := by decide +kernel
theorem dX8_agrees_56 : decode cX8_agrees 56 = .ok (.iaload, 1) := by decide +kernel
theorem dX8_agrees_57 : decode cX8_agrees 57 = .ok (.if_icmp .ne 7, 3) := by decide +kernel
theorem dX8_agrees_60 : decode cX8_agrees 60 = .ok (.iconst 1, 1) := by decide +kernel
theorem dX8_agrees_61 : decode cX8_agrees 61 = .ok (.goto 4, 3) := by decide +kernel
theorem dX8_agrees_64 : decode cX8_agrees 64 = .ok (.iconst 0, 1) := by decide +kernel
theorem dX8_agrees_65 : decode cX8_agrees 65 = .ok (.istore_n 1, 1) := by decide +kernel
theorem dX8_agrees_66 : decode cX8_agrees 66 = .ok (.iinc 2 1, 3) := by decide +kernel
theorem dX8_agrees_69 : decode cX8_agrees 69 = .ok (.goto (-46), 3) := by decide +kernel
theorem dX8_agrees_72 : decode cX8_agrees 72 = .ok (.iload_n 1, 1) := by decide +kernel
theorem dX8_agrees_73 : decode cX8_agrees 73 = .ok (.ireturn, 1) := by decide +kernel
theorem dX8_part_0 : decode cX8_part 0 = .ok (.iload_n 0, 1) := by decide +kernel
theorem dX8_part_1 : decode cX8_part 1 = .ok (.bipush 18, 2) := by decide +kernel
theorem dX8_part_3 : decode cX8_part 3 = .ok (.if_icmp .gt 37, 3) := by decide +kernel
theorem dX8_part_6 : decode cX8_part 6 = .ok (.iload_n 1, 1) := by decide +kernel
theorem dX8_part_7 : decode cX8_part 7 = .ok (.ifCond .ne 15, 3) := by decide +kernel
theorem dX8_part_10 : decode cX8_part 10 = .ok (.iload_n 0, 1) := by decide +kernel
theorem dX8_part_11 : decode cX8_part 11 = .ok (.ifCond .ne 7, 3) := by decide +kernel
theorem dX8_part_14 : decode cX8_part 14 = .ok (.iconst 2, 1) := by decide +kernel
theorem dX8_part_15 : decode cX8_part 15 = .ok (.goto 24, 3) := by decide +kernel
theorem dX8_part_18 : decode cX8_part 18 = .ok (.iconst 1, 1) := by decide +kernel
theorem dX8_part_19 : decode cX8_part 19 = .ok (.goto 20, 3) := by decide +kernel
theorem dX8_part_22 : decode cX8_part 22 = .ok (.iload_n 1, 1) := by decide +kernel
theorem dX8_part_23 : decode cX8_part 23 = .ok (.iconst 1, 1) := by decide +kernel
theorem dX8_part_24 : decode cX8_part 24 = .ok (.if_icmp .ne 14, 3) := by decide +kernel
theorem dX8_part_27 : decode cX8_part 27 = .ok (.iload_n 0, 1) := by decide +kernel
theorem dX8_part_28 : decode cX8_part 28 = .ok (.iconst 1, 1) := by decide +kernel
theorem dX8_part_29 : decode cX8_part 29 = .ok (.if_icmp .le 9, 3) := by decide +kernel
theorem dX8_part_32 : decode cX8_part 32 = .ok (.iload_n 0, 1) := by decide +kernel
theorem dX8_part_33 : decode cX8_part 33 = .ok (.iconst 1, 1) := by decide +kernel
theorem dX8_part_34 : decode cX8_part 34 = .ok (.isub, 1) := by decide +kernel
theorem dX8_part_35 : decode cX8_part 35 = .ok (.goto 4, 3) := by decide +kernel
theorem dX8_part_38 : decode cX8_part 38 = .ok (.iconst 0, 1) := by decide +kernel
theorem dX8_part_39 : decode cX8_part 39 = .ok (.ireturn, 1) := by decide +kernel
theorem dX8_part_40 : decode cX8_part 40 = .ok (.iload_n 0, 1) := by decide +kernel
theorem dX8_part_41 : decode cX8_part 41 = .ok (.sipush 162, 3) := by decide +kernel
theorem dX8_part_44 : decode cX8_part 44 = .ok (.if_icmp .gt 55, 3) := by decide +kernel
theorem dX8_part_47 : decode cX8_part 47 = .ok (.iload_n 0, 1) := by decide +kernel
theorem dX8_part_48 : decode cX8_part 48 = .ok (.bipush 19, 2) := by decide +kernel
theorem dX8_part_50 : decode cX8_part 50 = .ok (.isub, 1) := by decide +kernel
theorem dX8_part_51 : decode cX8_part 51 = .ok (.bipush 16, 2) := by decide +kernel
theorem dX8_part_53 : decode cX8_part 53 = .ok (.irem, 1) := by decide +kernel
theorem dX8_part_54 : decode cX8_part 54 = .ok (.istore_n 2, 1) := by decide +kernel
theorem dX8_part_55 : decode cX8_part 55 = .ok (.iload_n 1, 1) := by decide +kernel
theorem dX8_part_56 : decode cX8_part 56 = .ok (.ifCond .ne 7, 3) := by decide +kernel
theorem dX8_part_59 : decode cX8_part 59 = .ok (.iconst 3, 1) := by decide +kernel
theorem dX8_part_60 : decode cX8_part 60 = .ok (.goto 38, 3) := by decide +kernel
theorem dX8_part_63 : decode cX8_part 63 = .ok (.iload_n 1, 1) := by decide +kernel
theorem dX8_part_64 : decode cX8_part 64 = .ok (.iconst 1, 1) := by decide +kernel
theorem dX8_part_65 : decode cX8_part 65 = .ok (.if_icmp .ne 17, 3) := by decide +kernel
theorem dX8_part_68 : decode cX8_part 68 = .ok (.iload_n 2, 1) := by decide +kernel
theorem dX8_part_69 : decode cX8_part 69 = .ok (.ifCond .ne 7, 3) := by decide +kernel
theorem dX8_part_72 : decode cX8_part 72 = .ok (.iconst 0, 1) := by decide +kernel
theorem dX8_part_73 : decode cX8_part 73 = .ok (.goto 25, 3) := by decide +kernel
theorem dX8_part_76 : decode cX8_part 76 = .ok (.iconst 3, 1) := by decide +kernel
theorem dX8_part_77 : decode cX8_part 77 = .ok (.iload_n 2, 1) := by decide +kernel
theorem dX8_part_78 : decode cX8_part 78 = .ok (.iadd, 1) := by decide +kernel
theorem dX8_part_79 : decode cX8_part 79 = .ok (.goto 19, 3) := by decide +kernel
theorem dX8_part_82 : decode cX8_part 82 = .ok (.iload_n 1, 1) := by decide +kernel
theorem dX8_part_83 : decode cX8_part 83 = .ok (.iconst 2, 1) := by decide +kernel
theorem dX8_part_84 : decode cX8_part 84 = .ok (.if_icmp .ne 13, 3) := by decide +kernel
theorem dX8_part_87 : decode cX8_part 87 = .ok (.iload_n 0, 1) := by decide +kernel
theorem dX8_part_88 : decode cX8_part 88 = .ok (.bipush 19, 2) := by decide +kernel
theorem dX8_part_90 : decode cX8_part 90 = .ok (.isub, 1) := by decide +kernel
theorem dX8_part_91 : decode cX8_part 91 = .ok (.bipush 16, 2) := by decide +kernel
theorem dX8_part_93 : decode cX8_part 93 = .ok (.idiv, 1) := by decide +kernel
theorem dX8_part_94 : decode cX8_part 94 = .ok (.goto 4, 3) := by decide +kernel
theorem dX8_part_97 : decode cX8_part 97 = .ok (.iconst 0, 1) := by decide +kernel
theorem dX8_part_98 : decode cX8_part 98 = .ok (.ireturn, 1) := by decide +kernel
theorem dX8_part_99 : decode cX8_part 99 = .ok (.iload_n 0, 1) := by decide +kernel
theorem dX8_part_100 : decode cX8_part 100 = .ok (.sipush 246, 3) := by decide +kernel
theorem dX8_part_103 : decode cX8_part 103 = .ok (.if_icmp .gt 133, 3) := by decide +kernel
theorem dX8_part_106 : decode cX8_part 106 = .ok (.iload_n 0, 1) := by decide +kernel
theorem dX8_part_107 : decode cX8_part 107 = .ok (.sipush 234, 3) := by decide +kernel
theorem dX8_part_110 : decode cX8_part 110 = .ok (.if_icmp .gt 14, 3) := by decide +kernel
theorem dX8_part_113 : decode cX8_part 113 = .ok (.iload_n 0, 1) := by decide +kernel
theorem dX8_part_114 : decode cX8_part 114 = .ok (.sipush 163, 3) := by decide +kernel
theorem dX8_part_117 : decode cX8_part 117 = .ok (.isub, 1) := by decide +kernel
theorem dX8_part_118 : decode cX8_part 118 = .ok (.bipush 12, 2) := by decide +kernel
theorem dX8_part_120 : decode cX8_part 120 = .ok (.idiv, 1) := by decide +kernel
theorem dX8_part_121 : decode cX8_part 121 = .ok (.goto 13, 3) := by decide +kernel
theorem dX8_part_124 : decode cX8_part 124 = .ok (.bipush 6, 2) := by decide +kernel
theorem dX8_part_126 : decode cX8_part 126 = .ok (.iload_n 0, 1) := by decide +kernel
theorem dX8_part_127 : decode cX8_part 127 = .ok (.sipush 235, 3) := by decide +kernel
theorem dX8_part_130 : decode cX8_part 130 = .ok (.isub, 1) := by decide +kernel
theorem dX8_part_131 : decode cX8_part 131 = .ok (.iconst 4, 1) := by decide +kernel
theorem dX8_part_132 : decode cX8_part 132 = .ok (.idiv, 1) := by decide +kernel
theorem dX8_part_133 : decode cX8_part 133 = .ok (.iadd, 1) := by decide +kernel
theorem dX8_part_134 : decode cX8_part 134 = .ok (.istore_n 2, 1) := by decide +kernel
theorem dX8_part_135 : decode cX8_part 135 = .ok (.iload_n 0, 1) := by decide +kernel
theorem dX8_part_136 : decode cX8_part 136 = .ok (.sipush 234, 3) := by decide +kernel
theorem dX8_part_139 : decode cX8_part 139 = .ok (.if_icmp .gt 18, 3) := by decide +kernel
theorem dX8_part_142 : decode cX8_part 142 = .ok (.iload_n 0, 1) := by decide +kernel
theorem dX8_part_143 : decode cX8_part 143 = .ok (.sipush 163, 3) := by decide +kernel
theorem dX8_part_146 : decode cX8_part 146 = .ok (.isub, 1) := by decide +kernel
theorem dX8_part_147 : decode cX8_part 147 = .ok (.bipush 12, 2) := by decide +kernel
theorem dX8_part_149 : decode cX8_part 149 = .ok (.irem, 1) := by decide +kernel
theorem dX8_part_150 : decode cX8_part 150 = .ok (.iconst 3, 1) := by decide +kernel
theorem dX8_part_151 : decode cX8_part 151 = .ok (.idiv, 1) := by decide +kernel
theorem dX8_part_152 : decode cX8_part 152 = .ok (.iconst 1, 1) := by decide +kernel
theorem dX8_part_153 : decode cX8_part 153 = .ok (.iadd, 1) := by decide +kernel
theorem dX8_part_154 : decode cX8_part 154 = .ok (.goto 12, 3) := by decide +kernel
theorem dX8_part_157 : decode cX8_part 157 = .ok (.iload_n 0, 1) := by decide +kernel
theorem dX8_part_158 : decode cX8_part 158 = .ok (.sipush 235, 3) := by decide +kernel
theorem dX8_part_161 : decode cX8_part 161 = .ok (.isub, 1) := by decide +kernel
theorem dX8_part_162 : decode cX8_part 162 = .ok (.iconst 4, 1) := by decide +kernel
theorem dX8_part_163 : decode cX8_part 163 = .ok (.irem, 1) := by decide +kernel
theorem dX8_part_164 : decode cX8_part 164 = .ok (.iconst 1, 1) := by decide +kernel
theorem dX8_part_165 : decode cX8_part 165 = .ok (.iadd, 1) := by decide +kernel
theorem dX8_part_166 : decode cX8_part 166 = .ok (.istore_n 3, 1) := by decide +kernel
theorem dX8_part_167 : decode cX8_part 167 = .ok (.iload_n 0, 1) := by decide +kernel
theorem dX8_part_168 : decode cX8_part 168 = .ok (.sipush 234, 3) := by decide +kernel
theorem dX8_part_171 : decode cX8_part 171 = .ok (.if_icmp .gt 15, 3) := by decide +kernel
theorem dX8_part_174 : decode cX8_part 174 = .ok (.iload_n 0, 1) := by decide +kernel
theorem dX8_part_175 : decode cX8_part 175 = .ok (.sipush 163, 3) := by decide +kernel
theorem dX8_part_178 : decode cX8_part 178 = .ok (.isub, 1) := by decide +kernel
theorem dX8_part_179 : decode cX8_part 179 = .ok (.iconst 3, 1) := by decide +kernel
theorem dX8_part_180 : decode cX8_part 180 = .ok (.irem, 1) := by decide +kernel
theorem dX8_part_181 : decode cX8_part 181 = .ok (.iconst 4, 1) := by decide +kernel
theorem dX8_part_182 : decode cX8_part 182 = .ok (.iadd, 1) := by decide +kernel
theorem dX8_part_183 : decode cX8_part 183 = .ok (.goto 4, 3) := by decide +kernel
theorem dX8_part_186 : decode cX8_part 186 = .ok (.iconst 4, 1) := by decide +kernel
theorem dX8_part_187 : decode cX8_part 187 = .ok (.istore 4, 2) := by decide +kernel
theorem dX8_part_189 : decode cX8_part 189 = .ok (.iload_n 1, 1) := by decide +kernel
theorem dX8_part_190 : decode cX8_part 190 = .ok (.ifCond .ne 7, 3) := by decide +kernel
theorem dX8_part_193 : decode cX8_part 193 = .ok (.iconst 1, 1) := by decide +kernel
theorem dX8_part_194 : decode cX8_part 194 = .ok (.goto 41, 3) := by decide +kernel
theorem dX8_part_197 : decode cX8_part 197 = .ok (.iload_n 1, 1) := by decide +kernel
theorem dX8_part_198 : decode cX8_part 198 = .ok (.iconst 1, 1) := by decide +kernel
theorem dX8_part_199 : decode cX8_part 199 = .ok (.if_icmp .ne 7, 3) := by decide +kernel
theorem dX8_part_202 : decode cX8_part 202 = .ok (.iload_n 3, 1) := by decide +kernel
theorem dX8_part_203 : decode cX8_part 203 = .ok (.goto 32, 3) := by decide +kernel
theorem dX8_part_206 : decode cX8_part 206 = .ok (.iload_n 1, 1) := by decide +kernel
theorem dX8_part_207 : decode cX8_part 207 = .ok (.iconst 2, 1) := by decide +kernel
theorem dX8_part_208 : decode cX8_part 208 = .ok (.if_icmp .ne 7, 3) := by decide +kernel
theorem dX8_part_211 : decode cX8_part 211 = .ok (.iconst 0, 1) := by decide +kernel
theorem dX8_part_212 : decode cX8_part 212 = .ok (.goto 23, 3) := by decide +kernel
theorem dX8_part_215 : decode cX8_part 215 = .ok (.iload_n 1, 1) := by decide +kernel
theorem dX8_part_216 : decode cX8_part 216 = .ok (.iconst 3, 1) := by decide +kernel
theorem dX8_part_217 : decode cX8_part 217 = .ok (.if_icmp .ne 7, 3) := by decide +kernel
theorem dX8_part_220 : decode cX8_part 220 = .ok (.iconst 3, 1) := by decide +kernel
theorem dX8_part_221 : decode cX8_part 221 = .ok (.goto 14, 3) := by decide +kernel
theorem dX8_part_224 : decode cX8_part 224 = .ok (.iload_n 1, 1) := by decide +kernel
theorem dX8_part_225 : decode cX8_part 225 = .ok (.iconst 4, 1) := by decide +kernel
theorem dX8_part_226 : decode cX8_part 226 = .ok (.if_icmp .ne 8, 3) := by decide +kernel
theorem dX8_part_229 : decode cX8_part 229 = .ok (.iload 4, 2) := by decide +kernel
theorem dX8_part_231 : decode cX8_part 231 = .ok (.goto 4, 3) := by decide +kernel
theorem dX8_part_234 : decode cX8_part 234 = .ok (.iload_n 2, 1) := by decide +kernel
theorem dX8_part_235 : decode cX8_part 235 = .ok (.ireturn, 1) := by decide +kernel
theorem dX8_part_236 : decode cX8_part 236 = .ok (.iload_n 1, 1) := by decide +kernel
theorem dX8_part_237 : decode cX8_part 237 = .ok (.ifCond .ne 7, 3) := by decide +kernel
theorem dX8_part_240 : decode cX8_part 240 = .ok (.iconst 3, 1) := by decide +kernel
theorem dX8_part_241 : decode cX8_part 241 = .ok (.goto 35, 3) := by decide +kernel
theorem dX8_part_244 : decode cX8_part 244 = .ok (.iload_n 1, 1) := by decide +kernel
theorem dX8_part_245 : decode cX8_part 245 = .ok (.iconst 1, 1) := by decide +kernel
theorem dX8_part_246 : decode cX8_part 246 = .ok (.if_icmp .ne 7, 3) := by decide +kernel
theorem dX8_part_249 : decode cX8_part 249 = .ok (.iconst 4, 1) := by decide +kernel
theorem dX8_part_250 : decode cX8_part 250 = .ok (.goto 26, 3) := by decide +kernel
theorem dX8_part_253 : decode cX8_part 253 = .ok (.iload_n 1, 1) := by decide +kernel
theorem dX8_part_254 : decode cX8_part 254 = .ok (.iconst 2, 1) := by decide +kernel
theorem dX8_part_255 : decode cX8_part 255 = .ok (.if_icmp .ne 11, 3) := by decide +kernel
theorem dX8_part_258 : decode cX8_part 258 = .ok (.iload_n 0, 1) := by decide +kernel
theorem dX8_part_259 : decode cX8_part 259 = .ok (.sipush 247, 3) := by decide +kernel
theorem dX8_part_262 : decode cX8_part 262 = .ok (.isub, 1) := by decide +kernel
theorem dX8_part_263 : decode cX8_part 263 = .ok (.goto 13, 3) := by decide +kernel
theorem dX8_part_266 : decode cX8_part 266 = .ok (.iload_n 1, 1) := by decide +kernel
theorem dX8_part_267 : decode cX8_part 267 = .ok (.iconst 5, 1) := by decide +kernel
theorem dX8_part_268 : decode cX8_part 268 = .ok (.if_icmp .ne 7, 3) := by decide +kernel
theorem dX8_part_271 : decode cX8_part 271 = .ok (.iconst 0, 1) := by decide +kernel
theorem dX8_part_272 : decode cX8_part 272 = .ok (.goto 4, 3) := by decide +kernel
theorem dX8_part_275 : decode cX8_part 275 = .ok (.iconst 1, 1) := by decide +kernel
theorem dX8_part_276 : decode cX8_part 276 = .ok (.ireturn, 1) := by decide +kernel
set_option maxRecDepth 20000 in
theorem ggX8_code_X8_isByte : GoodIn wsX8_code wsX8_isByte := goodIn_r _ [4] (by decide +kernel) (by decide +kernel)
set_option maxRecDepth 20000 in
theorem gX8_code_X8_isByte : GoodIn wsX8_code (va_wsS RX8 46 yX8_isByte wsX8_isByte) := goodIn_app (goodIn_of _ (by decide +kernel)) ggX8_code_X8_isByte
set_option maxRecDepth 20000 in
theorem ggX8_code_X8_part : GoodIn wsX8_code wsX8_part := goodIn_r _ [7] (by decide +kernel) (by decide +kernel)
set_option maxRecDepth 20000 in
theorem gX8_code_X8_part : GoodIn wsX8_code (va_wsS RX8 58 yX8_part wsX8_part) := goodIn_app (goodIn_of _ (by decide +kernel)) ggX8_code_X8_part
theorem dX8_code_0 : decode cX8_code 0 = .ok (.iload_n 1, 1) := by decide +kernel
theorem dX8_code_1 : decode cX8_code 1 = .ok (.invokestatic 46, 3) := by decide +kernel
theorem dX8_code_4 : decode cX8_code 4 = .ok (.ifCond .eq 12, 3) := by decide +kernel
theorem dX8_code_7 : decode cX8_code 7 = .ok (.iload_n 2, 1) := by decide +kernel
theorem dX8_code_8 : decode cX8_code 8 = .ok (.ifCond .lt 8, 3) := by decide +kernel
theorem dX8_code_11 : decode cX8_code 11 = .ok (.iload_n 2, 1) := by decide +kernel
theorem dX8_code_12 : decode cX8_code 12 = .ok (.iconst 5, 1) := by decide +kernel
theorem dX8_code_13 : decode cX8_code 13 = .ok (.if_icmp .le 7, 3) := by decide +kernel
theorem dX8_code_16 : decode cX8_code 16 = .ok (.iconst (-1), 1) := by decide +kernel
theorem dX8_code_17 : decode cX8_code 17 = .ok (.goto 8, 3) := by decide +kernel
theorem dX8_code_20 : decode cX8_code 20 = .ok (.iload_n 1, 1) := by decide +kernel
theorem dX8_code_21 : decode cX8_code 21 = .ok (.iload_n 2, 1) := by decide +kernel
theorem dX8_code_22 : decode cX8_code 22 = .ok (.invokestatic 58, 3) := by decide +kernel
theorem dX8_code_25 : decode cX8_code 25 = .ok (.ireturn, 1) := by decide +kernel
set_option maxRecDepth 20000 in
theorem ggX8_find_X8_part : GoodIn wsX8_find wsX8_part := goodIn_r _ [4] (by decide +kernel) (by decide +kernel)
set_option maxRecDepth 20000 in
theorem gX8_find_X8_part : GoodIn wsX8_find (va_wsS RX8 58 yX8_part wsX8_part) := goodIn_app (goodIn_of _ (by decide +kernel)) ggX8_find_X8_part
theorem dX8_find_0 : decode cX8_find 0 = .ok (.iconst (-1), 1) := by decide +kernel
theorem dX8_find_1 : decode cX8_find 1 = .ok (.istore 6, 2) := by decide +kernel
theorem dX8_find_3 : decode cX8_find 3 = .ok (.sipush 255, 3) := by decide +kernel
theorem dX8_find_6 : decode cX8_find 6 = .ok (.istore 7, 2) := by decide +kernel
theorem dX8_find_8 : decode cX8_find 8 = .ok (.iload 7, 2) := by decide +kernel
theorem dX8_find_10 : decode cX8_find 10 = .ok (.ifCond .lt 92, 3) := by decide +kernel
theorem dX8_find_13 : decode cX8_find 13 = .ok (.iload 7, 2) := by decide +kernel
theorem dX8_find_15 : decode cX8_find 15 = .ok (.iconst 0, 1) := by decide +kernel
theorem dX8_find_16 : decode cX8_find 16 = .ok (.invokestatic 58, 3) := by decide +kernel
theorem dX8_find_19 : decode cX8_find 19 = .ok (.iload_n 0, 1) := by decide +kernel
theorem dX8_find_20 : decode cX8_find 20 = .ok (.if_icmp .ne 27, 3) := by decide +kernel
theorem dX8_find_23 : decode cX8_find 23 = .ok (.iload 7, 2) := by decide +kernel
theorem dX8_find_25 : decode cX8_find 25 = .ok (.iconst 1, 1) := by decide +kernel
theorem dX8_find_26 : decode cX8_find 26 = .ok (.invokestatic 58, 3) := by decide +kernel
theorem dX8_find_29 : decode cX8_find 29 = .ok (.iload_n 1, 1) := by decide +kernel
theorem dX8_find_30 : decode cX8_find 30 = .ok (.if_icmp .ne 17, 3) := by decide +kernel
theorem dX8_find_33 : decode cX8_find 33 = .ok (.iload 7, 2) := by decide +kernel
theorem dX8_find_35 : decode cX8_find 35 = .ok (.iconst 2, 1) := by decide +kernel
theorem dX8_find_36 : decode cX8_find 36 = .ok (.invokestatic 58, 3) := by decide +kernel
theorem dX8_find_39 : decode cX8_find 39 = .ok (.iload_n 2, 1) := by decide +kernel
theorem dX8_find_40 : decode cX8_find 40 = .ok (.if_icmp .ne 7, 3) := by decide +kernel
theorem dX8_find_43 : decode cX8_find 43 = .ok (.iconst 1, 1) := by decide +kernel
theorem dX8_find_44 : decode cX8_find 44 = .ok (.goto 4, 3) := by decide +kernel
theorem dX8_find_47 : decode cX8_find 47 = .ok (.iconst 0, 1) := by decide +kernel
theorem dX8_find_48 : decode cX8_find 48 = .ok (.istore 8, 2) := by decide +kernel
theorem dX8_find_50 : decode cX8_find 50 = .ok (.iload 8, 2) := by decide +kernel
theorem dX8_find_52 : decode cX8_find 52 = .ok (.ifCond .eq 40, 3) := by decide +kernel
theorem dX8_find_55 : decode cX8_find 55 = .ok (.iload 7, 2) := by decide +kernel
theorem dX8_find_57 : decode cX8_find 57 = .ok (.iconst 3, 1) := by decide +kernel
theorem dX8_find_58 : decode cX8_find 58 = .ok (.invokestatic 58, 3) := by decide +kernel
theorem dX8_find_61 : decode cX8_find 61 = .ok (.iload_n 3, 1) := by decide +kernel
theorem dX8_find_62 : decode cX8_find 62 = .ok (.if_icmp .ne 30, 3) := by decide +kernel
theorem dX8_find_65 : decode cX8_find 65 = .ok (.iload 7, 2) := by decide +kernel
theorem dX8_find_67 : decode cX8_find 67 = .ok (.iconst 4, 1) := by decide +kernel
theorem dX8_find_68 : decode cX8_find 68 = .ok (.invokestatic 58, 3) := by decide +kernel
theorem dX8_find_71 : decode cX8_find 71 = .ok (.iload 4, 2) := by decide +kernel
theorem dX8_find_73 : decode cX8_find 73 = .ok (.if_icmp .ne 19, 3) := by decide +kernel
theorem dX8_find_76 : decode cX8_find 76 = .ok (.iload 7, 2) := by decide +kernel
theorem dX8_find_78 : decode cX8_find 78 = .ok (.iconst 5, 1) := by decide +kernel
theorem dX8_find_79 : decode cX8_find 79 = .ok (.invokestatic 58, 3) := by decide +kernel
theorem dX8_find_82 : decode cX8_find 82 = .ok (.iload 5, 2) := by decide +kernel
theorem dX8_find_84 : decode cX8_find 84 = .ok (.if_icmp .ne 8, 3) := by decide +kernel
theorem dX8_find_87 : decode cX8_find 87 = .ok (.iload 7, 2) := by decide +kernel
theorem dX8_find_89 : decode cX8_find 89 = .ok (.goto 5, 3) := by decide +kernel
theorem dX8_find_92 : decode cX8_find 92 = .ok (.iload 6, 2) := by decide +kernel
theorem dX8_find_94 : decode cX8_find 94 = .ok (.istore 6, 2) := by decide +kernel
theorem dX8_find_96 : decode cX8_find 96 = .ok (.iinc 7 (-1), 3) := by decide +kernel
theorem dX8_find_99 : decode cX8_find 99 = .ok (.goto (-91), 3) := by decide +kernel
theorem dX8_find_102 : decode cX8_find 102 = .ok (.iload 6, 2) := by decide +kernel
theorem dX8_find_104 : decode cX8_find 104 = .ok (.ireturn, 1) := by decide +kernel
theorem dX8_forget_0 : decode cX8_forget 0 = .ok (.iconst 0, 1) := by decide +kernel
theorem dX8_forget_1 : decode cX8_forget 1 = .ok (.istore_n 1, 1) := by decide +kernel
theorem dX8_forget_2 : decode cX8_forget 2 = .ok (.iload_n 1, 1) := by decide +kernel
theorem dX8_forget_3 : decode cX8_forget 3 = .ok (.iconst 4, 1) := by decide +kernel
theorem dX8_forget_4 : decode cX8_forget 4 = .ok (.if_icmp .ge 16, 3) := by decide +kernel
theorem dX8_forget_7 : decode cX8_forget 7 = .ok (.aload_n 0, 1) := by decide +kernel
theorem dX8_forget_8 : decode cX8_forget 8 = .ok (.getfield 16, 3) := by decide +kernel
theorem dX8_forget_11 : decode cX8_forget 11 = .ok (.iload_n 1, 1) := by decide +kernel
theorem dX8_forget_12 : decode cX8_forget 12 = .ok (.iconst 0, 1) := by decide +kernel
theorem dX8_forget_13 : decode cX8_forget 13 = .ok (.iastore, 1) := by decide +kernel
theorem dX8_forget_14 : decode cX8_forget 14 = .ok (.iinc 1 1, 3) := by decide +kernel
theorem dX8_forget_17 : decode cX8_forget 17 = .ok (.goto (-15), 3) := by decide +kernel
theorem dX8_forget_20 : decode cX8_forget 20 = .ok (.iconst 0, 1) := by decide +kernel
theorem dX8_forget_21 : decode cX8_forget 21 = .ok (.istore_n 1, 1) := by decide +kernel
theorem dX8_forget_22 : decode cX8_forget 22 = .ok (.iload_n 1, 1) := by decide +kernel
theorem dX8_forget_23 : decode cX8_forget 23 = .ok (.sipush 768, 3) := by decide +kernel
theorem dX8_forget_26 : decode cX8_forget 26 = .ok (.if_icmp .ge 16, 3) := by decide +kernel
theorem dX8_forget_29 : decode cX8_forget 29 = .ok (.aload_n 0, 1) := by decide +kernel
theorem dX8_forget_30 : decode cX8_forget 30 = .ok (.getfield 19, 3) := by decide +kernel
theorem dX8_forget_33 : decode cX8_forget 33 = .ok (.iload_n 1, 1) := by decide +kernel
theorem dX8_forget_34 : decode cX8_forget 34 = .ok (.iconst 0, 1) := by decide +kernel
theorem dX8_forget_35 : decode cX8_forget 35 = .ok (.iastore, 1) := by decide +kernel
theorem dX8_forget_36 : decode cX8_forget 36 = .ok (.iinc 1 1, 3) := by decide +kernel
theorem dX8_forget_39 : decode cX8_forget 39 = .ok (.goto (-17), 3) := by decide +kernel
theorem dX8_forget_42 : decode cX8_forget 42 = .ok (.aload_n 0, 1) := by decide +kernel
theorem dX8_forget_43 : decode cX8_forget 43 = .ok (.iconst 0, 1) := by decide +kernel
theorem dX8_forget_44 : decode cX8_forget 44 = .ok (.putfield 62, 3) := by decide +kernel
theorem dX8_forget_47 : decode cX8_forget 47 = .ok (.return_, 1) := by decide +kernel
theorem dX8_note_0 : decode cX8_note 0 = .ok (.aload_n 0, 1) := by decide +kernel
theorem dX8_note_1 : decode cX8_note 1 = .ok (.getfield 16, 3) := by decide +kernel
theorem dX8_note_4 : decode cX8_note 4 = .ok (.aload_n 0, 1) := by decide +kernel
theorem dX8_note_5 : decode cX8_note 5 = .ok (.getfield 62, 3) := by decide +kernel
theorem dX8_note_8 : decode cX8_note 8 = .ok (.iload_n 1, 1) := by decide +kernel
theorem dX8_note_9 : decode cX8_note 9 = .ok (.iastore, 1) := by decide +kernel
theorem dX8_note_10 : decode cX8_note 10 = .ok (.aload_n 0, 1) := by decide +kernel
theorem dX8_note_11 : decode cX8_note 11 = .ok (.aload_n 0, 1) := by decide +kernel
theorem dX8_note_12 : decode cX8_note 12 = .ok (.getfield 62, 3) := by decide +kernel
theorem dX8_note_15 : decode cX8_note 15 = .ok (.iconst 1, 1) := by decide +kernel
theorem dX8_note_16 : decode cX8_note 16 = .ok (.iadd, 1) := by decide +kernel
theorem dX8_note_17 : decode cX8_note 17 = .ok (.iconst 4, 1) := by decide +kernel
theorem dX8_note_18 : decode cX8_note 18 = .ok (.irem, 1) := by decide +kernel
theorem dX8_note_19 : decode cX8_note 19 = .ok (.putfield 62, 3) := by decide +kernel
theorem dX8_note_22 : decode cX8_note 22 = .ok (.aload_n 0, 1) := by decide +kernel
theorem dX8_note_23 : decode cX8_note 23 = .ok (.getfield 19, 3) := by decide +kernel
theorem dX8_note_26 : decode cX8_note 26 = .ok (.iload_n 1, 1) := by decide +kernel
theorem dX8_note_27 : decode cX8_note 27 = .ok (.sipush 768, 3) := by decide +kernel
theorem dX8_note_30 : decode cX8_note 30 = .ok (.irem, 1) := by decide +kernel
theorem dX8_note_31 : decode cX8_note 31 = .ok (.iload_n 1, 1) := by decide +kernel
theorem dX8_note_32 : decode cX8_note 32 = .ok (.iastore, 1) := by decide +kernel
theorem dX8_note_33 : decode cX8_note 33 = .ok (.return_, 1) := by decide +kernel
theorem dX8_show_0 : decode cX8_show 0 = .ok (.iconst 0, 1) := by decide +kernel
theorem dX8_show_1 : decode cX8_show 1 = .ok (.istore_n 2, 1) := by decide +kernel
theorem dX8_show_2 : decode cX8_show 2 = .ok (.iload_n 2, 1) := by decide +kernel
theorem dX8_show_3 : decode cX8_show 3 = .ok (.sipush 772, 3) := by decide +kernel
theorem dX8_show_6 : decode cX8_show 6 = .ok (.if_icmp .ge 43, 3) := by decide +kernel
theorem dX8_show_9 : decode cX8_show 9 = .ok (.aload_n 0, 1) := by decide +kernel
theorem dX8_show_10 : decode cX8_show 10 = .ok (.getfield 22, 3) := by decide +kernel
theorem dX8_show_13 : decode cX8_show 13 = .ok (.sipush 772, 3) := by decide +kernel
theorem dX8_show_16 : decode cX8_show 16 = .ok (.iload_n 1, 1) := by decide +kernel
theorem dX8_show_17 : decode cX8_show 17 = .ok (.imul, 1) := by decide +kernel
theorem dX8_show_18 : decode cX8_show 18 = .ok (.iload_n 2, 1) := by decide +kernel
theorem dX8_show_19 : decode cX8_show 19 = .ok (.iadd, 1) := by decide +kernel
theorem dX8_show_20 : decode cX8_show 20 = .ok (.iload_n 2, 1) := by decide +kernel
theorem dX8_show_21 : decode cX8_show 21 = .ok (.iconst 4, 1) := by decide +kernel
theorem dX8_show_22 : decode cX8_show 22 = .ok (.if_icmp .ge 12, 3) := by decide +kernel
theorem dX8_show_25 : decode cX8_show 25 = .ok (.aload_n 0, 1) := by decide +kernel
theorem dX8_show_26 : decode cX8_show 26 = .ok (.getfield 16, 3) := by decide +kernel
theorem dX8_show_29 : decode cX8_show 29 = .ok (.iload_n 2, 1) := by decide +kernel
theorem dX8_show_30 : decode cX8_show 30 = .ok (.iaload, 1) := by decide +kernel
theorem dX8_show_31 : decode cX8_show 31 = .ok (.goto 11, 3) := by decide +kernel
theorem dX8_show_34 : decode cX8_show 34 = .ok (.aload_n 0, 1) := by decide +kernel
theorem dX8_show_35 : decode cX8_show 35 = .ok (.getfield 19, 3) := by decide +kernel
theorem dX8_show_38 : decode cX8_show 38 = .ok (.iload_n 2, 1) := by decide +kernel
theorem dX8_show_39 : decode cX8_show 39 = .ok (.iconst 4, 1) := by decide +kernel
theorem dX8_show_40 : decode cX8_show 40 = .ok (.isub, 1) := by decide +kernel
theorem dX8_show_41 : decode cX8_show 41 = .ok (.iaload, 1) := by decide +kernel
theorem dX8_show_42 : decode cX8_show 42 = .ok (.iastore, 1) := by decide +kernel
theorem dX8_show_43 : decode cX8_show 43 = .ok (.iinc 2 1, 3) := by decide +kernel
theorem dX8_show_46 : decode cX8_show 46 = .ok (.goto (-44), 3) := by decide +kernel
theorem dX8_show_49 : decode cX8_show 49 = .ok (.return_, 1) := by decide +kernel
theorem dX8_cache_0 : decode cX8_cache 0 = .ok (.iload_n 1, 1) := by decide +kernel
theorem dX8_cache_1 : decode cX8_cache 1 = .ok (.ifCond .lt 19, 3) := by decide +kernel
theorem dX8_cache_4 : decode cX8_cache 4 = .ok (.iload_n 1, 1) := by decide +kernel
theorem dX8_cache_5 : decode cX8_cache 5 = .ok (.iconst 1, 1) := by decide +kernel
theorem dX8_cache_6 : decode cX8_cache 6 = .ok (.if_icmp .gt 14, 3) := by decide +kernel
theorem dX8_cache_9 : decode cX8_cache 9 = .ok (.iload_n 2, 1) := by decide +kernel
theorem dX8_cache_10 : decode cX8_cache 10 = .ok (.ifCond .lt 10, 3) := by decide +kernel
theorem dX8_cache_13 : decode cX8_cache 13 = .ok (.iload_n 2, 1) := by decide +kernel
theorem dX8_cache_14 : decode cX8_cache 14 = .ok (.sipush 771, 3) := by decide +kernel
theorem dX8_cache_17 : decode cX8_cache 17 = .ok (.if_icmp .le 7, 3) := by decide +kernel
theorem dX8_cache_20 : decode cX8_cache 20 = .ok (.iconst (-1), 1) := by decide +kernel
theorem dX8_cache_21 : decode cX8_cache 21 = .ok (.goto 15, 3) := by decide +kernel
theorem dX8_cache_24 : decode cX8_cache 24 = .ok (.aload_n 0, 1) := by decide +kernel
theorem dX8_cache_25 : decode cX8_cache 25 = .ok (.getfield 22, 3) := by decide +kernel
theorem dX8_cache_28 : decode cX8_cache 28 = .ok (.sipush 772, 3) := by decide +kernel
theorem dX8_cache_31 : decode cX8_cache 31 = .ok (.iload_n 1, 1) := by decide +kernel
theorem dX8_cache_32 : decode cX8_cache 32 = .ok (.imul, 1) := by decide +kernel
theorem dX8_cache_33 : decode cX8_cache 33 = .ok (.iload_n 2, 1) := by decide +kernel
theorem dX8_cache_34 : decode cX8_cache 34 = .ok (.iadd, 1) := by decide +kernel
theorem dX8_cache_35 : decode cX8_cache 35 = .ok (.iaload, 1) := by decide +kernel
theorem dX8_cache_36 : decode cX8_cache 36 = .ok (.ireturn, 1) := by decide +kernel
theorem dX8_write_0 : decode cX8_write 0 = .ok (.aload_n 0, 1) := by decide +kernel
theorem dX8_write_1 : decode cX8_write 1 = .ok (.getfield 34, 3) := by decide +kernel
theorem dX8_write_4 : decode cX8_write 4 = .ok (.sipush 400, 3) := by decide +kernel
theorem dX8_write_7 : decode cX8_write 7 = .ok (.iload_n 1, 1) := by decide +kernel
theorem dX8_write_8 : decode cX8_write 8 = .ok (.imul, 1) := by decide +kernel
theorem dX8_write_9 : decode cX8_write 9 = .ok (.aload_n 0, 1) := by decide +kernel
theorem dX8_write_10 : decode cX8_write 10 = .ok (.getfield 37, 3) := by decide +kernel
theorem dX8_write_13 : decode cX8_write 13 = .ok (.iload_n 1, 1) := by decide +kernel
theorem dX8_write_14 : decode cX8_write 14 = .ok (.iaload, 1) := by decide +kernel
theorem dX8_write_15 : decode cX8_write 15 = .ok (.iadd, 1) := by decide +kernel
theorem dX8_write_16 : decode cX8_write 16 = .ok (.iload_n 2, 1) := by decide +kernel
theorem dX8_write_17 : decode cX8_write 17 = .ok (.iastore, 1) := by decide +kernel
theorem dX8_write_18 : decode cX8_write 18 = .ok (.aload_n 0, 1) := by decide +kernel
theorem dX8_write_19 : decode cX8_write 19 = .ok (.getfield 37, 3) := by decide +kernel
theorem dX8_write_22 : decode cX8_write 22 = .ok (.iload_n 1, 1) := by decide +kernel
theorem dX8_write_23 : decode cX8_write 23 = .ok (.dup2, 1) := by decide +kernel
theorem dX8_write_24 : decode cX8_write 24 = .ok (.iaload, 1) := by decide +kernel
theorem dX8_write_25 : decode cX8_write 25 = .ok (.iconst 1, 1) := by decide +kernel
theorem dX8_write_26 : decode cX8_write 26 = .ok (.iadd, 1) := by decide +kernel
theorem dX8_write_27 : decode cX8_write 27 = .ok (.iastore, 1) := by decide +kernel
theorem dX8_write_28 : decode cX8_write 28 = .ok (.return_, 1) := by decide +kernel
theorem dX8_bytesOf_0 : decode cX8_bytesOf 0 = .ok (.iconst 1, 1) := by decide +kernel
theorem dX8_bytesOf_1 : decode cX8_bytesOf 1 = .ok (.istore_n 1, 1) := by decide +kernel
theorem dX8_bytesOf_2 : decode cX8_bytesOf 2 = .ok (.iload_n 0, 1) := by decide +kernel
theorem dX8_bytesOf_3 : decode cX8_bytesOf 3 = .ok (.bipush 7, 2) := by decide +kernel
theorem dX8_bytesOf_5 : decode cX8_bytesOf 5 = .ok (.ishr, 1) := by decide +kernel
theorem dX8_bytesOf_6 : decode cX8_bytesOf 6 = .ok (.istore_n 2, 1) := by decide +kernel
theorem dX8_bytesOf_7 : decode cX8_bytesOf 7 = .ok (.iload_n 2, 1) := by decide +kernel
theorem dX8_bytesOf_8 : decode cX8_bytesOf 8 = .ok (.ifCond .le 14, 3) := by decide +kernel
theorem dX8_bytesOf_11 : decode cX8_bytesOf 11 = .ok (.iinc 1 1, 3) := by decide +kernel
theorem dX8_bytesOf_14 : decode cX8_bytesOf 14 = .ok (.iload_n 2, 1) := by decide +kernel
theorem dX8_bytesOf_15 : decode cX8_bytesOf 15 = .ok (.bipush 7, 2) := by decide +kernel
theorem dX8_bytesOf_17 : decode cX8_bytesOf 17 = .ok (.ishr, 1) := by decide +kernel
theorem dX8_bytesOf_18 : decode cX8_bytesOf 18 = .ok (.istore_n 2, 1) := by decide +kernel
theorem dX8_bytesOf_19 : decode cX8_bytesOf 19 = .ok (.goto (-12), 3) := by decide +kernel
theorem dX8_bytesOf_22 : decode cX8_bytesOf 22 = .ok (.iload_n 1, 1) := by decide +kernel
theorem dX8_bytesOf_23 : decode cX8_bytesOf 23 = .ok (.ireturn, 1) := by decide +kernel
theorem dX8_byteOf_0 : decode cX8_byteOf 0 = .ok (.iload_n 0, 1) := by decide +kernel
theorem dX8_byteOf_1 : decode cX8_byteOf 1 = .ok (.bipush 7, 2) := by decide +kernel
theorem dX8_byteOf_3 : decode cX8_byteOf 3 = .ok (.iload_n 1, 1) := by decide +kernel
theorem dX8_byteOf_4 : decode cX8_byteOf 4 = .ok (.iconst 1, 1) := by decide +kernel
theorem dX8_byteOf_5 : decode cX8_byteOf 5 = .ok (.isub, 1) := by decide +kernel
theorem dX8_byteOf_6 : decode cX8_byteOf 6 = .ok (.iload_n 2, 1) := by decide +kernel
theorem dX8_byteOf_7 : decode cX8_byteOf 7 = .ok (.isub, 1) := by decide +kernel
theorem dX8_byteOf_8 : decode cX8_byteOf 8 = .ok (.imul, 1) := by decide +kernel
theorem dX8_byteOf_9 : decode cX8_byteOf 9 = .ok (.ishr, 1) := by decide +kernel
theorem dX8_byteOf_10 : decode cX8_byteOf 10 = .ok (.bipush 127, 2) := by decide +kernel
theorem dX8_byteOf_12 : decode cX8_byteOf 12 = .ok (.iand, 1) := by decide +kernel
theorem dX8_byteOf_13 : decode cX8_byteOf 13 = .ok (.iload_n 2, 1) := by decide +kernel
theorem dX8_byteOf_14 : decode cX8_byteOf 14 = .ok (.iload_n 1, 1) := by decide +kernel
theorem dX8_byteOf_15 : decode cX8_byteOf 15 = .ok (.iconst 1, 1) := by decide +kernel
theorem dX8_byteOf_16 : decode cX8_byteOf 16 = .ok (.isub, 1) := by decide +kernel
theorem dX8_byteOf_17 : decode cX8_byteOf 17 = .ok (.if_icmp .ge 9, 3) := by decide +kernel
theorem dX8_byteOf_20 : decode cX8_byteOf 20 = .ok (.sipush 128, 3) := by decide +kernel
theorem dX8_byteOf_23 : decode cX8_byteOf 23 = .ok (.goto 4, 3) := by decide +kernel
theorem dX8_byteOf_26 : decode cX8_byteOf 26 = .ok (.iconst 0, 1) := by decide +kernel
theorem dX8_byteOf_27 : decode cX8_byteOf 27 = .ok (.iadd, 1) := by decide +kernel
theorem dX8_byteOf_28 : decode cX8_byteOf 28 = .ok (.ireturn, 1) := by decide +kernel
set_option maxRecDepth 20000 in
theorem ggX8_writeInteger_X8_bytesOf : GoodIn wsX8_writeInteger wsX8_bytesOf := goodIn_r _ [4] (by decide +kernel) (by decide +kernel)
set_option maxRecDepth 20000 in
theorem gX8_writeInteger_X8_bytesOf : GoodIn wsX8_writeInteger (va_wsS RX8 66 yX8_bytesOf wsX8_bytesOf) := goodIn_app (goodIn_of _ (by decide +kernel)) ggX8_writeInteger_X8_bytesOf
set_option maxRecDepth 20000 in
theorem ggX8_writeInteger_X8_byteOf : GoodIn wsX8_writeInteger wsX8_byteOf := goodIn_r _ [7] (by decide +kernel) (by decide +kernel)
set_option maxRecDepth 20000 in
theorem gX8_writeInteger_X8_byteOf : GoodIn wsX8_writeInteger (va_wsS RX8 69 yX8_byteOf wsX8_byteOf) := goodIn_app (goodIn_of _ (by decide +kernel)) ggX8_writeInteger_X8_byteOf
set_option maxRecDepth 20000 in
theorem ggX8_writeInteger_X8_write : GoodIn wsX8_writeInteger wsX8_write := goodIn_r _ [11, 12, 13, 14, 15, 16, 17, 18, 19, 20, 21, 22, 23, 24, 25, 26, 27, 28, 29, 30, 31, 32, 33, 34] (by decide +kernel) (by decide +kernel)
set_option maxRecDepth 20000 in
theorem gX8_writeInteger_X8_write : GoodIn wsX8_writeInteger (wsV RX8 73 RX8 yX8_write wsX8_write) := goodIn_app (goodIn_of _ (by decide +kernel)) ggX8_writeInteger_X8_write
theorem dX8_writeInteger_0 : decode cX8_writeInteger 0 = .ok (.iload_n 2, 1) := by decide +kernel
theorem dX8_writeInteger_1 : decode cX8_writeInteger 1 = .ok (.invokestatic 66, 3) := by decide +kernel
theorem dX8_writeInteger_4 : decode cX8_writeInteger 4 = .ok (.istore_n 3, 1) := by decide +kernel
theorem dX8_writeInteger_5 : decode cX8_writeInteger 5 = .ok (.iconst 0, 1) := by decide +kernel
theorem dX8_writeInteger_6 : decode cX8_writeInteger 6 = .ok (.istore 4, 2) := by decide +kernel
theorem dX8_writeInteger_8 : decode cX8_writeInteger 8 = .ok (.iload 4, 2) := by decide +kernel
theorem dX8_writeInteger_10 : decode cX8_writeInteger 10 = .ok (.iload_n 3, 1) := by decide +kernel
theorem dX8_writeInteger_11 : decode cX8_writeInteger 11 = .ok (.if_icmp .ge 21, 3) := by decide +kernel
theorem dX8_writeInteger_14 : decode cX8_writeInteger 14 = .ok (.aload_n 0, 1) := by decide +kernel
theorem dX8_writeInteger_15 : decode cX8_writeInteger 15 = .ok (.iload_n 1, 1) := by decide +kernel
theorem dX8_writeInteger_16 : decode cX8_writeInteger 16 = .ok (.iload_n 2, 1) := by decide +kernel
theorem dX8_writeInteger_17 : decode cX8_writeInteger 17 = .ok (.iload_n 3, 1) := by decide +kernel
theorem dX8_writeInteger_18 : decode cX8_writeInteger 18 = .ok (.iload 4, 2) := by decide +kernel
theorem dX8_writeInteger_20 : decode cX8_writeInteger 20 = .ok (.invokestatic 69, 3) := by decide +kernel
theorem dX8_writeInteger_23 : decode cX8_writeInteger 23 = .ok (.invokevirtual 73, 3) := by decide +kernel
theorem dX8_writeInteger_26 : decode cX8_writeInteger 26 = .ok (.iinc 4 1, 3) := by decide +kernel
theorem dX8_writeInteger_29 : decode cX8_writeInteger 29 = .ok (.goto (-21), 3) := by decide +kernel
theorem dX8_writeInteger_32 : decode cX8_writeInteger 32 = .ok (.return_, 1) := by decide +kernel
set_option maxRecDepth 20000 in
theorem ggX8_appendInteger_X8_bytesOf : GoodIn wsX8_appendInteger wsX8_bytesOf := goodIn_r _ [4] (by decide +kernel) (by decide +kernel)
set_option maxRecDepth 20000 in
theorem gX8_appendInteger_X8_bytesOf : GoodIn wsX8_appendInteger (va_wsS RX8 66 yX8_bytesOf wsX8_bytesOf) := goodIn_app (goodIn_of _ (by decide +kernel)) ggX8_appendInteger_X8_bytesOf
set_option maxRecDepth 20000 in
theorem ggX8_appendInteger_X8_byteOf : GoodIn wsX8_appendInteger wsX8_byteOf := goodIn_r _ [7] (by decide +kernel) (by decide +kernel)
set_option maxRecDepth 20000 in
theorem gX8_appendInteger_X8_byteOf : GoodIn wsX8_appendInteger (va_wsS RX8 69 yX8_byteOf wsX8_byteOf) := goodIn_app (goodIn_of _ (by decide +kernel)) ggX8_appendInteger_X8_byteOf
set_option maxRecDepth 20000 in
theorem ggX8_appendInteger_X8_append : GoodIn wsX8_appendInteger wsX8_append := goodIn_r _ [11, 12, 13, 14, 15, 16, 17, 18, 19, 20, 21, 22, 23, 24, 25, 26, 27, 28, 29, 30, 31, 32, 33, 34] (by decide +kernel) (by decide +kernel)
set_option maxRecDepth 20000 in
theorem gX8_appendInteger_X8_append : GoodIn wsX8_appendInteger (wsV RX8 54 RX8 yX8_append wsX8_append) := goodIn_app (goodIn_of _ (by decide +kernel)) ggX8_appendInteger_X8_append
theorem dX8_appendInteger_0 : decode cX8_appendInteger 0 = .ok (.iload_n 1, 1) := by decide +kernel
theorem dX8_appendInteger_1 : decode cX8_appendInteger 1 = .ok (.invokestatic 66, 3) := by decide +kernel
theorem dX8_appendInteger_4 : decode cX8_appendInteger 4 = .ok (.istore_n 2, 1) := by decide +kernel
theorem dX8_appendInteger_5 : decode cX8_appendInteger 5 = .ok (.iconst 0, 1) := by decide +kernel
theorem dX8_appendInteger_6 : decode cX8_appendInteger 6 = .ok (.istore_n 3, 1) := by decide +kernel
theorem dX8_appendInteger_7 : decode cX8_appendInteger 7 = .ok (.iload_n 3, 1) := by decide +kernel
theorem dX8_appendInteger_8 : decode cX8_appendInteger 8 = .ok (.iload_n 2, 1) := by decide +kernel
theorem dX8_appendInteger_9 : decode cX8_appendInteger 9 = .ok (.if_icmp .ge 20, 3) := by decide +kernel
theorem dX8_appendInteger_12 : decode cX8_appendInteger 12 = .ok (.aload_n 0, 1) := by decide +kernel
theorem dX8_appendInteger_13 : decode cX8_appendInteger 13 = .ok (.iconst 2, 1) := by decide +kernel
theorem dX8_appendInteger_14 : decode cX8_appendInteger 14 = .ok (.iload_n 1, 1) := by decide +kernel
theorem dX8_appendInteger_15 : decode cX8_appendInteger 15 = .ok (.iload_n 2, 1) := by decide +kernel
theorem dX8_appendInteger_16 : decode cX8_appendInteger 16 = .ok (.iload_n 3, 1) := by decide +kernel
theorem dX8_appendInteger_17 : decode cX8_appendInteger 17 = .ok (.invokestatic 69, 3) := by decide +kernel
theorem dX8_appendInteger_20 : decode cX8_appendInteger 20 = .ok (.invokevirtual 54, 3) := by decide +kernel
theorem dX8_appendInteger_23 : decode cX8_appendInteger 23 = .ok (.iinc 3 1, 3) := by decide +kernel
theorem dX8_appendInteger_26 : decode cX8_appendInteger 26 = .ok (.goto (-19), 3) := by decide +kernel
theorem dX8_appendInteger_29 : decode cX8_appendInteger 29 = .ok (.return_, 1) := by decide +kernel
theorem dX8_stringAt_0 : decode cX8_stringAt 0 = .ok (.iload_n 2, 1) := by decide +kernel
theorem dX8_stringAt_1 : decode cX8_stringAt 1 = .ok (.aload_n 0, 1) := by decide +kernel
theorem dX8_stringAt_2 : decode cX8_stringAt 2 = .ok (.getfield 13, 3) := by decide +kernel
theorem dX8_stringAt_5 : decode cX8_stringAt 5 = .ok (.iconst 0, 1) := by decide +kernel
theorem dX8_stringAt_6 : decode cX8_stringAt 6 = .ok (.iaload, 1) := by decide +kernel
theorem dX8_stringAt_7 : decode cX8_stringAt 7 = .ok (.if_icmp .ge 12, 3) := by decide +kernel
theorem dX8_stringAt_10 : decode cX8_stringAt 10 = .ok (.aload_n 0, 1) := by decide +kernel
theorem dX8_stringAt_11 : decode cX8_stringAt 11 = .ok (.getfield 7, 3) := by decide +kernel
theorem dX8_stringAt_14 : decode cX8_stringAt 14 = .ok (.iload_n 2, 1) := by decide +kernel
theorem dX8_stringAt_15 : decode cX8_stringAt 15 = .ok (.iaload, 1) := by decide +kernel
theorem dX8_stringAt_16 : decode cX8_stringAt 16 = .ok (.goto 22, 3) := by decide +kernel
theorem dX8_stringAt_19 : decode cX8_stringAt 19 = .ok (.aload_n 0, 1) := by decide +kernel
theorem dX8_stringAt_20 : decode cX8_stringAt 20 = .ok (.getfield 7, 3) := by decide +kernel
theorem dX8_stringAt_23 : decode cX8_stringAt 23 = .ok (.sipush 1000, 3) := by decide +kernel
theorem dX8_stringAt_26 : decode cX8_stringAt 26 = .ok (.iload_n 1, 1) := by decide +kernel
theorem dX8_stringAt_27 : decode cX8_stringAt 27 = .ok (.iadd, 1) := by decide +kernel
theorem dX8_stringAt_28 : decode cX8_stringAt 28 = .ok (.iload_n 2, 1) := by decide +kernel
theorem dX8_stringAt_29 : decode cX8_stringAt 29 = .ok (.iadd, 1) := by decide +kernel
theorem dX8_stringAt_30 : decode cX8_stringAt 30 = .ok (.aload_n 0, 1) := by decide +kernel
theorem dX8_stringAt_31 : decode cX8_stringAt 31 = .ok (.getfield 13, 3) := by decide +kernel
theorem dX8_stringAt_34 : decode cX8_stringAt 34 = .ok (.iconst 0, 1) := by decide +kernel
theorem dX8_stringAt_35 : decode cX8_stringAt 35 = .ok (.iaload, 1) := by decide +kernel
theorem dX8_stringAt_36 : decode cX8_stringAt 36 = .ok (.isub, 1) := by decide +kernel
theorem dX8_stringAt_37 : decode cX8_stringAt 37 = .ok (.iaload, 1) := by decide +kernel
theorem dX8_stringAt_38 : decode cX8_stringAt 38 = .ok (.ireturn, 1) := by decide +kernel
set_option maxRecDepth 20000 in
theorem ggX8_reach_X8_stringAt : GoodIn wsX8_reach wsX8_stringAt := goodIn_r _ [6, 7, 1, 8, 9, 10, 11, 12, 13, 14, 15, 16, 17, 18, 19, 20, 21, 22, 23, 24, 25, 26, 27, 28] (by decide +kernel) (by decide +kernel)
set_option maxRecDepth 20000 in
theorem gX8_reach_X8_stringAt : GoodIn wsX8_reach (wsV RX8 76 RX8 yX8_stringAt wsX8_stringAt) := goodIn_app (goodIn_of _ (by decide +kernel)) ggX8_reach_X8_stringAt
theorem dX8_reach_0 : decode cX8_reach 0 = .ok (.iconst 0, 1) := by decide +kernel
theorem dX8_reach_1 : decode cX8_reach 1 = .ok (.istore 5, 2) := by decide +kernel
theorem dX8_reach_3 : decode cX8_reach 3 = .ok (.iload_n 3, 1) := by decide +kernel
theorem dX8_reach_4 : decode cX8_reach 4 = .ok (.iload 5, 2) := by decide +kernel
theorem dX8_reach_6 : decode cX8_reach 6 = .ok (.iadd, 1) := by decide +kernel
theorem dX8_reach_7 : decode cX8_reach 7 = .ok (.iload_n 2, 1) := by decide +kernel
theorem dX8_reach_8 : decode cX8_reach 8 = .ok (.if_icmp .ge 35, 3) := by decide +kernel
theorem dX8_reach_11 : decode cX8_reach 11 = .ok (.aload_n 0, 1) := by decide +kernel
theorem dX8_reach_12 : decode cX8_reach 12 = .ok (.iload_n 1, 1) := by decide +kernel
theorem dX8_reach_13 : decode cX8_reach 13 = .ok (.iload 4, 2) := by decide +kernel
theorem dX8_reach_15 : decode cX8_reach 15 = .ok (.iload 5, 2) := by decide +kernel
theorem dX8_reach_17 : decode cX8_reach 17 = .ok (.iadd, 1) := by decide +kernel
theorem dX8_reach_18 : decode cX8_reach 18 = .ok (.invokevirtual 76, 3) := by decide +kernel
theorem dX8_reach_21 : decode cX8_reach 21 = .ok (.aload_n 0, 1) := by decide +kernel
theorem dX8_reach_22 : decode cX8_reach 22 = .ok (.getfield 7, 3) := by decide +kernel
theorem dX8_reach_25 : decode cX8_reach 25 = .ok (.sipush 1000, 3) := by decide +kernel
theorem dX8_reach_28 : decode cX8_reach 28 = .ok (.iload_n 3, 1) := by decide +kernel
theorem dX8_reach_29 : decode cX8_reach 29 = .ok (.iadd, 1) := by decide +kernel
theorem dX8_reach_30 : decode cX8_reach 30 = .ok (.iload 5, 2) := by decide +kernel
theorem dX8_reach_32 : decode cX8_reach 32 = .ok (.iadd, 1) := by decide +kernel
theorem dX8_reach_33 : decode cX8_reach 33 = .ok (.iaload, 1) := by decide +kernel
theorem dX8_reach_34 : decode cX8_reach 34 = .ok (.if_icmp .ne 9, 3) := by decide +kernel
theorem dX8_reach_37 : decode cX8_reach 37 = .ok (.iinc 5 1, 3) := by decide +kernel
theorem dX8_reach_40 : decode cX8_reach 40 = .ok (.goto (-37), 3) := by decide +kernel
theorem dX8_reach_43 : decode cX8_reach 43 = .ok (.iload 5, 2) := by decide +kernel
theorem dX8_reach_45 : decode cX8_reach 45 = .ok (.ireturn, 1) := by decide +kernel
theorem dX8_runFrom_0 : decode cX8_runFrom 0 = .ok (.iconst 1, 1) := by decide +kernel
theorem dX8_runFrom_1 : decode cX8_runFrom 1 = .ok (.istore_n 3, 1) := by decide +kernel
theorem dX8_runFrom_2 : decode cX8_runFrom 2 = .ok (.iload_n 1, 1) := by decide +kernel
theorem dX8_runFrom_3 : decode cX8_runFrom 3 = .ok (.iload_n 3, 1) := by decide +kernel
theorem dX8_runFrom_4 : decode cX8_runFrom 4 = .ok (.iadd, 1) := by decide +kernel
theorem dX8_runFrom_5 : decode cX8_runFrom 5 = .ok (.iload_n 2, 1) := by decide +kernel
theorem dX8_runFrom_6 : decode cX8_runFrom 6 = .ok (.if_icmp .ge 34, 3) := by decide +kernel
theorem dX8_runFrom_9 : decode cX8_runFrom 9 = .ok (.aload_n 0, 1) := by decide +kernel
theorem dX8_runFrom_10 : decode cX8_runFrom 10 = .ok (.getfield 7, 3) := by decide +kernel
theorem dX8_runFrom_13 : decode cX8_runFrom 13 = .ok (.sipush 1000, 3) := by decide +kernel
theorem dX8_runFrom_16 : decode cX8_runFrom 16 = .ok (.iload_n 1, 1) := by decide +kernel
theorem dX8_runFrom_17 : decode cX8_runFrom 17 = .ok (.iadd, 1) := by decide +kernel
theorem dX8_runFrom_18 : decode cX8_runFrom 18 = .ok (.iload_n 3, 1) := by decide +kernel
theorem dX8_runFrom_19 : decode cX8_runFrom 19 = .ok (.iadd, 1) := by decide +kernel
theorem dX8_runFrom_20 : decode cX8_runFrom 20 = .ok (.iaload, 1) := by decide +kernel
theorem dX8_runFrom_21 : decode cX8_runFrom 21 = .ok (.aload_n 0, 1) := by decide +kernel
theorem dX8_runFrom_22 : decode cX8_runFrom 22 = .ok (.getfield 7, 3) := by decide +kernel
theorem dX8_runFrom_25 : decode cX8_runFrom 25 = .ok (.sipush 1000, 3) := by decide +kernel
theorem dX8_runFrom_28 : decode cX8_runFrom 28 = .ok (.iload_n 1, 1) := by decide +kernel
theorem dX8_runFrom_29 : decode cX8_runFrom 29 = .ok (.iadd, 1) := by decide +kernel
theorem dX8_runFrom_30 : decode cX8_runFrom 30 = .ok (.iaload, 1) := by decide +kernel
theorem dX8_runFrom_31 : decode cX8_runFrom 31 = .ok (.if_icmp .ne 9, 3) := by decide +kernel
theorem dX8_runFrom_34 : decode cX8_runFrom 34 = .ok (.iinc 3 1, 3) := by decide +kernel
theorem dX8_runFrom_37 : decode cX8_runFrom 37 = .ok (.goto (-35), 3) := by decide +kernel
theorem dX8_runFrom_40 : decode cX8_runFrom 40 = .ok (.iload_n 3, 1) := by decide +kernel
theorem dX8_runFrom_41 : decode cX8_runFrom 41 = .ok (.ireturn, 1) := by decide +kernel
theorem dX8_instruct_0 : decode cX8_instruct 0 = .ok (.aload_n 0, 1) := by decide +kernel
theorem dX8_instruct_1 : decode cX8_instruct 1 = .ok (.getfield 25, 3) := by decide +kernel
theorem dX8_instruct_4 : decode cX8_instruct 4 = .ok (.aload_n 0, 1) := by decide +kernel
theorem dX8_instruct_5 : decode cX8_instruct 5 = .ok (.getfield 79, 3) := by decide +kernel
theorem dX8_instruct_8 : decode cX8_instruct 8 = .ok (.iload_n 1, 1) := by decide +kernel
theorem dX8_instruct_9 : decode cX8_instruct 9 = .ok (.iastore, 1) := by decide +kernel
theorem dX8_instruct_10 : decode cX8_instruct 10 = .ok (.aload_n 0, 1) := by decide +kernel
theorem dX8_instruct_11 : decode cX8_instruct 11 = .ok (.getfield 28, 3) := by decide +kernel
theorem dX8_instruct_14 : decode cX8_instruct 14 = .ok (.aload_n 0, 1) := by decide +kernel
theorem dX8_instruct_15 : decode cX8_instruct 15 = .ok (.getfield 79, 3) := by decide +kernel
theorem dX8_instruct_18 : decode cX8_instruct 18 = .ok (.iload_n 2, 1) := by decide +kernel
theorem dX8_instruct_19 : decode cX8_instruct 19 = .ok (.iastore, 1) := by decide +kernel
theorem dX8_instruct_20 : decode cX8_instruct 20 = .ok (.aload_n 0, 1) := by decide +kernel
theorem dX8_instruct_21 : decode cX8_instruct 21 = .ok (.getfield 31, 3) := by decide +kernel
theorem dX8_instruct_24 : decode cX8_instruct 24 = .ok (.aload_n 0, 1) := by decide +kernel
theorem dX8_instruct_25 : decode cX8_instruct 25 = .ok (.getfield 79, 3) := by decide +kernel
theorem dX8_instruct_28 : decode cX8_instruct 28 = .ok (.iload_n 3, 1) := by decide +kernel
theorem dX8_instruct_29 : decode cX8_instruct 29 = .ok (.iastore, 1) := by decide +kernel
theorem dX8_instruct_30 : decode cX8_instruct 30 = .ok (.aload_n 0, 1) := by decide +kernel
theorem dX8_instruct_31 : decode cX8_instruct 31 = .ok (.dup, 1) := by decide +kernel
theorem dX8_instruct_32 : decode cX8_instruct 32 = .ok (.getfield 79, 3) := by decide +kernel
theorem dX8_instruct_35 : decode cX8_instruct 35 = .ok (.iconst 1, 1) := by decide +kernel
theorem dX8_instruct_36 : decode cX8_instruct 36 = .ok (.iadd, 1) := by decide +kernel
theorem dX8_instruct_37 : decode cX8_instruct 37 = .ok (.putfield 79, 3) := by decide +kernel
theorem dX8_instruct_40 : decode cX8_instruct 40 = .ok (.return_, 1) := by decide +kernel
set_option maxRecDepth 20000 in
theorem ggX8_addByte_X8_instruct : GoodIn wsX8_addByte wsX8_instruct := goodIn_r _ [8, 2, 1, 3, 9, 16, 17, 18, 19, 20, 21, 22, 23, 24, 25, 26, 27, 28, 29, 30, 31, 32, 33, 34, 35, 36] (by decide +kernel) (by decide +kernel)
set_option maxRecDepth 20000 in
theorem gX8_addByte_X8_instruct : GoodIn wsX8_addByte (wsV RX8 82 RX8 yX8_instruct wsX8_instruct) := goodIn_app (goodIn_of _ (by decide +kernel)) ggX8_addByte_X8_instruct
set_option maxRecDepth 20000 in
theorem ggX8_addByte_X8_write : GoodIn wsX8_addByte wsX8_write := goodIn_r _ [13, 14, 15, 16, 17, 18, 19, 20, 21, 22, 23, 24, 25, 26, 27, 28, 29, 30, 31, 32, 33, 34, 35, 36] (by decide +kernel) (by decide +kernel)
set_option maxRecDepth 20000 in
theorem gX8_addByte_X8_write : GoodIn wsX8_addByte (wsV RX8 73 RX8 yX8_write wsX8_write) := goodIn_app (goodIn_of _ (by decide +kernel)) ggX8_addByte_X8_write
theorem dX8_addByte_0 : decode cX8_addByte 0 = .ok (.aload_n 0, 1) := by decide +kernel
theorem dX8_addByte_1 : decode cX8_addByte 1 = .ok (.getfield 79, 3) := by decide +kernel
theorem dX8_addByte_4 : decode cX8_addByte 4 = .ok (.ifCond .le 36, 3) := by decide +kernel
theorem dX8_addByte_7 : decode cX8_addByte 7 = .ok (.aload_n 0, 1) := by decide +kernel
theorem dX8_addByte_8 : decode cX8_addByte 8 = .ok (.getfield 25, 3) := by decide +kernel
theorem dX8_addByte_11 : decode cX8_addByte 11 = .ok (.aload_n 0, 1) := by decide +kernel
theorem dX8_addByte_12 : decode cX8_addByte 12 = .ok (.getfield 79, 3) := by decide +kernel
theorem dX8_addByte_15 : decode cX8_addByte 15 = .ok (.iconst 1, 1) := by decide +kernel
theorem dX8_addByte_16 : decode cX8_addByte 16 = .ok (.isub, 1) := by decide +kernel
theorem dX8_addByte_17 : decode cX8_addByte 17 = .ok (.iaload, 1) := by decide +kernel
theorem dX8_addByte_18 : decode cX8_addByte 18 = .ok (.iconst 1, 1) := by decide +kernel
theorem dX8_addByte_19 : decode cX8_addByte 19 = .ok (.if_icmp .ne 21, 3) := by decide +kernel
theorem dX8_addByte_22 : decode cX8_addByte 22 = .ok (.aload_n 0, 1) := by decide +kernel
theorem dX8_addByte_23 : decode cX8_addByte 23 = .ok (.getfield 28, 3) := by decide +kernel
theorem dX8_addByte_26 : decode cX8_addByte 26 = .ok (.aload_n 0, 1) := by decide +kernel
theorem dX8_addByte_27 : decode cX8_addByte 27 = .ok (.getfield 79, 3) := by decide +kernel
theorem dX8_addByte_30 : decode cX8_addByte 30 = .ok (.iconst 1, 1) := by decide +kernel
theorem dX8_addByte_31 : decode cX8_addByte 31 = .ok (.isub, 1) := by decide +kernel
theorem dX8_addByte_32 : decode cX8_addByte 32 = .ok (.dup2, 1) := by decide +kernel
theorem dX8_addByte_33 : decode cX8_addByte 33 = .ok (.iaload, 1) := by decide +kernel
theorem dX8_addByte_34 : decode cX8_addByte 34 = .ok (.iconst 1, 1) := by decide +kernel
theorem dX8_addByte_35 : decode cX8_addByte 35 = .ok (.iadd, 1) := by decide +kernel
theorem dX8_addByte_36 : decode cX8_addByte 36 = .ok (.iastore, 1) := by decide +kernel
theorem dX8_addByte_37 : decode cX8_addByte 37 = .ok (.goto 10, 3) := by decide +kernel
theorem dX8_addByte_40 : decode cX8_addByte 40 = .ok (.aload_n 0, 1) := by decide +kernel
theorem dX8_addByte_41 : decode cX8_addByte 41 = .ok (.iconst 1, 1) := by decide +kernel
theorem dX8_addByte_42 : decode cX8_addByte 42 = .ok (.iconst 1, 1) := by decide +kernel
theorem dX8_addByte_43 : decode cX8_addByte 43 = .ok (.iconst 0, 1) := by decide +kernel
theorem dX8_addByte_44 : decode cX8_addByte 44 = .ok (.invokevirtual 82, 3) := by decide +kernel
theorem dX8_addByte_47 : decode cX8_addByte 47 = .ok (.aload_n 0, 1) := by decide +kernel
theorem dX8_addByte_48 : decode cX8_addByte 48 = .ok (.iconst 0, 1) := by decide +kernel
theorem dX8_addByte_49 : decode cX8_addByte 49 = .ok (.iload_n 1, 1) := by decide +kernel
theorem dX8_addByte_50 : decode cX8_addByte 50 = .ok (.invokevirtual 73, 3) := by decide +kernel
theorem dX8_addByte_53 : decode cX8_addByte 53 = .ok (.return_, 1) := by decide +kernel
theorem dX8_distance_0 : decode cX8_distance 0 = .ok (.iload_n 1, 1) := by decide +kernel
theorem dX8_distance_1 : decode cX8_distance 1 = .ok (.ifCond .ne 7, 3) := by decide +kernel
theorem dX8_distance_4 : decode cX8_distance 4 = .ok (.iload_n 2, 1) := by decide +kernel
theorem dX8_distance_5 : decode cX8_distance 5 = .ok (.goto 24, 3) := by decide +kernel
theorem dX8_distance_8 : decode cX8_distance 8 = .ok (.iload_n 1, 1) := by decide +kernel
theorem dX8_distance_9 : decode cX8_distance 9 = .ok (.iconst 1, 1) := by decide +kernel
theorem dX8_distance_10 : decode cX8_distance 10 = .ok (.if_icmp .ne 9, 3) := by decide +kernel
theorem dX8_distance_13 : decode cX8_distance 13 = .ok (.iload_n 3, 1) := by decide +kernel
theorem dX8_distance_14 : decode cX8_distance 14 = .ok (.iload_n 2, 1) := by decide +kernel
theorem dX8_distance_15 : decode cX8_distance 15 = .ok (.isub, 1) := by decide +kernel
theorem dX8_distance_16 : decode cX8_distance 16 = .ok (.goto 13, 3) := by decide +kernel
theorem dX8_distance_19 : decode cX8_distance 19 = .ok (.iload_n 2, 1) := by decide +kernel
theorem dX8_distance_20 : decode cX8_distance 20 = .ok (.aload_n 0, 1) := by decide +kernel
theorem dX8_distance_21 : decode cX8_distance 21 = .ok (.getfield 16, 3) := by decide +kernel
theorem dX8_distance_24 : decode cX8_distance 24 = .ok (.iload_n 1, 1) := by decide +kernel
theorem dX8_distance_25 : decode cX8_distance 25 = .ok (.iconst 2, 1) := by decide +kernel
theorem dX8_distance_26 : decode cX8_distance 26 = .ok (.isub, 1) := by decide +kernel
theorem dX8_distance_27 : decode cX8_distance 27 = .ok (.iaload, 1) := by decide +kernel
theorem dX8_distance_28 : decode cX8_distance 28 = .ok (.isub, 1) := by decide +kernel
theorem dX8_distance_29 : decode cX8_distance 29 = .ok (.ireturn, 1) := by decide +kernel
set_option maxRecDepth 20000 in
theorem ggX8_copy_X8_distance : GoodIn wsX8_copy wsX8_distance := goodIn_r _ [6, 7, 37, 38, 39, 40, 41, 42, 43, 44, 45, 46, 47, 48, 49, 50, 51, 52, 53, 54, 55, 56, 57] (by decide +kernel) (by decide +kernel)
set_option maxRecDepth 20000 in
theorem gX8_copy_X8_distance : GoodIn wsX8_copy (wsV RX8 86 RX8 yX8_distance wsX8_distance) := goodIn_app (goodIn_of _ (by decide +kernel)) ggX8_copy_X8_distance
set_option maxRecDepth 20000 in
theorem ggX8_copy_X8_write : GoodIn wsX8_copy wsX8_write := goodIn_r _ [11, 12, 13, 37, 38, 39, 40, 41, 42, 43, 44, 45, 46, 47, 48, 49, 50, 51, 52, 53, 54, 55, 56, 57] (by decide +kernel) (by decide +kernel)
set_option maxRecDepth 20000 in
theorem gX8_copy_X8_write : GoodIn wsX8_copy (wsV RX8 73 RX8 yX8_write wsX8_write) := goodIn_app (goodIn_of _ (by decide +kernel)) ggX8_copy_X8_write
set_option maxRecDepth 20000 in
theorem ggX8_copy_X8_writeInteger : GoodIn wsX8_copy wsX8_writeInteger := goodIn_r _ [17, 18, 19, 5, 20, 21, 22, 23, 8, 9, 10, 11, 12, 13, 37, 38, 39, 40, 41, 42, 43, 44, 45, 46, 47, 48, 49, 50, 51, 52, 53, 54, 55, 56, 57] (by decide +kernel) (by decide +kernel)
set_option maxRecDepth 20000 in
theorem gX8_copy_X8_writeInteger : GoodIn wsX8_copy (wsV RX8 89 RX8 yX8_writeInteger wsX8_writeInteger) := goodIn_app (goodIn_of _ (by decide +kernel)) ggX8_copy_X8_writeInteger
set_option maxRecDepth 20000 in
theorem ggX8_copy_X8_instruct : GoodIn wsX8_copy wsX8_instruct := goodIn_r _ [27, 28, 29, 30, 31, 37, 38, 39, 40, 41, 42, 43, 44, 45, 46, 47, 48, 49, 50, 51, 52, 53, 54, 55, 56, 57] (by decide +kernel) (by decide +kernel)
set_option maxRecDepth 20000 in
theorem gX8_copy_X8_instruct : GoodIn wsX8_copy (wsV RX8 82 RX8 yX8_instruct wsX8_instruct) := goodIn_app (goodIn_of _ (by decide +kernel)) ggX8_copy_X8_instruct
set_option maxRecDepth 20000 in
theorem ggX8_copy_X8_note : GoodIn wsX8_copy wsX8_note := goodIn_r _ [35, 7, 36, 1, 37, 38, 39, 40, 41, 42, 43, 44, 45, 46, 47, 48, 49, 50, 51, 52, 53, 54, 55, 56, 57] (by decide +kernel) (by decide +kernel)
set_option maxRecDepth 20000 in
theorem gX8_copy_X8_note : GoodIn wsX8_copy (wsV RX8 92 RX8 yX8_note wsX8_note) := goodIn_app (goodIn_of _ (by decide +kernel)) ggX8_copy_X8_note
theorem dX8_copy_0 : decode cX8_copy 0 = .ok (.iconst 0, 1) := by decide +kernel
theorem dX8_copy_1 : decode cX8_copy 1 = .ok (.istore 4, 2) := by decide +kernel
theorem dX8_copy_3 : decode cX8_copy 3 = .ok (.iconst 1, 1) := by decide +kernel
theorem dX8_copy_4 : decode cX8_copy 4 = .ok (.istore 5, 2) := by decide +kernel
theorem dX8_copy_6 : decode cX8_copy 6 = .ok (.iload 5, 2) := by decide +kernel
theorem dX8_copy_8 : decode cX8_copy 8 = .ok (.bipush 6, 2) := by decide +kernel
theorem dX8_copy_10 : decode cX8_copy 10 = .ok (.if_icmp .ge 48, 3) := by decide +kernel
theorem dX8_copy_13 : decode cX8_copy 13 = .ok (.aload_n 0, 1) := by decide +kernel
theorem dX8_copy_14 : decode cX8_copy 14 = .ok (.iload 5, 2) := by decide +kernel
theorem dX8_copy_16 : decode cX8_copy 16 = .ok (.iload_n 1, 1) := by decide +kernel
theorem dX8_copy_17 : decode cX8_copy 17 = .ok (.iload_n 3, 1) := by decide +kernel
theorem dX8_copy_18 : decode cX8_copy 18 = .ok (.invokevirtual 86, 3) := by decide +kernel
theorem dX8_copy_21 : decode cX8_copy 21 = .ok (.ifCond .lt 27, 3) := by decide +kernel
theorem dX8_copy_24 : decode cX8_copy 24 = .ok (.aload_n 0, 1) := by decide +kernel
theorem dX8_copy_25 : decode cX8_copy 25 = .ok (.iload 5, 2) := by decide +kernel
theorem dX8_copy_27 : decode cX8_copy 27 = .ok (.iload_n 1, 1) := by decide +kernel
theorem dX8_copy_28 : decode cX8_copy 28 = .ok (.iload_n 3, 1) := by decide +kernel
theorem dX8_copy_29 : decode cX8_copy 29 = .ok (.invokevirtual 86, 3) := by decide +kernel
theorem dX8_copy_32 : decode cX8_copy 32 = .ok (.aload_n 0, 1) := by decide +kernel
theorem dX8_copy_33 : decode cX8_copy 33 = .ok (.iload 4, 2) := by decide +kernel
theorem dX8_copy_35 : decode cX8_copy 35 = .ok (.iload_n 1, 1) := by decide +kernel
theorem dX8_copy_36 : decode cX8_copy 36 = .ok (.iload_n 3, 1) := by decide +kernel
theorem dX8_copy_37 : decode cX8_copy 37 = .ok (.invokevirtual 86, 3) := by decide +kernel
theorem dX8_copy_40 : decode cX8_copy 40 = .ok (.if_icmp .ge 8, 3) := by decide +kernel
theorem dX8_copy_43 : decode cX8_copy 43 = .ok (.iload 5, 2) := by decide +kernel
theorem dX8_copy_45 : decode cX8_copy 45 = .ok (.goto 5, 3) := by decide +kernel
theorem dX8_copy_48 : decode cX8_copy 48 = .ok (.iload 4, 2) := by decide +kernel
theorem dX8_copy_50 : decode cX8_copy 50 = .ok (.istore 4, 2) := by decide +kernel
theorem dX8_copy_52 : decode cX8_copy 52 = .ok (.iinc 5 1, 3) := by decide +kernel
theorem dX8_copy_55 : decode cX8_copy 55 = .ok (.goto (-49), 3) := by decide +kernel
theorem dX8_copy_58 : decode cX8_copy 58 = .ok (.aload_n 0, 1) := by decide +kernel
theorem dX8_copy_59 : decode cX8_copy 59 = .ok (.getfield 19, 3) := by decide +kernel
theorem dX8_copy_62 : decode cX8_copy 62 = .ok (.iload_n 1, 1) := by decide +kernel
theorem dX8_copy_63 : decode cX8_copy 63 = .ok (.sipush 768, 3) := by decide +kernel
theorem dX8_copy_66 : decode cX8_copy 66 = .ok (.irem, 1) := by decide +kernel
theorem dX8_copy_67 : decode cX8_copy 67 = .ok (.iaload, 1) := by decide +kernel
theorem dX8_copy_68 : decode cX8_copy 68 = .ok (.iload_n 1, 1) := by decide +kernel
theorem dX8_copy_69 : decode cX8_copy 69 = .ok (.if_icmp .ne 34, 3) := by decide +kernel
theorem dX8_copy_72 : decode cX8_copy 72 = .ok (.bipush 6, 2) := by decide +kernel
theorem dX8_copy_74 : decode cX8_copy 74 = .ok (.iload_n 1, 1) := by decide +kernel
theorem dX8_copy_75 : decode cX8_copy 75 = .ok (.sipush 768, 3) := by decide +kernel
theorem dX8_copy_78 : decode cX8_copy 78 = .ok (.irem, 1) := by decide +kernel
theorem dX8_copy_79 : decode cX8_copy 79 = .ok (.sipush 256, 3) := by decide +kernel
