theorem dX8_init_0 : decode cX8_init 0 = .ok (.aload_n 0, 1) := by decide +kernel
theorem dX8_init_1 : decode cX8_init 1 = .ok (.invokespecial 1, 3) := by decide +kernel
theorem dX8_init_4 : decode cX8_init 4 = .ok (.aload_n 0, 1) := by decide +kernel
theorem dX8_init_5 : decode cX8_init 5 = .ok (.sipush 270, 3) := by decide +kernel
theorem dX8_init_8 : decode cX8_init 8 = .ok (.newarray .int, 2) := by decide +kernel
theorem dX8_init_10 : decode cX8_init 10 = .ok (.putfield 7, 3) := by decide +kernel
theorem dX8_init_13 : decode cX8_init 13 = .ok (.aload_n 0, 1) := by decide +kernel
theorem dX8_init_14 : decode cX8_init 14 = .ok (.bipush 45, 2) := by decide +kernel
theorem dX8_init_16 : decode cX8_init 16 = .ok (.newarray .int, 2) := by decide +kernel
theorem dX8_init_18 : decode cX8_init 18 = .ok (.putfield 13, 3) := by decide +kernel
theorem dX8_init_21 : decode cX8_init 21 = .ok (.aload_n 0, 1) := by decide +kernel
theorem dX8_init_22 : decode cX8_init 22 = .ok (.sipush 160, 3) := by decide +kernel
theorem dX8_init_25 : decode cX8_init 25 = .ok (.newarray .int, 2) := by decide +kernel
theorem dX8_init_27 : decode cX8_init 27 = .ok (.putfield 16, 3) := by decide +kernel
theorem dX8_init_30 : decode cX8_init 30 = .ok (.aload_n 0, 1) := by decide +kernel
theorem dX8_init_31 : decode cX8_init 31 = .ok (.bipush 6, 2) := by decide +kernel
theorem dX8_init_33 : decode cX8_init 33 = .ok (.newarray .int, 2) := by decide +kernel
theorem dX8_init_35 : decode cX8_init 35 = .ok (.dup, 1) := by decide +kernel
theorem dX8_init_36 : decode cX8_init 36 = .ok (.iconst 0, 1) := by decide +kernel
theorem dX8_init_37 : decode cX8_init 37 = .ok (.iconst 0, 1) := by decide +kernel
theorem dX8_init_38 : decode cX8_init 38 = .ok (.iastore, 1) := by decide +kernel
theorem dX8_init_39 : decode cX8_init 39 = .ok (.dup, 1) := by decide +kernel
theorem dX8_init_40 : decode cX8_init 40 = .ok (.iconst 1, 1) := by decide +kernel
theorem dX8_init_41 : decode cX8_init 41 = .ok (.iconst 5, 1) := by decide +kernel
theorem dX8_init_42 : decode cX8_init 42 = .ok (.iastore, 1) := by decide +kernel
theorem dX8_init_43 : decode cX8_init 43 = .ok (.dup, 1) := by decide +kernel
theorem dX8_init_44 : decode cX8_init 44 = .ok (.iconst 2, 1) := by decide +kernel
theorem dX8_init_45 : decode cX8_init 45 = .ok (.bipush 9, 2) := by decide +kernel
theorem dX8_init_47 : decode cX8_init 47 = .ok (.iastore, 1) := by decide +kernel
theorem dX8_init_48 : decode cX8_init 48 = .ok (.dup, 1) := by decide +kernel
theorem dX8_init_49 : decode cX8_init 49 = .ok (.iconst 3, 1) := by decide +kernel
theorem dX8_init_50 : decode cX8_init 50 = .ok (.bipush 15, 2) := by decide +kernel
theorem dX8_init_52 : decode cX8_init 52 = .ok (.iastore, 1) := by decide +kernel
theorem dX8_init_53 : decode cX8_init 53 = .ok (.dup, 1) := by decide +kernel
theorem dX8_init_54 : decode cX8_init 54 = .ok (.iconst 4, 1) := by decide +kernel
theorem dX8_init_55 : decode cX8_init 55 = .ok (.bipush 19, 2) := by decide +kernel
theorem dX8_init_57 : decode cX8_init 57 = .ok (.iastore, 1) := by decide +kernel
theorem dX8_init_58 : decode cX8_init 58 = .ok (.dup, 1) := by decide +kernel
theorem dX8_init_59 : decode cX8_init 59 = .ok (.iconst 5, 1) := by decide +kernel
theorem dX8_init_60 : decode cX8_init 60 = .ok (.bipush 24, 2) := by decide +kernel
theorem dX8_init_62 : decode cX8_init 62 = .ok (.iastore, 1) := by decide +kernel
theorem dX8_init_63 : decode cX8_init 63 = .ok (.putfield 19, 3) := by decide +kernel
theorem dX8_init_66 : decode cX8_init 66 = .ok (.aload_n 0, 1) := by decide +kernel
theorem dX8_init_67 : decode cX8_init 67 = .ok (.bipush 24, 2) := by decide +kernel
theorem dX8_init_69 : decode cX8_init 69 = .ok (.newarray .int, 2) := by decide +kernel
theorem dX8_init_71 : decode cX8_init 71 = .ok (.dup, 1) := by decide +kernel
theorem dX8_init_72 : decode cX8_init 72 = .ok (.iconst 0, 1) := by decide +kernel
theorem dX8_init_73 : decode cX8_init 73 = .ok (.bipush 116, 2) := by decide +kernel
theorem dX8_init_75 : decode cX8_init 75 = .ok (.iastore, 1) := by decide +kernel
theorem dX8_init_76 : decode cX8_init 76 = .ok (.dup, 1) := by decide +kernel
theorem dX8_init_77 : decode cX8_init 77 = .ok (.iconst 1, 1) := by decide +kernel
theorem dX8_init_78 : decode cX8_init 78 = .ok (.bipush 111, 2) := by decide +kernel
theorem dX8_init_80 : decode cX8_init 80 = .ok (.iastore, 1) := by decide +kernel
theorem dX8_init_81 : decode cX8_init 81 = .ok (.dup, 1) := by decide +kernel
theorem dX8_init_82 : decode cX8_init 82 = .ok (.iconst 2, 1) := by decide +kernel
theorem dX8_init_83 : decode cX8_init 83 = .ok (.bipush 107, 2) := by decide +kernel
theorem dX8_init_85 : decode cX8_init 85 = .ok (.iastore, 1) := by decide +kernel
theorem dX8_init_86 : decode cX8_init 86 = .ok (.dup, 1) := by decide +kernel
theorem dX8_init_87 : decode cX8_init 87 = .ok (.iconst 3, 1) := by decide +kernel
theorem dX8_init_88 : decode cX8_init 88 = .ok (.bipush 101, 2) := by decide +kernel
theorem dX8_init_90 : decode cX8_init 90 = .ok (.iastore, 1) := by decide +kernel
theorem dX8_init_91 : decode cX8_init 91 = .ok (.dup, 1) := by decide +kernel
theorem dX8_init_92 : decode cX8_init 92 = .ok (.iconst 4, 1) := by decide +kernel
theorem dX8_init_93 : decode cX8_init 93 = .ok (.bipush 110, 2) := by decide +kernel
theorem dX8_init_95 : decode cX8_init 95 = .ok (.iastore, 1) := by decide +kernel
theorem dX8_init_96 : decode cX8_init 96 = .ok (.dup, 1) := by decide +kernel
theorem dX8_init_97 : decode cX8_init 97 = .ok (.iconst 5, 1) := by decide +kernel
theorem dX8_init_98 : decode cX8_init 98 = .ok (.bipush 108, 2) := by decide +kernel
theorem dX8_init_100 : decode cX8_init 100 = .ok (.iastore, 1) := by decide +kernel
theorem dX8_init_101 : decode cX8_init 101 = .ok (.dup, 1) := by decide +kernel
theorem dX8_init_102 : decode cX8_init 102 = .ok (.bipush 6, 2) := by decide +kernel
theorem dX8_init_104 : decode cX8_init 104 = .ok (.bipush 101, 2) := by decide +kernel
theorem dX8_init_106 : decode cX8_init 106 = .ok (.iastore, 1) := by decide +kernel
theorem dX8_init_107 : decode cX8_init 107 = .ok (.dup, 1) := by decide +kernel
theorem dX8_init_108 : decode cX8_init 108 = .ok (.bipush 7, 2) := by decide +kernel
theorem dX8_init_110 : decode cX8_init 110 = .ok (.bipush 97, 2) := by decide +kernel
theorem dX8_init_112 : decode cX8_init 112 = .ok (.iastore, 1) := by decide +kernel
theorem dX8_init_113 : decode cX8_init 113 = .ok (.dup, 1) := by decide +kernel
theorem dX8_init_114 : decode cX8_init 114 = .ok (.bipush 8, 2) := by decide +kernel
theorem dX8_init_116 : decode cX8_init 116 = .ok (.bipush 107, 2) := by decide +kernel
theorem dX8_init_118 : decode cX8_init 118 = .ok (.iastore, 1) := by decide +kernel
theorem dX8_init_119 : decode cX8_init 119 = .ok (.dup, 1) := by decide +kernel
theorem dX8_init_120 : decode cX8_init 120 = .ok (.bipush 9, 2) := by decide +kernel
theorem dX8_init_122 : decode cX8_init 122 = .ok (.bipush 119, 2) := by decide +kernel
theorem dX8_init_124 : decode cX8_init 124 = .ok (.iastore, 1) := by decide +kernel
theorem dX8_init_125 : decode cX8_init 125 = .ok (.dup, 1) := by decide +kernel
theorem dX8_init_126 : decode cX8_init 126 = .ok (.bipush 10, 2) := by decide +kernel
theorem dX8_init_128 : decode cX8_init 128 = .ok (.bipush 105, 2) := by decide +kernel
theorem dX8_init_130 : decode cX8_init 130 = .ok (.iastore, 1) := by decide +kernel
theorem dX8_init_131 : decode cX8_init 131 = .ok (.dup, 1) := by decide +kernel
theorem dX8_init_132 : decode cX8_init 132 = .ok (.bipush 11, 2) := by decide +kernel
theorem dX8_init_134 : decode cX8_init 134 = .ok (.bipush 110, 2) := by decide +kernel
theorem dX8_init_136 : decode cX8_init 136 = .ok (.iastore, 1) := by decide +kernel
theorem dX8_init_137 : decode cX8_init 137 = .ok (.dup, 1) := by decide +kernel
theorem dX8_init_138 : decode cX8_init 138 = .ok (.bipush 12, 2) := by decide +kernel
theorem dX8_init_140 : decode cX8_init 140 = .ok (.bipush 100, 2) := by decide +kernel
theorem dX8_init_142 : decode cX8_init 142 = .ok (.iastore, 1) := by decide +kernel
theorem dX8_init_143 : decode cX8_init 143 = .ok (.dup, 1) := by decide +kernel
theorem dX8_init_144 : decode cX8_init 144 = .ok (.bipush 13, 2) := by decide +kernel
theorem dX8_init_146 : decode cX8_init 146 = .ok (.bipush 111, 2) := by decide +kernel
theorem dX8_init_148 : decode cX8_init 148 = .ok (.iastore, 1) := by decide +kernel
theorem dX8_init_149 : decode cX8_init 149 = .ok (.dup, 1) := by decide +kernel
theorem dX8_init_150 : decode cX8_init 150 = .ok (.bipush 14, 2) := by decide +kernel
theorem dX8_init_152 : decode cX8_init 152 = .ok (.bipush 119, 2) := by decide +kernel
theorem dX8_init_154 : decode cX8_init 154 = .ok (.iastore, 1) := by decide +kernel
theorem dX8_init_155 : decode cX8_init 155 = .ok (.dup, 1) := by decide +kernel
theorem dX8_init_156 : decode cX8_init 156 = .ok (.bipush 15, 2) := by decide +kernel
theorem dX8_init_158 : decode cX8_init 158 = .ok (.bipush 104, 2) := by decide +kernel
theorem dX8_init_160 : decode cX8_init 160 = .ok (.iastore, 1) := by decide +kernel
theorem dX8_init_161 : decode cX8_init 161 = .ok (.dup, 1) := by decide +kernel
theorem dX8_init_162 : decode cX8_init 162 = .ok (.bipush 16, 2) := by decide +kernel
theorem dX8_init_164 : decode cX8_init 164 = .ok (.bipush 97, 2) := by decide +kernel
theorem dX8_init_166 : decode cX8_init 166 = .ok (.iastore, 1) := by decide +kernel
theorem dX8_init_167 : decode cX8_init 167 = .ok (.dup, 1) := by decide +kernel
theorem dX8_init_168 : decode cX8_init 168 = .ok (.bipush 17, 2) := by decide +kernel
theorem dX8_init_170 : decode cX8_init 170 = .ok (.bipush 108, 2) := by decide +kernel
theorem dX8_init_172 : decode cX8_init 172 = .ok (.iastore, 1) := by decide +kernel
theorem dX8_init_173 : decode cX8_init 173 = .ok (.dup, 1) := by decide +kernel
theorem dX8_init_174 : decode cX8_init 174 = .ok (.bipush 18, 2) := by decide +kernel
theorem dX8_init_176 : decode cX8_init 176 = .ok (.bipush 102, 2) := by decide +kernel
theorem dX8_init_178 : decode cX8_init 178 = .ok (.iastore, 1) := by decide +kernel
theorem dX8_init_179 : decode cX8_init 179 = .ok (.dup, 1) := by decide +kernel
theorem dX8_init_180 : decode cX8_init 180 = .ok (.bipush 19, 2) := by decide +kernel
theorem dX8_init_182 : decode cX8_init 182 = .ok (.bipush 99, 2) := by decide +kernel
theorem dX8_init_184 : decode cX8_init 184 = .ok (.iastore, 1) := by decide +kernel
theorem dX8_init_185 : decode cX8_init 185 = .ok (.dup, 1) := by decide +kernel
theorem dX8_init_186 : decode cX8_init 186 = .ok (.bipush 20, 2) := by decide +kernel
theorem dX8_init_188 : decode cX8_init 188 = .ok (.bipush 114, 2) := by decide +kernel
theorem dX8_init_190 : decode cX8_init 190 = .ok (.iastore, 1) := by decide +kernel
theorem dX8_init_191 : decode cX8_init 191 = .ok (.dup, 1) := by decide +kernel
theorem dX8_init_192 : decode cX8_init 192 = .ok (.bipush 21, 2) := by decide +kernel
theorem dX8_init_194 : decode cX8_init 194 = .ok (.bipush 111, 2) := by decide +kernel
theorem dX8_init_196 : decode cX8_init 196 = .ok (.iastore, 1) := by decide +kernel
theorem dX8_init_197 : decode cX8_init 197 = .ok (.dup, 1) := by decide +kernel
theorem dX8_init_198 : decode cX8_init 198 = .ok (.bipush 22, 2) := by decide +kernel
theorem dX8_init_200 : decode cX8_init 200 = .ok (.bipush 119, 2) := by decide +kernel
theorem dX8_init_202 : decode cX8_init 202 = .ok (.iastore, 1) := by decide +kernel
theorem dX8_init_203 : decode cX8_init 203 = .ok (.dup, 1) := by decide +kernel
theorem dX8_init_204 : decode cX8_init 204 = .ok (.bipush 23, 2) := by decide +kernel
theorem dX8_init_206 : decode cX8_init 206 = .ok (.bipush 100, 2) := by decide +kernel
theorem dX8_init_208 : decode cX8_init 208 = .ok (.iastore, 1) := by decide +kernel
theorem dX8_init_209 : decode cX8_init 209 = .ok (.putfield 22, 3) := by decide +kernel
theorem dX8_init_212 : decode cX8_init 212 = .ok (.aload_n 0, 1) := by decide +kernel
theorem dX8_init_213 : decode cX8_init 213 = .ok (.bipush (-4), 2) := by decide +kernel
theorem dX8_init_215 : decode cX8_init 215 = .ok (.putfield 25, 3) := by decide +kernel
theorem dX8_init_218 : decode cX8_init 218 = .ok (.aload_n 0, 1) := by decide +kernel
theorem dX8_init_219 : decode cX8_init 219 = .ok (.iconst 4, 1) := by decide +kernel
theorem dX8_init_220 : decode cX8_init 220 = .ok (.newarray .int, 2) := by decide +kernel
theorem dX8_init_222 : decode cX8_init 222 = .ok (.putfield 29, 3) := by decide +kernel
theorem dX8_init_225 : decode cX8_init 225 = .ok (.aload_n 0, 1) := by decide +kernel
theorem dX8_init_226 : decode cX8_init 226 = .ok (.bipush 12, 2) := by decide +kernel
theorem dX8_init_228 : decode cX8_init 228 = .ok (.newarray .int, 2) := by decide +kernel
theorem dX8_init_230 : decode cX8_init 230 = .ok (.putfield 32, 3) := by decide +kernel
theorem dX8_init_233 : decode cX8_init 233 = .ok (.aload_n 0, 1) := by decide +kernel
theorem dX8_init_234 : decode cX8_init 234 = .ok (.sipush 410, 3) := by decide +kernel
theorem dX8_init_237 : decode cX8_init 237 = .ok (.newarray .int, 2) := by decide +kernel
theorem dX8_init_239 : decode cX8_init 239 = .ok (.putfield 35, 3) := by decide +kernel
theorem dX8_init_242 : decode cX8_init 242 = .ok (.aload_n 0, 1) := by decide +kernel
theorem dX8_init_243 : decode cX8_init 243 = .ok (.iconst 2, 1) := by decide +kernel
theorem dX8_init_244 : decode cX8_init 244 = .ok (.newarray .boolean, 2) := by decide +kernel
theorem dX8_init_246 : decode cX8_init 246 = .ok (.putfield 38, 3) := by decide +kernel
theorem dX8_init_249 : decode cX8_init 249 = .ok (.aload_n 0, 1) := by decide +kernel
theorem dX8_init_250 : decode cX8_init 250 = .ok (.iconst 4, 1) := by decide +kernel
theorem dX8_init_251 : decode cX8_init 251 = .ok (.newarray .int, 2) := by decide +kernel
theorem dX8_init_253 : decode cX8_init 253 = .ok (.dup, 1) := by decide +kernel
theorem dX8_init_254 : decode cX8_init 254 = .ok (.iconst 0, 1) := by decide +kernel
theorem dX8_init_255 : decode cX8_init 255 = .ok (.bipush (-4), 2) := by decide +kernel
theorem dX8_init_257 : decode cX8_init 257 = .ok (.iastore, 1) := by decide +kernel
theorem dX8_init_258 : decode cX8_init 258 = .ok (.dup, 1) := by decide +kernel
theorem dX8_init_259 : decode cX8_init 259 = .ok (.iconst 1, 1) := by decide +kernel
theorem dX8_init_260 : decode cX8_init 260 = .ok (.bipush (-4), 2) := by decide +kernel
theorem dX8_init_262 : decode cX8_init 262 = .ok (.iastore, 1) := by decide +kernel
theorem dX8_init_263 : decode cX8_init 263 = .ok (.dup, 1) := by decide +kernel
theorem dX8_init_264 : decode cX8_init 264 = .ok (.iconst 2, 1) := by decide +kernel
theorem dX8_init_265 : decode cX8_init 265 = .ok (.bipush (-4), 2) := by decide +kernel
theorem dX8_init_267 : decode cX8_init 267 = .ok (.iastore, 1) := by decide +kernel
theorem dX8_init_268 : decode cX8_init 268 = .ok (.dup, 1) := by decide +kernel
theorem dX8_init_269 : decode cX8_init 269 = .ok (.iconst 3, 1) := by decide +kernel
theorem dX8_init_270 : decode cX8_init 270 = .ok (.bipush (-4), 2) := by decide +kernel
theorem dX8_init_272 : decode cX8_init 272 = .ok (.iastore, 1) := by decide +kernel
theorem dX8_init_273 : decode cX8_init 273 = .ok (.putfield 42, 3) := by decide +kernel
theorem dX8_init_276 : decode cX8_init 276 = .ok (.aload_n 0, 1) := by decide +kernel
theorem dX8_init_277 : decode cX8_init 277 = .ok (.iconst 4, 1) := by decide +kernel
theorem dX8_init_278 : decode cX8_init 278 = .ok (.newarray .int, 2) := by decide +kernel
theorem dX8_init_280 : decode cX8_init 280 = .ok (.putfield 45, 3) := by decide +kernel
theorem dX8_init_283 : decode cX8_init 283 = .ok (.aload_n 0, 1) := by decide +kernel
theorem dX8_init_284 : decode cX8_init 284 = .ok (.sipush 160, 3) := by decide +kernel
theorem dX8_init_287 : decode cX8_init 287 = .ok (.newarray .int, 2) := by decide +kernel
theorem dX8_init_289 : decode cX8_init 289 = .ok (.putfield 48, 3) := by decide +kernel
theorem dX8_init_292 : decode cX8_init 292 = .ok (.return_, 1) := by decide +kernel
theorem dX8_in_0 : decode cX8_in 0 = .ok (.lload_n 0, 1) := by decide +kernel
theorem dX8_in_1 : decode cX8_in 1 = .ok (.lload_n 2, 1) := by decide +kernel
theorem dX8_in_2 : decode cX8_in 2 = .ok (.lcmp, 1) := by decide +kernel
theorem dX8_in_3 : decode cX8_in 3 = .ok (.ifCond .lt 14, 3) := by decide +kernel
theorem dX8_in_6 : decode cX8_in 6 = .ok (.lload_n 0, 1) := by decide +kernel
theorem dX8_in_7 : decode cX8_in 7 = .ok (.lload 4, 2) := by decide +kernel
theorem dX8_in_9 : decode cX8_in 9 = .ok (.lcmp, 1) := by decide +kernel
theorem dX8_in_10 : decode cX8_in 10 = .ok (.ifCond .gt 7, 3) := by decide +kernel
theorem dX8_in_13 : decode cX8_in 13 = .ok (.iconst 1, 1) := by decide +kernel
theorem dX8_in_14 : decode cX8_in 14 = .ok (.goto 4, 3) := by decide +kernel
theorem dX8_in_17 : decode cX8_in 17 = .ok (.iconst 0, 1) := by decide +kernel
theorem dX8_in_18 : decode cX8_in 18 = .ok (.ireturn, 1) := by decide +kernel
set_option maxRecDepth 20000 in
theorem ggX8_feed_X8_in : GoodIn wsX8_feed wsX8_in := goodIn_r _ [7] (by decide +kernel) (by decide +kernel)
set_option maxRecDepth 20000 in
theorem gX8_feed_X8_in : GoodIn wsX8_feed (va_wsS RX8 53 yX8_in wsX8_in) := goodIn_app (goodIn_of _ (by decide +kernel)) ggX8_feed_X8_in
theorem dX8_feed_0 : decode cX8_feed 0 = .ok (.iload_n 1, 1) := by decide +kernel
theorem dX8_feed_1 : decode cX8_feed 1 = .ok (.i2l, 1) := by decide +kernel
theorem dX8_feed_2 : decode cX8_feed 2 = .ok (.lconst 0, 1) := by decide +kernel
theorem dX8_feed_3 : decode cX8_feed 3 = .ok (.ldc2_w 51, 3) := by decide +kernel
theorem dX8_feed_6 : decode cX8_feed 6 = .ok (.invokestatic 53, 3) := by decide +kernel
theorem dX8_feed_9 : decode cX8_feed 9 = .ok (.ifCond .ne 5, 3) := by decide +kernel
theorem dX8_feed_12 : decode cX8_feed 12 = .ok (.iconst (-1), 1) := by decide +kernel
theorem dX8_feed_13 : decode cX8_feed 13 = .ok (.ireturn, 1) := by decide +kernel
theorem dX8_feed_14 : decode cX8_feed 14 = .ok (.aload_n 0, 1) := by decide +kernel
theorem dX8_feed_15 : decode cX8_feed 15 = .ok (.getfield 57, 3) := by decide +kernel
theorem dX8_feed_18 : decode cX8_feed 18 = .ok (.sipush 160, 3) := by decide +kernel
theorem dX8_feed_21 : decode cX8_feed 21 = .ok (.if_icmp .ne 6, 3) := by decide +kernel
theorem dX8_feed_24 : decode cX8_feed 24 = .ok (.bipush (-3), 2) := by decide +kernel
theorem dX8_feed_26 : decode cX8_feed 26 = .ok (.ireturn, 1) := by decide +kernel
theorem dX8_feed_27 : decode cX8_feed 27 = .ok (.aload_n 0, 1) := by decide +kernel
theorem dX8_feed_28 : decode cX8_feed 28 = .ok (.getfield 16, 3) := by decide +kernel
theorem dX8_feed_31 : decode cX8_feed 31 = .ok (.aload_n 0, 1) := by decide +kernel
theorem dX8_feed_32 : decode cX8_feed 32 = .ok (.getfield 57, 3) := by decide +kernel
theorem dX8_feed_35 : decode cX8_feed 35 = .ok (.iload_n 1, 1) := by decide +kernel
theorem dX8_feed_36 : decode cX8_feed 36 = .ok (.iastore, 1) := by decide +kernel
theorem dX8_feed_37 : decode cX8_feed 37 = .ok (.aload_n 0, 1) := by decide +kernel
theorem dX8_feed_38 : decode cX8_feed 38 = .ok (.dup, 1) := by decide +kernel
theorem dX8_feed_39 : decode cX8_feed 39 = .ok (.getfield 57, 3) := by decide +kernel
theorem dX8_feed_42 : decode cX8_feed 42 = .ok (.iconst 1, 1) := by decide +kernel
theorem dX8_feed_43 : decode cX8_feed 43 = .ok (.iadd, 1) := by decide +kernel
theorem dX8_feed_44 : decode cX8_feed 44 = .ok (.putfield 57, 3) := by decide +kernel
theorem dX8_feed_47 : decode cX8_feed 47 = .ok (.aload_n 0, 1) := by decide +kernel
theorem dX8_feed_48 : decode cX8_feed 48 = .ok (.getfield 57, 3) := by decide +kernel
theorem dX8_feed_51 : decode cX8_feed 51 = .ok (.ireturn, 1) := by decide +kernel
set_option maxRecDepth 20000 in
theorem ggX8_end_X8_in : GoodIn wsX8_end wsX8_in := goodIn_r _ [5] (by decide +kernel) (by decide +kernel)
set_option maxRecDepth 20000 in
theorem gX8_end_X8_in : GoodIn wsX8_end (va_wsS RX8 53 yX8_in wsX8_in) := goodIn_app (goodIn_of _ (by decide +kernel)) ggX8_end_X8_in
theorem dX8_end_0 : decode cX8_end 0 = .ok (.iload_n 1, 1) := by decide +kernel
theorem dX8_end_1 : decode cX8_end 1 = .ok (.i2l, 1) := by decide +kernel
theorem dX8_end_2 : decode cX8_end 2 = .ok (.lconst 0, 1) := by decide +kernel
theorem dX8_end_3 : decode cX8_end 3 = .ok (.aload_n 0, 1) := by decide +kernel
theorem dX8_end_4 : decode cX8_end 4 = .ok (.getfield 57, 3) := by decide +kernel
theorem dX8_end_7 : decode cX8_end 7 = .ok (.i2l, 1) := by decide +kernel
theorem dX8_end_8 : decode cX8_end 8 = .ok (.invokestatic 53, 3) := by decide +kernel
theorem dX8_end_11 : decode cX8_end 11 = .ok (.ifCond .ne 5, 3) := by decide +kernel
theorem dX8_end_14 : decode cX8_end 14 = .ok (.iconst (-1), 1) := by decide +kernel
theorem dX8_end_15 : decode cX8_end 15 = .ok (.ireturn, 1) := by decide +kernel
theorem dX8_end_16 : decode cX8_end 16 = .ok (.aload_n 0, 1) := by decide +kernel
theorem dX8_end_17 : decode cX8_end 17 = .ok (.getfield 57, 3) := by decide +kernel
theorem dX8_end_20 : decode cX8_end 20 = .ok (.istore_n 2, 1) := by decide +kernel
theorem dX8_end_21 : decode cX8_end 21 = .ok (.aload_n 0, 1) := by decide +kernel
theorem dX8_end_22 : decode cX8_end 22 = .ok (.iload_n 1, 1) := by decide +kernel
theorem dX8_end_23 : decode cX8_end 23 = .ok (.putfield 57, 3) := by decide +kernel
theorem dX8_end_26 : decode cX8_end 26 = .ok (.iload_n 2, 1) := by decide +kernel
theorem dX8_end_27 : decode cX8_end 27 = .ok (.ireturn, 1) := by decide +kernel
theorem dX8_byteAt_0 : decode cX8_byteAt 0 = .ok (.iload_n 1, 1) := by decide +kernel
theorem dX8_byteAt_1 : decode cX8_byteAt 1 = .ok (.aload_n 0, 1) := by decide +kernel
theorem dX8_byteAt_2 : decode cX8_byteAt 2 = .ok (.getfield 57, 3) := by decide +kernel
theorem dX8_byteAt_5 : decode cX8_byteAt 5 = .ok (.if_icmp .ge 12, 3) := by decide +kernel
theorem dX8_byteAt_8 : decode cX8_byteAt 8 = .ok (.aload_n 0, 1) := by decide +kernel
theorem dX8_byteAt_9 : decode cX8_byteAt 9 = .ok (.getfield 16, 3) := by decide +kernel
theorem dX8_byteAt_12 : decode cX8_byteAt 12 = .ok (.iload_n 1, 1) := by decide +kernel
theorem dX8_byteAt_13 : decode cX8_byteAt 13 = .ok (.iaload, 1) := by decide +kernel
theorem dX8_byteAt_14 : decode cX8_byteAt 14 = .ok (.goto 5, 3) := by decide +kernel
theorem dX8_byteAt_17 : decode cX8_byteAt 17 = .ok (.bipush (-4), 2) := by decide +kernel
theorem dX8_byteAt_19 : decode cX8_byteAt 19 = .ok (.ireturn, 1) := by decide +kernel
theorem dX8_fails_0 : decode cX8_fails 0 = .ok (.aload_n 0, 1) := by decide +kernel
theorem dX8_fails_1 : decode cX8_fails 1 = .ok (.getfield 60, 3) := by decide +kernel
theorem dX8_fails_4 : decode cX8_fails 4 = .ok (.ifCond .ne 16, 3) := by decide +kernel
theorem dX8_fails_7 : decode cX8_fails 7 = .ok (.aload_n 0, 1) := by decide +kernel
theorem dX8_fails_8 : decode cX8_fails 8 = .ok (.iload_n 1, 1) := by decide +kernel
theorem dX8_fails_9 : decode cX8_fails 9 = .ok (.putfield 60, 3) := by decide +kernel
theorem dX8_fails_12 : decode cX8_fails 12 = .ok (.aload_n 0, 1) := by decide +kernel
theorem dX8_fails_13 : decode cX8_fails 13 = .ok (.aload_n 0, 1) := by decide +kernel
theorem dX8_fails_14 : decode cX8_fails 14 = .ok (.getfield 63, 3) := by decide +kernel
theorem dX8_fails_17 : decode cX8_fails 17 = .ok (.putfield 66, 3) := by decide +kernel
theorem dX8_fails_20 : decode cX8_fails 20 = .ok (.return_, 1) := by decide +kernel
set_option maxRecDepth 20000 in
theorem ggX8_nameHere_X8_byteAt : GoodIn wsX8_nameHere wsX8_byteAt := goodIn_r _ [10, 11, 12, 13, 14, 15, 16, 17, 18, 19, 20, 21, 22, 23, 24, 25, 26, 27, 28, 29, 30, 31, 32, 33, 34, 35, 36, 37, 38, 39] (by decide +kernel) (by decide +kernel)
set_option maxRecDepth 20000 in
theorem gX8_nameHere_X8_byteAt : GoodIn wsX8_nameHere (wsV RX8 75 RX8 yX8_byteAt wsX8_byteAt) := goodIn_app (goodIn_of _ (by decide +kernel)) ggX8_nameHere_X8_byteAt
theorem dX8_nameHere_0 : decode cX8_nameHere 0 = .ok (.iconst 0, 1) := by decide +kernel
theorem dX8_nameHere_1 : decode cX8_nameHere 1 = .ok (.istore_n 1, 1) := by decide +kernel
theorem dX8_nameHere_2 : decode cX8_nameHere 2 = .ok (.iload_n 1, 1) := by decide +kernel
theorem dX8_nameHere_3 : decode cX8_nameHere 3 = .ok (.iconst 5, 1) := by decide +kernel
theorem dX8_nameHere_4 : decode cX8_nameHere 4 = .ok (.if_icmp .ge 113, 3) := by decide +kernel
theorem dX8_nameHere_7 : decode cX8_nameHere 7 = .ok (.aload_n 0, 1) := by decide +kernel
theorem dX8_nameHere_8 : decode cX8_nameHere 8 = .ok (.getfield 69, 3) := by decide +kernel
theorem dX8_nameHere_11 : decode cX8_nameHere 11 = .ok (.iconst 1, 1) := by decide +kernel
theorem dX8_nameHere_12 : decode cX8_nameHere 12 = .ok (.if_icmp .ne 105, 3) := by decide +kernel
theorem dX8_nameHere_15 : decode cX8_nameHere 15 = .ok (.aload_n 0, 1) := by decide +kernel
theorem dX8_nameHere_16 : decode cX8_nameHere 16 = .ok (.getfield 72, 3) := by decide +kernel
theorem dX8_nameHere_19 : decode cX8_nameHere 19 = .ok (.aload_n 0, 1) := by decide +kernel
theorem dX8_nameHere_20 : decode cX8_nameHere 20 = .ok (.getfield 63, 3) := by decide +kernel
theorem dX8_nameHere_23 : decode cX8_nameHere 23 = .ok (.isub, 1) := by decide +kernel
theorem dX8_nameHere_24 : decode cX8_nameHere 24 = .ok (.aload_n 0, 1) := by decide +kernel
theorem dX8_nameHere_25 : decode cX8_nameHere 25 = .ok (.getfield 19, 3) := by decide +kernel
theorem dX8_nameHere_28 : decode cX8_nameHere 28 = .ok (.iload_n 1, 1) := by decide +kernel
theorem dX8_nameHere_29 : decode cX8_nameHere 29 = .ok (.iconst 1, 1) := by decide +kernel
theorem dX8_nameHere_30 : decode cX8_nameHere 30 = .ok (.iadd, 1) := by decide +kernel
theorem dX8_nameHere_31 : decode cX8_nameHere 31 = .ok (.iaload, 1) := by decide +kernel
theorem dX8_nameHere_32 : decode cX8_nameHere 32 = .ok (.aload_n 0, 1) := by decide +kernel
theorem dX8_nameHere_33 : decode cX8_nameHere 33 = .ok (.getfield 19, 3) := by decide +kernel
theorem dX8_nameHere_36 : decode cX8_nameHere 36 = .ok (.iload_n 1, 1) := by decide +kernel
theorem dX8_nameHere_37 : decode cX8_nameHere 37 = .ok (.iaload, 1) := by decide +kernel
theorem dX8_nameHere_38 : decode cX8_nameHere 38 = .ok (.isub, 1) := by decide +kernel
theorem dX8_nameHere_39 : decode cX8_nameHere 39 = .ok (.if_icmp .ne 7, 3) := by decide +kernel
theorem dX8_nameHere_42 : decode cX8_nameHere 42 = .ok (.iconst 1, 1) := by decide +kernel
theorem dX8_nameHere_43 : decode cX8_nameHere 43 = .ok (.goto 4, 3) := by decide +kernel
theorem dX8_nameHere_46 : decode cX8_nameHere 46 = .ok (.iconst 0, 1) := by decide +kernel
theorem dX8_nameHere_47 : decode cX8_nameHere 47 = .ok (.istore_n 2, 1) := by decide +kernel
theorem dX8_nameHere_48 : decode cX8_nameHere 48 = .ok (.iconst 0, 1) := by decide +kernel
theorem dX8_nameHere_49 : decode cX8_nameHere 49 = .ok (.istore_n 3, 1) := by decide +kernel
theorem dX8_nameHere_50 : decode cX8_nameHere 50 = .ok (.iload_n 2, 1) := by decide +kernel
theorem dX8_nameHere_51 : decode cX8_nameHere 51 = .ok (.ifCond .eq 54, 3) := by decide +kernel
theorem dX8_nameHere_54 : decode cX8_nameHere 54 = .ok (.iload_n 3, 1) := by decide +kernel
theorem dX8_nameHere_55 : decode cX8_nameHere 55 = .ok (.aload_n 0, 1) := by decide +kernel
theorem dX8_nameHere_56 : decode cX8_nameHere 56 = .ok (.getfield 72, 3) := by decide +kernel
theorem dX8_nameHere_59 : decode cX8_nameHere 59 = .ok (.aload_n 0, 1) := by decide +kernel
theorem dX8_nameHere_60 : decode cX8_nameHere 60 = .ok (.getfield 63, 3) := by decide +kernel
theorem dX8_nameHere_63 : decode cX8_nameHere 63 = .ok (.isub, 1) := by decide +kernel
theorem dX8_nameHere_64 : decode cX8_nameHere 64 = .ok (.if_icmp .ge 41, 3) := by decide +kernel
theorem dX8_nameHere_67 : decode cX8_nameHere 67 = .ok (.aload_n 0, 1) := by decide +kernel
theorem dX8_nameHere_68 : decode cX8_nameHere 68 = .ok (.aload_n 0, 1) := by decide +kernel
theorem dX8_nameHere_69 : decode cX8_nameHere 69 = .ok (.getfield 63, 3) := by decide +kernel
theorem dX8_nameHere_72 : decode cX8_nameHere 72 = .ok (.iload_n 3, 1) := by decide +kernel
theorem dX8_nameHere_73 : decode cX8_nameHere 73 = .ok (.iadd, 1) := by decide +kernel
theorem dX8_nameHere_74 : decode cX8_nameHere 74 = .ok (.invokevirtual 75, 3) := by decide +kernel
theorem dX8_nameHere_77 : decode cX8_nameHere 77 = .ok (.aload_n 0, 1) := by decide +kernel
theorem dX8_nameHere_78 : decode cX8_nameHere 78 = .ok (.getfield 22, 3) := by decide +kernel
theorem dX8_nameHere_81 : decode cX8_nameHere 81 = .ok (.aload_n 0, 1) := by decide +kernel
theorem dX8_nameHere_82 : decode cX8_nameHere 82 = .ok (.getfield 19, 3) := by decide +kernel
theorem dX8_nameHere_85 : decode cX8_nameHere 85 = .ok (.iload_n 1, 1) := by decide +kernel
theorem dX8_nameHere_86 : decode cX8_nameHere 86 = .ok (.iaload, 1) := by decide +kernel
theorem dX8_nameHere_87 : decode cX8_nameHere 87 = .ok (.iload_n 3, 1) := by decide +kernel
theorem dX8_nameHere_88 : decode cX8_nameHere 88 = .ok (.iadd, 1) := by decide +kernel
theorem dX8_nameHere_89 : decode cX8_nameHere 89 = .ok (.iaload, 1) := by decide +kernel
theorem dX8_nameHere_90 : decode cX8_nameHere 90 = .ok (.if_icmp .ne 7, 3) := by decide +kernel
theorem dX8_nameHere_93 : decode cX8_nameHere 93 = .ok (.iconst 1, 1) := by decide +kernel
theorem dX8_nameHere_94 : decode cX8_nameHere 94 = .ok (.goto 4, 3) := by decide +kernel
theorem dX8_nameHere_97 : decode cX8_nameHere 97 = .ok (.iconst 0, 1) := by decide +kernel
theorem dX8_nameHere_98 : decode cX8_nameHere 98 = .ok (.istore_n 2, 1) := by decide +kernel
theorem dX8_nameHere_99 : decode cX8_nameHere 99 = .ok (.iinc 3 1, 3) := by decide +kernel
theorem dX8_nameHere_102 : decode cX8_nameHere 102 = .ok (.goto (-52), 3) := by decide +kernel
theorem dX8_nameHere_105 : decode cX8_nameHere 105 = .ok (.iload_n 2, 1) := by decide +kernel
theorem dX8_nameHere_106 : decode cX8_nameHere 106 = .ok (.ifCond .eq 5, 3) := by decide +kernel
theorem dX8_nameHere_109 : decode cX8_nameHere 109 = .ok (.iload_n 1, 1) := by decide +kernel
theorem dX8_nameHere_110 : decode cX8_nameHere 110 = .ok (.ireturn, 1) := by decide +kernel
theorem dX8_nameHere_111 : decode cX8_nameHere 111 = .ok (.iinc 1 1, 3) := by decide +kernel
theorem dX8_nameHere_114 : decode cX8_nameHere 114 = .ok (.goto (-112), 3) := by decide +kernel
theorem dX8_nameHere_117 : decode cX8_nameHere 117 = .ok (.bipush (-4), 2) := by decide +kernel
theorem dX8_nameHere_119 : decode cX8_nameHere 119 = .ok (.ireturn, 1) := by decide +kernel
set_option maxRecDepth 20000 in
theorem ggX8_step_X8_byteAt : GoodIn wsX8_step wsX8_byteAt := goodIn_r _ [14, 15, 16, 25, 26, 27, 28, 29, 30, 31, 32, 33, 34, 35, 36, 37, 38, 39, 40, 41, 42, 43, 44, 45, 46, 47, 48, 49, 50, 51] (by decide +kernel) (by decide +kernel)
set_option maxRecDepth 20000 in
theorem gX8_step_X8_byteAt : GoodIn wsX8_step (wsV RX8 75 RX8 yX8_byteAt wsX8_byteAt) := goodIn_app (goodIn_of _ (by decide +kernel)) ggX8_step_X8_byteAt
set_option maxRecDepth 20000 in
theorem ggX8_step_X8_in : GoodIn wsX8_step wsX8_in := goodIn_r _ [19] (by decide +kernel) (by decide +kernel)
set_option maxRecDepth 20000 in
theorem gX8_step_X8_in : GoodIn wsX8_step (va_wsS RX8 53 yX8_in wsX8_in) := goodIn_app (goodIn_of _ (by decide +kernel)) ggX8_step_X8_in
set_option maxRecDepth 20000 in
theorem ggX8_step_X8_fails : GoodIn wsX8_step wsX8_fails := goodIn_r _ [23, 1, 3, 24, 25, 26, 27, 28, 29, 30, 31, 32, 33, 34, 35, 36, 37, 38, 39, 40, 41, 42, 43, 44, 45, 46, 47, 48, 49, 50, 51] (by decide +kernel) (by decide +kernel)
set_option maxRecDepth 20000 in
theorem gX8_step_X8_fails : GoodIn wsX8_step (wsV RX8 90 RX8 yX8_fails wsX8_fails) := goodIn_app (goodIn_of _ (by decide +kernel)) ggX8_step_X8_fails
theorem dX8_step_0 : decode cX8_step 0 = .ok (.aload_n 0, 1) := by decide +kernel
theorem dX8_step_1 : decode cX8_step 1 = .ok (.getfield 60, 3) := by decide +kernel
theorem dX8_step_4 : decode cX8_step 4 = .ok (.ifCond .le 4, 3) := by decide +kernel
theorem dX8_step_7 : decode cX8_step 7 = .ok (.return_, 1) := by decide +kernel
theorem dX8_step_8 : decode cX8_step 8 = .ok (.aload_n 0, 1) := by decide +kernel
theorem dX8_step_9 : decode cX8_step 9 = .ok (.aload_n 0, 1) := by decide +kernel
theorem dX8_step_10 : decode cX8_step 10 = .ok (.getfield 72, 3) := by decide +kernel
theorem dX8_step_13 : decode cX8_step 13 = .ok (.invokevirtual 75, 3) := by decide +kernel
theorem dX8_step_16 : decode cX8_step 16 = .ok (.bipush 32, 2) := by decide +kernel
theorem dX8_step_18 : decode cX8_step 18 = .ok (.if_icmp .ne 16, 3) := by decide +kernel
theorem dX8_step_21 : decode cX8_step 21 = .ok (.aload_n 0, 1) := by decide +kernel
theorem dX8_step_22 : decode cX8_step 22 = .ok (.dup, 1) := by decide +kernel
theorem dX8_step_23 : decode cX8_step 23 = .ok (.getfield 72, 3) := by decide +kernel
theorem dX8_step_26 : decode cX8_step 26 = .ok (.iconst 1, 1) := by decide +kernel
theorem dX8_step_27 : decode cX8_step 27 = .ok (.iadd, 1) := by decide +kernel
theorem dX8_step_28 : decode cX8_step 28 = .ok (.putfield 72, 3) := by decide +kernel
theorem dX8_step_31 : decode cX8_step 31 = .ok (.goto (-23), 3) := by decide +kernel
theorem dX8_step_34 : decode cX8_step 34 = .ok (.aload_n 0, 1) := by decide +kernel
theorem dX8_step_35 : decode cX8_step 35 = .ok (.aload_n 0, 1) := by decide +kernel
theorem dX8_step_36 : decode cX8_step 36 = .ok (.getfield 72, 3) := by decide +kernel
theorem dX8_step_39 : decode cX8_step 39 = .ok (.putfield 63, 3) := by decide +kernel
theorem dX8_step_42 : decode cX8_step 42 = .ok (.aload_n 0, 1) := by decide +kernel
theorem dX8_step_43 : decode cX8_step 43 = .ok (.aload_n 0, 1) := by decide +kernel
theorem dX8_step_44 : decode cX8_step 44 = .ok (.getfield 72, 3) := by decide +kernel
theorem dX8_step_47 : decode cX8_step 47 = .ok (.invokevirtual 75, 3) := by decide +kernel
theorem dX8_step_50 : decode cX8_step 50 = .ok (.istore_n 1, 1) := by decide +kernel
theorem dX8_step_51 : decode cX8_step 51 = .ok (.aload_n 0, 1) := by decide +kernel
theorem dX8_step_52 : decode cX8_step 52 = .ok (.iconst 0, 1) := by decide +kernel
theorem dX8_step_53 : decode cX8_step 53 = .ok (.putfield 79, 3) := by decide +kernel
theorem dX8_step_56 : decode cX8_step 56 = .ok (.iload_n 1, 1) := by decide +kernel
theorem dX8_step_57 : decode cX8_step 57 = .ok (.bipush (-4), 2) := by decide +kernel
theorem dX8_step_59 : decode cX8_step 59 = .ok (.if_icmp .ne 11, 3) := by decide +kernel
theorem dX8_step_62 : decode cX8_step 62 = .ok (.aload_n 0, 1) := by decide +kernel
theorem dX8_step_63 : decode cX8_step 63 = .ok (.iconst 0, 1) := by decide +kernel
theorem dX8_step_64 : decode cX8_step 64 = .ok (.putfield 69, 3) := by decide +kernel
theorem dX8_step_67 : decode cX8_step 67 = .ok (.goto 202, 3) := by decide +kernel
theorem dX8_step_70 : decode cX8_step 70 = .ok (.iload_n 1, 1) := by decide +kernel
theorem dX8_step_71 : decode cX8_step 71 = .ok (.i2l, 1) := by decide +kernel
theorem dX8_step_72 : decode cX8_step 72 = .ok (.ldc2_w 82, 3) := by decide +kernel
theorem dX8_step_75 : decode cX8_step 75 = .ok (.ldc2_w 84, 3) := by decide +kernel
theorem dX8_step_78 : decode cX8_step 78 = .ok (.invokestatic 53, 3) := by decide +kernel
theorem dX8_step_81 : decode cX8_step 81 = .ok (.ifCond .eq 45, 3) := by decide +kernel
theorem dX8_step_84 : decode cX8_step 84 = .ok (.aload_n 0, 1) := by decide +kernel
theorem dX8_step_85 : decode cX8_step 85 = .ok (.aload_n 0, 1) := by decide +kernel
theorem dX8_step_86 : decode cX8_step 86 = .ok (.getfield 72, 3) := by decide +kernel
theorem dX8_step_89 : decode cX8_step 89 = .ok (.invokevirtual 75, 3) := by decide +kernel
theorem dX8_step_92 : decode cX8_step 92 = .ok (.i2l, 1) := by decide +kernel
theorem dX8_step_93 : decode cX8_step 93 = .ok (.ldc2_w 82, 3) := by decide +kernel
theorem dX8_step_96 : decode cX8_step 96 = .ok (.ldc2_w 84, 3) := by decide +kernel
theorem dX8_step_99 : decode cX8_step 99 = .ok (.invokestatic 53, 3) := by decide +kernel
theorem dX8_step_102 : decode cX8_step 102 = .ok (.ifCond .eq 16, 3) := by decide +kernel
theorem dX8_step_105 : decode cX8_step 105 = .ok (.aload_n 0, 1) := by decide +kernel
theorem dX8_step_106 : decode cX8_step 106 = .ok (.dup, 1) := by decide +kernel
theorem dX8_step_107 : decode cX8_step 107 = .ok (.getfield 72, 3) := by decide +kernel
theorem dX8_step_110 : decode cX8_step 110 = .ok (.iconst 1, 1) := by decide +kernel
theorem dX8_step_111 : decode cX8_step 111 = .ok (.iadd, 1) := by decide +kernel
theorem dX8_step_112 : decode cX8_step 112 = .ok (.putfield 72, 3) := by decide +kernel
theorem dX8_step_115 : decode cX8_step 115 = .ok (.goto (-31), 3) := by decide +kernel
theorem dX8_step_118 : decode cX8_step 118 = .ok (.aload_n 0, 1) := by decide +kernel
theorem dX8_step_119 : decode cX8_step 119 = .ok (.iconst 1, 1) := by decide +kernel
theorem dX8_step_120 : decode cX8_step 120 = .ok (.putfield 69, 3) := by decide +kernel
theorem dX8_step_123 : decode cX8_step 123 = .ok (.goto 146, 3) := by decide +kernel
theorem dX8_step_126 : decode cX8_step 126 = .ok (.iload_n 1, 1) := by decide +kernel
theorem dX8_step_127 : decode cX8_step 127 = .ok (.i2l, 1) := by decide +kernel
theorem dX8_step_128 : decode cX8_step 128 = .ok (.ldc2_w 86, 3) := by decide +kernel
theorem dX8_step_131 : decode cX8_step 131 = .ok (.ldc2_w 88, 3) := by decide +kernel
theorem dX8_step_134 : decode cX8_step 134 = .ok (.invokestatic 53, 3) := by decide +kernel
theorem dX8_step_137 : decode cX8_step 137 = .ok (.ifCond .eq 106, 3) := by decide +kernel
theorem dX8_step_140 : decode cX8_step 140 = .ok (.aload_n 0, 1) := by decide +kernel
theorem dX8_step_141 : decode cX8_step 141 = .ok (.aload_n 0, 1) := by decide +kernel
theorem dX8_step_142 : decode cX8_step 142 = .ok (.getfield 72, 3) := by decide +kernel
theorem dX8_step_145 : decode cX8_step 145 = .ok (.invokevirtual 75, 3) := by decide +kernel
theorem dX8_step_148 : decode cX8_step 148 = .ok (.i2l, 1) := by decide +kernel
theorem dX8_step_149 : decode cX8_step 149 = .ok (.ldc2_w 86, 3) := by decide +kernel
theorem dX8_step_152 : decode cX8_step 152 = .ok (.ldc2_w 88, 3) := by decide +kernel
theorem dX8_step_155 : decode cX8_step 155 = .ok (.invokestatic 53, 3) := by decide +kernel
theorem dX8_step_158 : decode cX8_step 158 = .ok (.ifCond .eq 59, 3) := by decide +kernel
theorem dX8_step_161 : decode cX8_step 161 = .ok (.aload_n 0, 1) := by decide +kernel
theorem dX8_step_162 : decode cX8_step 162 = .ok (.aload_n 0, 1) := by decide +kernel
theorem dX8_step_163 : decode cX8_step 163 = .ok (.getfield 72, 3) := by decide +kernel
theorem dX8_step_166 : decode cX8_step 166 = .ok (.aload_n 0, 1) := by decide +kernel
theorem dX8_step_167 : decode cX8_step 167 = .ok (.getfield 63, 3) := by decide +kernel
theorem dX8_step_170 : decode cX8_step 170 = .ok (.isub, 1) := by decide +kernel
theorem dX8_step_171 : decode cX8_step 171 = .ok (.iconst 2, 1) := by decide +kernel
theorem dX8_step_172 : decode cX8_step 172 = .ok (.if_icmp .ge 25, 3) := by decide +kernel
theorem dX8_step_175 : decode cX8_step 175 = .ok (.bipush 10, 2) := by decide +kernel
theorem dX8_step_177 : decode cX8_step 177 = .ok (.aload_n 0, 1) := by decide +kernel
theorem dX8_step_178 : decode cX8_step 178 = .ok (.getfield 79, 3) := by decide +kernel
theorem dX8_step_181 : decode cX8_step 181 = .ok (.imul, 1) := by decide +kernel
theorem dX8_step_182 : decode cX8_step 182 = .ok (.aload_n 0, 1) := by decide +kernel
theorem dX8_step_183 : decode cX8_step 183 = .ok (.aload_n 0, 1) := by decide +kernel
theorem dX8_step_184 : decode cX8_step 184 = .ok (.getfield 72, 3) := by decide +kernel
theorem dX8_step_187 : decode cX8_step 187 = .ok (.invokevirtual 75, 3) := by decide +kernel
theorem dX8_step_190 : decode cX8_step 190 = .ok (.iadd, 1) := by decide +kernel
theorem dX8_step_191 : decode cX8_step 191 = .ok (.bipush 48, 2) := by decide +kernel
theorem dX8_step_193 : decode cX8_step 193 = .ok (.isub, 1) := by decide +kernel
theorem dX8_step_194 : decode cX8_step 194 = .ok (.goto 7, 3) := by decide +kernel
theorem dX8_step_197 : decode cX8_step 197 = .ok (.aload_n 0, 1) := by decide +kernel
theorem dX8_step_198 : decode cX8_step 198 = .ok (.getfield 79, 3) := by decide +kernel
theorem dX8_step_201 : decode cX8_step 201 = .ok (.putfield 79, 3) := by decide +kernel
theorem dX8_step_204 : decode cX8_step 204 = .ok (.aload_n 0, 1) := by decide +kernel
theorem dX8_step_205 : decode cX8_step 205 = .ok (.dup, 1) := by decide +kernel
theorem dX8_step_206 : decode cX8_step 206 = .ok (.getfield 72, 3) := by decide +kernel
theorem dX8_step_209 : decode cX8_step 209 = .ok (.iconst 1, 1) := by decide +kernel
theorem dX8_step_210 : decode cX8_step 210 = .ok (.iadd, 1) := by decide +kernel
theorem dX8_step_211 : decode cX8_step 211 = .ok (.putfield 72, 3) := by decide +kernel
theorem dX8_step_214 : decode cX8_step 214 = .ok (.goto (-74), 3) := by decide +kernel
theorem dX8_step_217 : decode cX8_step 217 = .ok (.aload_n 0, 1) := by decide +kernel
theorem dX8_step_218 : decode cX8_step 218 = .ok (.iconst 2, 1) := by decide +kernel
theorem dX8_step_219 : decode cX8_step 219 = .ok (.putfield 69, 3) := by decide +kernel
theorem dX8_step_222 : decode cX8_step 222 = .ok (.aload_n 0, 1) := by decide +kernel
theorem dX8_step_223 : decode cX8_step 223 = .ok (.getfield 72, 3) := by decide +kernel
theorem dX8_step_226 : decode cX8_step 226 = .ok (.aload_n 0, 1) := by decide +kernel
theorem dX8_step_227 : decode cX8_step 227 = .ok (.getfield 63, 3) := by decide +kernel
theorem dX8_step_230 : decode cX8_step 230 = .ok (.isub, 1) := by decide +kernel
theorem dX8_step_231 : decode cX8_step 231 = .ok (.iconst 2, 1) := by decide +kernel
theorem dX8_step_232 : decode cX8_step 232 = .ok (.if_icmp .le 37, 3) := by decide +kernel
theorem dX8_step_235 : decode cX8_step 235 = .ok (.aload_n 0, 1) := by decide +kernel
theorem dX8_step_236 : decode cX8_step 236 = .ok (.iconst 1, 1) := by decide +kernel
theorem dX8_step_237 : decode cX8_step 237 = .ok (.invokevirtual 90, 3) := by decide +kernel
theorem dX8_step_240 : decode cX8_step 240 = .ok (.goto 29, 3) := by decide +kernel
theorem dX8_step_243 : decode cX8_step 243 = .ok (.aload_n 0, 1) := by decide +kernel
theorem dX8_step_244 : decode cX8_step 244 = .ok (.iconst 3, 1) := by decide +kernel
theorem dX8_step_245 : decode cX8_step 245 = .ok (.putfield 69, 3) := by decide +kernel
theorem dX8_step_248 : decode cX8_step 248 = .ok (.aload_n 0, 1) := by decide +kernel
theorem dX8_step_249 : decode cX8_step 249 = .ok (.dup, 1) := by decide +kernel
theorem dX8_step_250 : decode cX8_step 250 = .ok (.getfield 72, 3) := by decide +kernel
theorem dX8_step_253 : decode cX8_step 253 = .ok (.iconst 1, 1) := by decide +kernel
theorem dX8_step_254 : decode cX8_step 254 = .ok (.iadd, 1) := by decide +kernel
theorem dX8_step_255 : decode cX8_step 255 = .ok (.putfield 72, 3) := by decide +kernel
theorem dX8_step_258 : decode cX8_step 258 = .ok (.iload_n 1, 1) := by decide +kernel
theorem dX8_step_259 : decode cX8_step 259 = .ok (.bipush 59, 2) := by decide +kernel
theorem dX8_step_261 : decode cX8_step 261 = .ok (.if_icmp .eq 8, 3) := by decide +kernel
theorem dX8_step_264 : decode cX8_step 264 = .ok (.aload_n 0, 1) := by decide +kernel
theorem dX8_step_265 : decode cX8_step 265 = .ok (.iconst 1, 1) := by decide +kernel
theorem dX8_step_266 : decode cX8_step 266 = .ok (.invokevirtual 90, 3) := by decide +kernel
theorem dX8_step_269 : decode cX8_step 269 = .ok (.return_, 1) := by decide +kernel
set_option maxRecDepth 20000 in
theorem ggX8_number_X8_fails : GoodIn wsX8_number wsX8_fails := goodIn_r _ [8, 1, 9, 10, 29, 30, 31, 32, 33, 34, 35, 36, 37, 38, 39, 40, 41, 42, 43, 44, 45, 46, 47, 48, 49, 50, 51, 52, 53, 54, 55] (by decide +kernel) (by decide +kernel)
set_option maxRecDepth 20000 in
theorem gX8_number_X8_fails : GoodIn wsX8_number (wsV RX8 90 RX8 yX8_fails wsX8_fails) := goodIn_app (goodIn_of _ (by decide +kernel)) ggX8_number_X8_fails
set_option maxRecDepth 20000 in
theorem ggX8_number_X8_in : GoodIn wsX8_number wsX8_in := goodIn_r _ [13] (by decide +kernel) (by decide +kernel)
set_option maxRecDepth 20000 in
theorem gX8_number_X8_in : GoodIn wsX8_number (va_wsS RX8 53 yX8_in wsX8_in) := goodIn_app (goodIn_of _ (by decide +kernel)) ggX8_number_X8_in
set_option maxRecDepth 20000 in
theorem ggX8_number_X8_step : GoodIn wsX8_number wsX8_step := goodIn_r _ [17, 1, 18, 9, 3, 2, 19, 20, 21, 22, 23, 24, 25, 7, 26, 27, 28, 11, 12, 13, 4, 5, 6, 8, 10, 29, 30, 31, 32, 33, 34, 35, 36, 37, 38, 39, 40, 41, 42, 43, 44, 45, 46, 47, 48, 49, 50, 51, 52, 53, 54, 55] (by decide +kernel) (by decide +kernel)
set_option maxRecDepth 20000 in
theorem gX8_number_X8_step : GoodIn wsX8_number (wsV RX8 94 RX8 yX8_step wsX8_step) := goodIn_app (goodIn_of _ (by decide +kernel)) ggX8_number_X8_step
theorem dX8_number_0 : decode cX8_number 0 = .ok (.aload_n 0, 1) := by decide +kernel
theorem dX8_number_1 : decode cX8_number 1 = .ok (.getfield 60, 3) := by decide +kernel
theorem dX8_number_4 : decode cX8_number 4 = .ok (.ifCond .ne 16, 3) := by decide +kernel
theorem dX8_number_7 : decode cX8_number 7 = .ok (.aload_n 0, 1) := by decide +kernel
theorem dX8_number_8 : decode cX8_number 8 = .ok (.getfield 69, 3) := by decide +kernel
theorem dX8_number_11 : decode cX8_number 11 = .ok (.iconst 2, 1) := by decide +kernel
theorem dX8_number_12 : decode cX8_number 12 = .ok (.if_icmp .eq 8, 3) := by decide +kernel
theorem dX8_number_15 : decode cX8_number 15 = .ok (.aload_n 0, 1) := by decide +kernel
theorem dX8_number_16 : decode cX8_number 16 = .ok (.iconst 2, 1) := by decide +kernel
theorem dX8_number_17 : decode cX8_number 17 = .ok (.invokevirtual 90, 3) := by decide +kernel
theorem dX8_number_20 : decode cX8_number 20 = .ok (.aload_n 0, 1) := by decide +kernel
theorem dX8_number_21 : decode cX8_number 21 = .ok (.getfield 60, 3) := by decide +kernel
theorem dX8_number_24 : decode cX8_number 24 = .ok (.ifCond .ne 23, 3) := by decide +kernel
theorem dX8_number_27 : decode cX8_number 27 = .ok (.aload_n 0, 1) := by decide +kernel
theorem dX8_number_28 : decode cX8_number 28 = .ok (.getfield 79, 3) := by decide +kernel
theorem dX8_number_31 : decode cX8_number 31 = .ok (.i2l, 1) := by decide +kernel
theorem dX8_number_32 : decode cX8_number 32 = .ok (.iload_n 1, 1) := by decide +kernel
theorem dX8_number_33 : decode cX8_number 33 = .ok (.i2l, 1) := by decide +kernel
theorem dX8_number_34 : decode cX8_number 34 = .ok (.iload_n 2, 1) := by decide +kernel
theorem dX8_number_35 : decode cX8_number 35 = .ok (.i2l, 1) := by decide +kernel
theorem dX8_number_36 : decode cX8_number 36 = .ok (.invokestatic 53, 3) := by decide +kernel
theorem dX8_number_39 : decode cX8_number 39 = .ok (.ifCond .ne 8, 3) := by decide +kernel
theorem dX8_number_42 : decode cX8_number 42 = .ok (.aload_n 0, 1) := by decide +kernel
theorem dX8_number_43 : decode cX8_number 43 = .ok (.iconst 3, 1) := by decide +kernel
theorem dX8_number_44 : decode cX8_number 44 = .ok (.invokevirtual 90, 3) := by decide +kernel
theorem dX8_number_47 : decode cX8_number 47 = .ok (.aload_n 0, 1) := by decide +kernel
theorem dX8_number_48 : decode cX8_number 48 = .ok (.getfield 60, 3) := by decide +kernel
theorem dX8_number_51 : decode cX8_number 51 = .ok (.ifCond .ne 10, 3) := by decide +kernel
theorem dX8_number_54 : decode cX8_number 54 = .ok (.aload_n 0, 1) := by decide +kernel
theorem dX8_number_55 : decode cX8_number 55 = .ok (.getfield 79, 3) := by decide +kernel
theorem dX8_number_58 : decode cX8_number 58 = .ok (.goto 4, 3) := by decide +kernel
theorem dX8_number_61 : decode cX8_number 61 = .ok (.iload_n 1, 1) := by decide +kernel
theorem dX8_number_62 : decode cX8_number 62 = .ok (.istore_n 3, 1) := by decide +kernel
theorem dX8_number_63 : decode cX8_number 63 = .ok (.aload_n 0, 1) := by decide +kernel
theorem dX8_number_64 : decode cX8_number 64 = .ok (.invokevirtual 94, 3) := by decide +kernel
theorem dX8_number_67 : decode cX8_number 67 = .ok (.iload_n 3, 1) := by decide +kernel
theorem dX8_number_68 : decode cX8_number 68 = .ok (.ireturn, 1) := by decide +kernel
set_option maxRecDepth 20000 in
theorem ggX8_readMore_X8_number : GoodIn wsX8_readMore wsX8_number := goodIn_r _ [6, 7, 8, 9, 10, 11, 12, 5, 13, 14, 15, 16, 17, 18, 19, 20, 21, 22, 23, 24, 25, 26, 27, 28, 29, 30, 31, 32, 33, 34, 35, 36, 37, 38, 39, 40, 41, 42, 43, 44, 45, 46, 47, 48, 49, 50, 51, 52, 53, 54, 55, 56, 57, 58, 59, 60] (by decide +kernel) (by decide +kernel)
set_option maxRecDepth 20000 in
theorem gX8_readMore_X8_number : GoodIn wsX8_readMore (wsV RX8 97 RX8 yX8_number wsX8_number) := goodIn_app (goodIn_of _ (by decide +kernel)) ggX8_readMore_X8_number
theorem dX8_readMore_0 : decode cX8_readMore 0 = .ok (.iload_n 1, 1) := by decide +kernel
theorem dX8_readMore_1 : decode cX8_readMore 1 = .ok (.iconst 3, 1) := by decide +kernel
theorem dX8_readMore_2 : decode cX8_readMore 2 = .ok (.if_icmp .gt 86, 3) := by decide +kernel
theorem dX8_readMore_5 : decode cX8_readMore 5 = .ok (.aload_n 0, 1) := by decide +kernel
theorem dX8_readMore_6 : decode cX8_readMore 6 = .ok (.getfield 13, 3) := by decide +kernel
theorem dX8_readMore_9 : decode cX8_readMore 9 = .ok (.bipush 16, 2) := by decide +kernel
theorem dX8_readMore_11 : decode cX8_readMore 11 = .ok (.iaload, 1) := by decide +kernel
theorem dX8_readMore_12 : decode cX8_readMore 12 = .ok (.istore_n 2, 1) := by decide +kernel
theorem dX8_readMore_13 : decode cX8_readMore 13 = .ok (.aload_n 0, 1) := by decide +kernel
theorem dX8_readMore_14 : decode cX8_readMore 14 = .ok (.getfield 13, 3) := by decide +kernel
theorem dX8_readMore_17 : decode cX8_readMore 17 = .ok (.iload_n 2, 1) := by decide +kernel
theorem dX8_readMore_18 : decode cX8_readMore 18 = .ok (.iload_n 1, 1) := by decide +kernel
theorem dX8_readMore_19 : decode cX8_readMore 19 = .ok (.iastore, 1) := by decide +kernel
theorem dX8_readMore_20 : decode cX8_readMore 20 = .ok (.aload_n 0, 1) := by decide +kernel
theorem dX8_readMore_21 : decode cX8_readMore 21 = .ok (.getfield 13, 3) := by decide +kernel
theorem dX8_readMore_24 : decode cX8_readMore 24 = .ok (.iconst 4, 1) := by decide +kernel
theorem dX8_readMore_25 : decode cX8_readMore 25 = .ok (.iload_n 2, 1) := by decide +kernel
theorem dX8_readMore_26 : decode cX8_readMore 26 = .ok (.iadd, 1) := by decide +kernel
theorem dX8_readMore_27 : decode cX8_readMore 27 = .ok (.aload_n 0, 1) := by decide +kernel
theorem dX8_readMore_28 : decode cX8_readMore 28 = .ok (.iconst 1, 1) := by decide +kernel
theorem dX8_readMore_29 : decode cX8_readMore 29 = .ok (.bipush 9, 2) := by decide +kernel
theorem dX8_readMore_31 : decode cX8_readMore 31 = .ok (.invokevirtual 97, 3) := by decide +kernel
theorem dX8_readMore_34 : decode cX8_readMore 34 = .ok (.iastore, 1) := by decide +kernel
theorem dX8_readMore_35 : decode cX8_readMore 35 = .ok (.aload_n 0, 1) := by decide +kernel
theorem dX8_readMore_36 : decode cX8_readMore 36 = .ok (.getfield 13, 3) := by decide +kernel
theorem dX8_readMore_39 : decode cX8_readMore 39 = .ok (.bipush 8, 2) := by decide +kernel
theorem dX8_readMore_41 : decode cX8_readMore 41 = .ok (.iload_n 2, 1) := by decide +kernel
theorem dX8_readMore_42 : decode cX8_readMore 42 = .ok (.iadd, 1) := by decide +kernel
theorem dX8_readMore_43 : decode cX8_readMore 43 = .ok (.aload_n 0, 1) := by decide +kernel
theorem dX8_readMore_44 : decode cX8_readMore 44 = .ok (.iconst 0, 1) := by decide +kernel
theorem dX8_readMore_45 : decode cX8_readMore 45 = .ok (.bipush 9, 2) := by decide +kernel
theorem dX8_readMore_47 : decode cX8_readMore 47 = .ok (.invokevirtual 97, 3) := by decide +kernel
theorem dX8_readMore_50 : decode cX8_readMore 50 = .ok (.iastore, 1) := by decide +kernel
theorem dX8_readMore_51 : decode cX8_readMore 51 = .ok (.aload_n 0, 1) := by decide +kernel
theorem dX8_readMore_52 : decode cX8_readMore 52 = .ok (.getfield 13, 3) := by decide +kernel
theorem dX8_readMore_55 : decode cX8_readMore 55 = .ok (.bipush 12, 2) := by decide +kernel
theorem dX8_readMore_57 : decode cX8_readMore 57 = .ok (.iload_n 2, 1) := by decide +kernel
theorem dX8_readMore_58 : decode cX8_readMore 58 = .ok (.iadd, 1) := by decide +kernel
theorem dX8_readMore_59 : decode cX8_readMore 59 = .ok (.iload_n 1, 1) := by decide +kernel
theorem dX8_readMore_60 : decode cX8_readMore 60 = .ok (.ifCond .ne 14, 3) := by decide +kernel
theorem dX8_readMore_63 : decode cX8_readMore 63 = .ok (.aload_n 0, 1) := by decide +kernel
theorem dX8_readMore_64 : decode cX8_readMore 64 = .ok (.getfield 13, 3) := by decide +kernel
theorem dX8_readMore_67 : decode cX8_readMore 67 = .ok (.iconst 4, 1) := by decide +kernel
theorem dX8_readMore_68 : decode cX8_readMore 68 = .ok (.iload_n 2, 1) := by decide +kernel
theorem dX8_readMore_69 : decode cX8_readMore 69 = .ok (.iadd, 1) := by decide +kernel
theorem dX8_readMore_70 : decode cX8_readMore 70 = .ok (.iaload, 1) := by decide +kernel
theorem dX8_readMore_71 : decode cX8_readMore 71 = .ok (.goto 4, 3) := by decide +kernel
theorem dX8_readMore_74 : decode cX8_readMore 74 = .ok (.iconst 0, 1) := by decide +kernel
theorem dX8_readMore_75 : decode cX8_readMore 75 = .ok (.iastore, 1) := by decide +kernel
theorem dX8_readMore_76 : decode cX8_readMore 76 = .ok (.aload_n 0, 1) := by decide +kernel
theorem dX8_readMore_77 : decode cX8_readMore 77 = .ok (.getfield 13, 3) := by decide +kernel
theorem dX8_readMore_80 : decode cX8_readMore 80 = .ok (.bipush 16, 2) := by decide +kernel
theorem dX8_readMore_82 : decode cX8_readMore 82 = .ok (.dup2, 1) := by decide +kernel
theorem dX8_readMore_83 : decode cX8_readMore 83 = .ok (.iaload, 1) := by decide +kernel
theorem dX8_readMore_84 : decode cX8_readMore 84 = .ok (.iconst 1, 1) := by decide +kernel
theorem dX8_readMore_85 : decode cX8_readMore 85 = .ok (.iadd, 1) := by decide +kernel
theorem dX8_readMore_86 : decode cX8_readMore 86 = .ok (.iastore, 1) := by decide +kernel
theorem dX8_readMore_87 : decode cX8_readMore 87 = .ok (.return_, 1) := by decide +kernel
theorem dX8_readMore_88 : decode cX8_readMore 88 = .ok (.aload_n 0, 1) := by decide +kernel
theorem dX8_readMore_89 : decode cX8_readMore 89 = .ok (.getfield 13, 3) := by decide +kernel
theorem dX8_readMore_92 : decode cX8_readMore 92 = .ok (.bipush 41, 2) := by decide +kernel
theorem dX8_readMore_94 : decode cX8_readMore 94 = .ok (.iaload, 1) := by decide +kernel
theorem dX8_readMore_95 : decode cX8_readMore 95 = .ok (.istore_n 2, 1) := by decide +kernel
theorem dX8_readMore_96 : decode cX8_readMore 96 = .ok (.aload_n 0, 1) := by decide +kernel
theorem dX8_readMore_97 : decode cX8_readMore 97 = .ok (.getfield 13, 3) := by decide +kernel
theorem dX8_readMore_100 : decode cX8_readMore 100 = .ok (.bipush 17, 2) := by decide +kernel
theorem dX8_readMore_102 : decode cX8_readMore 102 = .ok (.iload_n 2, 1) := by decide +kernel
theorem dX8_readMore_103 : decode cX8_readMore 103 = .ok (.iadd, 1) := by decide +kernel
theorem dX8_readMore_104 : decode cX8_readMore 104 = .ok (.aload_n 0, 1) := by decide +kernel
theorem dX8_readMore_105 : decode cX8_readMore 105 = .ok (.iconst 0, 1) := by decide +kernel
theorem dX8_readMore_106 : decode cX8_readMore 106 = .ok (.bipush 99, 2) := by decide +kernel
theorem dX8_readMore_108 : decode cX8_readMore 108 = .ok (.invokevirtual 97, 3) := by decide +kernel
theorem dX8_readMore_111 : decode cX8_readMore 111 = .ok (.iastore, 1) := by decide +kernel
theorem dX8_readMore_112 : decode cX8_readMore 112 = .ok (.aload_n 0, 1) := by decide +kernel
theorem dX8_readMore_113 : decode cX8_readMore 113 = .ok (.getfield 13, 3) := by decide +kernel
theorem dX8_readMore_116 : decode cX8_readMore 116 = .ok (.bipush 25, 2) := by decide +kernel
theorem dX8_readMore_118 : decode cX8_readMore 118 = .ok (.iload_n 2, 1) := by decide +kernel
theorem dX8_readMore_119 : decode cX8_readMore 119 = .ok (.iadd, 1) := by decide +kernel
theorem dX8_readMore_120 : decode cX8_readMore 120 = .ok (.aload_n 0, 1) := by decide +kernel
theorem dX8_readMore_121 : decode cX8_readMore 121 = .ok (.iconst 1, 1) := by decide +kernel
theorem dX8_readMore_122 : decode cX8_readMore 122 = .ok (.bipush 9, 2) := by decide +kernel
theorem dX8_readMore_124 : decode cX8_readMore 124 = .ok (.invokevirtual 97, 3) := by decide +kernel
theorem dX8_readMore_127 : decode cX8_readMore 127 = .ok (.iastore, 1) := by decide +kernel
theorem dX8_readMore_128 : decode cX8_readMore 128 = .ok (.aload_n 0, 1) := by decide +kernel
theorem dX8_readMore_129 : decode cX8_readMore 129 = .ok (.getfield 13, 3) := by decide +kernel
theorem dX8_readMore_132 : decode cX8_readMore 132 = .ok (.bipush 33, 2) := by decide +kernel
theorem dX8_readMore_134 : decode cX8_readMore 134 = .ok (.iload_n 2, 1) := by decide +kernel
theorem dX8_readMore_135 : decode cX8_readMore 135 = .ok (.iadd, 1) := by decide +kernel
theorem dX8_readMore_136 : decode cX8_readMore 136 = .ok (.aload_n 0, 1) := by decide +kernel
theorem dX8_readMore_137 : decode cX8_readMore 137 = .ok (.iconst 0, 1) := by decide +kernel
theorem dX8_readMore_138 : decode cX8_readMore 138 = .ok (.bipush 9, 2) := by decide +kernel
theorem dX8_readMore_140 : decode cX8_readMore 140 = .ok (.invokevirtual 97, 3) := by decide +kernel
theorem dX8_readMore_143 : decode cX8_readMore 143 = .ok (.iastore, 1) := by decide +kernel
theorem dX8_readMore_144 : decode cX8_readMore 144 = .ok (.aload_n 0, 1) := by decide +kernel
theorem dX8_readMore_145 : decode cX8_readMore 145 = .ok (.getfield 13, 3) := by decide +kernel
theorem dX8_readMore_148 : decode cX8_readMore 148 = .ok (.bipush 41, 2) := by decide +kernel
theorem dX8_readMore_150 : decode cX8_readMore 150 = .ok (.dup2, 1) := by decide +kernel
theorem dX8_readMore_151 : decode cX8_readMore 151 = .ok (.iaload, 1) := by decide +kernel
theorem dX8_readMore_152 : decode cX8_readMore 152 = .ok (.iconst 1, 1) := by decide +kernel
theorem dX8_readMore_153 : decode cX8_readMore 153 = .ok (.iadd, 1) := by decide +kernel
theorem dX8_readMore_154 : decode cX8_readMore 154 = .ok (.iastore, 1) := by decide +kernel
theorem dX8_readMore_155 : decode cX8_readMore 155 = .ok (.return_, 1) := by decide +kernel
set_option maxRecDepth 20000 in
theorem ggX8_readLine_X8_nameHere : GoodIn wsX8_readLine wsX8_nameHere := goodIn_r _ [9, 4, 10, 11, 12, 13, 14, 15, 16, 8, 17, 18, 19, 45, 46, 47, 48, 49, 50, 51, 52, 53, 54, 55, 56, 57, 58, 59, 60, 61, 62, 63, 64, 65, 66, 67, 68, 69, 70, 71] (by decide +kernel) (by decide +kernel)
set_option maxRecDepth 20000 in
theorem gX8_readLine_X8_nameHere : GoodIn wsX8_readLine (wsV RX8 101 RX8 yX8_nameHere wsX8_nameHere) := goodIn_app (goodIn_of _ (by decide +kernel)) ggX8_readLine_X8_nameHere
set_option maxRecDepth 20000 in
theorem ggX8_readLine_X8_in : GoodIn wsX8_readLine wsX8_in := goodIn_r _ [22] (by decide +kernel) (by decide +kernel)
set_option maxRecDepth 20000 in
theorem gX8_readLine_X8_in : GoodIn wsX8_readLine (va_wsS RX8 53 yX8_in wsX8_in) := goodIn_app (goodIn_of _ (by decide +kernel)) ggX8_readLine_X8_in
set_option maxRecDepth 20000 in
theorem ggX8_readLine_X8_fails : GoodIn wsX8_readLine wsX8_fails := goodIn_r _ [26, 3, 11, 27, 45, 46, 47, 48, 49, 50, 51, 52, 53, 54, 55, 56, 57, 58, 59, 60, 61, 62, 63, 64, 65, 66, 67, 68, 69, 70, 71] (by decide +kernel) (by decide +kernel)
set_option maxRecDepth 20000 in
theorem gX8_readLine_X8_fails : GoodIn wsX8_readLine (wsV RX8 90 RX8 yX8_fails wsX8_fails) := goodIn_app (goodIn_of _ (by decide +kernel)) ggX8_readLine_X8_fails
set_option maxRecDepth 20000 in
theorem ggX8_readLine_X8_step : GoodIn wsX8_readLine wsX8_step := goodIn_r _ [31, 3, 10, 11, 32, 4, 33, 34, 35, 36, 14, 15, 16, 8, 17, 18, 19, 20, 21, 22, 23, 24, 25, 26, 27, 45, 46, 47, 48, 49, 50, 51, 52, 53, 54, 55, 56, 57, 58, 59, 60, 61, 62, 63, 64, 65, 66, 67, 68, 69, 70, 71] (by decide +kernel) (by decide +kernel)
set_option maxRecDepth 20000 in
theorem gX8_readLine_X8_step : GoodIn wsX8_readLine (wsV RX8 94 RX8 yX8_step wsX8_step) := goodIn_app (goodIn_of _ (by decide +kernel)) ggX8_readLine_X8_step
set_option maxRecDepth 20000 in
theorem ggX8_readLine_X8_readMore : GoodIn wsX8_readLine wsX8_readMore := goodIn_r _ [40, 2, 41, 42, 43, 8, 44, 3, 4, 32, 23, 24, 25, 26, 11, 27, 20, 21, 22, 28, 29, 30, 31, 10, 33, 34, 35, 36, 14, 15, 16, 17, 18, 19, 45, 46, 47, 48, 49, 50, 51, 52, 53, 54, 55, 56, 57, 58, 59, 60, 61, 62, 63, 64, 65, 66, 67, 68, 69, 70, 71] (by decide +kernel) (by decide +kernel)
set_option maxRecDepth 20000 in
theorem gX8_readLine_X8_readMore : GoodIn wsX8_readLine (wsV RX8 107 RX8 yX8_readMore wsX8_readMore) := goodIn_app (goodIn_of _ (by decide +kernel)) ggX8_readLine_X8_readMore
theorem dX8_readLine_0 : decode cX8_readLine 0 = .ok (.aload_n 0, 1) := by decide +kernel
theorem dX8_readLine_1 : decode cX8_readLine 1 = .ok (.invokevirtual 101, 3) := by decide +kernel
theorem dX8_readLine_4 : decode cX8_readLine 4 = .ok (.istore_n 1, 1) := by decide +kernel
theorem dX8_readLine_5 : decode cX8_readLine 5 = .ok (.iload_n 1, 1) := by decide +kernel
theorem dX8_readLine_6 : decode cX8_readLine 6 = .ok (.i2l, 1) := by decide +kernel
theorem dX8_readLine_7 : decode cX8_readLine 7 = .ok (.lconst 0, 1) := by decide +kernel
theorem dX8_readLine_8 : decode cX8_readLine 8 = .ok (.ldc2_w 105, 3) := by decide +kernel
theorem dX8_readLine_11 : decode cX8_readLine 11 = .ok (.invokestatic 53, 3) := by decide +kernel
theorem dX8_readLine_14 : decode cX8_readLine 14 = .ok (.ifCond .ne 9, 3) := by decide +kernel
theorem dX8_readLine_17 : decode cX8_readLine 17 = .ok (.aload_n 0, 1) := by decide +kernel
theorem dX8_readLine_18 : decode cX8_readLine 18 = .ok (.iconst 2, 1) := by decide +kernel
theorem dX8_readLine_19 : decode cX8_readLine 19 = .ok (.invokevirtual 90, 3) := by decide +kernel
theorem dX8_readLine_22 : decode cX8_readLine 22 = .ok (.return_, 1) := by decide +kernel
theorem dX8_readLine_23 : decode cX8_readLine 23 = .ok (.iload_n 1, 1) := by decide +kernel
theorem dX8_readLine_24 : decode cX8_readLine 24 = .ok (.iconst 3, 1) := by decide +kernel
theorem dX8_readLine_25 : decode cX8_readLine 25 = .ok (.if_icmp .gt 14, 3) := by decide +kernel
theorem dX8_readLine_28 : decode cX8_readLine 28 = .ok (.aload_n 0, 1) := by decide +kernel
theorem dX8_readLine_29 : decode cX8_readLine 29 = .ok (.getfield 13, 3) := by decide +kernel
theorem dX8_readLine_32 : decode cX8_readLine 32 = .ok (.bipush 16, 2) := by decide +kernel
theorem dX8_readLine_34 : decode cX8_readLine 34 = .ok (.iaload, 1) := by decide +kernel
theorem dX8_readLine_35 : decode cX8_readLine 35 = .ok (.iconst 4, 1) := by decide +kernel
theorem dX8_readLine_36 : decode cX8_readLine 36 = .ok (.if_icmp .eq 20, 3) := by decide +kernel
theorem dX8_readLine_39 : decode cX8_readLine 39 = .ok (.iload_n 1, 1) := by decide +kernel
theorem dX8_readLine_40 : decode cX8_readLine 40 = .ok (.iconst 4, 1) := by decide +kernel
theorem dX8_readLine_41 : decode cX8_readLine 41 = .ok (.if_icmp .ne 20, 3) := by decide +kernel
theorem dX8_readLine_44 : decode cX8_readLine 44 = .ok (.aload_n 0, 1) := by decide +kernel
theorem dX8_readLine_45 : decode cX8_readLine 45 = .ok (.getfield 13, 3) := by decide +kernel
theorem dX8_readLine_48 : decode cX8_readLine 48 = .ok (.bipush 41, 2) := by decide +kernel
theorem dX8_readLine_50 : decode cX8_readLine 50 = .ok (.iaload, 1) := by decide +kernel
theorem dX8_readLine_51 : decode cX8_readLine 51 = .ok (.bipush 8, 2) := by decide +kernel
theorem dX8_readLine_53 : decode cX8_readLine 53 = .ok (.if_icmp .ne 8, 3) := by decide +kernel
theorem dX8_readLine_56 : decode cX8_readLine 56 = .ok (.aload_n 0, 1) := by decide +kernel
theorem dX8_readLine_57 : decode cX8_readLine 57 = .ok (.iconst 5, 1) := by decide +kernel
theorem dX8_readLine_58 : decode cX8_readLine 58 = .ok (.invokevirtual 90, 3) := by decide +kernel
theorem dX8_readLine_61 : decode cX8_readLine 61 = .ok (.aload_n 0, 1) := by decide +kernel
theorem dX8_readLine_62 : decode cX8_readLine 62 = .ok (.invokevirtual 94, 3) := by decide +kernel
theorem dX8_readLine_65 : decode cX8_readLine 65 = .ok (.aload_n 0, 1) := by decide +kernel
theorem dX8_readLine_66 : decode cX8_readLine 66 = .ok (.getfield 60, 3) := by decide +kernel
theorem dX8_readLine_69 : decode cX8_readLine 69 = .ok (.ifCond .le 4, 3) := by decide +kernel
theorem dX8_readLine_72 : decode cX8_readLine 72 = .ok (.return_, 1) := by decide +kernel
theorem dX8_readLine_73 : decode cX8_readLine 73 = .ok (.aload_n 0, 1) := by decide +kernel
theorem dX8_readLine_74 : decode cX8_readLine 74 = .ok (.iload_n 1, 1) := by decide +kernel
theorem dX8_readLine_75 : decode cX8_readLine 75 = .ok (.invokevirtual 107, 3) := by decide +kernel
theorem dX8_readLine_78 : decode cX8_readLine 78 = .ok (.aload_n 0, 1) := by decide +kernel
theorem dX8_readLine_79 : decode cX8_readLine 79 = .ok (.getfield 60, 3) := by decide +kernel
theorem dX8_readLine_82 : decode cX8_readLine 82 = .ok (.ifCond .ne 16, 3) := by decide +kernel
theorem dX8_readLine_85 : decode cX8_readLine 85 = .ok (.aload_n 0, 1) := by decide +kernel
theorem dX8_readLine_86 : decode cX8_readLine 86 = .ok (.getfield 69, 3) := by decide +kernel
theorem dX8_readLine_89 : decode cX8_readLine 89 = .ok (.iconst 3, 1) := by decide +kernel
theorem dX8_readLine_90 : decode cX8_readLine 90 = .ok (.if_icmp .eq 8, 3) := by decide +kernel
theorem dX8_readLine_93 : decode cX8_readLine 93 = .ok (.aload_n 0, 1) := by decide +kernel
theorem dX8_readLine_94 : decode cX8_readLine 94 = .ok (.iconst 2, 1) := by decide +kernel
theorem dX8_readLine_95 : decode cX8_readLine 95 = .ok (.invokevirtual 90, 3) := by decide +kernel
theorem dX8_readLine_98 : decode cX8_readLine 98 = .ok (.aload_n 0, 1) := by decide +kernel
theorem dX8_readLine_99 : decode cX8_readLine 99 = .ok (.invokevirtual 94, 3) := by decide +kernel
theorem dX8_readLine_102 : decode cX8_readLine 102 = .ok (.return_, 1) := by decide +kernel
set_option maxRecDepth 20000 in
theorem ggX8_text_X8_step : GoodIn wsX8_text wsX8_step := goodIn_r _ [15, 1, 2, 16, 17, 4, 18, 19, 20, 21, 22, 23, 24, 14, 25, 5, 26, 27, 28, 29, 30, 31, 32, 33, 7, 53, 54, 55, 56, 57, 58, 59, 60, 61, 62, 63, 64, 65, 66, 67, 68, 69, 70, 71, 72, 73, 74, 75, 76, 77, 78, 79] (by decide +kernel) (by decide +kernel)
set_option maxRecDepth 20000 in
theorem gX8_text_X8_step : GoodIn wsX8_text (wsV RX8 94 RX8 yX8_step wsX8_step) := goodIn_app (goodIn_of _ (by decide +kernel)) ggX8_text_X8_step
set_option maxRecDepth 20000 in
theorem ggX8_text_X8_readLine : GoodIn wsX8_text wsX8_readLine := goodIn_r _ [37, 38, 3, 1, 4, 39, 40, 41, 14, 42, 2, 16, 43, 44, 22, 23, 24, 25, 5, 26, 27, 28, 29, 30, 31, 32, 33, 7, 11, 12, 13, 15, 17, 18, 19, 20, 21, 45, 46, 47, 48, 49, 50, 51, 52, 53, 54, 55, 56, 57, 58, 59, 60, 61, 62, 63, 64, 65, 66, 67, 68, 69, 70, 71, 72, 73, 74, 75, 76, 77, 78, 79] (by decide +kernel) (by decide +kernel)
set_option maxRecDepth 20000 in
theorem gX8_text_X8_readLine : GoodIn wsX8_text (wsV RX8 110 RX8 yX8_readLine wsX8_readLine) := goodIn_app (goodIn_of _ (by decide +kernel)) ggX8_text_X8_readLine
theorem dX8_text_0 : decode cX8_text 0 = .ok (.aload_n 0, 1) := by decide +kernel
theorem dX8_text_1 : decode cX8_text 1 = .ok (.iconst 0, 1) := by decide +kernel
theorem dX8_text_2 : decode cX8_text 2 = .ok (.putfield 60, 3) := by decide +kernel
theorem dX8_text_5 : decode cX8_text 5 = .ok (.aload_n 0, 1) := by decide +kernel
theorem dX8_text_6 : decode cX8_text 6 = .ok (.iconst 0, 1) := by decide +kernel
theorem dX8_text_7 : decode cX8_text 7 = .ok (.putfield 72, 3) := by decide +kernel
theorem dX8_text_10 : decode cX8_text 10 = .ok (.iconst 0, 1) := by decide +kernel
theorem dX8_text_11 : decode cX8_text 11 = .ok (.istore_n 1, 1) := by decide +kernel
theorem dX8_text_12 : decode cX8_text 12 = .ok (.iconst 0, 1) := by decide +kernel
theorem dX8_text_13 : decode cX8_text 13 = .ok (.istore_n 2, 1) := by decide +kernel
theorem dX8_text_14 : decode cX8_text 14 = .ok (.iload_n 2, 1) := by decide +kernel
theorem dX8_text_15 : decode cX8_text 15 = .ok (.bipush 45, 2) := by decide +kernel
theorem dX8_text_17 : decode cX8_text 17 = .ok (.if_icmp .ge 16, 3) := by decide +kernel
theorem dX8_text_20 : decode cX8_text 20 = .ok (.aload_n 0, 1) := by decide +kernel
theorem dX8_text_21 : decode cX8_text 21 = .ok (.getfield 13, 3) := by decide +kernel
theorem dX8_text_24 : decode cX8_text 24 = .ok (.iload_n 2, 1) := by decide +kernel
theorem dX8_text_25 : decode cX8_text 25 = .ok (.iconst 0, 1) := by decide +kernel
theorem dX8_text_26 : decode cX8_text 26 = .ok (.iastore, 1) := by decide +kernel
theorem dX8_text_27 : decode cX8_text 27 = .ok (.iinc 2 1, 3) := by decide +kernel
theorem dX8_text_30 : decode cX8_text 30 = .ok (.goto (-16), 3) := by decide +kernel
theorem dX8_text_33 : decode cX8_text 33 = .ok (.aload_n 0, 1) := by decide +kernel
theorem dX8_text_34 : decode cX8_text 34 = .ok (.invokevirtual 94, 3) := by decide +kernel
theorem dX8_text_37 : decode cX8_text 37 = .ok (.aload_n 0, 1) := by decide +kernel
theorem dX8_text_38 : decode cX8_text 38 = .ok (.getfield 60, 3) := by decide +kernel
theorem dX8_text_41 : decode cX8_text 41 = .ok (.ifCond .ne 20, 3) := by decide +kernel
theorem dX8_text_44 : decode cX8_text 44 = .ok (.aload_n 0, 1) := by decide +kernel
theorem dX8_text_45 : decode cX8_text 45 = .ok (.getfield 69, 3) := by decide +kernel
theorem dX8_text_48 : decode cX8_text 48 = .ok (.ifCond .eq 13, 3) := by decide +kernel
theorem dX8_text_51 : decode cX8_text 51 = .ok (.aload_n 0, 1) := by decide +kernel
theorem dX8_text_52 : decode cX8_text 52 = .ok (.invokevirtual 110, 3) := by decide +kernel
theorem dX8_text_55 : decode cX8_text 55 = .ok (.iinc 1 1, 3) := by decide +kernel
theorem dX8_text_58 : decode cX8_text 58 = .ok (.goto (-21), 3) := by decide +kernel
theorem dX8_text_61 : decode cX8_text 61 = .ok (.aload_n 0, 1) := by decide +kernel
theorem dX8_text_62 : decode cX8_text 62 = .ok (.iconst 0, 1) := by decide +kernel
theorem dX8_text_63 : decode cX8_text 63 = .ok (.putfield 57, 3) := by decide +kernel
theorem dX8_text_66 : decode cX8_text 66 = .ok (.aload_n 0, 1) := by decide +kernel
theorem dX8_text_67 : decode cX8_text 67 = .ok (.aload_n 0, 1) := by decide +kernel
theorem dX8_text_68 : decode cX8_text 68 = .ok (.getfield 60, 3) := by decide +kernel
theorem dX8_text_71 : decode cX8_text 71 = .ok (.putfield 113, 3) := by decide +kernel
theorem dX8_text_74 : decode cX8_text 74 = .ok (.aload_n 0, 1) := by decide +kernel
theorem dX8_text_75 : decode cX8_text 75 = .ok (.getfield 60, 3) := by decide +kernel
theorem dX8_text_78 : decode cX8_text 78 = .ok (.ifCond .le 11, 3) := by decide +kernel
theorem dX8_text_81 : decode cX8_text 81 = .ok (.bipush (-10), 2) := by decide +kernel
theorem dX8_text_83 : decode cX8_text 83 = .ok (.aload_n 0, 1) := by decide +kernel
theorem dX8_text_84 : decode cX8_text 84 = .ok (.getfield 66, 3) := by decide +kernel
theorem dX8_text_87 : decode cX8_text 87 = .ok (.isub, 1) := by decide +kernel
theorem dX8_text_88 : decode cX8_text 88 = .ok (.ireturn, 1) := by decide +kernel
theorem dX8_text_89 : decode cX8_text 89 = .ok (.iconst 0, 1) := by decide +kernel
theorem dX8_text_90 : decode cX8_text 90 = .ok (.istore_n 2, 1) := by decide +kernel
theorem dX8_text_91 : decode cX8_text 91 = .ok (.iload_n 2, 1) := by decide +kernel
theorem dX8_text_92 : decode cX8_text 92 = .ok (.bipush 45, 2) := by decide +kernel
theorem dX8_text_94 : decode cX8_text 94 = .ok (.if_icmp .ge 21, 3) := by decide +kernel
theorem dX8_text_97 : decode cX8_text 97 = .ok (.aload_n 0, 1) := by decide +kernel
theorem dX8_text_98 : decode cX8_text 98 = .ok (.getfield 7, 3) := by decide +kernel
theorem dX8_text_101 : decode cX8_text 101 = .ok (.iload_n 2, 1) := by decide +kernel
theorem dX8_text_102 : decode cX8_text 102 = .ok (.aload_n 0, 1) := by decide +kernel
theorem dX8_text_103 : decode cX8_text 103 = .ok (.getfield 13, 3) := by decide +kernel
theorem dX8_text_106 : decode cX8_text 106 = .ok (.iload_n 2, 1) := by decide +kernel
theorem dX8_text_107 : decode cX8_text 107 = .ok (.iaload, 1) := by decide +kernel
theorem dX8_text_108 : decode cX8_text 108 = .ok (.iastore, 1) := by decide +kernel
theorem dX8_text_109 : decode cX8_text 109 = .ok (.iinc 2 1, 3) := by decide +kernel
theorem dX8_text_112 : decode cX8_text 112 = .ok (.goto (-21), 3) := by decide +kernel
theorem dX8_text_115 : decode cX8_text 115 = .ok (.aload_n 0, 1) := by decide +kernel
theorem dX8_text_116 : decode cX8_text 116 = .ok (.iconst 0, 1) := by decide +kernel
theorem dX8_text_117 : decode cX8_text 117 = .ok (.putfield 116, 3) := by decide +kernel
theorem dX8_text_120 : decode cX8_text 120 = .ok (.aload_n 0, 1) := by decide +kernel
theorem dX8_text_121 : decode cX8_text 121 = .ok (.getfield 38, 3) := by decide +kernel
theorem dX8_text_124 : decode cX8_text 124 = .ok (.iconst 0, 1) := by decide +kernel
theorem dX8_text_125 : decode cX8_text 125 = .ok (.iconst 0, 1) := by decide +kernel
theorem dX8_text_126 : decode cX8_text 126 = .ok (.bastore, 1) := by decide +kernel
theorem dX8_text_127 : decode cX8_text 127 = .ok (.aload_n 0, 1) := by decide +kernel
theorem dX8_text_128 : decode cX8_text 128 = .ok (.getfield 38, 3) := by decide +kernel
theorem dX8_text_131 : decode cX8_text 131 = .ok (.iconst 1, 1) := by decide +kernel
theorem dX8_text_132 : decode cX8_text 132 = .ok (.iconst 0, 1) := by decide +kernel
theorem dX8_text_133 : decode cX8_text 133 = .ok (.bastore, 1) := by decide +kernel
theorem dX8_text_134 : decode cX8_text 134 = .ok (.iload_n 1, 1) := by decide +kernel
theorem dX8_text_135 : decode cX8_text 135 = .ok (.ireturn, 1) := by decide +kernel
theorem dX8_fault_0 : decode cX8_fault 0 = .ok (.aload_n 0, 1) := by decide +kernel
theorem dX8_fault_1 : decode cX8_fault 1 = .ok (.getfield 113, 3) := by decide +kernel
theorem dX8_fault_4 : decode cX8_fault 4 = .ok (.ireturn, 1) := by decide +kernel
set_option maxRecDepth 20000 in
theorem ggX8_isDoor_X8_in : GoodIn wsX8_isDoor wsX8_in := goodIn_r _ [5] (by decide +kernel) (by decide +kernel)
set_option maxRecDepth 20000 in
theorem gX8_isDoor_X8_in : GoodIn wsX8_isDoor (va_wsS RX8 53 yX8_in wsX8_in) := goodIn_app (goodIn_of _ (by decide +kernel)) ggX8_isDoor_X8_in
theorem dX8_isDoor_0 : decode cX8_isDoor 0 = .ok (.iload_n 1, 1) := by decide +kernel
theorem dX8_isDoor_1 : decode cX8_isDoor 1 = .ok (.i2l, 1) := by decide +kernel
theorem dX8_isDoor_2 : decode cX8_isDoor 2 = .ok (.lconst 0, 1) := by decide +kernel
theorem dX8_isDoor_3 : decode cX8_isDoor 3 = .ok (.aload_n 0, 1) := by decide +kernel
theorem dX8_isDoor_4 : decode cX8_isDoor 4 = .ok (.getfield 7, 3) := by decide +kernel
theorem dX8_isDoor_7 : decode cX8_isDoor 7 = .ok (.bipush 16, 2) := by decide +kernel
theorem dX8_isDoor_9 : decode cX8_isDoor 9 = .ok (.iaload, 1) := by decide +kernel
theorem dX8_isDoor_10 : decode cX8_isDoor 10 = .ok (.iconst 1, 1) := by decide +kernel
theorem dX8_isDoor_11 : decode cX8_isDoor 11 = .ok (.isub, 1) := by decide +kernel
theorem dX8_isDoor_12 : decode cX8_isDoor 12 = .ok (.i2l, 1) := by decide +kernel
theorem dX8_isDoor_13 : decode cX8_isDoor 13 = .ok (.invokestatic 53, 3) := by decide +kernel
theorem dX8_isDoor_16 : decode cX8_isDoor 16 = .ok (.ireturn, 1) := by decide +kernel
set_option maxRecDepth 20000 in
theorem ggX8_isCrowd_X8_in : GoodIn wsX8_isCrowd wsX8_in := goodIn_r _ [5] (by decide +kernel) (by decide +kernel)
set_option maxRecDepth 20000 in
theorem gX8_isCrowd_X8_in : GoodIn wsX8_isCrowd (va_wsS RX8 53 yX8_in wsX8_in) := goodIn_app (goodIn_of _ (by decide +kernel)) ggX8_isCrowd_X8_in
theorem dX8_isCrowd_0 : decode cX8_isCrowd 0 = .ok (.iload_n 1, 1) := by decide +kernel
theorem dX8_isCrowd_1 : decode cX8_isCrowd 1 = .ok (.i2l, 1) := by decide +kernel
theorem dX8_isCrowd_2 : decode cX8_isCrowd 2 = .ok (.lconst 0, 1) := by decide +kernel
theorem dX8_isCrowd_3 : decode cX8_isCrowd 3 = .ok (.aload_n 0, 1) := by decide +kernel
theorem dX8_isCrowd_4 : decode cX8_isCrowd 4 = .ok (.getfield 7, 3) := by decide +kernel
theorem dX8_isCrowd_7 : decode cX8_isCrowd 7 = .ok (.bipush 41, 2) := by decide +kernel
theorem dX8_isCrowd_9 : decode cX8_isCrowd 9 = .ok (.iaload, 1) := by decide +kernel
theorem dX8_isCrowd_10 : decode cX8_isCrowd 10 = .ok (.iconst 1, 1) := by decide +kernel
theorem dX8_isCrowd_11 : decode cX8_isCrowd 11 = .ok (.isub, 1) := by decide +kernel
theorem dX8_isCrowd_12 : decode cX8_isCrowd 12 = .ok (.i2l, 1) := by decide +kernel
theorem dX8_isCrowd_13 : decode cX8_isCrowd 13 = .ok (.invokestatic 53, 3) := by decide +kernel
theorem dX8_isCrowd_16 : decode cX8_isCrowd 16 = .ok (.ireturn, 1) := by decide +kernel
set_option maxRecDepth 20000 in
theorem ggX8_isLong_X8_in : GoodIn wsX8_isLong wsX8_in := goodIn_r _ [5] (by decide +kernel) (by decide +kernel)
set_option maxRecDepth 20000 in
theorem gX8_isLong_X8_in : GoodIn wsX8_isLong (va_wsS RX8 53 yX8_in wsX8_in) := goodIn_app (goodIn_of _ (by decide +kernel)) ggX8_isLong_X8_in
theorem dX8_isLong_0 : decode cX8_isLong 0 = .ok (.iload_n 0, 1) := by decide +kernel
theorem dX8_isLong_1 : decode cX8_isLong 1 = .ok (.i2l, 1) := by decide +kernel
theorem dX8_isLong_2 : decode cX8_isLong 2 = .ok (.lconst 0, 1) := by decide +kernel
theorem dX8_isLong_3 : decode cX8_isLong 3 = .ok (.ldc2_w 119, 3) := by decide +kernel
theorem dX8_isLong_6 : decode cX8_isLong 6 = .ok (.invokestatic 53, 3) := by decide +kernel
theorem dX8_isLong_9 : decode cX8_isLong 9 = .ok (.ireturn, 1) := by decide +kernel
theorem dX8_roomOn_0 : decode cX8_roomOn 0 = .ok (.aload_n 0, 1) := by decide +kernel
theorem dX8_roomOn_1 : decode cX8_roomOn 1 = .ok (.getfield 7, 3) := by decide +kernel
theorem dX8_roomOn_4 : decode cX8_roomOn 4 = .ok (.iload_n 1, 1) := by decide +kernel
theorem dX8_roomOn_5 : decode cX8_roomOn 5 = .ok (.bipush 12, 2) := by decide +kernel
theorem dX8_roomOn_7 : decode cX8_roomOn 7 = .ok (.iadd, 1) := by decide +kernel
theorem dX8_roomOn_8 : decode cX8_roomOn 8 = .ok (.iload_n 2, 1) := by decide +kernel
theorem dX8_roomOn_9 : decode cX8_roomOn 9 = .ok (.iadd, 1) := by decide +kernel
theorem dX8_roomOn_10 : decode cX8_roomOn 10 = .ok (.iaload, 1) := by decide +kernel
theorem dX8_roomOn_11 : decode cX8_roomOn 11 = .ok (.istore_n 3, 1) := by decide +kernel
theorem dX8_roomOn_12 : decode cX8_roomOn 12 = .ok (.aload_n 0, 1) := by decide +kernel
theorem dX8_roomOn_13 : decode cX8_roomOn 13 = .ok (.getfield 7, 3) := by decide +kernel
theorem dX8_roomOn_16 : decode cX8_roomOn 16 = .ok (.iload_n 1, 1) := by decide +kernel
theorem dX8_roomOn_17 : decode cX8_roomOn 17 = .ok (.iload_n 2, 1) := by decide +kernel
theorem dX8_roomOn_18 : decode cX8_roomOn 18 = .ok (.iadd, 1) := by decide +kernel
theorem dX8_roomOn_19 : decode cX8_roomOn 19 = .ok (.iaload, 1) := by decide +kernel
theorem dX8_roomOn_20 : decode cX8_roomOn 20 = .ok (.ifCond .ne 7, 3) := by decide +kernel
theorem dX8_roomOn_23 : decode cX8_roomOn 23 = .ok (.iload_n 3, 1) := by decide +kernel
theorem dX8_roomOn_24 : decode cX8_roomOn 24 = .ok (.goto 15, 3) := by decide +kernel
theorem dX8_roomOn_27 : decode cX8_roomOn 27 = .ok (.aload_n 0, 1) := by decide +kernel
theorem dX8_roomOn_28 : decode cX8_roomOn 28 = .ok (.getfield 7, 3) := by decide +kernel
theorem dX8_roomOn_31 : decode cX8_roomOn 31 = .ok (.iload_n 1, 1) := by decide +kernel
theorem dX8_roomOn_32 : decode cX8_roomOn 32 = .ok (.iconst 4, 1) := by decide +kernel
theorem dX8_roomOn_33 : decode cX8_roomOn 33 = .ok (.iadd, 1) := by decide +kernel
theorem dX8_roomOn_34 : decode cX8_roomOn 34 = .ok (.iload_n 2, 1) := by decide +kernel
theorem dX8_roomOn_35 : decode cX8_roomOn 35 = .ok (.iadd, 1) := by decide +kernel
theorem dX8_roomOn_36 : decode cX8_roomOn 36 = .ok (.iaload, 1) := by decide +kernel
theorem dX8_roomOn_37 : decode cX8_roomOn 37 = .ok (.iload_n 3, 1) := by decide +kernel
theorem dX8_roomOn_38 : decode cX8_roomOn 38 = .ok (.isub, 1) := by decide +kernel
theorem dX8_roomOn_39 : decode cX8_roomOn 39 = .ok (.ireturn, 1) := by decide +kernel
theorem dX8_starts_0 : decode cX8_starts 0 = .ok (.aload_n 0, 1) := by decide +kernel
theorem dX8_starts_1 : decode cX8_starts 1 = .ok (.iconst 0, 1) := by decide +kernel
theorem dX8_starts_2 : decode cX8_starts 2 = .ok (.putfield 121, 3) := by decide +kernel
theorem dX8_starts_5 : decode cX8_starts 5 = .ok (.aload_n 0, 1) := by decide +kernel
theorem dX8_starts_6 : decode cX8_starts 6 = .ok (.iconst 0, 1) := by decide +kernel
theorem dX8_starts_7 : decode cX8_starts 7 = .ok (.putfield 124, 3) := by decide +kernel
theorem dX8_starts_10 : decode cX8_starts 10 = .ok (.aload_n 0, 1) := by decide +kernel
theorem dX8_starts_11 : decode cX8_starts 11 = .ok (.iconst 0, 1) := by decide +kernel
theorem dX8_starts_12 : decode cX8_starts 12 = .ok (.putfield 127, 3) := by decide +kernel
theorem dX8_starts_15 : decode cX8_starts 15 = .ok (.aload_n 0, 1) := by decide +kernel
theorem dX8_starts_16 : decode cX8_starts 16 = .ok (.iconst 0, 1) := by decide +kernel
theorem dX8_starts_17 : decode cX8_starts 17 = .ok (.putfield 130, 3) := by decide +kernel
theorem dX8_starts_20 : decode cX8_starts 20 = .ok (.iconst 0, 1) := by decide +kernel
theorem dX8_starts_21 : decode cX8_starts 21 = .ok (.istore_n 1, 1) := by decide +kernel
theorem dX8_starts_22 : decode cX8_starts 22 = .ok (.iload_n 1, 1) := by decide +kernel
theorem dX8_starts_23 : decode cX8_starts 23 = .ok (.iconst 4, 1) := by decide +kernel
theorem dX8_starts_24 : decode cX8_starts 24 = .ok (.if_icmp .ge 16, 3) := by decide +kernel
theorem dX8_starts_27 : decode cX8_starts 27 = .ok (.aload_n 0, 1) := by decide +kernel
theorem dX8_starts_28 : decode cX8_starts 28 = .ok (.getfield 29, 3) := by decide +kernel
theorem dX8_starts_31 : decode cX8_starts 31 = .ok (.iload_n 1, 1) := by decide +kernel
theorem dX8_starts_32 : decode cX8_starts 32 = .ok (.iconst 0, 1) := by decide +kernel
theorem dX8_starts_33 : decode cX8_starts 33 = .ok (.iastore, 1) := by decide +kernel
theorem dX8_starts_34 : decode cX8_starts 34 = .ok (.iinc 1 1, 3) := by decide +kernel
theorem dX8_starts_37 : decode cX8_starts 37 = .ok (.goto (-15), 3) := by decide +kernel
theorem dX8_starts_40 : decode cX8_starts 40 = .ok (.return_, 1) := by decide +kernel
set_option maxRecDepth 20000 in
theorem ggX8_passOn_X8_roomOn : GoodIn wsX8_passOn wsX8_roomOn := goodIn_r _ [11, 1, 12, 13, 14, 15, 16, 17, 18, 19, 20, 21, 22, 23, 24, 25, 26, 27, 28, 29, 30, 31, 32, 33, 34, 35, 36, 37, 38] (by decide +kernel) (by decide +kernel)
set_option maxRecDepth 20000 in
theorem gX8_passOn_X8_roomOn : GoodIn wsX8_passOn (wsV RX8 133 RX8 yX8_roomOn wsX8_roomOn) := goodIn_app (goodIn_of _ (by decide +kernel)) ggX8_passOn_X8_roomOn
theorem dX8_passOn_0 : decode cX8_passOn 0 = .ok (.iconst 0, 1) := by decide +kernel
theorem dX8_passOn_1 : decode cX8_passOn 1 = .ok (.istore_n 2, 1) := by decide +kernel
theorem dX8_passOn_2 : decode cX8_passOn 2 = .ok (.iload_n 2, 1) := by decide +kernel
theorem dX8_passOn_3 : decode cX8_passOn 3 = .ok (.aload_n 0, 1) := by decide +kernel
theorem dX8_passOn_4 : decode cX8_passOn 4 = .ok (.getfield 7, 3) := by decide +kernel
theorem dX8_passOn_7 : decode cX8_passOn 7 = .ok (.iload_n 1, 1) := by decide +kernel
theorem dX8_passOn_8 : decode cX8_passOn 8 = .ok (.bipush 16, 2) := by decide +kernel
theorem dX8_passOn_10 : decode cX8_passOn 10 = .ok (.iadd, 1) := by decide +kernel
theorem dX8_passOn_11 : decode cX8_passOn 11 = .ok (.iaload, 1) := by decide +kernel
theorem dX8_passOn_12 : decode cX8_passOn 12 = .ok (.if_icmp .ge 109, 3) := by decide +kernel
theorem dX8_passOn_15 : decode cX8_passOn 15 = .ok (.iload_n 2, 1) := by decide +kernel
theorem dX8_passOn_16 : decode cX8_passOn 16 = .ok (.aload_n 0, 1) := by decide +kernel
theorem dX8_passOn_17 : decode cX8_passOn 17 = .ok (.getfield 25, 3) := by decide +kernel
theorem dX8_passOn_20 : decode cX8_passOn 20 = .ok (.if_icmp .eq 95, 3) := by decide +kernel
theorem dX8_passOn_23 : decode cX8_passOn 23 = .ok (.aload_n 0, 1) := by decide +kernel
theorem dX8_passOn_24 : decode cX8_passOn 24 = .ok (.iload_n 1, 1) := by decide +kernel
theorem dX8_passOn_25 : decode cX8_passOn 25 = .ok (.iload_n 2, 1) := by decide +kernel
theorem dX8_passOn_26 : decode cX8_passOn 26 = .ok (.invokevirtual 133, 3) := by decide +kernel
theorem dX8_passOn_29 : decode cX8_passOn 29 = .ok (.ifCond .ne 56, 3) := by decide +kernel
theorem dX8_passOn_32 : decode cX8_passOn 32 = .ok (.aload_n 0, 1) := by decide +kernel
theorem dX8_passOn_33 : decode cX8_passOn 33 = .ok (.dup, 1) := by decide +kernel
theorem dX8_passOn_34 : decode cX8_passOn 34 = .ok (.getfield 124, 3) := by decide +kernel
theorem dX8_passOn_37 : decode cX8_passOn 37 = .ok (.iconst 1, 1) := by decide +kernel
theorem dX8_passOn_38 : decode cX8_passOn 38 = .ok (.iadd, 1) := by decide +kernel
theorem dX8_passOn_39 : decode cX8_passOn 39 = .ok (.putfield 124, 3) := by decide +kernel
theorem dX8_passOn_42 : decode cX8_passOn 42 = .ok (.aload_n 0, 1) := by decide +kernel
theorem dX8_passOn_43 : decode cX8_passOn 43 = .ok (.getfield 29, 3) := by decide +kernel
theorem dX8_passOn_46 : decode cX8_passOn 46 = .ok (.iload_n 2, 1) := by decide +kernel
theorem dX8_passOn_47 : decode cX8_passOn 47 = .ok (.dup2, 1) := by decide +kernel
theorem dX8_passOn_48 : decode cX8_passOn 48 = .ok (.iaload, 1) := by decide +kernel
theorem dX8_passOn_49 : decode cX8_passOn 49 = .ok (.iconst 1, 1) := by decide +kernel
theorem dX8_passOn_50 : decode cX8_passOn 50 = .ok (.iadd, 1) := by decide +kernel
theorem dX8_passOn_51 : decode cX8_passOn 51 = .ok (.iastore, 1) := by decide +kernel
theorem dX8_passOn_52 : decode cX8_passOn 52 = .ok (.aload_n 0, 1) := by decide +kernel
theorem dX8_passOn_53 : decode cX8_passOn 53 = .ok (.getfield 7, 3) := by decide +kernel
theorem dX8_passOn_56 : decode cX8_passOn 56 = .ok (.iload_n 1, 1) := by decide +kernel
theorem dX8_passOn_57 : decode cX8_passOn 57 = .ok (.bipush 44, 2) := by decide +kernel
theorem dX8_passOn_59 : decode cX8_passOn 59 = .ok (.iadd, 1) := by decide +kernel
theorem dX8_passOn_60 : decode cX8_passOn 60 = .ok (.dup2, 1) := by decide +kernel
theorem dX8_passOn_61 : decode cX8_passOn 61 = .ok (.iaload, 1) := by decide +kernel
theorem dX8_passOn_62 : decode cX8_passOn 62 = .ok (.aload_n 0, 1) := by decide +kernel
theorem dX8_passOn_63 : decode cX8_passOn 63 = .ok (.getfield 7, 3) := by decide +kernel
theorem dX8_passOn_66 : decode cX8_passOn 66 = .ok (.iload_n 1, 1) := by decide +kernel
theorem dX8_passOn_67 : decode cX8_passOn 67 = .ok (.bipush 44, 2) := by decide +kernel
theorem dX8_passOn_69 : decode cX8_passOn 69 = .ok (.iadd, 1) := by decide +kernel
theorem dX8_passOn_70 : decode cX8_passOn 70 = .ok (.iaload, 1) := by decide +kernel
theorem dX8_passOn_71 : decode cX8_passOn 71 = .ok (.ldc 136, 2) := by decide +kernel
theorem dX8_passOn_73 : decode cX8_passOn 73 = .ok (.if_icmp .ge 7, 3) := by decide +kernel
theorem dX8_passOn_76 : decode cX8_passOn 76 = .ok (.iconst 1, 1) := by decide +kernel
theorem dX8_passOn_77 : decode cX8_passOn 77 = .ok (.goto 4, 3) := by decide +kernel
theorem dX8_passOn_80 : decode cX8_passOn 80 = .ok (.iconst 0, 1) := by decide +kernel
theorem dX8_passOn_81 : decode cX8_passOn 81 = .ok (.iadd, 1) := by decide +kernel
theorem dX8_passOn_82 : decode cX8_passOn 82 = .ok (.iastore, 1) := by decide +kernel
theorem dX8_passOn_83 : decode cX8_passOn 83 = .ok (.iload_n 2, 1) := by decide +kernel
theorem dX8_passOn_84 : decode cX8_passOn 84 = .ok (.ireturn, 1) := by decide +kernel
theorem dX8_passOn_85 : decode cX8_passOn 85 = .ok (.aload_n 0, 1) := by decide +kernel
theorem dX8_passOn_86 : decode cX8_passOn 86 = .ok (.getfield 7, 3) := by decide +kernel
theorem dX8_passOn_89 : decode cX8_passOn 89 = .ok (.iload_n 1, 1) := by decide +kernel
theorem dX8_passOn_90 : decode cX8_passOn 90 = .ok (.bipush 12, 2) := by decide +kernel
theorem dX8_passOn_92 : decode cX8_passOn 92 = .ok (.iadd, 1) := by decide +kernel
theorem dX8_passOn_93 : decode cX8_passOn 93 = .ok (.iload_n 2, 1) := by decide +kernel
theorem dX8_passOn_94 : decode cX8_passOn 94 = .ok (.iadd, 1) := by decide +kernel
theorem dX8_passOn_95 : decode cX8_passOn 95 = .ok (.dup2, 1) := by decide +kernel
theorem dX8_passOn_96 : decode cX8_passOn 96 = .ok (.iaload, 1) := by decide +kernel
theorem dX8_passOn_97 : decode cX8_passOn 97 = .ok (.aload_n 0, 1) := by decide +kernel
theorem dX8_passOn_98 : decode cX8_passOn 98 = .ok (.getfield 7, 3) := by decide +kernel
theorem dX8_passOn_101 : decode cX8_passOn 101 = .ok (.iload_n 1, 1) := by decide +kernel
theorem dX8_passOn_102 : decode cX8_passOn 102 = .ok (.iload_n 2, 1) := by decide +kernel
theorem dX8_passOn_103 : decode cX8_passOn 103 = .ok (.iadd, 1) := by decide +kernel
theorem dX8_passOn_104 : decode cX8_passOn 104 = .ok (.iaload, 1) := by decide +kernel
theorem dX8_passOn_105 : decode cX8_passOn 105 = .ok (.ifCond .ne 7, 3) := by decide +kernel
theorem dX8_passOn_108 : decode cX8_passOn 108 = .ok (.iconst (-1), 1) := by decide +kernel
theorem dX8_passOn_109 : decode cX8_passOn 109 = .ok (.goto 4, 3) := by decide +kernel
theorem dX8_passOn_112 : decode cX8_passOn 112 = .ok (.iconst 1, 1) := by decide +kernel
theorem dX8_passOn_113 : decode cX8_passOn 113 = .ok (.iadd, 1) := by decide +kernel
theorem dX8_passOn_114 : decode cX8_passOn 114 = .ok (.iastore, 1) := by decide +kernel
theorem dX8_passOn_115 : decode cX8_passOn 115 = .ok (.iinc 2 1, 3) := by decide +kernel
theorem dX8_passOn_118 : decode cX8_passOn 118 = .ok (.goto (-116), 3) := by decide +kernel
theorem dX8_passOn_121 : decode cX8_passOn 121 = .ok (.aload_n 0, 1) := by decide +kernel
theorem dX8_passOn_122 : decode cX8_passOn 122 = .ok (.dup, 1) := by decide +kernel
theorem dX8_passOn_123 : decode cX8_passOn 123 = .ok (.getfield 121, 3) := by decide +kernel
theorem dX8_passOn_126 : decode cX8_passOn 126 = .ok (.iconst 1, 1) := by decide +kernel
theorem dX8_passOn_127 : decode cX8_passOn 127 = .ok (.iadd, 1) := by decide +kernel
theorem dX8_passOn_128 : decode cX8_passOn 128 = .ok (.putfield 121, 3) := by decide +kernel
theorem dX8_passOn_131 : decode cX8_passOn 131 = .ok (.aload_n 0, 1) := by decide +kernel
theorem dX8_passOn_132 : decode cX8_passOn 132 = .ok (.getfield 7, 3) := by decide +kernel
theorem dX8_passOn_135 : decode cX8_passOn 135 = .ok (.iload_n 1, 1) := by decide +kernel
theorem dX8_passOn_136 : decode cX8_passOn 136 = .ok (.bipush 43, 2) := by decide +kernel
theorem dX8_passOn_138 : decode cX8_passOn 138 = .ok (.iadd, 1) := by decide +kernel
theorem dX8_passOn_139 : decode cX8_passOn 139 = .ok (.dup2, 1) := by decide +kernel
theorem dX8_passOn_140 : decode cX8_passOn 140 = .ok (.iaload, 1) := by decide +kernel
theorem dX8_passOn_141 : decode cX8_passOn 141 = .ok (.aload_n 0, 1) := by decide +kernel
theorem dX8_passOn_142 : decode cX8_passOn 142 = .ok (.getfield 7, 3) := by decide +kernel
theorem dX8_passOn_145 : decode cX8_passOn 145 = .ok (.iload_n 1, 1) := by decide +kernel
theorem dX8_passOn_146 : decode cX8_passOn 146 = .ok (.bipush 43, 2) := by decide +kernel
theorem dX8_passOn_148 : decode cX8_passOn 148 = .ok (.iadd, 1) := by decide +kernel
theorem dX8_passOn_149 : decode cX8_passOn 149 = .ok (.iaload, 1) := by decide +kernel
theorem dX8_passOn_150 : decode cX8_passOn 150 = .ok (.ldc 136, 2) := by decide +kernel
theorem dX8_passOn_152 : decode cX8_passOn 152 = .ok (.if_icmp .ge 7, 3) := by decide +kernel
theorem dX8_passOn_155 : decode cX8_passOn 155 = .ok (.iconst 1, 1) := by decide +kernel
theorem dX8_passOn_156 : decode cX8_passOn 156 = .ok (.goto 4, 3) := by decide +kernel
theorem dX8_passOn_159 : decode cX8_passOn 159 = .ok (.iconst 0, 1) := by decide +kernel
theorem dX8_passOn_160 : decode cX8_passOn 160 = .ok (.iadd, 1) := by decide +kernel
theorem dX8_passOn_161 : decode cX8_passOn 161 = .ok (.iastore, 1) := by decide +kernel
theorem dX8_passOn_162 : decode cX8_passOn 162 = .ok (.bipush (-4), 2) := by decide +kernel
theorem dX8_passOn_164 : decode cX8_passOn 164 = .ok (.ireturn, 1) := by decide +kernel
theorem dX8_comeOn_0 : decode cX8_comeOn 0 = .ok (.iconst 0, 1) := by decide +kernel
theorem dX8_comeOn_1 : decode cX8_comeOn 1 = .ok (.istore_n 2, 1) := by decide +kernel
theorem dX8_comeOn_2 : decode cX8_comeOn 2 = .ok (.iconst 0, 1) := by decide +kernel
theorem dX8_comeOn_3 : decode cX8_comeOn 3 = .ok (.istore_n 3, 1) := by decide +kernel
theorem dX8_comeOn_4 : decode cX8_comeOn 4 = .ok (.iload_n 3, 1) := by decide +kernel
theorem dX8_comeOn_5 : decode cX8_comeOn 5 = .ok (.aload_n 0, 1) := by decide +kernel
theorem dX8_comeOn_6 : decode cX8_comeOn 6 = .ok (.getfield 7, 3) := by decide +kernel
theorem dX8_comeOn_9 : decode cX8_comeOn 9 = .ok (.iload_n 1, 1) := by decide +kernel
theorem dX8_comeOn_10 : decode cX8_comeOn 10 = .ok (.bipush 41, 2) := by decide +kernel
theorem dX8_comeOn_12 : decode cX8_comeOn 12 = .ok (.iadd, 1) := by decide +kernel
theorem dX8_comeOn_13 : decode cX8_comeOn 13 = .ok (.iaload, 1) := by decide +kernel
theorem dX8_comeOn_14 : decode cX8_comeOn 14 = .ok (.if_icmp .ge 86, 3) := by decide +kernel
theorem dX8_comeOn_17 : decode cX8_comeOn 17 = .ok (.aload_n 0, 1) := by decide +kernel
theorem dX8_comeOn_18 : decode cX8_comeOn 18 = .ok (.getfield 7, 3) := by decide +kernel
theorem dX8_comeOn_21 : decode cX8_comeOn 21 = .ok (.iload_n 1, 1) := by decide +kernel
theorem dX8_comeOn_22 : decode cX8_comeOn 22 = .ok (.bipush 42, 2) := by decide +kernel
theorem dX8_comeOn_24 : decode cX8_comeOn 24 = .ok (.iadd, 1) := by decide +kernel
theorem dX8_comeOn_25 : decode cX8_comeOn 25 = .ok (.iaload, 1) := by decide +kernel
theorem dX8_comeOn_26 : decode cX8_comeOn 26 = .ok (.aload_n 0, 1) := by decide +kernel
theorem dX8_comeOn_27 : decode cX8_comeOn 27 = .ok (.getfield 7, 3) := by decide +kernel
theorem dX8_comeOn_30 : decode cX8_comeOn 30 = .ok (.iload_n 1, 1) := by decide +kernel
theorem dX8_comeOn_31 : decode cX8_comeOn 31 = .ok (.bipush 17, 2) := by decide +kernel
theorem dX8_comeOn_33 : decode cX8_comeOn 33 = .ok (.iadd, 1) := by decide +kernel
theorem dX8_comeOn_34 : decode cX8_comeOn 34 = .ok (.iload_n 3, 1) := by decide +kernel
theorem dX8_comeOn_35 : decode cX8_comeOn 35 = .ok (.iadd, 1) := by decide +kernel
theorem dX8_comeOn_36 : decode cX8_comeOn 36 = .ok (.iaload, 1) := by decide +kernel
theorem dX8_comeOn_37 : decode cX8_comeOn 37 = .ok (.isub, 1) := by decide +kernel
theorem dX8_comeOn_38 : decode cX8_comeOn 38 = .ok (.istore 4, 2) := by decide +kernel
theorem dX8_comeOn_40 : decode cX8_comeOn 40 = .ok (.aload_n 0, 1) := by decide +kernel
theorem dX8_comeOn_41 : decode cX8_comeOn 41 = .ok (.getfield 7, 3) := by decide +kernel
theorem dX8_comeOn_44 : decode cX8_comeOn 44 = .ok (.iload_n 1, 1) := by decide +kernel
theorem dX8_comeOn_45 : decode cX8_comeOn 45 = .ok (.bipush 33, 2) := by decide +kernel
theorem dX8_comeOn_47 : decode cX8_comeOn 47 = .ok (.iadd, 1) := by decide +kernel
theorem dX8_comeOn_48 : decode cX8_comeOn 48 = .ok (.iload_n 3, 1) := by decide +kernel
theorem dX8_comeOn_49 : decode cX8_comeOn 49 = .ok (.iadd, 1) := by decide +kernel
theorem dX8_comeOn_50 : decode cX8_comeOn 50 = .ok (.iaload, 1) := by decide +kernel
theorem dX8_comeOn_51 : decode cX8_comeOn 51 = .ok (.istore 5, 2) := by decide +kernel
theorem dX8_comeOn_53 : decode cX8_comeOn 53 = .ok (.iload_n 2, 1) := by decide +kernel
theorem dX8_comeOn_54 : decode cX8_comeOn 54 = .ok (.iload 4, 2) := by decide +kernel
theorem dX8_comeOn_56 : decode cX8_comeOn 56 = .ok (.ifCond .eq 21, 3) := by decide +kernel
theorem dX8_comeOn_59 : decode cX8_comeOn 59 = .ok (.iload 4, 2) := by decide +kernel
theorem dX8_comeOn_61 : decode cX8_comeOn 61 = .ok (.ifCond .le 30, 3) := by decide +kernel
theorem dX8_comeOn_64 : decode cX8_comeOn 64 = .ok (.iload 5, 2) := by decide +kernel
theorem dX8_comeOn_66 : decode cX8_comeOn 66 = .ok (.ifCond .le 25, 3) := by decide +kernel
theorem dX8_comeOn_69 : decode cX8_comeOn 69 = .ok (.iload 4, 2) := by decide +kernel
theorem dX8_comeOn_71 : decode cX8_comeOn 71 = .ok (.iload 5, 2) := by decide +kernel
theorem dX8_comeOn_73 : decode cX8_comeOn 73 = .ok (.irem, 1) := by decide +kernel
theorem dX8_comeOn_74 : decode cX8_comeOn 74 = .ok (.ifCond .ne 17, 3) := by decide +kernel
theorem dX8_comeOn_77 : decode cX8_comeOn 77 = .ok (.aload_n 0, 1) := by decide +kernel
theorem dX8_comeOn_78 : decode cX8_comeOn 78 = .ok (.getfield 7, 3) := by decide +kernel
theorem dX8_comeOn_81 : decode cX8_comeOn 81 = .ok (.iload_n 1, 1) := by decide +kernel
theorem dX8_comeOn_82 : decode cX8_comeOn 82 = .ok (.bipush 25, 2) := by decide +kernel
theorem dX8_comeOn_84 : decode cX8_comeOn 84 = .ok (.iadd, 1) := by decide +kernel
theorem dX8_comeOn_85 : decode cX8_comeOn 85 = .ok (.iload_n 3, 1) := by decide +kernel
theorem dX8_comeOn_86 : decode cX8_comeOn 86 = .ok (.iadd, 1) := by decide +kernel
theorem dX8_comeOn_87 : decode cX8_comeOn 87 = .ok (.iaload, 1) := by decide +kernel
theorem dX8_comeOn_88 : decode cX8_comeOn 88 = .ok (.goto 4, 3) := by decide +kernel
theorem dX8_comeOn_91 : decode cX8_comeOn 91 = .ok (.iconst 0, 1) := by decide +kernel
theorem dX8_comeOn_92 : decode cX8_comeOn 92 = .ok (.iadd, 1) := by decide +kernel
theorem dX8_comeOn_93 : decode cX8_comeOn 93 = .ok (.istore_n 2, 1) := by decide +kernel
theorem dX8_comeOn_94 : decode cX8_comeOn 94 = .ok (.iinc 3 1, 3) := by decide +kernel
theorem dX8_comeOn_97 : decode cX8_comeOn 97 = .ok (.goto (-93), 3) := by decide +kernel
theorem dX8_comeOn_100 : decode cX8_comeOn 100 = .ok (.iload_n 2, 1) := by decide +kernel
theorem dX8_comeOn_101 : decode cX8_comeOn 101 = .ok (.ireturn, 1) := by decide +kernel
theorem dX8_settlesOn_0 : decode cX8_settlesOn 0 = .ok (.aload_n 0, 1) := by decide +kernel
theorem dX8_settlesOn_1 : decode cX8_settlesOn 1 = .ok (.getfield 7, 3) := by decide +kernel
theorem dX8_settlesOn_4 : decode cX8_settlesOn 4 = .ok (.iload_n 1, 1) := by decide +kernel
theorem dX8_settlesOn_5 : decode cX8_settlesOn 5 = .ok (.iload_n 2, 1) := by decide +kernel
theorem dX8_settlesOn_6 : decode cX8_settlesOn 6 = .ok (.iadd, 1) := by decide +kernel
theorem dX8_settlesOn_7 : decode cX8_settlesOn 7 = .ok (.iaload, 1) := by decide +kernel
theorem dX8_settlesOn_8 : decode cX8_settlesOn 8 = .ok (.istore_n 3, 1) := by decide +kernel
theorem dX8_settlesOn_9 : decode cX8_settlesOn 9 = .ok (.aload_n 0, 1) := by decide +kernel
theorem dX8_settlesOn_10 : decode cX8_settlesOn 10 = .ok (.getfield 7, 3) := by decide +kernel
theorem dX8_settlesOn_13 : decode cX8_settlesOn 13 = .ok (.iload_n 1, 1) := by decide +kernel
theorem dX8_settlesOn_14 : decode cX8_settlesOn 14 = .ok (.bipush 8, 2) := by decide +kernel
theorem dX8_settlesOn_16 : decode cX8_settlesOn 16 = .ok (.iadd, 1) := by decide +kernel
theorem dX8_settlesOn_17 : decode cX8_settlesOn 17 = .ok (.iload_n 2, 1) := by decide +kernel
theorem dX8_settlesOn_18 : decode cX8_settlesOn 18 = .ok (.iadd, 1) := by decide +kernel
theorem dX8_settlesOn_19 : decode cX8_settlesOn 19 = .ok (.iaload, 1) := by decide +kernel
theorem dX8_settlesOn_20 : decode cX8_settlesOn 20 = .ok (.istore 4, 2) := by decide +kernel
theorem dX8_settlesOn_22 : decode cX8_settlesOn 22 = .ok (.aload_n 0, 1) := by decide +kernel
theorem dX8_settlesOn_23 : decode cX8_settlesOn 23 = .ok (.getfield 7, 3) := by decide +kernel
theorem dX8_settlesOn_26 : decode cX8_settlesOn 26 = .ok (.iload_n 1, 1) := by decide +kernel
theorem dX8_settlesOn_27 : decode cX8_settlesOn 27 = .ok (.bipush 12, 2) := by decide +kernel
theorem dX8_settlesOn_29 : decode cX8_settlesOn 29 = .ok (.iadd, 1) := by decide +kernel
theorem dX8_settlesOn_30 : decode cX8_settlesOn 30 = .ok (.iload_n 2, 1) := by decide +kernel
theorem dX8_settlesOn_31 : decode cX8_settlesOn 31 = .ok (.iadd, 1) := by decide +kernel
theorem dX8_settlesOn_32 : decode cX8_settlesOn 32 = .ok (.iaload, 1) := by decide +kernel
theorem dX8_settlesOn_33 : decode cX8_settlesOn 33 = .ok (.istore 5, 2) := by decide +kernel
theorem dX8_settlesOn_35 : decode cX8_settlesOn 35 = .ok (.aload_n 0, 1) := by decide +kernel
theorem dX8_settlesOn_36 : decode cX8_settlesOn 36 = .ok (.getfield 7, 3) := by decide +kernel
theorem dX8_settlesOn_39 : decode cX8_settlesOn 39 = .ok (.iload_n 1, 1) := by decide +kernel
theorem dX8_settlesOn_40 : decode cX8_settlesOn 40 = .ok (.iconst 4, 1) := by decide +kernel
theorem dX8_settlesOn_41 : decode cX8_settlesOn 41 = .ok (.iadd, 1) := by decide +kernel
theorem dX8_settlesOn_42 : decode cX8_settlesOn 42 = .ok (.iload_n 2, 1) := by decide +kernel
theorem dX8_settlesOn_43 : decode cX8_settlesOn 43 = .ok (.iadd, 1) := by decide +kernel
theorem dX8_settlesOn_44 : decode cX8_settlesOn 44 = .ok (.iaload, 1) := by decide +kernel
theorem dX8_settlesOn_45 : decode cX8_settlesOn 45 = .ok (.istore 6, 2) := by decide +kernel
theorem dX8_settlesOn_47 : decode cX8_settlesOn 47 = .ok (.iload_n 3, 1) := by decide +kernel
theorem dX8_settlesOn_48 : decode cX8_settlesOn 48 = .ok (.ifCond .ne 28, 3) := by decide +kernel
theorem dX8_settlesOn_51 : decode cX8_settlesOn 51 = .ok (.iload 5, 2) := by decide +kernel
theorem dX8_settlesOn_53 : decode cX8_settlesOn 53 = .ok (.iload 4, 2) := by decide +kernel
theorem dX8_settlesOn_55 : decode cX8_settlesOn 55 = .ok (.iadd, 1) := by decide +kernel
theorem dX8_settlesOn_56 : decode cX8_settlesOn 56 = .ok (.iload 6, 2) := by decide +kernel
theorem dX8_settlesOn_58 : decode cX8_settlesOn 58 = .ok (.if_icmp .le 8, 3) := by decide +kernel
theorem dX8_settlesOn_61 : decode cX8_settlesOn 61 = .ok (.iload 6, 2) := by decide +kernel
theorem dX8_settlesOn_63 : decode cX8_settlesOn 63 = .ok (.goto 8, 3) := by decide +kernel
theorem dX8_settlesOn_66 : decode cX8_settlesOn 66 = .ok (.iload 5, 2) := by decide +kernel
theorem dX8_settlesOn_68 : decode cX8_settlesOn 68 = .ok (.iload 4, 2) := by decide +kernel
theorem dX8_settlesOn_70 : decode cX8_settlesOn 70 = .ok (.iadd, 1) := by decide +kernel
theorem dX8_settlesOn_71 : decode cX8_settlesOn 71 = .ok (.istore 5, 2) := by decide +kernel
theorem dX8_settlesOn_73 : decode cX8_settlesOn 73 = .ok (.goto 66, 3) := by decide +kernel
theorem dX8_settlesOn_76 : decode cX8_settlesOn 76 = .ok (.iload_n 3, 1) := by decide +kernel
theorem dX8_settlesOn_77 : decode cX8_settlesOn 77 = .ok (.iconst 1, 1) := by decide +kernel
theorem dX8_settlesOn_78 : decode cX8_settlesOn 78 = .ok (.if_icmp .ne 24, 3) := by decide +kernel
theorem dX8_settlesOn_81 : decode cX8_settlesOn 81 = .ok (.iload 5, 2) := by decide +kernel
theorem dX8_settlesOn_83 : decode cX8_settlesOn 83 = .ok (.iload 4, 2) := by decide +kernel
theorem dX8_settlesOn_85 : decode cX8_settlesOn 85 = .ok (.if_icmp .le 11, 3) := by decide +kernel
theorem dX8_settlesOn_88 : decode cX8_settlesOn 88 = .ok (.iload 5, 2) := by decide +kernel
theorem dX8_settlesOn_90 : decode cX8_settlesOn 90 = .ok (.iload 4, 2) := by decide +kernel
theorem dX8_settlesOn_92 : decode cX8_settlesOn 92 = .ok (.isub, 1) := by decide +kernel
theorem dX8_settlesOn_93 : decode cX8_settlesOn 93 = .ok (.goto 4, 3) := by decide +kernel
theorem dX8_settlesOn_96 : decode cX8_settlesOn 96 = .ok (.iconst 0, 1) := by decide +kernel
theorem dX8_settlesOn_97 : decode cX8_settlesOn 97 = .ok (.istore 5, 2) := by decide +kernel
theorem dX8_settlesOn_99 : decode cX8_settlesOn 99 = .ok (.goto 40, 3) := by decide +kernel
theorem dX8_settlesOn_102 : decode cX8_settlesOn 102 = .ok (.iload 4, 2) := by decide +kernel
theorem dX8_settlesOn_104 : decode cX8_settlesOn 104 = .ok (.ifCond .le 35, 3) := by decide +kernel
theorem dX8_settlesOn_107 : decode cX8_settlesOn 107 = .ok (.aload_n 0, 1) := by decide +kernel
theorem dX8_settlesOn_108 : decode cX8_settlesOn 108 = .ok (.getfield 7, 3) := by decide +kernel
theorem dX8_settlesOn_111 : decode cX8_settlesOn 111 = .ok (.iload_n 1, 1) := by decide +kernel
theorem dX8_settlesOn_112 : decode cX8_settlesOn 112 = .ok (.bipush 42, 2) := by decide +kernel
theorem dX8_settlesOn_114 : decode cX8_settlesOn 114 = .ok (.iadd, 1) := by decide +kernel
theorem dX8_settlesOn_115 : decode cX8_settlesOn 115 = .ok (.iaload, 1) := by decide +kernel
theorem dX8_settlesOn_116 : decode cX8_settlesOn 116 = .ok (.iconst 1, 1) := by decide +kernel
theorem dX8_settlesOn_117 : decode cX8_settlesOn 117 = .ok (.iadd, 1) := by decide +kernel
theorem dX8_settlesOn_118 : decode cX8_settlesOn 118 = .ok (.iload 4, 2) := by decide +kernel
theorem dX8_settlesOn_120 : decode cX8_settlesOn 120 = .ok (.irem, 1) := by decide +kernel
theorem dX8_settlesOn_121 : decode cX8_settlesOn 121 = .ok (.ifCond .ne 18, 3) := by decide +kernel
theorem dX8_settlesOn_124 : decode cX8_settlesOn 124 = .ok (.iload_n 3, 1) := by decide +kernel
theorem dX8_settlesOn_125 : decode cX8_settlesOn 125 = .ok (.iconst 2, 1) := by decide +kernel
theorem dX8_settlesOn_126 : decode cX8_settlesOn 126 = .ok (.if_icmp .ne 7, 3) := by decide +kernel
theorem dX8_settlesOn_129 : decode cX8_settlesOn 129 = .ok (.iconst 0, 1) := by decide +kernel
theorem dX8_settlesOn_130 : decode cX8_settlesOn 130 = .ok (.goto 7, 3) := by decide +kernel
theorem dX8_settlesOn_133 : decode cX8_settlesOn 133 = .ok (.iload 5, 2) := by decide +kernel
theorem dX8_settlesOn_135 : decode cX8_settlesOn 135 = .ok (.iconst 2, 1) := by decide +kernel
theorem dX8_settlesOn_136 : decode cX8_settlesOn 136 = .ok (.idiv, 1) := by decide +kernel
theorem dX8_settlesOn_137 : decode cX8_settlesOn 137 = .ok (.istore 5, 2) := by decide +kernel
theorem dX8_settlesOn_139 : decode cX8_settlesOn 139 = .ok (.aload_n 0, 1) := by decide +kernel
theorem dX8_settlesOn_140 : decode cX8_settlesOn 140 = .ok (.getfield 7, 3) := by decide +kernel
theorem dX8_settlesOn_143 : decode cX8_settlesOn 143 = .ok (.iload_n 1, 1) := by decide +kernel
theorem dX8_settlesOn_144 : decode cX8_settlesOn 144 = .ok (.bipush 12, 2) := by decide +kernel
theorem dX8_settlesOn_146 : decode cX8_settlesOn 146 = .ok (.iadd, 1) := by decide +kernel
theorem dX8_settlesOn_147 : decode cX8_settlesOn 147 = .ok (.iload_n 2, 1) := by decide +kernel
theorem dX8_settlesOn_148 : decode cX8_settlesOn 148 = .ok (.iadd, 1) := by decide +kernel
theorem dX8_settlesOn_149 : decode cX8_settlesOn 149 = .ok (.iload 5, 2) := by decide +kernel
theorem dX8_settlesOn_151 : decode cX8_settlesOn 151 = .ok (.iastore, 1) := by decide +kernel
theorem dX8_settlesOn_152 : decode cX8_settlesOn 152 = .ok (.return_, 1) := by decide +kernel
set_option maxRecDepth 20000 in
theorem ggX8_tickOn_X8_passOn : GoodIn wsX8_tickOn wsX8_passOn := goodIn_r _ [11, 3, 4, 2, 12, 13, 1, 14, 15, 16, 10, 17, 22, 23, 24, 25, 26, 27, 28, 29, 30, 31, 32, 33, 34, 35, 36, 37, 38, 39, 40, 41, 42, 43, 44, 45, 46, 47, 48] (by decide +kernel) (by decide +kernel)
set_option maxRecDepth 20000 in
theorem gX8_tickOn_X8_passOn : GoodIn wsX8_tickOn (wsV RX8 137 RX8 yX8_passOn wsX8_passOn) := goodIn_app (goodIn_of _ (by decide +kernel)) ggX8_tickOn_X8_passOn
set_option maxRecDepth 20000 in
theorem ggX8_tickOn_X8_settlesOn : GoodIn wsX8_tickOn wsX8_settlesOn := goodIn_r _ [21, 3, 22, 23, 24, 25, 26, 27, 28, 29, 30, 31, 32, 33, 34, 35, 36, 37, 38, 39, 40, 41, 42, 43, 44, 45, 46, 47, 48] (by decide +kernel) (by decide +kernel)
set_option maxRecDepth 20000 in
theorem gX8_tickOn_X8_settlesOn : GoodIn wsX8_tickOn (wsV RX8 140 RX8 yX8_settlesOn wsX8_settlesOn) := goodIn_app (goodIn_of _ (by decide +kernel)) ggX8_tickOn_X8_settlesOn
theorem dX8_tickOn_0 : decode cX8_tickOn 0 = .ok (.aload_n 0, 1) := by decide +kernel
theorem dX8_tickOn_1 : decode cX8_tickOn 1 = .ok (.getfield 121, 3) := by decide +kernel
theorem dX8_tickOn_4 : decode cX8_tickOn 4 = .ok (.istore_n 3, 1) := by decide +kernel
theorem dX8_tickOn_5 : decode cX8_tickOn 5 = .ok (.aload_n 0, 1) := by decide +kernel
theorem dX8_tickOn_6 : decode cX8_tickOn 6 = .ok (.getfield 124, 3) := by decide +kernel
theorem dX8_tickOn_9 : decode cX8_tickOn 9 = .ok (.istore 4, 2) := by decide +kernel
theorem dX8_tickOn_11 : decode cX8_tickOn 11 = .ok (.iconst 0, 1) := by decide +kernel
theorem dX8_tickOn_12 : decode cX8_tickOn 12 = .ok (.istore 5, 2) := by decide +kernel
theorem dX8_tickOn_14 : decode cX8_tickOn 14 = .ok (.iload 5, 2) := by decide +kernel
theorem dX8_tickOn_16 : decode cX8_tickOn 16 = .ok (.iload_n 2, 1) := by decide +kernel
theorem dX8_tickOn_17 : decode cX8_tickOn 17 = .ok (.if_icmp .ge 15, 3) := by decide +kernel
theorem dX8_tickOn_20 : decode cX8_tickOn 20 = .ok (.aload_n 0, 1) := by decide +kernel
theorem dX8_tickOn_21 : decode cX8_tickOn 21 = .ok (.iload_n 1, 1) := by decide +kernel
theorem dX8_tickOn_22 : decode cX8_tickOn 22 = .ok (.invokevirtual 137, 3) := by decide +kernel
theorem dX8_tickOn_25 : decode cX8_tickOn 25 = .ok (.pop, 1) := by decide +kernel
theorem dX8_tickOn_26 : decode cX8_tickOn 26 = .ok (.iinc 5 1, 3) := by decide +kernel
theorem dX8_tickOn_29 : decode cX8_tickOn 29 = .ok (.goto (-15), 3) := by decide +kernel
theorem dX8_tickOn_32 : decode cX8_tickOn 32 = .ok (.iconst 0, 1) := by decide +kernel
theorem dX8_tickOn_33 : decode cX8_tickOn 33 = .ok (.istore 5, 2) := by decide +kernel
theorem dX8_tickOn_35 : decode cX8_tickOn 35 = .ok (.iload 5, 2) := by decide +kernel
theorem dX8_tickOn_37 : decode cX8_tickOn 37 = .ok (.aload_n 0, 1) := by decide +kernel
theorem dX8_tickOn_38 : decode cX8_tickOn 38 = .ok (.getfield 7, 3) := by decide +kernel
theorem dX8_tickOn_41 : decode cX8_tickOn 41 = .ok (.iload_n 1, 1) := by decide +kernel
theorem dX8_tickOn_42 : decode cX8_tickOn 42 = .ok (.bipush 16, 2) := by decide +kernel
theorem dX8_tickOn_44 : decode cX8_tickOn 44 = .ok (.iadd, 1) := by decide +kernel
theorem dX8_tickOn_45 : decode cX8_tickOn 45 = .ok (.iaload, 1) := by decide +kernel
theorem dX8_tickOn_46 : decode cX8_tickOn 46 = .ok (.if_icmp .ge 25, 3) := by decide +kernel
theorem dX8_tickOn_49 : decode cX8_tickOn 49 = .ok (.iload 5, 2) := by decide +kernel
theorem dX8_tickOn_51 : decode cX8_tickOn 51 = .ok (.aload_n 0, 1) := by decide +kernel
theorem dX8_tickOn_52 : decode cX8_tickOn 52 = .ok (.getfield 25, 3) := by decide +kernel
theorem dX8_tickOn_55 : decode cX8_tickOn 55 = .ok (.if_icmp .eq 10, 3) := by decide +kernel
theorem dX8_tickOn_58 : decode cX8_tickOn 58 = .ok (.aload_n 0, 1) := by decide +kernel
theorem dX8_tickOn_59 : decode cX8_tickOn 59 = .ok (.iload_n 1, 1) := by decide +kernel
theorem dX8_tickOn_60 : decode cX8_tickOn 60 = .ok (.iload 5, 2) := by decide +kernel
theorem dX8_tickOn_62 : decode cX8_tickOn 62 = .ok (.invokevirtual 140, 3) := by decide +kernel
theorem dX8_tickOn_65 : decode cX8_tickOn 65 = .ok (.iinc 5 1, 3) := by decide +kernel
theorem dX8_tickOn_68 : decode cX8_tickOn 68 = .ok (.goto (-33), 3) := by decide +kernel
theorem dX8_tickOn_71 : decode cX8_tickOn 71 = .ok (.aload_n 0, 1) := by decide +kernel
theorem dX8_tickOn_72 : decode cX8_tickOn 72 = .ok (.getfield 124, 3) := by decide +kernel
theorem dX8_tickOn_75 : decode cX8_tickOn 75 = .ok (.iload 4, 2) := by decide +kernel
theorem dX8_tickOn_77 : decode cX8_tickOn 77 = .ok (.isub, 1) := by decide +kernel
theorem dX8_tickOn_78 : decode cX8_tickOn 78 = .ok (.istore 5, 2) := by decide +kernel
theorem dX8_tickOn_80 : decode cX8_tickOn 80 = .ok (.aload_n 0, 1) := by decide +kernel
theorem dX8_tickOn_81 : decode cX8_tickOn 81 = .ok (.dup, 1) := by decide +kernel
theorem dX8_tickOn_82 : decode cX8_tickOn 82 = .ok (.getfield 127, 3) := by decide +kernel
theorem dX8_tickOn_85 : decode cX8_tickOn 85 = .ok (.iload 5, 2) := by decide +kernel
theorem dX8_tickOn_87 : decode cX8_tickOn 87 = .ok (.ifCond .le 7, 3) := by decide +kernel
theorem dX8_tickOn_90 : decode cX8_tickOn 90 = .ok (.iconst 1, 1) := by decide +kernel
theorem dX8_tickOn_91 : decode cX8_tickOn 91 = .ok (.goto 4, 3) := by decide +kernel
theorem dX8_tickOn_94 : decode cX8_tickOn 94 = .ok (.iconst 0, 1) := by decide +kernel
theorem dX8_tickOn_95 : decode cX8_tickOn 95 = .ok (.iadd, 1) := by decide +kernel
theorem dX8_tickOn_96 : decode cX8_tickOn 96 = .ok (.putfield 127, 3) := by decide +kernel
theorem dX8_tickOn_99 : decode cX8_tickOn 99 = .ok (.aload_n 0, 1) := by decide +kernel
theorem dX8_tickOn_100 : decode cX8_tickOn 100 = .ok (.iload 5, 2) := by decide +kernel
theorem dX8_tickOn_102 : decode cX8_tickOn 102 = .ok (.aload_n 0, 1) := by decide +kernel
theorem dX8_tickOn_103 : decode cX8_tickOn 103 = .ok (.getfield 130, 3) := by decide +kernel
theorem dX8_tickOn_106 : decode cX8_tickOn 106 = .ok (.if_icmp .le 8, 3) := by decide +kernel
theorem dX8_tickOn_109 : decode cX8_tickOn 109 = .ok (.iload 5, 2) := by decide +kernel
theorem dX8_tickOn_111 : decode cX8_tickOn 111 = .ok (.goto 7, 3) := by decide +kernel
theorem dX8_tickOn_114 : decode cX8_tickOn 114 = .ok (.aload_n 0, 1) := by decide +kernel
theorem dX8_tickOn_115 : decode cX8_tickOn 115 = .ok (.getfield 130, 3) := by decide +kernel
theorem dX8_tickOn_118 : decode cX8_tickOn 118 = .ok (.putfield 130, 3) := by decide +kernel
theorem dX8_tickOn_121 : decode cX8_tickOn 121 = .ok (.aload_n 0, 1) := by decide +kernel
theorem dX8_tickOn_122 : decode cX8_tickOn 122 = .ok (.getfield 7, 3) := by decide +kernel
theorem dX8_tickOn_125 : decode cX8_tickOn 125 = .ok (.iload_n 1, 1) := by decide +kernel
theorem dX8_tickOn_126 : decode cX8_tickOn 126 = .ok (.bipush 42, 2) := by decide +kernel
theorem dX8_tickOn_128 : decode cX8_tickOn 128 = .ok (.iadd, 1) := by decide +kernel
theorem dX8_tickOn_129 : decode cX8_tickOn 129 = .ok (.dup2, 1) := by decide +kernel
theorem dX8_tickOn_130 : decode cX8_tickOn 130 = .ok (.iaload, 1) := by decide +kernel
theorem dX8_tickOn_131 : decode cX8_tickOn 131 = .ok (.iconst 1, 1) := by decide +kernel
theorem dX8_tickOn_132 : decode cX8_tickOn 132 = .ok (.iadd, 1) := by decide +kernel
theorem dX8_tickOn_133 : decode cX8_tickOn 133 = .ok (.iastore, 1) := by decide +kernel
theorem dX8_tickOn_134 : decode cX8_tickOn 134 = .ok (.aload_n 0, 1) := by decide +kernel
theorem dX8_tickOn_135 : decode cX8_tickOn 135 = .ok (.getfield 121, 3) := by decide +kernel
theorem dX8_tickOn_138 : decode cX8_tickOn 138 = .ok (.iload_n 3, 1) := by decide +kernel
theorem dX8_tickOn_139 : decode cX8_tickOn 139 = .ok (.isub, 1) := by decide +kernel
theorem dX8_tickOn_140 : decode cX8_tickOn 140 = .ok (.ireturn, 1) := by decide +kernel
set_option maxRecDepth 20000 in
theorem ggX8_goesOn_X8_comeOn : GoodIn wsX8_goesOn wsX8_comeOn := goodIn_r _ [5, 6, 30, 31, 32, 33, 34, 35, 36, 37, 38, 39, 40, 41, 42, 43, 44, 45, 46, 47, 48, 49, 50, 51, 52, 53, 54, 55, 56] (by decide +kernel) (by decide +kernel)
set_option maxRecDepth 20000 in
theorem gX8_goesOn_X8_comeOn : GoodIn wsX8_goesOn (wsV RX8 144 RX8 yX8_comeOn wsX8_comeOn) := goodIn_app (goodIn_of _ (by decide +kernel)) ggX8_goesOn_X8_comeOn
set_option maxRecDepth 20000 in
theorem ggX8_goesOn_X8_tickOn : GoodIn wsX8_goesOn wsX8_tickOn := goodIn_r _ [10, 11, 12, 6, 13, 14, 15, 16, 17, 18, 4, 19, 20, 21, 22, 23, 24, 25, 26, 27, 28, 29, 30, 31, 32, 33, 34, 35, 36, 37, 38, 39, 40, 41, 42, 43, 44, 45, 46, 47, 48, 49, 50, 51, 52, 53, 54, 55, 56] (by decide +kernel) (by decide +kernel)
set_option maxRecDepth 20000 in
theorem gX8_goesOn_X8_tickOn : GoodIn wsX8_goesOn (wsV RX8 147 RX8 yX8_tickOn wsX8_tickOn) := goodIn_app (goodIn_of _ (by decide +kernel)) ggX8_goesOn_X8_tickOn
theorem dX8_goesOn_0 : decode cX8_goesOn 0 = .ok (.aload_n 0, 1) := by decide +kernel
theorem dX8_goesOn_1 : decode cX8_goesOn 1 = .ok (.iload_n 1, 1) := by decide +kernel
theorem dX8_goesOn_2 : decode cX8_goesOn 2 = .ok (.aload_n 0, 1) := by decide +kernel
theorem dX8_goesOn_3 : decode cX8_goesOn 3 = .ok (.iload_n 1, 1) := by decide +kernel
theorem dX8_goesOn_4 : decode cX8_goesOn 4 = .ok (.invokevirtual 144, 3) := by decide +kernel
theorem dX8_goesOn_7 : decode cX8_goesOn 7 = .ok (.invokevirtual 147, 3) := by decide +kernel
theorem dX8_goesOn_10 : decode cX8_goesOn 10 = .ok (.ireturn, 1) := by decide +kernel
theorem dX8_holdOn_0 : decode cX8_holdOn 0 = .ok (.iconst 0, 1) := by decide +kernel
theorem dX8_holdOn_1 : decode cX8_holdOn 1 = .ok (.istore_n 2, 1) := by decide +kernel
theorem dX8_holdOn_2 : decode cX8_holdOn 2 = .ok (.iconst 0, 1) := by decide +kernel
theorem dX8_holdOn_3 : decode cX8_holdOn 3 = .ok (.istore_n 3, 1) := by decide +kernel
theorem dX8_holdOn_4 : decode cX8_holdOn 4 = .ok (.iload_n 3, 1) := by decide +kernel
theorem dX8_holdOn_5 : decode cX8_holdOn 5 = .ok (.aload_n 0, 1) := by decide +kernel
theorem dX8_holdOn_6 : decode cX8_holdOn 6 = .ok (.getfield 7, 3) := by decide +kernel
theorem dX8_holdOn_9 : decode cX8_holdOn 9 = .ok (.iload_n 1, 1) := by decide +kernel
theorem dX8_holdOn_10 : decode cX8_holdOn 10 = .ok (.bipush 16, 2) := by decide +kernel
theorem dX8_holdOn_12 : decode cX8_holdOn 12 = .ok (.iadd, 1) := by decide +kernel
theorem dX8_holdOn_13 : decode cX8_holdOn 13 = .ok (.iaload, 1) := by decide +kernel
theorem dX8_holdOn_14 : decode cX8_holdOn 14 = .ok (.if_icmp .ge 23, 3) := by decide +kernel
theorem dX8_holdOn_17 : decode cX8_holdOn 17 = .ok (.iload_n 2, 1) := by decide +kernel
theorem dX8_holdOn_18 : decode cX8_holdOn 18 = .ok (.aload_n 0, 1) := by decide +kernel
theorem dX8_holdOn_19 : decode cX8_holdOn 19 = .ok (.getfield 7, 3) := by decide +kernel
theorem dX8_holdOn_22 : decode cX8_holdOn 22 = .ok (.iload_n 1, 1) := by decide +kernel
theorem dX8_holdOn_23 : decode cX8_holdOn 23 = .ok (.bipush 12, 2) := by decide +kernel
theorem dX8_holdOn_25 : decode cX8_holdOn 25 = .ok (.iadd, 1) := by decide +kernel
theorem dX8_holdOn_26 : decode cX8_holdOn 26 = .ok (.iload_n 3, 1) := by decide +kernel
theorem dX8_holdOn_27 : decode cX8_holdOn 27 = .ok (.iadd, 1) := by decide +kernel
theorem dX8_holdOn_28 : decode cX8_holdOn 28 = .ok (.iaload, 1) := by decide +kernel
theorem dX8_holdOn_29 : decode cX8_holdOn 29 = .ok (.iadd, 1) := by decide +kernel
theorem dX8_holdOn_30 : decode cX8_holdOn 30 = .ok (.istore_n 2, 1) := by decide +kernel
theorem dX8_holdOn_31 : decode cX8_holdOn 31 = .ok (.iinc 3 1, 3) := by decide +kernel
theorem dX8_holdOn_34 : decode cX8_holdOn 34 = .ok (.goto (-30), 3) := by decide +kernel
theorem dX8_holdOn_37 : decode cX8_holdOn 37 = .ok (.iload_n 2, 1) := by decide +kernel
theorem dX8_holdOn_38 : decode cX8_holdOn 38 = .ok (.ireturn, 1) := by decide +kernel
set_option maxRecDepth 20000 in
theorem ggX8_rule_X8_roomOn : GoodIn wsX8_rule wsX8_roomOn := goodIn_r _ [6, 1, 11, 12, 13, 14, 15, 16, 17, 18, 19, 20, 21, 22, 23, 24, 25, 26, 27, 28, 29, 30, 31, 32, 33, 34, 35, 36, 37] (by decide +kernel) (by decide +kernel)
set_option maxRecDepth 20000 in
theorem gX8_rule_X8_roomOn : GoodIn wsX8_rule (wsV RX8 133 RX8 yX8_roomOn wsX8_roomOn) := goodIn_app (goodIn_of _ (by decide +kernel)) ggX8_rule_X8_roomOn
set_option maxRecDepth 20000 in
theorem ggX8_rule_X8_comeOn : GoodIn wsX8_rule wsX8_comeOn := goodIn_r _ [10, 1, 11, 12, 13, 14, 15, 16, 17, 18, 19, 20, 21, 22, 23, 24, 25, 26, 27, 28, 29, 30, 31, 32, 33, 34, 35, 36, 37] (by decide +kernel) (by decide +kernel)
set_option maxRecDepth 20000 in
theorem gX8_rule_X8_comeOn : GoodIn wsX8_rule (wsV RX8 144 RX8 yX8_comeOn wsX8_comeOn) := goodIn_app (goodIn_of _ (by decide +kernel)) ggX8_rule_X8_comeOn
theorem dX8_rule_0 : decode cX8_rule 0 = .ok (.iconst 0, 1) := by decide +kernel
theorem dX8_rule_1 : decode cX8_rule 1 = .ok (.istore_n 2, 1) := by decide +kernel
theorem dX8_rule_2 : decode cX8_rule 2 = .ok (.iconst 0, 1) := by decide +kernel
theorem dX8_rule_3 : decode cX8_rule 3 = .ok (.istore_n 3, 1) := by decide +kernel
theorem dX8_rule_4 : decode cX8_rule 4 = .ok (.iload_n 3, 1) := by decide +kernel
theorem dX8_rule_5 : decode cX8_rule 5 = .ok (.aload_n 0, 1) := by decide +kernel
theorem dX8_rule_6 : decode cX8_rule 6 = .ok (.getfield 7, 3) := by decide +kernel
theorem dX8_rule_9 : decode cX8_rule 9 = .ok (.bipush 16, 2) := by decide +kernel
theorem dX8_rule_11 : decode cX8_rule 11 = .ok (.iaload, 1) := by decide +kernel
theorem dX8_rule_12 : decode cX8_rule 12 = .ok (.if_icmp .ge 28, 3) := by decide +kernel
theorem dX8_rule_15 : decode cX8_rule 15 = .ok (.iload_n 2, 1) := by decide +kernel
theorem dX8_rule_16 : decode cX8_rule 16 = .ok (.aload_n 0, 1) := by decide +kernel
theorem dX8_rule_17 : decode cX8_rule 17 = .ok (.iconst 0, 1) := by decide +kernel
theorem dX8_rule_18 : decode cX8_rule 18 = .ok (.iload_n 3, 1) := by decide +kernel
theorem dX8_rule_19 : decode cX8_rule 19 = .ok (.invokevirtual 133, 3) := by decide +kernel
theorem dX8_rule_22 : decode cX8_rule 22 = .ok (.ifCond .le 9, 3) := by decide +kernel
theorem dX8_rule_25 : decode cX8_rule 25 = .ok (.iconst 1, 1) := by decide +kernel
theorem dX8_rule_26 : decode cX8_rule 26 = .ok (.iload_n 3, 1) := by decide +kernel
theorem dX8_rule_27 : decode cX8_rule 27 = .ok (.ishl, 1) := by decide +kernel
theorem dX8_rule_28 : decode cX8_rule 28 = .ok (.goto 4, 3) := by decide +kernel
theorem dX8_rule_31 : decode cX8_rule 31 = .ok (.iconst 0, 1) := by decide +kernel
theorem dX8_rule_32 : decode cX8_rule 32 = .ok (.ior, 1) := by decide +kernel
theorem dX8_rule_33 : decode cX8_rule 33 = .ok (.istore_n 2, 1) := by decide +kernel
theorem dX8_rule_34 : decode cX8_rule 34 = .ok (.iinc 3 1, 3) := by decide +kernel
theorem dX8_rule_37 : decode cX8_rule 37 = .ok (.goto (-33), 3) := by decide +kernel
theorem dX8_rule_40 : decode cX8_rule 40 = .ok (.iload_n 1, 1) := by decide +kernel
theorem dX8_rule_41 : decode cX8_rule 41 = .ok (.tableswitch 91 0 6 #[43, 51, 59, 67, 75, 83, 89], 43) := by decide +kernel
theorem dX8_rule_84 : decode cX8_rule 84 = .ok (.aload_n 0, 1) := by decide +kernel
theorem dX8_rule_85 : decode cX8_rule 85 = .ok (.getfield 7, 3) := by decide +kernel
theorem dX8_rule_88 : decode cX8_rule 88 = .ok (.bipush 16, 2) := by decide +kernel
theorem dX8_rule_90 : decode cX8_rule 90 = .ok (.iaload, 1) := by decide +kernel
theorem dX8_rule_91 : decode cX8_rule 91 = .ok (.ireturn, 1) := by decide +kernel
theorem dX8_rule_92 : decode cX8_rule 92 = .ok (.aload_n 0, 1) := by decide +kernel
theorem dX8_rule_93 : decode cX8_rule 93 = .ok (.getfield 7, 3) := by decide +kernel
theorem dX8_rule_96 : decode cX8_rule 96 = .ok (.bipush 41, 2) := by decide +kernel
theorem dX8_rule_98 : decode cX8_rule 98 = .ok (.iaload, 1) := by decide +kernel
theorem dX8_rule_99 : decode cX8_rule 99 = .ok (.ireturn, 1) := by decide +kernel
theorem dX8_rule_100 : decode cX8_rule 100 = .ok (.aload_n 0, 1) := by decide +kernel
theorem dX8_rule_101 : decode cX8_rule 101 = .ok (.getfield 7, 3) := by decide +kernel
theorem dX8_rule_104 : decode cX8_rule 104 = .ok (.bipush 42, 2) := by decide +kernel
theorem dX8_rule_106 : decode cX8_rule 106 = .ok (.iaload, 1) := by decide +kernel
theorem dX8_rule_107 : decode cX8_rule 107 = .ok (.ireturn, 1) := by decide +kernel
theorem dX8_rule_108 : decode cX8_rule 108 = .ok (.aload_n 0, 1) := by decide +kernel
theorem dX8_rule_109 : decode cX8_rule 109 = .ok (.getfield 7, 3) := by decide +kernel
theorem dX8_rule_112 : decode cX8_rule 112 = .ok (.bipush 43, 2) := by decide +kernel
theorem dX8_rule_114 : decode cX8_rule 114 = .ok (.iaload, 1) := by decide +kernel
theorem dX8_rule_115 : decode cX8_rule 115 = .ok (.ireturn, 1) := by decide +kernel
theorem dX8_rule_116 : decode cX8_rule 116 = .ok (.aload_n 0, 1) := by decide +kernel
theorem dX8_rule_117 : decode cX8_rule 117 = .ok (.getfield 7, 3) := by decide +kernel
theorem dX8_rule_120 : decode cX8_rule 120 = .ok (.bipush 44, 2) := by decide +kernel
theorem dX8_rule_122 : decode cX8_rule 122 = .ok (.iaload, 1) := by decide +kernel
theorem dX8_rule_123 : decode cX8_rule 123 = .ok (.ireturn, 1) := by decide +kernel
theorem dX8_rule_124 : decode cX8_rule 124 = .ok (.aload_n 0, 1) := by decide +kernel
theorem dX8_rule_125 : decode cX8_rule 125 = .ok (.iconst 0, 1) := by decide +kernel
theorem dX8_rule_126 : decode cX8_rule 126 = .ok (.invokevirtual 144, 3) := by decide +kernel
theorem dX8_rule_129 : decode cX8_rule 129 = .ok (.ireturn, 1) := by decide +kernel
theorem dX8_rule_130 : decode cX8_rule 130 = .ok (.iload_n 2, 1) := by decide +kernel
theorem dX8_rule_131 : decode cX8_rule 131 = .ok (.ireturn, 1) := by decide +kernel
theorem dX8_rule_132 : decode cX8_rule 132 = .ok (.iconst (-1), 1) := by decide +kernel
theorem dX8_rule_133 : decode cX8_rule 133 = .ok (.ireturn, 1) := by decide +kernel
set_option maxRecDepth 20000 in
theorem ggX8_door_X8_isDoor : GoodIn wsX8_door wsX8_isDoor := goodIn_r _ [7, 2, 8, 9, 6, 10, 15, 16, 17, 18, 19, 20, 21, 22, 23, 24, 25, 26, 27, 28, 29, 30, 31, 32, 33, 34, 35, 36, 37, 38, 39, 40, 41] (by decide +kernel) (by decide +kernel)
set_option maxRecDepth 20000 in
theorem gX8_door_X8_isDoor : GoodIn wsX8_door (wsV RX8 150 RX8 yX8_isDoor wsX8_isDoor) := goodIn_app (goodIn_of _ (by decide +kernel)) ggX8_door_X8_isDoor
set_option maxRecDepth 20000 in
theorem ggX8_door_X8_in : GoodIn wsX8_door wsX8_in := goodIn_r _ [10] (by decide +kernel) (by decide +kernel)
set_option maxRecDepth 20000 in
theorem gX8_door_X8_in : GoodIn wsX8_door (va_wsS RX8 53 yX8_in wsX8_in) := goodIn_app (goodIn_of _ (by decide +kernel)) ggX8_door_X8_in
set_option maxRecDepth 20000 in
theorem ggX8_door_X8_roomOn : GoodIn wsX8_door wsX8_roomOn := goodIn_r _ [14, 2, 15, 16, 17, 18, 19, 20, 21, 22, 23, 24, 25, 26, 27, 28, 29, 30, 31, 32, 33, 34, 35, 36, 37, 38, 39, 40, 41] (by decide +kernel) (by decide +kernel)
set_option maxRecDepth 20000 in
theorem gX8_door_X8_roomOn : GoodIn wsX8_door (wsV RX8 133 RX8 yX8_roomOn wsX8_roomOn) := goodIn_app (goodIn_of _ (by decide +kernel)) ggX8_door_X8_roomOn
theorem dX8_door_0 : decode cX8_door 0 = .ok (.aload_n 0, 1) := by decide +kernel
theorem dX8_door_1 : decode cX8_door 1 = .ok (.iload_n 1, 1) := by decide +kernel
theorem dX8_door_2 : decode cX8_door 2 = .ok (.invokevirtual 150, 3) := by decide +kernel
theorem dX8_door_5 : decode cX8_door 5 = .ok (.ifCond .eq 15, 3) := by decide +kernel
theorem dX8_door_8 : decode cX8_door 8 = .ok (.iload_n 2, 1) := by decide +kernel
theorem dX8_door_9 : decode cX8_door 9 = .ok (.i2l, 1) := by decide +kernel
theorem dX8_door_10 : decode cX8_door 10 = .ok (.lconst 0, 1) := by decide +kernel
theorem dX8_door_11 : decode cX8_door 11 = .ok (.ldc2_w 105, 3) := by decide +kernel
theorem dX8_door_14 : decode cX8_door 14 = .ok (.invokestatic 53, 3) := by decide +kernel
theorem dX8_door_17 : decode cX8_door 17 = .ok (.ifCond .ne 5, 3) := by decide +kernel
theorem dX8_door_20 : decode cX8_door 20 = .ok (.iconst (-1), 1) := by decide +kernel
theorem dX8_door_21 : decode cX8_door 21 = .ok (.ireturn, 1) := by decide +kernel
theorem dX8_door_22 : decode cX8_door 22 = .ok (.iload_n 2, 1) := by decide +kernel
theorem dX8_door_23 : decode cX8_door 23 = .ok (.iconst 4, 1) := by decide +kernel
theorem dX8_door_24 : decode cX8_door 24 = .ok (.if_icmp .ge 16, 3) := by decide +kernel
theorem dX8_door_27 : decode cX8_door 27 = .ok (.aload_n 0, 1) := by decide +kernel
theorem dX8_door_28 : decode cX8_door 28 = .ok (.getfield 7, 3) := by decide +kernel
theorem dX8_door_31 : decode cX8_door 31 = .ok (.iconst 4, 1) := by decide +kernel
theorem dX8_door_32 : decode cX8_door 32 = .ok (.iload_n 2, 1) := by decide +kernel
theorem dX8_door_33 : decode cX8_door 33 = .ok (.imul, 1) := by decide +kernel
theorem dX8_door_34 : decode cX8_door 34 = .ok (.iload_n 1, 1) := by decide +kernel
theorem dX8_door_35 : decode cX8_door 35 = .ok (.iadd, 1) := by decide +kernel
theorem dX8_door_36 : decode cX8_door 36 = .ok (.iaload, 1) := by decide +kernel
theorem dX8_door_37 : decode cX8_door 37 = .ok (.goto 9, 3) := by decide +kernel
theorem dX8_door_40 : decode cX8_door 40 = .ok (.aload_n 0, 1) := by decide +kernel
theorem dX8_door_41 : decode cX8_door 41 = .ok (.iconst 0, 1) := by decide +kernel
theorem dX8_door_42 : decode cX8_door 42 = .ok (.iload_n 1, 1) := by decide +kernel
theorem dX8_door_43 : decode cX8_door 43 = .ok (.invokevirtual 133, 3) := by decide +kernel
theorem dX8_door_46 : decode cX8_door 46 = .ok (.ireturn, 1) := by decide +kernel
set_option maxRecDepth 20000 in
theorem ggX8_crowd_X8_isCrowd : GoodIn wsX8_crowd wsX8_isCrowd := goodIn_r _ [7, 2, 8, 9, 6, 10, 11, 12, 13, 14, 15, 16, 17, 18, 19, 20, 21, 22, 23, 24, 25, 26, 27, 28, 29, 30, 31, 32, 33, 34, 35, 36, 37] (by decide +kernel) (by decide +kernel)
set_option maxRecDepth 20000 in
theorem gX8_crowd_X8_isCrowd : GoodIn wsX8_crowd (wsV RX8 154 RX8 yX8_isCrowd wsX8_isCrowd) := goodIn_app (goodIn_of _ (by decide +kernel)) ggX8_crowd_X8_isCrowd
set_option maxRecDepth 20000 in
theorem ggX8_crowd_X8_in : GoodIn wsX8_crowd wsX8_in := goodIn_r _ [10] (by decide +kernel) (by decide +kernel)
set_option maxRecDepth 20000 in
theorem gX8_crowd_X8_in : GoodIn wsX8_crowd (va_wsS RX8 53 yX8_in wsX8_in) := goodIn_app (goodIn_of _ (by decide +kernel)) ggX8_crowd_X8_in
theorem dX8_crowd_0 : decode cX8_crowd 0 = .ok (.aload_n 0, 1) := by decide +kernel
theorem dX8_crowd_1 : decode cX8_crowd 1 = .ok (.iload_n 1, 1) := by decide +kernel
theorem dX8_crowd_2 : decode cX8_crowd 2 = .ok (.invokevirtual 154, 3) := by decide +kernel
theorem dX8_crowd_5 : decode cX8_crowd 5 = .ok (.ifCond .eq 32, 3) := by decide +kernel
theorem dX8_crowd_8 : decode cX8_crowd 8 = .ok (.iload_n 2, 1) := by decide +kernel
theorem dX8_crowd_9 : decode cX8_crowd 9 = .ok (.i2l, 1) := by decide +kernel
theorem dX8_crowd_10 : decode cX8_crowd 10 = .ok (.lconst 0, 1) := by decide +kernel
theorem dX8_crowd_11 : decode cX8_crowd 11 = .ok (.ldc2_w 157, 3) := by decide +kernel
theorem dX8_crowd_14 : decode cX8_crowd 14 = .ok (.invokestatic 53, 3) := by decide +kernel
theorem dX8_crowd_17 : decode cX8_crowd 17 = .ok (.ifCond .eq 20, 3) := by decide +kernel
theorem dX8_crowd_20 : decode cX8_crowd 20 = .ok (.aload_n 0, 1) := by decide +kernel
theorem dX8_crowd_21 : decode cX8_crowd 21 = .ok (.getfield 7, 3) := by decide +kernel
theorem dX8_crowd_24 : decode cX8_crowd 24 = .ok (.bipush 17, 2) := by decide +kernel
theorem dX8_crowd_26 : decode cX8_crowd 26 = .ok (.bipush 8, 2) := by decide +kernel
theorem dX8_crowd_28 : decode cX8_crowd 28 = .ok (.iload_n 2, 1) := by decide +kernel
theorem dX8_crowd_29 : decode cX8_crowd 29 = .ok (.imul, 1) := by decide +kernel
theorem dX8_crowd_30 : decode cX8_crowd 30 = .ok (.iadd, 1) := by decide +kernel
theorem dX8_crowd_31 : decode cX8_crowd 31 = .ok (.iload_n 1, 1) := by decide +kernel
theorem dX8_crowd_32 : decode cX8_crowd 32 = .ok (.iadd, 1) := by decide +kernel
theorem dX8_crowd_33 : decode cX8_crowd 33 = .ok (.iaload, 1) := by decide +kernel
theorem dX8_crowd_34 : decode cX8_crowd 34 = .ok (.goto 4, 3) := by decide +kernel
theorem dX8_crowd_37 : decode cX8_crowd 37 = .ok (.iconst (-1), 1) := by decide +kernel
theorem dX8_crowd_38 : decode cX8_crowd 38 = .ok (.ireturn, 1) := by decide +kernel
theorem dX8_deepOn_0 : decode cX8_deepOn 0 = .ok (.aload_n 0, 1) := by decide +kernel
theorem dX8_deepOn_1 : decode cX8_deepOn 1 = .ok (.getfield 7, 3) := by decide +kernel
theorem dX8_deepOn_4 : decode cX8_deepOn 4 = .ok (.iload_n 1, 1) := by decide +kernel
theorem dX8_deepOn_5 : decode cX8_deepOn 5 = .ok (.iconst 4, 1) := by decide +kernel
theorem dX8_deepOn_6 : decode cX8_deepOn 6 = .ok (.iadd, 1) := by decide +kernel
theorem dX8_deepOn_7 : decode cX8_deepOn 7 = .ok (.iload_n 2, 1) := by decide +kernel
theorem dX8_deepOn_8 : decode cX8_deepOn 8 = .ok (.iadd, 1) := by decide +kernel
theorem dX8_deepOn_9 : decode cX8_deepOn 9 = .ok (.iload_n 3, 1) := by decide +kernel
theorem dX8_deepOn_10 : decode cX8_deepOn 10 = .ok (.iastore, 1) := by decide +kernel
theorem dX8_deepOn_11 : decode cX8_deepOn 11 = .ok (.aload_n 0, 1) := by decide +kernel
theorem dX8_deepOn_12 : decode cX8_deepOn 12 = .ok (.getfield 7, 3) := by decide +kernel
theorem dX8_deepOn_15 : decode cX8_deepOn 15 = .ok (.iload_n 1, 1) := by decide +kernel
theorem dX8_deepOn_16 : decode cX8_deepOn 16 = .ok (.bipush 12, 2) := by decide +kernel
theorem dX8_deepOn_18 : decode cX8_deepOn 18 = .ok (.iadd, 1) := by decide +kernel
theorem dX8_deepOn_19 : decode cX8_deepOn 19 = .ok (.iload_n 2, 1) := by decide +kernel
theorem dX8_deepOn_20 : decode cX8_deepOn 20 = .ok (.iadd, 1) := by decide +kernel
theorem dX8_deepOn_21 : decode cX8_deepOn 21 = .ok (.aload_n 0, 1) := by decide +kernel
theorem dX8_deepOn_22 : decode cX8_deepOn 22 = .ok (.getfield 7, 3) := by decide +kernel
theorem dX8_deepOn_25 : decode cX8_deepOn 25 = .ok (.iload_n 1, 1) := by decide +kernel
theorem dX8_deepOn_26 : decode cX8_deepOn 26 = .ok (.bipush 12, 2) := by decide +kernel
theorem dX8_deepOn_28 : decode cX8_deepOn 28 = .ok (.iadd, 1) := by decide +kernel
theorem dX8_deepOn_29 : decode cX8_deepOn 29 = .ok (.iload_n 2, 1) := by decide +kernel
theorem dX8_deepOn_30 : decode cX8_deepOn 30 = .ok (.iadd, 1) := by decide +kernel
theorem dX8_deepOn_31 : decode cX8_deepOn 31 = .ok (.iaload, 1) := by decide +kernel
theorem dX8_deepOn_32 : decode cX8_deepOn 32 = .ok (.iload_n 3, 1) := by decide +kernel
theorem dX8_deepOn_33 : decode cX8_deepOn 33 = .ok (.if_icmp .le 7, 3) := by decide +kernel
theorem dX8_deepOn_36 : decode cX8_deepOn 36 = .ok (.iload_n 3, 1) := by decide +kernel
theorem dX8_deepOn_37 : decode cX8_deepOn 37 = .ok (.goto 14, 3) := by decide +kernel
theorem dX8_deepOn_40 : decode cX8_deepOn 40 = .ok (.aload_n 0, 1) := by decide +kernel
theorem dX8_deepOn_41 : decode cX8_deepOn 41 = .ok (.getfield 7, 3) := by decide +kernel
theorem dX8_deepOn_44 : decode cX8_deepOn 44 = .ok (.iload_n 1, 1) := by decide +kernel
theorem dX8_deepOn_45 : decode cX8_deepOn 45 = .ok (.bipush 12, 2) := by decide +kernel
theorem dX8_deepOn_47 : decode cX8_deepOn 47 = .ok (.iadd, 1) := by decide +kernel
theorem dX8_deepOn_48 : decode cX8_deepOn 48 = .ok (.iload_n 2, 1) := by decide +kernel
theorem dX8_deepOn_49 : decode cX8_deepOn 49 = .ok (.iadd, 1) := by decide +kernel
theorem dX8_deepOn_50 : decode cX8_deepOn 50 = .ok (.iaload, 1) := by decide +kernel
theorem dX8_deepOn_51 : decode cX8_deepOn 51 = .ok (.iastore, 1) := by decide +kernel
theorem dX8_deepOn_52 : decode cX8_deepOn 52 = .ok (.return_, 1) := by decide +kernel
set_option maxRecDepth 20000 in
theorem ggX8_alter_X8_in : GoodIn wsX8_alter wsX8_in := goodIn_r _ [8] (by decide +kernel) (by decide +kernel)
set_option maxRecDepth 20000 in
theorem gX8_alter_X8_in : GoodIn wsX8_alter (va_wsS RX8 53 yX8_in wsX8_in) := goodIn_app (goodIn_of _ (by decide +kernel)) ggX8_alter_X8_in
set_option maxRecDepth 20000 in
theorem ggX8_alter_X8_isDoor : GoodIn wsX8_alter wsX8_isDoor := goodIn_r _ [12, 4, 5, 6, 7, 8, 17, 18, 19, 20, 21, 22, 23, 24, 25, 26, 27, 28, 29, 30, 31, 32, 33, 34, 35, 36, 37, 38, 39, 40, 41, 42, 43] (by decide +kernel) (by decide +kernel)
set_option maxRecDepth 20000 in
theorem gX8_alter_X8_isDoor : GoodIn wsX8_alter (wsV RX8 150 RX8 yX8_isDoor wsX8_isDoor) := goodIn_app (goodIn_of _ (by decide +kernel)) ggX8_alter_X8_isDoor
set_option maxRecDepth 20000 in
theorem ggX8_alter_X8_deepOn : GoodIn wsX8_alter wsX8_deepOn := goodIn_r _ [16, 4, 17, 18, 19, 20, 21, 22, 23, 24, 25, 26, 27, 28, 29, 30, 31, 32, 33, 34, 35, 36, 37, 38, 39, 40, 41, 42, 43] (by decide +kernel) (by decide +kernel)
set_option maxRecDepth 20000 in
theorem gX8_alter_X8_deepOn : GoodIn wsX8_alter (wsV RX8 163 RX8 yX8_deepOn wsX8_deepOn) := goodIn_app (goodIn_of _ (by decide +kernel)) ggX8_alter_X8_deepOn
theorem dX8_alter_0 : decode cX8_alter 0 = .ok (.iload_n 2, 1) := by decide +kernel
theorem dX8_alter_1 : decode cX8_alter 1 = .ok (.ifCond .ne 15, 3) := by decide +kernel
theorem dX8_alter_4 : decode cX8_alter 4 = .ok (.iload_n 3, 1) := by decide +kernel
theorem dX8_alter_5 : decode cX8_alter 5 = .ok (.i2l, 1) := by decide +kernel
theorem dX8_alter_6 : decode cX8_alter 6 = .ok (.lconst 0, 1) := by decide +kernel
theorem dX8_alter_7 : decode cX8_alter 7 = .ok (.ldc2_w 159, 3) := by decide +kernel
theorem dX8_alter_10 : decode cX8_alter 10 = .ok (.invokestatic 53, 3) := by decide +kernel
theorem dX8_alter_13 : decode cX8_alter 13 = .ok (.goto 51, 3) := by decide +kernel
theorem dX8_alter_16 : decode cX8_alter 16 = .ok (.iload_n 2, 1) := by decide +kernel
theorem dX8_alter_17 : decode cX8_alter 17 = .ok (.iconst 1, 1) := by decide +kernel
theorem dX8_alter_18 : decode cX8_alter 18 = .ok (.if_icmp .ne 15, 3) := by decide +kernel
theorem dX8_alter_21 : decode cX8_alter 21 = .ok (.iload_n 3, 1) := by decide +kernel
theorem dX8_alter_22 : decode cX8_alter 22 = .ok (.i2l, 1) := by decide +kernel
theorem dX8_alter_23 : decode cX8_alter 23 = .ok (.lconst 1, 1) := by decide +kernel
theorem dX8_alter_24 : decode cX8_alter 24 = .ok (.ldc2_w 161, 3) := by decide +kernel
theorem dX8_alter_27 : decode cX8_alter 27 = .ok (.invokestatic 53, 3) := by decide +kernel
theorem dX8_alter_30 : decode cX8_alter 30 = .ok (.goto 34, 3) := by decide +kernel
theorem dX8_alter_33 : decode cX8_alter 33 = .ok (.iload_n 2, 1) := by decide +kernel
theorem dX8_alter_34 : decode cX8_alter 34 = .ok (.i2l, 1) := by decide +kernel
theorem dX8_alter_35 : decode cX8_alter 35 = .ok (.ldc2_w 157, 3) := by decide +kernel
theorem dX8_alter_38 : decode cX8_alter 38 = .ok (.ldc2_w 159, 3) := by decide +kernel
theorem dX8_alter_41 : decode cX8_alter 41 = .ok (.invokestatic 53, 3) := by decide +kernel
theorem dX8_alter_44 : decode cX8_alter 44 = .ok (.ifCond .eq 19, 3) := by decide +kernel
theorem dX8_alter_47 : decode cX8_alter 47 = .ok (.iload_n 3, 1) := by decide +kernel
theorem dX8_alter_48 : decode cX8_alter 48 = .ok (.i2l, 1) := by decide +kernel
theorem dX8_alter_49 : decode cX8_alter 49 = .ok (.lconst 0, 1) := by decide +kernel
theorem dX8_alter_50 : decode cX8_alter 50 = .ok (.ldc2_w 161, 3) := by decide +kernel
theorem dX8_alter_53 : decode cX8_alter 53 = .ok (.invokestatic 53, 3) := by decide +kernel
theorem dX8_alter_56 : decode cX8_alter 56 = .ok (.ifCond .eq 7, 3) := by decide +kernel
theorem dX8_alter_59 : decode cX8_alter 59 = .ok (.iconst 1, 1) := by decide +kernel
theorem dX8_alter_60 : decode cX8_alter 60 = .ok (.goto 4, 3) := by decide +kernel
theorem dX8_alter_63 : decode cX8_alter 63 = .ok (.iconst 0, 1) := by decide +kernel
theorem dX8_alter_64 : decode cX8_alter 64 = .ok (.istore 4, 2) := by decide +kernel
theorem dX8_alter_66 : decode cX8_alter 66 = .ok (.aload_n 0, 1) := by decide +kernel
theorem dX8_alter_67 : decode cX8_alter 67 = .ok (.iload_n 1, 1) := by decide +kernel
theorem dX8_alter_68 : decode cX8_alter 68 = .ok (.invokevirtual 150, 3) := by decide +kernel
theorem dX8_alter_71 : decode cX8_alter 71 = .ok (.ifCond .eq 8, 3) := by decide +kernel
theorem dX8_alter_74 : decode cX8_alter 74 = .ok (.iload 4, 2) := by decide +kernel
theorem dX8_alter_76 : decode cX8_alter 76 = .ok (.ifCond .ne 5, 3) := by decide +kernel
theorem dX8_alter_79 : decode cX8_alter 79 = .ok (.iconst (-1), 1) := by decide +kernel
theorem dX8_alter_80 : decode cX8_alter 80 = .ok (.ireturn, 1) := by decide +kernel
theorem dX8_alter_81 : decode cX8_alter 81 = .ok (.iload_n 2, 1) := by decide +kernel
theorem dX8_alter_82 : decode cX8_alter 82 = .ok (.iconst 3, 1) := by decide +kernel
theorem dX8_alter_83 : decode cX8_alter 83 = .ok (.if_icmp .ne 18, 3) := by decide +kernel
theorem dX8_alter_86 : decode cX8_alter 86 = .ok (.iload_n 3, 1) := by decide +kernel
theorem dX8_alter_87 : decode cX8_alter 87 = .ok (.aload_n 0, 1) := by decide +kernel
theorem dX8_alter_88 : decode cX8_alter 88 = .ok (.getfield 7, 3) := by decide +kernel
theorem dX8_alter_91 : decode cX8_alter 91 = .ok (.iconst 4, 1) := by decide +kernel
theorem dX8_alter_92 : decode cX8_alter 92 = .ok (.iload_n 1, 1) := by decide +kernel
theorem dX8_alter_93 : decode cX8_alter 93 = .ok (.iadd, 1) := by decide +kernel
theorem dX8_alter_94 : decode cX8_alter 94 = .ok (.iaload, 1) := by decide +kernel
theorem dX8_alter_95 : decode cX8_alter 95 = .ok (.if_icmp .le 6, 3) := by decide +kernel
theorem dX8_alter_98 : decode cX8_alter 98 = .ok (.bipush (-2), 2) := by decide +kernel
theorem dX8_alter_100 : decode cX8_alter 100 = .ok (.ireturn, 1) := by decide +kernel
theorem dX8_alter_101 : decode cX8_alter 101 = .ok (.aload_n 0, 1) := by decide +kernel
theorem dX8_alter_102 : decode cX8_alter 102 = .ok (.getfield 7, 3) := by decide +kernel
theorem dX8_alter_105 : decode cX8_alter 105 = .ok (.iconst 4, 1) := by decide +kernel
theorem dX8_alter_106 : decode cX8_alter 106 = .ok (.iload_n 2, 1) := by decide +kernel
theorem dX8_alter_107 : decode cX8_alter 107 = .ok (.imul, 1) := by decide +kernel
theorem dX8_alter_108 : decode cX8_alter 108 = .ok (.iload_n 1, 1) := by decide +kernel
theorem dX8_alter_109 : decode cX8_alter 109 = .ok (.iadd, 1) := by decide +kernel
theorem dX8_alter_110 : decode cX8_alter 110 = .ok (.iaload, 1) := by decide +kernel
theorem dX8_alter_111 : decode cX8_alter 111 = .ok (.istore 5, 2) := by decide +kernel
theorem dX8_alter_113 : decode cX8_alter 113 = .ok (.iload_n 2, 1) := by decide +kernel
theorem dX8_alter_114 : decode cX8_alter 114 = .ok (.iconst 1, 1) := by decide +kernel
theorem dX8_alter_115 : decode cX8_alter 115 = .ok (.if_icmp .ne 13, 3) := by decide +kernel
theorem dX8_alter_118 : decode cX8_alter 118 = .ok (.aload_n 0, 1) := by decide +kernel
theorem dX8_alter_119 : decode cX8_alter 119 = .ok (.iconst 0, 1) := by decide +kernel
theorem dX8_alter_120 : decode cX8_alter 120 = .ok (.iload_n 1, 1) := by decide +kernel
theorem dX8_alter_121 : decode cX8_alter 121 = .ok (.iload_n 3, 1) := by decide +kernel
theorem dX8_alter_122 : decode cX8_alter 122 = .ok (.invokevirtual 163, 3) := by decide +kernel
theorem dX8_alter_125 : decode cX8_alter 125 = .ok (.goto 14, 3) := by decide +kernel
theorem dX8_alter_128 : decode cX8_alter 128 = .ok (.aload_n 0, 1) := by decide +kernel
theorem dX8_alter_129 : decode cX8_alter 129 = .ok (.getfield 7, 3) := by decide +kernel
theorem dX8_alter_132 : decode cX8_alter 132 = .ok (.iconst 4, 1) := by decide +kernel
theorem dX8_alter_133 : decode cX8_alter 133 = .ok (.iload_n 2, 1) := by decide +kernel
theorem dX8_alter_134 : decode cX8_alter 134 = .ok (.imul, 1) := by decide +kernel
theorem dX8_alter_135 : decode cX8_alter 135 = .ok (.iload_n 1, 1) := by decide +kernel
theorem dX8_alter_136 : decode cX8_alter 136 = .ok (.iadd, 1) := by decide +kernel
theorem dX8_alter_137 : decode cX8_alter 137 = .ok (.iload_n 3, 1) := by decide +kernel
theorem dX8_alter_138 : decode cX8_alter 138 = .ok (.iastore, 1) := by decide +kernel
theorem dX8_alter_139 : decode cX8_alter 139 = .ok (.iload 5, 2) := by decide +kernel
theorem dX8_alter_141 : decode cX8_alter 141 = .ok (.ireturn, 1) := by decide +kernel
set_option maxRecDepth 20000 in
theorem ggX8_hang_X8_in : GoodIn wsX8_hang wsX8_in := goodIn_r _ [7] (by decide +kernel) (by decide +kernel)
set_option maxRecDepth 20000 in
theorem gX8_hang_X8_in : GoodIn wsX8_hang (va_wsS RX8 53 yX8_in wsX8_in) := goodIn_app (goodIn_of _ (by decide +kernel)) ggX8_hang_X8_in
theorem dX8_hang_0 : decode cX8_hang 0 = .ok (.iload_n 1, 1) := by decide +kernel
theorem dX8_hang_1 : decode cX8_hang 1 = .ok (.i2l, 1) := by decide +kernel
theorem dX8_hang_2 : decode cX8_hang 2 = .ok (.lconst 0, 1) := by decide +kernel
theorem dX8_hang_3 : decode cX8_hang 3 = .ok (.ldc2_w 159, 3) := by decide +kernel
theorem dX8_hang_6 : decode cX8_hang 6 = .ok (.invokestatic 53, 3) := by decide +kernel
theorem dX8_hang_9 : decode cX8_hang 9 = .ok (.ifCond .eq 27, 3) := by decide +kernel
theorem dX8_hang_12 : decode cX8_hang 12 = .ok (.iload_n 2, 1) := by decide +kernel
theorem dX8_hang_13 : decode cX8_hang 13 = .ok (.i2l, 1) := by decide +kernel
theorem dX8_hang_14 : decode cX8_hang 14 = .ok (.lconst 1, 1) := by decide +kernel
theorem dX8_hang_15 : decode cX8_hang 15 = .ok (.ldc2_w 161, 3) := by decide +kernel
theorem dX8_hang_18 : decode cX8_hang 18 = .ok (.invokestatic 53, 3) := by decide +kernel
theorem dX8_hang_21 : decode cX8_hang 21 = .ok (.ifCond .eq 15, 3) := by decide +kernel
theorem dX8_hang_24 : decode cX8_hang 24 = .ok (.iload_n 3, 1) := by decide +kernel
theorem dX8_hang_25 : decode cX8_hang 25 = .ok (.i2l, 1) := by decide +kernel
theorem dX8_hang_26 : decode cX8_hang 26 = .ok (.lconst 0, 1) := by decide +kernel
theorem dX8_hang_27 : decode cX8_hang 27 = .ok (.ldc2_w 161, 3) := by decide +kernel
theorem dX8_hang_30 : decode cX8_hang 30 = .ok (.invokestatic 53, 3) := by decide +kernel
theorem dX8_hang_33 : decode cX8_hang 33 = .ok (.ifCond .ne 5, 3) := by decide +kernel
theorem dX8_hang_36 : decode cX8_hang 36 = .ok (.iconst (-1), 1) := by decide +kernel
theorem dX8_hang_37 : decode cX8_hang 37 = .ok (.ireturn, 1) := by decide +kernel
theorem dX8_hang_38 : decode cX8_hang 38 = .ok (.aload_n 0, 1) := by decide +kernel
theorem dX8_hang_39 : decode cX8_hang 39 = .ok (.getfield 7, 3) := by decide +kernel
theorem dX8_hang_42 : decode cX8_hang 42 = .ok (.bipush 16, 2) := by decide +kernel
theorem dX8_hang_44 : decode cX8_hang 44 = .ok (.iaload, 1) := by decide +kernel
theorem dX8_hang_45 : decode cX8_hang 45 = .ok (.istore 4, 2) := by decide +kernel
theorem dX8_hang_47 : decode cX8_hang 47 = .ok (.iload 4, 2) := by decide +kernel
theorem dX8_hang_49 : decode cX8_hang 49 = .ok (.iconst 4, 1) := by decide +kernel
theorem dX8_hang_50 : decode cX8_hang 50 = .ok (.if_icmp .ne 6, 3) := by decide +kernel
theorem dX8_hang_53 : decode cX8_hang 53 = .ok (.bipush (-3), 2) := by decide +kernel
theorem dX8_hang_55 : decode cX8_hang 55 = .ok (.ireturn, 1) := by decide +kernel
theorem dX8_hang_56 : decode cX8_hang 56 = .ok (.aload_n 0, 1) := by decide +kernel
theorem dX8_hang_57 : decode cX8_hang 57 = .ok (.getfield 7, 3) := by decide +kernel
theorem dX8_hang_60 : decode cX8_hang 60 = .ok (.iload 4, 2) := by decide +kernel
theorem dX8_hang_62 : decode cX8_hang 62 = .ok (.iload_n 1, 1) := by decide +kernel
theorem dX8_hang_63 : decode cX8_hang 63 = .ok (.iastore, 1) := by decide +kernel
theorem dX8_hang_64 : decode cX8_hang 64 = .ok (.aload_n 0, 1) := by decide +kernel
theorem dX8_hang_65 : decode cX8_hang 65 = .ok (.getfield 7, 3) := by decide +kernel
theorem dX8_hang_68 : decode cX8_hang 68 = .ok (.iconst 4, 1) := by decide +kernel
theorem dX8_hang_69 : decode cX8_hang 69 = .ok (.iload 4, 2) := by decide +kernel
theorem dX8_hang_71 : decode cX8_hang 71 = .ok (.iadd, 1) := by decide +kernel
theorem dX8_hang_72 : decode cX8_hang 72 = .ok (.iload_n 2, 1) := by decide +kernel
theorem dX8_hang_73 : decode cX8_hang 73 = .ok (.iastore, 1) := by decide +kernel
theorem dX8_hang_74 : decode cX8_hang 74 = .ok (.aload_n 0, 1) := by decide +kernel
theorem dX8_hang_75 : decode cX8_hang 75 = .ok (.getfield 7, 3) := by decide +kernel
theorem dX8_hang_78 : decode cX8_hang 78 = .ok (.bipush 8, 2) := by decide +kernel
theorem dX8_hang_80 : decode cX8_hang 80 = .ok (.iload 4, 2) := by decide +kernel
theorem dX8_hang_82 : decode cX8_hang 82 = .ok (.iadd, 1) := by decide +kernel
theorem dX8_hang_83 : decode cX8_hang 83 = .ok (.iload_n 3, 1) := by decide +kernel
theorem dX8_hang_84 : decode cX8_hang 84 = .ok (.iastore, 1) := by decide +kernel
theorem dX8_hang_85 : decode cX8_hang 85 = .ok (.aload_n 0, 1) := by decide +kernel
theorem dX8_hang_86 : decode cX8_hang 86 = .ok (.getfield 7, 3) := by decide +kernel
theorem dX8_hang_89 : decode cX8_hang 89 = .ok (.bipush 12, 2) := by decide +kernel
theorem dX8_hang_91 : decode cX8_hang 91 = .ok (.iload 4, 2) := by decide +kernel
theorem dX8_hang_93 : decode cX8_hang 93 = .ok (.iadd, 1) := by decide +kernel
theorem dX8_hang_94 : decode cX8_hang 94 = .ok (.iload_n 1, 1) := by decide +kernel
theorem dX8_hang_95 : decode cX8_hang 95 = .ok (.ifCond .ne 7, 3) := by decide +kernel
theorem dX8_hang_98 : decode cX8_hang 98 = .ok (.iload_n 2, 1) := by decide +kernel
theorem dX8_hang_99 : decode cX8_hang 99 = .ok (.goto 4, 3) := by decide +kernel
theorem dX8_hang_102 : decode cX8_hang 102 = .ok (.iconst 0, 1) := by decide +kernel
theorem dX8_hang_103 : decode cX8_hang 103 = .ok (.iastore, 1) := by decide +kernel
theorem dX8_hang_104 : decode cX8_hang 104 = .ok (.aload_n 0, 1) := by decide +kernel
theorem dX8_hang_105 : decode cX8_hang 105 = .ok (.getfield 7, 3) := by decide +kernel
theorem dX8_hang_108 : decode cX8_hang 108 = .ok (.bipush 16, 2) := by decide +kernel
theorem dX8_hang_110 : decode cX8_hang 110 = .ok (.dup2, 1) := by decide +kernel
theorem dX8_hang_111 : decode cX8_hang 111 = .ok (.iaload, 1) := by decide +kernel
theorem dX8_hang_112 : decode cX8_hang 112 = .ok (.iconst 1, 1) := by decide +kernel
theorem dX8_hang_113 : decode cX8_hang 113 = .ok (.iadd, 1) := by decide +kernel
theorem dX8_hang_114 : decode cX8_hang 114 = .ok (.iastore, 1) := by decide +kernel
theorem dX8_hang_115 : decode cX8_hang 115 = .ok (.aload_n 0, 1) := by decide +kernel
theorem dX8_hang_116 : decode cX8_hang 116 = .ok (.getfield 7, 3) := by decide +kernel
theorem dX8_hang_119 : decode cX8_hang 119 = .ok (.bipush 16, 2) := by decide +kernel
theorem dX8_hang_121 : decode cX8_hang 121 = .ok (.iaload, 1) := by decide +kernel
theorem dX8_hang_122 : decode cX8_hang 122 = .ok (.ireturn, 1) := by decide +kernel
theorem dX8_puts_0 : decode cX8_puts 0 = .ok (.iload_n 1, 1) := by decide +kernel
theorem dX8_puts_1 : decode cX8_puts 1 = .ok (.ifCond .ne 5, 3) := by decide +kernel
theorem dX8_puts_4 : decode cX8_puts 4 = .ok (.iconst (-1), 1) := by decide +kernel
theorem dX8_puts_5 : decode cX8_puts 5 = .ok (.ireturn, 1) := by decide +kernel
theorem dX8_puts_6 : decode cX8_puts 6 = .ok (.aload_n 0, 1) := by decide +kernel
theorem dX8_puts_7 : decode cX8_puts 7 = .ok (.getfield 7, 3) := by decide +kernel
theorem dX8_puts_10 : decode cX8_puts 10 = .ok (.iload_n 2, 1) := by decide +kernel
theorem dX8_puts_11 : decode cX8_puts 11 = .ok (.iaload, 1) := by decide +kernel
theorem dX8_puts_12 : decode cX8_puts 12 = .ok (.istore 4, 2) := by decide +kernel
theorem dX8_puts_14 : decode cX8_puts 14 = .ok (.aload_n 0, 1) := by decide +kernel
theorem dX8_puts_15 : decode cX8_puts 15 = .ok (.getfield 7, 3) := by decide +kernel
theorem dX8_puts_18 : decode cX8_puts 18 = .ok (.iload_n 2, 1) := by decide +kernel
theorem dX8_puts_19 : decode cX8_puts 19 = .ok (.iload_n 3, 1) := by decide +kernel
theorem dX8_puts_20 : decode cX8_puts 20 = .ok (.iastore, 1) := by decide +kernel
theorem dX8_puts_21 : decode cX8_puts 21 = .ok (.iload 4, 2) := by decide +kernel
theorem dX8_puts_23 : decode cX8_puts 23 = .ok (.ireturn, 1) := by decide +kernel
set_option maxRecDepth 20000 in
theorem ggX8_cut_X8_in : GoodIn wsX8_cut wsX8_in := goodIn_r _ [5] (by decide +kernel) (by decide +kernel)
set_option maxRecDepth 20000 in
theorem gX8_cut_X8_in : GoodIn wsX8_cut (va_wsS RX8 53 yX8_in wsX8_in) := goodIn_app (goodIn_of _ (by decide +kernel)) ggX8_cut_X8_in
set_option maxRecDepth 20000 in
theorem ggX8_cut_X8_puts : GoodIn wsX8_cut wsX8_puts := goodIn_r _ [9, 1, 10, 11, 12, 13, 14, 15, 16, 17, 18, 19, 20, 21, 22, 23, 24, 25, 26, 27, 28, 29, 30, 31, 32, 33, 34, 35, 36] (by decide +kernel) (by decide +kernel)
set_option maxRecDepth 20000 in
theorem gX8_cut_X8_puts : GoodIn wsX8_cut (wsV RX8 167 RX8 yX8_puts wsX8_puts) := goodIn_app (goodIn_of _ (by decide +kernel)) ggX8_cut_X8_puts
theorem dX8_cut_0 : decode cX8_cut 0 = .ok (.aload_n 0, 1) := by decide +kernel
theorem dX8_cut_1 : decode cX8_cut 1 = .ok (.iload_n 1, 1) := by decide +kernel
theorem dX8_cut_2 : decode cX8_cut 2 = .ok (.i2l, 1) := by decide +kernel
theorem dX8_cut_3 : decode cX8_cut 3 = .ok (.lconst 0, 1) := by decide +kernel
theorem dX8_cut_4 : decode cX8_cut 4 = .ok (.aload_n 0, 1) := by decide +kernel
theorem dX8_cut_5 : decode cX8_cut 5 = .ok (.getfield 7, 3) := by decide +kernel
theorem dX8_cut_8 : decode cX8_cut 8 = .ok (.bipush 16, 2) := by decide +kernel
theorem dX8_cut_10 : decode cX8_cut 10 = .ok (.iaload, 1) := by decide +kernel
theorem dX8_cut_11 : decode cX8_cut 11 = .ok (.i2l, 1) := by decide +kernel
theorem dX8_cut_12 : decode cX8_cut 12 = .ok (.invokestatic 53, 3) := by decide +kernel
theorem dX8_cut_15 : decode cX8_cut 15 = .ok (.bipush 16, 2) := by decide +kernel
theorem dX8_cut_17 : decode cX8_cut 17 = .ok (.iload_n 1, 1) := by decide +kernel
theorem dX8_cut_18 : decode cX8_cut 18 = .ok (.invokevirtual 167, 3) := by decide +kernel
theorem dX8_cut_21 : decode cX8_cut 21 = .ok (.ireturn, 1) := by decide +kernel
set_option maxRecDepth 20000 in
theorem ggX8_comes_X8_in : GoodIn wsX8_comes wsX8_in := goodIn_r _ [7] (by decide +kernel) (by decide +kernel)
set_option maxRecDepth 20000 in
theorem gX8_comes_X8_in : GoodIn wsX8_comes (va_wsS RX8 53 yX8_in wsX8_in) := goodIn_app (goodIn_of _ (by decide +kernel)) ggX8_comes_X8_in
theorem dX8_comes_0 : decode cX8_comes 0 = .ok (.iload_n 1, 1) := by decide +kernel
theorem dX8_comes_1 : decode cX8_comes 1 = .ok (.i2l, 1) := by decide +kernel
theorem dX8_comes_2 : decode cX8_comes 2 = .ok (.lconst 0, 1) := by decide +kernel
theorem dX8_comes_3 : decode cX8_comes 3 = .ok (.ldc2_w 171, 3) := by decide +kernel
theorem dX8_comes_6 : decode cX8_comes 6 = .ok (.invokestatic 53, 3) := by decide +kernel
theorem dX8_comes_9 : decode cX8_comes 9 = .ok (.ifCond .eq 27, 3) := by decide +kernel
theorem dX8_comes_12 : decode cX8_comes 12 = .ok (.iload_n 2, 1) := by decide +kernel
theorem dX8_comes_13 : decode cX8_comes 13 = .ok (.i2l, 1) := by decide +kernel
theorem dX8_comes_14 : decode cX8_comes 14 = .ok (.lconst 1, 1) := by decide +kernel
theorem dX8_comes_15 : decode cX8_comes 15 = .ok (.ldc2_w 161, 3) := by decide +kernel
theorem dX8_comes_18 : decode cX8_comes 18 = .ok (.invokestatic 53, 3) := by decide +kernel
theorem dX8_comes_21 : decode cX8_comes 21 = .ok (.ifCond .eq 15, 3) := by decide +kernel
theorem dX8_comes_24 : decode cX8_comes 24 = .ok (.iload_n 3, 1) := by decide +kernel
theorem dX8_comes_25 : decode cX8_comes 25 = .ok (.i2l, 1) := by decide +kernel
theorem dX8_comes_26 : decode cX8_comes 26 = .ok (.lconst 0, 1) := by decide +kernel
theorem dX8_comes_27 : decode cX8_comes 27 = .ok (.ldc2_w 161, 3) := by decide +kernel
theorem dX8_comes_30 : decode cX8_comes 30 = .ok (.invokestatic 53, 3) := by decide +kernel
theorem dX8_comes_33 : decode cX8_comes 33 = .ok (.ifCond .ne 5, 3) := by decide +kernel
theorem dX8_comes_36 : decode cX8_comes 36 = .ok (.iconst (-1), 1) := by decide +kernel
theorem dX8_comes_37 : decode cX8_comes 37 = .ok (.ireturn, 1) := by decide +kernel
theorem dX8_comes_38 : decode cX8_comes 38 = .ok (.aload_n 0, 1) := by decide +kernel
theorem dX8_comes_39 : decode cX8_comes 39 = .ok (.getfield 7, 3) := by decide +kernel
theorem dX8_comes_42 : decode cX8_comes 42 = .ok (.bipush 41, 2) := by decide +kernel
theorem dX8_comes_44 : decode cX8_comes 44 = .ok (.iaload, 1) := by decide +kernel
theorem dX8_comes_45 : decode cX8_comes 45 = .ok (.istore 4, 2) := by decide +kernel
theorem dX8_comes_47 : decode cX8_comes 47 = .ok (.iload 4, 2) := by decide +kernel
theorem dX8_comes_49 : decode cX8_comes 49 = .ok (.bipush 8, 2) := by decide +kernel
theorem dX8_comes_51 : decode cX8_comes 51 = .ok (.if_icmp .ne 6, 3) := by decide +kernel
theorem dX8_comes_54 : decode cX8_comes 54 = .ok (.bipush (-3), 2) := by decide +kernel
theorem dX8_comes_56 : decode cX8_comes 56 = .ok (.ireturn, 1) := by decide +kernel
theorem dX8_comes_57 : decode cX8_comes 57 = .ok (.aload_n 0, 1) := by decide +kernel
theorem dX8_comes_58 : decode cX8_comes 58 = .ok (.getfield 7, 3) := by decide +kernel
theorem dX8_comes_61 : decode cX8_comes 61 = .ok (.bipush 17, 2) := by decide +kernel
theorem dX8_comes_63 : decode cX8_comes 63 = .ok (.iload 4, 2) := by decide +kernel
theorem dX8_comes_65 : decode cX8_comes 65 = .ok (.iadd, 1) := by decide +kernel
theorem dX8_comes_66 : decode cX8_comes 66 = .ok (.iload_n 1, 1) := by decide +kernel
theorem dX8_comes_67 : decode cX8_comes 67 = .ok (.iastore, 1) := by decide +kernel
theorem dX8_comes_68 : decode cX8_comes 68 = .ok (.aload_n 0, 1) := by decide +kernel
theorem dX8_comes_69 : decode cX8_comes 69 = .ok (.getfield 7, 3) := by decide +kernel
theorem dX8_comes_72 : decode cX8_comes 72 = .ok (.bipush 25, 2) := by decide +kernel
theorem dX8_comes_74 : decode cX8_comes 74 = .ok (.iload 4, 2) := by decide +kernel
theorem dX8_comes_76 : decode cX8_comes 76 = .ok (.iadd, 1) := by decide +kernel
theorem dX8_comes_77 : decode cX8_comes 77 = .ok (.iload_n 2, 1) := by decide +kernel
theorem dX8_comes_78 : decode cX8_comes 78 = .ok (.iastore, 1) := by decide +kernel
theorem dX8_comes_79 : decode cX8_comes 79 = .ok (.aload_n 0, 1) := by decide +kernel
theorem dX8_comes_80 : decode cX8_comes 80 = .ok (.getfield 7, 3) := by decide +kernel
theorem dX8_comes_83 : decode cX8_comes 83 = .ok (.bipush 33, 2) := by decide +kernel
theorem dX8_comes_85 : decode cX8_comes 85 = .ok (.iload 4, 2) := by decide +kernel
theorem dX8_comes_87 : decode cX8_comes 87 = .ok (.iadd, 1) := by decide +kernel
theorem dX8_comes_88 : decode cX8_comes 88 = .ok (.iload_n 3, 1) := by decide +kernel
theorem dX8_comes_89 : decode cX8_comes 89 = .ok (.iastore, 1) := by decide +kernel
theorem dX8_comes_90 : decode cX8_comes 90 = .ok (.aload_n 0, 1) := by decide +kernel
theorem dX8_comes_91 : decode cX8_comes 91 = .ok (.getfield 7, 3) := by decide +kernel
theorem dX8_comes_94 : decode cX8_comes 94 = .ok (.bipush 41, 2) := by decide +kernel
theorem dX8_comes_96 : decode cX8_comes 96 = .ok (.dup2, 1) := by decide +kernel
theorem dX8_comes_97 : decode cX8_comes 97 = .ok (.iaload, 1) := by decide +kernel
theorem dX8_comes_98 : decode cX8_comes 98 = .ok (.iconst 1, 1) := by decide +kernel
theorem dX8_comes_99 : decode cX8_comes 99 = .ok (.iadd, 1) := by decide +kernel
theorem dX8_comes_100 : decode cX8_comes 100 = .ok (.iastore, 1) := by decide +kernel
theorem dX8_comes_101 : decode cX8_comes 101 = .ok (.aload_n 0, 1) := by decide +kernel
theorem dX8_comes_102 : decode cX8_comes 102 = .ok (.getfield 7, 3) := by decide +kernel
theorem dX8_comes_105 : decode cX8_comes 105 = .ok (.bipush 41, 2) := by decide +kernel
theorem dX8_comes_107 : decode cX8_comes 107 = .ok (.iaload, 1) := by decide +kernel
theorem dX8_comes_108 : decode cX8_comes 108 = .ok (.ireturn, 1) := by decide +kernel
set_option maxRecDepth 20000 in
theorem ggX8_come_X8_comes : GoodIn wsX8_come wsX8_comes := goodIn_r _ [5, 6, 7, 8, 9, 10, 4, 11, 12, 13, 14, 15, 16, 17, 18, 19, 20, 21, 22, 23, 24, 25, 26, 27, 28, 29, 30, 31, 32, 33, 34, 35, 36, 37, 38] (by decide +kernel) (by decide +kernel)
set_option maxRecDepth 20000 in
theorem gX8_come_X8_comes : GoodIn wsX8_come (wsV RX8 173 RX8 yX8_comes wsX8_comes) := goodIn_app (goodIn_of _ (by decide +kernel)) ggX8_come_X8_comes
theorem dX8_come_0 : decode cX8_come 0 = .ok (.aload_n 0, 1) := by decide +kernel
theorem dX8_come_1 : decode cX8_come 1 = .ok (.iload_n 1, 1) := by decide +kernel
theorem dX8_come_2 : decode cX8_come 2 = .ok (.iload_n 2, 1) := by decide +kernel
theorem dX8_come_3 : decode cX8_come 3 = .ok (.iload_n 3, 1) := by decide +kernel
theorem dX8_come_4 : decode cX8_come 4 = .ok (.invokevirtual 173, 3) := by decide +kernel
theorem dX8_come_7 : decode cX8_come 7 = .ok (.ireturn, 1) := by decide +kernel
set_option maxRecDepth 20000 in
theorem ggX8_leave_X8_in : GoodIn wsX8_leave wsX8_in := goodIn_r _ [5] (by decide +kernel) (by decide +kernel)
set_option maxRecDepth 20000 in
theorem gX8_leave_X8_in : GoodIn wsX8_leave (va_wsS RX8 53 yX8_in wsX8_in) := goodIn_app (goodIn_of _ (by decide +kernel)) ggX8_leave_X8_in
