theorem dX9_after_79 : decode cX9_after 79 = .ok (.bipush 59, 2) := by decide +kernel
theorem dX9_after_81 : decode cX9_after 81 = .ok (.iconst 2, 1) := by decide +kernel
theorem dX9_after_82 : decode cX9_after 82 = .ok (.iload 5, 2) := by decide +kernel
theorem dX9_after_84 : decode cX9_after 84 = .ok (.imul, 1) := by decide +kernel
theorem dX9_after_85 : decode cX9_after 85 = .ok (.iadd, 1) := by decide +kernel
theorem dX9_after_86 : decode cX9_after 86 = .ok (.iconst 1, 1) := by decide +kernel
theorem dX9_after_87 : decode cX9_after 87 = .ok (.iadd, 1) := by decide +kernel
theorem dX9_after_88 : decode cX9_after 88 = .ok (.iaload, 1) := by decide +kernel
theorem dX9_after_89 : decode cX9_after 89 = .ok (.istore 6, 2) := by decide +kernel
theorem dX9_after_91 : decode cX9_after 91 = .ok (.aload_n 0, 1) := by decide +kernel
theorem dX9_after_92 : decode cX9_after 92 = .ok (.getfield 9, 3) := by decide +kernel
theorem dX9_after_95 : decode cX9_after 95 = .ok (.bipush 59, 2) := by decide +kernel
theorem dX9_after_97 : decode cX9_after 97 = .ok (.iconst 2, 1) := by decide +kernel
theorem dX9_after_98 : decode cX9_after 98 = .ok (.iload 5, 2) := by decide +kernel
theorem dX9_after_100 : decode cX9_after 100 = .ok (.imul, 1) := by decide +kernel
theorem dX9_after_101 : decode cX9_after 101 = .ok (.iadd, 1) := by decide +kernel
theorem dX9_after_102 : decode cX9_after 102 = .ok (.iaload, 1) := by decide +kernel
theorem dX9_after_103 : decode cX9_after 103 = .ok (.tableswitch 75 0 2 #[25, 39, 53], 25) := by decide +kernel
theorem dX9_after_128 : decode cX9_after 128 = .ok (.aload_n 0, 1) := by decide +kernel
theorem dX9_after_129 : decode cX9_after 129 = .ok (.getfield 9, 3) := by decide +kernel
theorem dX9_after_132 : decode cX9_after 132 = .ok (.bipush 24, 2) := by decide +kernel
theorem dX9_after_134 : decode cX9_after 134 = .ok (.iload 6, 2) := by decide +kernel
theorem dX9_after_136 : decode cX9_after 136 = .ok (.iadd, 1) := by decide +kernel
theorem dX9_after_137 : decode cX9_after 137 = .ok (.iconst 0, 1) := by decide +kernel
theorem dX9_after_138 : decode cX9_after 138 = .ok (.iastore, 1) := by decide +kernel
theorem dX9_after_139 : decode cX9_after 139 = .ok (.goto 47, 3) := by decide +kernel
theorem dX9_after_142 : decode cX9_after 142 = .ok (.aload_n 0, 1) := by decide +kernel
theorem dX9_after_143 : decode cX9_after 143 = .ok (.getfield 9, 3) := by decide +kernel
theorem dX9_after_146 : decode cX9_after 146 = .ok (.bipush 24, 2) := by decide +kernel
theorem dX9_after_148 : decode cX9_after 148 = .ok (.iload 6, 2) := by decide +kernel
theorem dX9_after_150 : decode cX9_after 150 = .ok (.iadd, 1) := by decide +kernel
theorem dX9_after_151 : decode cX9_after 151 = .ok (.iconst 1, 1) := by decide +kernel
theorem dX9_after_152 : decode cX9_after 152 = .ok (.iastore, 1) := by decide +kernel
theorem dX9_after_153 : decode cX9_after 153 = .ok (.goto 33, 3) := by decide +kernel
theorem dX9_after_156 : decode cX9_after 156 = .ok (.aload_n 0, 1) := by decide +kernel
theorem dX9_after_157 : decode cX9_after 157 = .ok (.getfield 9, 3) := by decide +kernel
theorem dX9_after_160 : decode cX9_after 160 = .ok (.iconst 1, 1) := by decide +kernel
theorem dX9_after_161 : decode cX9_after 161 = .ok (.iconst 0, 1) := by decide +kernel
theorem dX9_after_162 : decode cX9_after 162 = .ok (.aload_n 0, 1) := by decide +kernel
theorem dX9_after_163 : decode cX9_after 163 = .ok (.getfield 9, 3) := by decide +kernel
theorem dX9_after_166 : decode cX9_after 166 = .ok (.iconst 1, 1) := by decide +kernel
theorem dX9_after_167 : decode cX9_after 167 = .ok (.iaload, 1) := by decide +kernel
theorem dX9_after_168 : decode cX9_after 168 = .ok (.iload 6, 2) := by decide +kernel
theorem dX9_after_170 : decode cX9_after 170 = .ok (.isub, 1) := by decide +kernel
theorem dX9_after_171 : decode cX9_after 171 = .ok (.invokestatic 176, 3) := by decide +kernel
theorem dX9_after_174 : decode cX9_after 174 = .ok (.iastore, 1) := by decide +kernel
theorem dX9_after_175 : decode cX9_after 175 = .ok (.goto 11, 3) := by decide +kernel
theorem dX9_after_178 : decode cX9_after 178 = .ok (.aload_n 0, 1) := by decide +kernel
theorem dX9_after_179 : decode cX9_after 179 = .ok (.getfield 9, 3) := by decide +kernel
theorem dX9_after_182 : decode cX9_after 182 = .ok (.iconst 4, 1) := by decide +kernel
theorem dX9_after_183 : decode cX9_after 183 = .ok (.iload 6, 2) := by decide +kernel
theorem dX9_after_185 : decode cX9_after 185 = .ok (.iastore, 1) := by decide +kernel
theorem dX9_after_186 : decode cX9_after 186 = .ok (.iinc 5 1, 3) := by decide +kernel
theorem dX9_after_189 : decode cX9_after 189 = .ok (.goto (-126), 3) := by decide +kernel
theorem dX9_after_192 : decode cX9_after 192 = .ok (.aload_n 0, 1) := by decide +kernel
theorem dX9_after_193 : decode cX9_after 193 = .ok (.invokevirtual 145, 3) := by decide +kernel
theorem dX9_after_196 : decode cX9_after 196 = .ok (.iload_n 1, 1) := by decide +kernel
theorem dX9_after_197 : decode cX9_after 197 = .ok (.ifCond .ne 10, 3) := by decide +kernel
theorem dX9_after_200 : decode cX9_after 200 = .ok (.aload_n 0, 1) := by decide +kernel
theorem dX9_after_201 : decode cX9_after 201 = .ok (.invokevirtual 148, 3) := by decide +kernel
theorem dX9_after_204 : decode cX9_after 204 = .ok (.goto 19, 3) := by decide +kernel
theorem dX9_after_207 : decode cX9_after 207 = .ok (.iload_n 1, 1) := by decide +kernel
theorem dX9_after_208 : decode cX9_after 208 = .ok (.iconst 1, 1) := by decide +kernel
theorem dX9_after_209 : decode cX9_after 209 = .ok (.if_icmp .ne 10, 3) := by decide +kernel
theorem dX9_after_212 : decode cX9_after 212 = .ok (.aload_n 0, 1) := by decide +kernel
theorem dX9_after_213 : decode cX9_after 213 = .ok (.invokevirtual 139, 3) := by decide +kernel
theorem dX9_after_216 : decode cX9_after 216 = .ok (.goto 7, 3) := by decide +kernel
theorem dX9_after_219 : decode cX9_after 219 = .ok (.aload_n 0, 1) := by decide +kernel
theorem dX9_after_220 : decode cX9_after 220 = .ok (.invokevirtual 151, 3) := by decide +kernel
theorem dX9_after_223 : decode cX9_after 223 = .ok (.istore 5, 2) := by decide +kernel
theorem dX9_after_225 : decode cX9_after 225 = .ok (.aload_n 0, 1) := by decide +kernel
theorem dX9_after_226 : decode cX9_after 226 = .ok (.getfield 9, 3) := by decide +kernel
theorem dX9_after_229 : decode cX9_after 229 = .ok (.iconst 4, 1) := by decide +kernel
theorem dX9_after_230 : decode cX9_after 230 = .ok (.iload_n 2, 1) := by decide +kernel
theorem dX9_after_231 : decode cX9_after 231 = .ok (.iastore, 1) := by decide +kernel
theorem dX9_after_232 : decode cX9_after 232 = .ok (.aload_n 0, 1) := by decide +kernel
theorem dX9_after_233 : decode cX9_after 233 = .ok (.getfield 9, 3) := by decide +kernel
theorem dX9_after_236 : decode cX9_after 236 = .ok (.iconst 1, 1) := by decide +kernel
theorem dX9_after_237 : decode cX9_after 237 = .ok (.iload_n 3, 1) := by decide +kernel
theorem dX9_after_238 : decode cX9_after 238 = .ok (.iastore, 1) := by decide +kernel
theorem dX9_after_239 : decode cX9_after 239 = .ok (.iconst 0, 1) := by decide +kernel
theorem dX9_after_240 : decode cX9_after 240 = .ok (.istore 6, 2) := by decide +kernel
theorem dX9_after_242 : decode cX9_after 242 = .ok (.iload 6, 2) := by decide +kernel
theorem dX9_after_244 : decode cX9_after 244 = .ok (.bipush 12, 2) := by decide +kernel
theorem dX9_after_246 : decode cX9_after 246 = .ok (.if_icmp .ge 29, 3) := by decide +kernel
theorem dX9_after_249 : decode cX9_after 249 = .ok (.aload_n 0, 1) := by decide +kernel
theorem dX9_after_250 : decode cX9_after 250 = .ok (.getfield 9, 3) := by decide +kernel
theorem dX9_after_253 : decode cX9_after 253 = .ok (.bipush 24, 2) := by decide +kernel
theorem dX9_after_255 : decode cX9_after 255 = .ok (.iload 6, 2) := by decide +kernel
theorem dX9_after_257 : decode cX9_after 257 = .ok (.iadd, 1) := by decide +kernel
theorem dX9_after_258 : decode cX9_after 258 = .ok (.iload 4, 2) := by decide +kernel
theorem dX9_after_260 : decode cX9_after 260 = .ok (.iconst 3, 1) := by decide +kernel
theorem dX9_after_261 : decode cX9_after 261 = .ok (.irem, 1) := by decide +kernel
theorem dX9_after_262 : decode cX9_after 262 = .ok (.iastore, 1) := by decide +kernel
theorem dX9_after_263 : decode cX9_after 263 = .ok (.iload 4, 2) := by decide +kernel
theorem dX9_after_265 : decode cX9_after 265 = .ok (.iconst 3, 1) := by decide +kernel
theorem dX9_after_266 : decode cX9_after 266 = .ok (.idiv, 1) := by decide +kernel
theorem dX9_after_267 : decode cX9_after 267 = .ok (.istore 4, 2) := by decide +kernel
theorem dX9_after_269 : decode cX9_after 269 = .ok (.iinc 6 1, 3) := by decide +kernel
theorem dX9_after_272 : decode cX9_after 272 = .ok (.goto (-30), 3) := by decide +kernel
theorem dX9_after_275 : decode cX9_after 275 = .ok (.iload 5, 2) := by decide +kernel
theorem dX9_after_277 : decode cX9_after 277 = .ok (.ireturn, 1) := by decide +kernel
set_option maxRecDepth 20000 in
theorem ggX9_book_X9_within : GoodIn wsX9_book wsX9_within := goodIn_r _ [5] (by decide +kernel) (by decide +kernel)
set_option maxRecDepth 20000 in
theorem gX9_book_X9_within : GoodIn wsX9_book (va_wsS RX9 56 yX9_within wsX9_within) := goodIn_app (goodIn_of _ (by decide +kernel)) ggX9_book_X9_within
set_option maxRecDepth 20000 in
theorem ggX9_book_X9_isPlace : GoodIn wsX9_book wsX9_isPlace := goodIn_r _ [9, 1, 2, 3, 4, 5, 10, 11, 12, 13, 14, 15, 16, 17, 18, 19, 20, 21, 22, 23, 24, 25, 26, 27, 28, 29] (by decide +kernel) (by decide +kernel)
set_option maxRecDepth 20000 in
theorem gX9_book_X9_isPlace : GoodIn wsX9_book (wsV RX9 154 RX9 yX9_isPlace wsX9_isPlace) := goodIn_app (goodIn_of _ (by decide +kernel)) ggX9_book_X9_isPlace
theorem dX9_book_0 : decode cX9_book 0 = .ok (.iload_n 1, 1) := by decide +kernel
theorem dX9_book_1 : decode cX9_book 1 = .ok (.iconst (-1), 1) := by decide +kernel
theorem dX9_book_2 : decode cX9_book 2 = .ok (.if_icmp .ne 13, 3) := by decide +kernel
theorem dX9_book_5 : decode cX9_book 5 = .ok (.aload_n 0, 1) := by decide +kernel
theorem dX9_book_6 : decode cX9_book 6 = .ok (.getfield 9, 3) := by decide +kernel
theorem dX9_book_9 : decode cX9_book 9 = .ok (.bipush 7, 2) := by decide +kernel
theorem dX9_book_11 : decode cX9_book 11 = .ok (.iconst 0, 1) := by decide +kernel
theorem dX9_book_12 : decode cX9_book 12 = .ok (.iastore, 1) := by decide +kernel
theorem dX9_book_13 : decode cX9_book 13 = .ok (.iconst 0, 1) := by decide +kernel
theorem dX9_book_14 : decode cX9_book 14 = .ok (.ireturn, 1) := by decide +kernel
theorem dX9_book_15 : decode cX9_book 15 = .ok (.iload_n 1, 1) := by decide +kernel
theorem dX9_book_16 : decode cX9_book 16 = .ok (.iconst 0, 1) := by decide +kernel
theorem dX9_book_17 : decode cX9_book 17 = .ok (.sipush 192, 3) := by decide +kernel
theorem dX9_book_20 : decode cX9_book 20 = .ok (.invokestatic 56, 3) := by decide +kernel
theorem dX9_book_23 : decode cX9_book 23 = .ok (.ifCond .eq 11, 3) := by decide +kernel
theorem dX9_book_26 : decode cX9_book 26 = .ok (.aload_n 0, 1) := by decide +kernel
theorem dX9_book_27 : decode cX9_book 27 = .ok (.iload_n 2, 1) := by decide +kernel
theorem dX9_book_28 : decode cX9_book 28 = .ok (.invokevirtual 154, 3) := by decide +kernel
theorem dX9_book_31 : decode cX9_book 31 = .ok (.ifCond .ne 5, 3) := by decide +kernel
theorem dX9_book_34 : decode cX9_book 34 = .ok (.iconst (-1), 1) := by decide +kernel
theorem dX9_book_35 : decode cX9_book 35 = .ok (.ireturn, 1) := by decide +kernel
theorem dX9_book_36 : decode cX9_book 36 = .ok (.aload_n 0, 1) := by decide +kernel
theorem dX9_book_37 : decode cX9_book 37 = .ok (.getfield 9, 3) := by decide +kernel
theorem dX9_book_40 : decode cX9_book 40 = .ok (.bipush 7, 2) := by decide +kernel
theorem dX9_book_42 : decode cX9_book 42 = .ok (.iaload, 1) := by decide +kernel
theorem dX9_book_43 : decode cX9_book 43 = .ok (.bipush 8, 2) := by decide +kernel
theorem dX9_book_45 : decode cX9_book 45 = .ok (.if_icmp .ne 6, 3) := by decide +kernel
theorem dX9_book_48 : decode cX9_book 48 = .ok (.bipush (-4), 2) := by decide +kernel
theorem dX9_book_50 : decode cX9_book 50 = .ok (.ireturn, 1) := by decide +kernel
theorem dX9_book_51 : decode cX9_book 51 = .ok (.aload_n 0, 1) := by decide +kernel
theorem dX9_book_52 : decode cX9_book 52 = .ok (.getfield 9, 3) := by decide +kernel
theorem dX9_book_55 : decode cX9_book 55 = .ok (.bipush 75, 2) := by decide +kernel
theorem dX9_book_57 : decode cX9_book 57 = .ok (.iconst 2, 1) := by decide +kernel
theorem dX9_book_58 : decode cX9_book 58 = .ok (.aload_n 0, 1) := by decide +kernel
theorem dX9_book_59 : decode cX9_book 59 = .ok (.getfield 9, 3) := by decide +kernel
theorem dX9_book_62 : decode cX9_book 62 = .ok (.bipush 7, 2) := by decide +kernel
theorem dX9_book_64 : decode cX9_book 64 = .ok (.iaload, 1) := by decide +kernel
theorem dX9_book_65 : decode cX9_book 65 = .ok (.imul, 1) := by decide +kernel
theorem dX9_book_66 : decode cX9_book 66 = .ok (.iadd, 1) := by decide +kernel
theorem dX9_book_67 : decode cX9_book 67 = .ok (.iload_n 1, 1) := by decide +kernel
theorem dX9_book_68 : decode cX9_book 68 = .ok (.iastore, 1) := by decide +kernel
theorem dX9_book_69 : decode cX9_book 69 = .ok (.aload_n 0, 1) := by decide +kernel
theorem dX9_book_70 : decode cX9_book 70 = .ok (.getfield 9, 3) := by decide +kernel
theorem dX9_book_73 : decode cX9_book 73 = .ok (.bipush 75, 2) := by decide +kernel
theorem dX9_book_75 : decode cX9_book 75 = .ok (.iconst 2, 1) := by decide +kernel
theorem dX9_book_76 : decode cX9_book 76 = .ok (.aload_n 0, 1) := by decide +kernel
theorem dX9_book_77 : decode cX9_book 77 = .ok (.getfield 9, 3) := by decide +kernel
theorem dX9_book_80 : decode cX9_book 80 = .ok (.bipush 7, 2) := by decide +kernel
theorem dX9_book_82 : decode cX9_book 82 = .ok (.iaload, 1) := by decide +kernel
theorem dX9_book_83 : decode cX9_book 83 = .ok (.imul, 1) := by decide +kernel
theorem dX9_book_84 : decode cX9_book 84 = .ok (.iadd, 1) := by decide +kernel
theorem dX9_book_85 : decode cX9_book 85 = .ok (.iconst 1, 1) := by decide +kernel
theorem dX9_book_86 : decode cX9_book 86 = .ok (.iadd, 1) := by decide +kernel
theorem dX9_book_87 : decode cX9_book 87 = .ok (.iload_n 2, 1) := by decide +kernel
theorem dX9_book_88 : decode cX9_book 88 = .ok (.iastore, 1) := by decide +kernel
theorem dX9_book_89 : decode cX9_book 89 = .ok (.aload_n 0, 1) := by decide +kernel
theorem dX9_book_90 : decode cX9_book 90 = .ok (.getfield 9, 3) := by decide +kernel
theorem dX9_book_93 : decode cX9_book 93 = .ok (.bipush 7, 2) := by decide +kernel
theorem dX9_book_95 : decode cX9_book 95 = .ok (.dup2, 1) := by decide +kernel
theorem dX9_book_96 : decode cX9_book 96 = .ok (.iaload, 1) := by decide +kernel
theorem dX9_book_97 : decode cX9_book 97 = .ok (.iconst 1, 1) := by decide +kernel
theorem dX9_book_98 : decode cX9_book 98 = .ok (.iadd, 1) := by decide +kernel
theorem dX9_book_99 : decode cX9_book 99 = .ok (.dup_x2, 1) := by decide +kernel
theorem dX9_book_100 : decode cX9_book 100 = .ok (.iastore, 1) := by decide +kernel
theorem dX9_book_101 : decode cX9_book 101 = .ok (.ireturn, 1) := by decide +kernel
set_option maxRecDepth 20000 in
theorem ggX9_looked_X9_rings : GoodIn wsX9_looked wsX9_rings := goodIn_r _ [8, 1, 3, 2, 9, 10, 11, 7, 12, 13, 14, 15, 16, 17, 18, 19, 20, 21, 22, 23, 24, 25, 26, 27, 28, 29, 30, 31, 32, 33, 34, 35, 36, 37] (by decide +kernel) (by decide +kernel)
set_option maxRecDepth 20000 in
theorem gX9_looked_X9_rings : GoodIn wsX9_looked (wsV RX9 145 RX9 yX9_rings wsX9_rings) := goodIn_app (goodIn_of _ (by decide +kernel)) ggX9_looked_X9_rings
theorem dX9_looked_0 : decode cX9_looked 0 = .ok (.aload_n 0, 1) := by decide +kernel
theorem dX9_looked_1 : decode cX9_looked 1 = .ok (.invokevirtual 145, 3) := by decide +kernel
theorem dX9_looked_4 : decode cX9_looked 4 = .ok (.iconst 0, 1) := by decide +kernel
theorem dX9_looked_5 : decode cX9_looked 5 = .ok (.istore_n 1, 1) := by decide +kernel
theorem dX9_looked_6 : decode cX9_looked 6 = .ok (.iload_n 1, 1) := by decide +kernel
theorem dX9_looked_7 : decode cX9_looked 7 = .ok (.aload_n 0, 1) := by decide +kernel
theorem dX9_looked_8 : decode cX9_looked 8 = .ok (.getfield 9, 3) := by decide +kernel
theorem dX9_looked_11 : decode cX9_looked 11 = .ok (.bipush 7, 2) := by decide +kernel
theorem dX9_looked_13 : decode cX9_looked 13 = .ok (.iaload, 1) := by decide +kernel
theorem dX9_looked_14 : decode cX9_looked 14 = .ok (.if_icmp .ge 56, 3) := by decide +kernel
theorem dX9_looked_17 : decode cX9_looked 17 = .ok (.aload_n 0, 1) := by decide +kernel
theorem dX9_looked_18 : decode cX9_looked 18 = .ok (.getfield 9, 3) := by decide +kernel
theorem dX9_looked_21 : decode cX9_looked 21 = .ok (.bipush 75, 2) := by decide +kernel
theorem dX9_looked_23 : decode cX9_looked 23 = .ok (.iconst 2, 1) := by decide +kernel
theorem dX9_looked_24 : decode cX9_looked 24 = .ok (.iload_n 1, 1) := by decide +kernel
theorem dX9_looked_25 : decode cX9_looked 25 = .ok (.imul, 1) := by decide +kernel
theorem dX9_looked_26 : decode cX9_looked 26 = .ok (.iadd, 1) := by decide +kernel
theorem dX9_looked_27 : decode cX9_looked 27 = .ok (.iaload, 1) := by decide +kernel
theorem dX9_looked_28 : decode cX9_looked 28 = .ok (.istore_n 2, 1) := by decide +kernel
theorem dX9_looked_29 : decode cX9_looked 29 = .ok (.iload_n 2, 1) := by decide +kernel
theorem dX9_looked_30 : decode cX9_looked 30 = .ok (.aload_n 0, 1) := by decide +kernel
theorem dX9_looked_31 : decode cX9_looked 31 = .ok (.getfield 129, 3) := by decide +kernel
theorem dX9_looked_34 : decode cX9_looked 34 = .ok (.if_icmp .gt 28, 3) := by decide +kernel
theorem dX9_looked_37 : decode cX9_looked 37 = .ok (.aload_n 0, 1) := by decide +kernel
theorem dX9_looked_38 : decode cX9_looked 38 = .ok (.getfield 18, 3) := by decide +kernel
theorem dX9_looked_41 : decode cX9_looked 41 = .ok (.bipush 8, 2) := by decide +kernel
theorem dX9_looked_43 : decode cX9_looked 43 = .ok (.iload_n 2, 1) := by decide +kernel
theorem dX9_looked_44 : decode cX9_looked 44 = .ok (.imul, 1) := by decide +kernel
theorem dX9_looked_45 : decode cX9_looked 45 = .ok (.iaload, 1) := by decide +kernel
theorem dX9_looked_46 : decode cX9_looked 46 = .ok (.aload_n 0, 1) := by decide +kernel
theorem dX9_looked_47 : decode cX9_looked 47 = .ok (.getfield 9, 3) := by decide +kernel
theorem dX9_looked_50 : decode cX9_looked 50 = .ok (.bipush 75, 2) := by decide +kernel
theorem dX9_looked_52 : decode cX9_looked 52 = .ok (.iconst 2, 1) := by decide +kernel
theorem dX9_looked_53 : decode cX9_looked 53 = .ok (.iload_n 1, 1) := by decide +kernel
theorem dX9_looked_54 : decode cX9_looked 54 = .ok (.imul, 1) := by decide +kernel
theorem dX9_looked_55 : decode cX9_looked 55 = .ok (.iadd, 1) := by decide +kernel
theorem dX9_looked_56 : decode cX9_looked 56 = .ok (.iconst 1, 1) := by decide +kernel
theorem dX9_looked_57 : decode cX9_looked 57 = .ok (.iadd, 1) := by decide +kernel
theorem dX9_looked_58 : decode cX9_looked 58 = .ok (.iaload, 1) := by decide +kernel
theorem dX9_looked_59 : decode cX9_looked 59 = .ok (.if_icmp .eq 5, 3) := by decide +kernel
theorem dX9_looked_62 : decode cX9_looked 62 = .ok (.iload_n 1, 1) := by decide +kernel
theorem dX9_looked_63 : decode cX9_looked 63 = .ok (.ireturn, 1) := by decide +kernel
theorem dX9_looked_64 : decode cX9_looked 64 = .ok (.iinc 1 1, 3) := by decide +kernel
theorem dX9_looked_67 : decode cX9_looked 67 = .ok (.goto (-61), 3) := by decide +kernel
theorem dX9_looked_70 : decode cX9_looked 70 = .ok (.bipush (-5), 2) := by decide +kernel
theorem dX9_looked_72 : decode cX9_looked 72 = .ok (.ireturn, 1) := by decide +kernel
set_option maxRecDepth 20000 in
theorem ggX9_isTape_X9_within : GoodIn wsX9_isTape wsX9_within := goodIn_r _ [4] (by decide +kernel) (by decide +kernel)
set_option maxRecDepth 20000 in
theorem gX9_isTape_X9_within : GoodIn wsX9_isTape (va_wsS RX9 56 yX9_within wsX9_within) := goodIn_app (goodIn_of _ (by decide +kernel)) ggX9_isTape_X9_within
theorem dX9_isTape_0 : decode cX9_isTape 0 = .ok (.iload_n 0, 1) := by decide +kernel
theorem dX9_isTape_1 : decode cX9_isTape 1 = .ok (.iconst 0, 1) := by decide +kernel
theorem dX9_isTape_2 : decode cX9_isTape 2 = .ok (.iconst 5, 1) := by decide +kernel
theorem dX9_isTape_3 : decode cX9_isTape 3 = .ok (.invokestatic 56, 3) := by decide +kernel
theorem dX9_isTape_6 : decode cX9_isTape 6 = .ok (.ireturn, 1) := by decide +kernel
set_option maxRecDepth 20000 in
theorem ggX9_judge_X9_rings : GoodIn wsX9_judge wsX9_rings := goodIn_r _ [11, 3, 6, 1, 12, 13, 14, 10, 15, 16, 17, 18, 19, 20, 27, 28, 29, 30, 31, 32, 33, 34, 35, 36, 37, 38, 39, 40, 41, 42, 43, 44, 45, 46] (by decide +kernel) (by decide +kernel)
set_option maxRecDepth 20000 in
theorem gX9_judge_X9_rings : GoodIn wsX9_judge (wsV RX9 145 RX9 yX9_rings wsX9_rings) := goodIn_app (goodIn_of _ (by decide +kernel)) ggX9_judge_X9_rings
set_option maxRecDepth 20000 in
theorem ggX9_judge_X9_within : GoodIn wsX9_judge wsX9_within := goodIn_r _ [23] (by decide +kernel) (by decide +kernel)
set_option maxRecDepth 20000 in
theorem gX9_judge_X9_within : GoodIn wsX9_judge (va_wsS RX9 56 yX9_within wsX9_within) := goodIn_app (goodIn_of _ (by decide +kernel)) ggX9_judge_X9_within
set_option maxRecDepth 20000 in
theorem ggX9_judge_X9_isTape : GoodIn wsX9_judge wsX9_isTape := goodIn_r _ [26, 21, 22, 10, 23] (by decide +kernel) (by decide +kernel)
set_option maxRecDepth 20000 in
theorem gX9_judge_X9_isTape : GoodIn wsX9_judge (va_wsS RX9 181 yX9_isTape wsX9_isTape) := goodIn_app (goodIn_of _ (by decide +kernel)) ggX9_judge_X9_isTape
theorem dX9_judge_0 : decode cX9_judge 0 = .ok (.aload_n 0, 1) := by decide +kernel
theorem dX9_judge_1 : decode cX9_judge 1 = .ok (.invokevirtual 145, 3) := by decide +kernel
theorem dX9_judge_4 : decode cX9_judge 4 = .ok (.iload_n 1, 1) := by decide +kernel
theorem dX9_judge_5 : decode cX9_judge 5 = .ok (.iconst 0, 1) := by decide +kernel
theorem dX9_judge_6 : decode cX9_judge 6 = .ok (.aload_n 0, 1) := by decide +kernel
theorem dX9_judge_7 : decode cX9_judge 7 = .ok (.getfield 129, 3) := by decide +kernel
theorem dX9_judge_10 : decode cX9_judge 10 = .ok (.invokestatic 56, 3) := by decide +kernel
theorem dX9_judge_13 : decode cX9_judge 13 = .ok (.ifCond .eq 10, 3) := by decide +kernel
theorem dX9_judge_16 : decode cX9_judge 16 = .ok (.iload_n 2, 1) := by decide +kernel
theorem dX9_judge_17 : decode cX9_judge 17 = .ok (.invokestatic 181, 3) := by decide +kernel
theorem dX9_judge_20 : decode cX9_judge 20 = .ok (.ifCond .ne 5, 3) := by decide +kernel
theorem dX9_judge_23 : decode cX9_judge 23 = .ok (.iconst (-1), 1) := by decide +kernel
theorem dX9_judge_24 : decode cX9_judge 24 = .ok (.ireturn, 1) := by decide +kernel
theorem dX9_judge_25 : decode cX9_judge 25 = .ok (.aload_n 0, 1) := by decide +kernel
theorem dX9_judge_26 : decode cX9_judge 26 = .ok (.getfield 39, 3) := by decide +kernel
theorem dX9_judge_29 : decode cX9_judge 29 = .ok (.iload_n 2, 1) := by decide +kernel
theorem dX9_judge_30 : decode cX9_judge 30 = .ok (.iaload, 1) := by decide +kernel
theorem dX9_judge_31 : decode cX9_judge 31 = .ok (.iconst 1, 1) := by decide +kernel
theorem dX9_judge_32 : decode cX9_judge 32 = .ok (.if_icmp .le 6, 3) := by decide +kernel
theorem dX9_judge_35 : decode cX9_judge 35 = .ok (.bipush (-12), 2) := by decide +kernel
theorem dX9_judge_37 : decode cX9_judge 37 = .ok (.ireturn, 1) := by decide +kernel
theorem dX9_judge_38 : decode cX9_judge 38 = .ok (.aload_n 0, 1) := by decide +kernel
theorem dX9_judge_39 : decode cX9_judge 39 = .ok (.getfield 39, 3) := by decide +kernel
theorem dX9_judge_42 : decode cX9_judge 42 = .ok (.iload_n 2, 1) := by decide +kernel
theorem dX9_judge_43 : decode cX9_judge 43 = .ok (.iaload, 1) := by decide +kernel
theorem dX9_judge_44 : decode cX9_judge 44 = .ok (.ifCond .eq 7, 3) := by decide +kernel
theorem dX9_judge_47 : decode cX9_judge 47 = .ok (.iload_n 3, 1) := by decide +kernel
theorem dX9_judge_48 : decode cX9_judge 48 = .ok (.ifCond .ge 6, 3) := by decide +kernel
theorem dX9_judge_51 : decode cX9_judge 51 = .ok (.bipush 100, 2) := by decide +kernel
theorem dX9_judge_53 : decode cX9_judge 53 = .ok (.ireturn, 1) := by decide +kernel
theorem dX9_judge_54 : decode cX9_judge 54 = .ok (.iconst 0, 1) := by decide +kernel
theorem dX9_judge_55 : decode cX9_judge 55 = .ok (.istore 4, 2) := by decide +kernel
theorem dX9_judge_57 : decode cX9_judge 57 = .ok (.iload 4, 2) := by decide +kernel
theorem dX9_judge_59 : decode cX9_judge 59 = .ok (.aload_n 0, 1) := by decide +kernel
theorem dX9_judge_60 : decode cX9_judge 60 = .ok (.getfield 9, 3) := by decide +kernel
theorem dX9_judge_63 : decode cX9_judge 63 = .ok (.iconst 0, 1) := by decide +kernel
theorem dX9_judge_64 : decode cX9_judge 64 = .ok (.iaload, 1) := by decide +kernel
theorem dX9_judge_65 : decode cX9_judge 65 = .ok (.if_icmp .ge 68, 3) := by decide +kernel
theorem dX9_judge_68 : decode cX9_judge 68 = .ok (.iload_n 3, 1) := by decide +kernel
theorem dX9_judge_69 : decode cX9_judge 69 = .ok (.i2l, 1) := by decide +kernel
theorem dX9_judge_70 : decode cX9_judge 70 = .ok (.iload 4, 2) := by decide +kernel
theorem dX9_judge_72 : decode cX9_judge 72 = .ok (.i2l, 1) := by decide +kernel
theorem dX9_judge_73 : decode cX9_judge 73 = .ok (.ladd, 1) := by decide +kernel
theorem dX9_judge_74 : decode cX9_judge 74 = .ok (.aload_n 0, 1) := by decide +kernel
theorem dX9_judge_75 : decode cX9_judge 75 = .ok (.getfield 42, 3) := by decide +kernel
theorem dX9_judge_78 : decode cX9_judge 78 = .ok (.iload_n 2, 1) := by decide +kernel
theorem dX9_judge_79 : decode cX9_judge 79 = .ok (.iaload, 1) := by decide +kernel
theorem dX9_judge_80 : decode cX9_judge 80 = .ok (.i2l, 1) := by decide +kernel
theorem dX9_judge_81 : decode cX9_judge 81 = .ok (.lcmp, 1) := by decide +kernel
theorem dX9_judge_82 : decode cX9_judge 82 = .ok (.ifCond .lt 9, 3) := by decide +kernel
theorem dX9_judge_85 : decode cX9_judge 85 = .ok (.bipush 100, 2) := by decide +kernel
theorem dX9_judge_87 : decode cX9_judge 87 = .ok (.iload 4, 2) := by decide +kernel
theorem dX9_judge_89 : decode cX9_judge 89 = .ok (.iadd, 1) := by decide +kernel
theorem dX9_judge_90 : decode cX9_judge 90 = .ok (.ireturn, 1) := by decide +kernel
theorem dX9_judge_91 : decode cX9_judge 91 = .ok (.aload_n 0, 1) := by decide +kernel
theorem dX9_judge_92 : decode cX9_judge 92 = .ok (.getfield 45, 3) := by decide +kernel
theorem dX9_judge_95 : decode cX9_judge 95 = .ok (.bipush 60, 2) := by decide +kernel
theorem dX9_judge_97 : decode cX9_judge 97 = .ok (.iload_n 2, 1) := by decide +kernel
theorem dX9_judge_98 : decode cX9_judge 98 = .ok (.imul, 1) := by decide +kernel
theorem dX9_judge_99 : decode cX9_judge 99 = .ok (.iload_n 3, 1) := by decide +kernel
theorem dX9_judge_100 : decode cX9_judge 100 = .ok (.iadd, 1) := by decide +kernel
theorem dX9_judge_101 : decode cX9_judge 101 = .ok (.iload 4, 2) := by decide +kernel
theorem dX9_judge_103 : decode cX9_judge 103 = .ok (.iadd, 1) := by decide +kernel
theorem dX9_judge_104 : decode cX9_judge 104 = .ok (.laload, 1) := by decide +kernel
theorem dX9_judge_105 : decode cX9_judge 105 = .ok (.aload_n 0, 1) := by decide +kernel
theorem dX9_judge_106 : decode cX9_judge 106 = .ok (.getfield 18, 3) := by decide +kernel
theorem dX9_judge_109 : decode cX9_judge 109 = .ok (.bipush 8, 2) := by decide +kernel
theorem dX9_judge_111 : decode cX9_judge 111 = .ok (.iload_n 1, 1) := by decide +kernel
theorem dX9_judge_112 : decode cX9_judge 112 = .ok (.imul, 1) := by decide +kernel
theorem dX9_judge_113 : decode cX9_judge 113 = .ok (.iload 4, 2) := by decide +kernel
theorem dX9_judge_115 : decode cX9_judge 115 = .ok (.iadd, 1) := by decide +kernel
theorem dX9_judge_116 : decode cX9_judge 116 = .ok (.iaload, 1) := by decide +kernel
theorem dX9_judge_117 : decode cX9_judge 117 = .ok (.i2l, 1) := by decide +kernel
theorem dX9_judge_118 : decode cX9_judge 118 = .ok (.lcmp, 1) := by decide +kernel
theorem dX9_judge_119 : decode cX9_judge 119 = .ok (.ifCond .eq 8, 3) := by decide +kernel
theorem dX9_judge_122 : decode cX9_judge 122 = .ok (.iload 4, 2) := by decide +kernel
theorem dX9_judge_124 : decode cX9_judge 124 = .ok (.iconst 1, 1) := by decide +kernel
theorem dX9_judge_125 : decode cX9_judge 125 = .ok (.iadd, 1) := by decide +kernel
theorem dX9_judge_126 : decode cX9_judge 126 = .ok (.ireturn, 1) := by decide +kernel
theorem dX9_judge_127 : decode cX9_judge 127 = .ok (.iinc 4 1, 3) := by decide +kernel
theorem dX9_judge_130 : decode cX9_judge 130 = .ok (.goto (-73), 3) := by decide +kernel
theorem dX9_judge_133 : decode cX9_judge 133 = .ok (.bipush (-5), 2) := by decide +kernel
theorem dX9_judge_135 : decode cX9_judge 135 = .ok (.ireturn, 1) := by decide +kernel
theorem dX9_image_0 : decode cX9_image 0 = .ok (.aload_n 0, 1) := by decide +kernel
theorem dX9_image_1 : decode cX9_image 1 = .ok (.iconst 1, 1) := by decide +kernel
theorem dX9_image_2 : decode cX9_image 2 = .ok (.putfield 184, 3) := by decide +kernel
theorem dX9_image_5 : decode cX9_image 5 = .ok (.iconst 0, 1) := by decide +kernel
theorem dX9_image_6 : decode cX9_image 6 = .ok (.istore_n 1, 1) := by decide +kernel
theorem dX9_image_7 : decode cX9_image 7 = .ok (.iload_n 1, 1) := by decide +kernel
theorem dX9_image_8 : decode cX9_image 8 = .ok (.bipush 91, 2) := by decide +kernel
theorem dX9_image_10 : decode cX9_image 10 = .ok (.if_icmp .ge 21, 3) := by decide +kernel
theorem dX9_image_13 : decode cX9_image 13 = .ok (.aload_n 0, 1) := by decide +kernel
theorem dX9_image_14 : decode cX9_image 14 = .ok (.getfield 15, 3) := by decide +kernel
theorem dX9_image_17 : decode cX9_image 17 = .ok (.iload_n 1, 1) := by decide +kernel
theorem dX9_image_18 : decode cX9_image 18 = .ok (.aload_n 0, 1) := by decide +kernel
theorem dX9_image_19 : decode cX9_image 19 = .ok (.getfield 9, 3) := by decide +kernel
theorem dX9_image_22 : decode cX9_image 22 = .ok (.iload_n 1, 1) := by decide +kernel
theorem dX9_image_23 : decode cX9_image 23 = .ok (.iaload, 1) := by decide +kernel
theorem dX9_image_24 : decode cX9_image 24 = .ok (.iastore, 1) := by decide +kernel
theorem dX9_image_25 : decode cX9_image 25 = .ok (.iinc 1 1, 3) := by decide +kernel
theorem dX9_image_28 : decode cX9_image 28 = .ok (.goto (-21), 3) := by decide +kernel
theorem dX9_image_31 : decode cX9_image 31 = .ok (.aload_n 0, 1) := by decide +kernel
theorem dX9_image_32 : decode cX9_image 32 = .ok (.getfield 9, 3) := by decide +kernel
theorem dX9_image_35 : decode cX9_image 35 = .ok (.iconst 1, 1) := by decide +kernel
theorem dX9_image_36 : decode cX9_image 36 = .ok (.iaload, 1) := by decide +kernel
theorem dX9_image_37 : decode cX9_image 37 = .ok (.ireturn, 1) := by decide +kernel
theorem dX9_undo_0 : decode cX9_undo 0 = .ok (.aload_n 0, 1) := by decide +kernel
theorem dX9_undo_1 : decode cX9_undo 1 = .ok (.getfield 184, 3) := by decide +kernel
theorem dX9_undo_4 : decode cX9_undo 4 = .ok (.ifCond .ne 6, 3) := by decide +kernel
theorem dX9_undo_7 : decode cX9_undo 7 = .ok (.bipush (-3), 2) := by decide +kernel
theorem dX9_undo_9 : decode cX9_undo 9 = .ok (.ireturn, 1) := by decide +kernel
theorem dX9_undo_10 : decode cX9_undo 10 = .ok (.iconst 0, 1) := by decide +kernel
theorem dX9_undo_11 : decode cX9_undo 11 = .ok (.istore_n 1, 1) := by decide +kernel
theorem dX9_undo_12 : decode cX9_undo 12 = .ok (.iload_n 1, 1) := by decide +kernel
theorem dX9_undo_13 : decode cX9_undo 13 = .ok (.bipush 91, 2) := by decide +kernel
theorem dX9_undo_15 : decode cX9_undo 15 = .ok (.if_icmp .ge 21, 3) := by decide +kernel
theorem dX9_undo_18 : decode cX9_undo 18 = .ok (.aload_n 0, 1) := by decide +kernel
theorem dX9_undo_19 : decode cX9_undo 19 = .ok (.getfield 9, 3) := by decide +kernel
theorem dX9_undo_22 : decode cX9_undo 22 = .ok (.iload_n 1, 1) := by decide +kernel
theorem dX9_undo_23 : decode cX9_undo 23 = .ok (.aload_n 0, 1) := by decide +kernel
theorem dX9_undo_24 : decode cX9_undo 24 = .ok (.getfield 15, 3) := by decide +kernel
theorem dX9_undo_27 : decode cX9_undo 27 = .ok (.iload_n 1, 1) := by decide +kernel
theorem dX9_undo_28 : decode cX9_undo 28 = .ok (.iaload, 1) := by decide +kernel
theorem dX9_undo_29 : decode cX9_undo 29 = .ok (.iastore, 1) := by decide +kernel
theorem dX9_undo_30 : decode cX9_undo 30 = .ok (.iinc 1 1, 3) := by decide +kernel
theorem dX9_undo_33 : decode cX9_undo 33 = .ok (.goto (-21), 3) := by decide +kernel
theorem dX9_undo_36 : decode cX9_undo 36 = .ok (.aload_n 0, 1) := by decide +kernel
theorem dX9_undo_37 : decode cX9_undo 37 = .ok (.getfield 9, 3) := by decide +kernel
theorem dX9_undo_40 : decode cX9_undo 40 = .ok (.iconst 1, 1) := by decide +kernel
theorem dX9_undo_41 : decode cX9_undo 41 = .ok (.iaload, 1) := by decide +kernel
theorem dX9_undo_42 : decode cX9_undo 42 = .ok (.ireturn, 1) := by decide +kernel
set_option maxRecDepth 20000 in
theorem ggX9_count_X9_within : GoodIn wsX9_count wsX9_within := goodIn_r _ [6] (by decide +kernel) (by decide +kernel)
set_option maxRecDepth 20000 in
theorem gX9_count_X9_within : GoodIn wsX9_count (va_wsS RX9 56 yX9_within wsX9_within) := goodIn_app (goodIn_of _ (by decide +kernel)) ggX9_count_X9_within
theorem dX9_count_0 : decode cX9_count 0 = .ok (.iload_n 1, 1) := by decide +kernel
theorem dX9_count_1 : decode cX9_count 1 = .ok (.iconst 0, 1) := by decide +kernel
theorem dX9_count_2 : decode cX9_count 2 = .ok (.iconst 2, 1) := by decide +kernel
theorem dX9_count_3 : decode cX9_count 3 = .ok (.invokestatic 56, 3) := by decide +kernel
theorem dX9_count_6 : decode cX9_count 6 = .ok (.ifCond .eq 14, 3) := by decide +kernel
theorem dX9_count_9 : decode cX9_count 9 = .ok (.aload_n 0, 1) := by decide +kernel
theorem dX9_count_10 : decode cX9_count 10 = .ok (.getfield 9, 3) := by decide +kernel
theorem dX9_count_13 : decode cX9_count 13 = .ok (.iconst 5, 1) := by decide +kernel
theorem dX9_count_14 : decode cX9_count 14 = .ok (.iload_n 1, 1) := by decide +kernel
theorem dX9_count_15 : decode cX9_count 15 = .ok (.iadd, 1) := by decide +kernel
theorem dX9_count_16 : decode cX9_count 16 = .ok (.iaload, 1) := by decide +kernel
theorem dX9_count_17 : decode cX9_count 17 = .ok (.goto 17, 3) := by decide +kernel
theorem dX9_count_20 : decode cX9_count 20 = .ok (.iload_n 1, 1) := by decide +kernel
theorem dX9_count_21 : decode cX9_count 21 = .ok (.iconst 3, 1) := by decide +kernel
theorem dX9_count_22 : decode cX9_count 22 = .ok (.if_icmp .ne 10, 3) := by decide +kernel
theorem dX9_count_25 : decode cX9_count 25 = .ok (.aload_n 0, 1) := by decide +kernel
theorem dX9_count_26 : decode cX9_count 26 = .ok (.getfield 71, 3) := by decide +kernel
theorem dX9_count_29 : decode cX9_count 29 = .ok (.goto 5, 3) := by decide +kernel
theorem dX9_count_32 : decode cX9_count 32 = .ok (.bipush (-2), 2) := by decide +kernel
theorem dX9_count_34 : decode cX9_count 34 = .ok (.ireturn, 1) := by decide +kernel
set_option maxRecDepth 20000 in
theorem ggX9_tape_X9_isTape : GoodIn wsX9_tape wsX9_isTape := goodIn_r _ [7, 8, 9, 6, 10] (by decide +kernel) (by decide +kernel)
set_option maxRecDepth 20000 in
theorem gX9_tape_X9_isTape : GoodIn wsX9_tape (va_wsS RX9 181 yX9_isTape wsX9_isTape) := goodIn_app (goodIn_of _ (by decide +kernel)) ggX9_tape_X9_isTape
set_option maxRecDepth 20000 in
theorem ggX9_tape_X9_within : GoodIn wsX9_tape wsX9_within := goodIn_r _ [10] (by decide +kernel) (by decide +kernel)
set_option maxRecDepth 20000 in
theorem gX9_tape_X9_within : GoodIn wsX9_tape (va_wsS RX9 56 yX9_within wsX9_within) := goodIn_app (goodIn_of _ (by decide +kernel)) ggX9_tape_X9_within
theorem dX9_tape_0 : decode cX9_tape 0 = .ok (.iload_n 1, 1) := by decide +kernel
theorem dX9_tape_1 : decode cX9_tape 1 = .ok (.invokestatic 181, 3) := by decide +kernel
theorem dX9_tape_4 : decode cX9_tape 4 = .ok (.ifCond .ne 5, 3) := by decide +kernel
theorem dX9_tape_7 : decode cX9_tape 7 = .ok (.iconst (-1), 1) := by decide +kernel
theorem dX9_tape_8 : decode cX9_tape 8 = .ok (.ireturn, 1) := by decide +kernel
theorem dX9_tape_9 : decode cX9_tape 9 = .ok (.iload_n 2, 1) := by decide +kernel
theorem dX9_tape_10 : decode cX9_tape 10 = .ok (.iconst (-1), 1) := by decide +kernel
theorem dX9_tape_11 : decode cX9_tape 11 = .ok (.iconst 4, 1) := by decide +kernel
theorem dX9_tape_12 : decode cX9_tape 12 = .ok (.invokestatic 56, 3) := by decide +kernel
theorem dX9_tape_15 : decode cX9_tape 15 = .ok (.ifCond .eq 13, 3) := by decide +kernel
theorem dX9_tape_18 : decode cX9_tape 18 = .ok (.iload_n 2, 1) := by decide +kernel
theorem dX9_tape_19 : decode cX9_tape 19 = .ok (.ifCond .lt 12, 3) := by decide +kernel
theorem dX9_tape_22 : decode cX9_tape 22 = .ok (.iload_n 3, 1) := by decide +kernel
theorem dX9_tape_23 : decode cX9_tape 23 = .ok (.bipush 60, 2) := by decide +kernel
theorem dX9_tape_25 : decode cX9_tape 25 = .ok (.if_icmp .le 6, 3) := by decide +kernel
theorem dX9_tape_28 : decode cX9_tape 28 = .ok (.bipush (-2), 2) := by decide +kernel
theorem dX9_tape_30 : decode cX9_tape 30 = .ok (.ireturn, 1) := by decide +kernel
theorem dX9_tape_31 : decode cX9_tape 31 = .ok (.iload_n 2, 1) := by decide +kernel
theorem dX9_tape_32 : decode cX9_tape 32 = .ok (.ifCond .lt 10, 3) := by decide +kernel
theorem dX9_tape_35 : decode cX9_tape 35 = .ok (.iload_n 3, 1) := by decide +kernel
theorem dX9_tape_36 : decode cX9_tape 36 = .ok (.ifCond .ge 6, 3) := by decide +kernel
theorem dX9_tape_39 : decode cX9_tape 39 = .ok (.bipush (-14), 2) := by decide +kernel
theorem dX9_tape_41 : decode cX9_tape 41 = .ok (.ireturn, 1) := by decide +kernel
theorem dX9_tape_42 : decode cX9_tape 42 = .ok (.aload_n 0, 1) := by decide +kernel
theorem dX9_tape_43 : decode cX9_tape 43 = .ok (.getfield 39, 3) := by decide +kernel
theorem dX9_tape_46 : decode cX9_tape 46 = .ok (.iload_n 1, 1) := by decide +kernel
theorem dX9_tape_47 : decode cX9_tape 47 = .ok (.iload_n 2, 1) := by decide +kernel
theorem dX9_tape_48 : decode cX9_tape 48 = .ok (.iconst 1, 1) := by decide +kernel
theorem dX9_tape_49 : decode cX9_tape 49 = .ok (.iadd, 1) := by decide +kernel
theorem dX9_tape_50 : decode cX9_tape 50 = .ok (.iastore, 1) := by decide +kernel
theorem dX9_tape_51 : decode cX9_tape 51 = .ok (.aload_n 0, 1) := by decide +kernel
theorem dX9_tape_52 : decode cX9_tape 52 = .ok (.getfield 42, 3) := by decide +kernel
theorem dX9_tape_55 : decode cX9_tape 55 = .ok (.iload_n 1, 1) := by decide +kernel
theorem dX9_tape_56 : decode cX9_tape 56 = .ok (.iload_n 2, 1) := by decide +kernel
theorem dX9_tape_57 : decode cX9_tape 57 = .ok (.ifCond .ge 7, 3) := by decide +kernel
theorem dX9_tape_60 : decode cX9_tape 60 = .ok (.iconst 0, 1) := by decide +kernel
theorem dX9_tape_61 : decode cX9_tape 61 = .ok (.goto 4, 3) := by decide +kernel
theorem dX9_tape_64 : decode cX9_tape 64 = .ok (.iload_n 3, 1) := by decide +kernel
theorem dX9_tape_65 : decode cX9_tape 65 = .ok (.iastore, 1) := by decide +kernel
theorem dX9_tape_66 : decode cX9_tape 66 = .ok (.iconst 0, 1) := by decide +kernel
theorem dX9_tape_67 : decode cX9_tape 67 = .ok (.istore 4, 2) := by decide +kernel
theorem dX9_tape_69 : decode cX9_tape 69 = .ok (.iload 4, 2) := by decide +kernel
theorem dX9_tape_71 : decode cX9_tape 71 = .ok (.bipush 60, 2) := by decide +kernel
theorem dX9_tape_73 : decode cX9_tape 73 = .ok (.if_icmp .ge 22, 3) := by decide +kernel
theorem dX9_tape_76 : decode cX9_tape 76 = .ok (.aload_n 0, 1) := by decide +kernel
theorem dX9_tape_77 : decode cX9_tape 77 = .ok (.getfield 45, 3) := by decide +kernel
theorem dX9_tape_80 : decode cX9_tape 80 = .ok (.bipush 60, 2) := by decide +kernel
theorem dX9_tape_82 : decode cX9_tape 82 = .ok (.iload_n 1, 1) := by decide +kernel
theorem dX9_tape_83 : decode cX9_tape 83 = .ok (.imul, 1) := by decide +kernel
theorem dX9_tape_84 : decode cX9_tape 84 = .ok (.iload 4, 2) := by decide +kernel
theorem dX9_tape_86 : decode cX9_tape 86 = .ok (.iadd, 1) := by decide +kernel
theorem dX9_tape_87 : decode cX9_tape 87 = .ok (.lconst 0, 1) := by decide +kernel
theorem dX9_tape_88 : decode cX9_tape 88 = .ok (.lastore, 1) := by decide +kernel
theorem dX9_tape_89 : decode cX9_tape 89 = .ok (.iinc 4 1, 3) := by decide +kernel
theorem dX9_tape_92 : decode cX9_tape 92 = .ok (.goto (-23), 3) := by decide +kernel
theorem dX9_tape_95 : decode cX9_tape 95 = .ok (.iconst 1, 1) := by decide +kernel
theorem dX9_tape_96 : decode cX9_tape 96 = .ok (.ireturn, 1) := by decide +kernel
set_option maxRecDepth 20000 in
theorem ggX9_item_X9_isTape : GoodIn wsX9_item wsX9_isTape := goodIn_r _ [7, 8, 9, 6, 10] (by decide +kernel) (by decide +kernel)
set_option maxRecDepth 20000 in
theorem gX9_item_X9_isTape : GoodIn wsX9_item (va_wsS RX9 181 yX9_isTape wsX9_isTape) := goodIn_app (goodIn_of _ (by decide +kernel)) ggX9_item_X9_isTape
set_option maxRecDepth 20000 in
theorem ggX9_item_X9_within : GoodIn wsX9_item wsX9_within := goodIn_r _ [10] (by decide +kernel) (by decide +kernel)
set_option maxRecDepth 20000 in
theorem gX9_item_X9_within : GoodIn wsX9_item (va_wsS RX9 56 yX9_within wsX9_within) := goodIn_app (goodIn_of _ (by decide +kernel)) ggX9_item_X9_within
theorem dX9_item_0 : decode cX9_item 0 = .ok (.iload_n 1, 1) := by decide +kernel
theorem dX9_item_1 : decode cX9_item 1 = .ok (.invokestatic 181, 3) := by decide +kernel
theorem dX9_item_4 : decode cX9_item 4 = .ok (.ifCond .ne 5, 3) := by decide +kernel
theorem dX9_item_7 : decode cX9_item 7 = .ok (.iconst (-1), 1) := by decide +kernel
theorem dX9_item_8 : decode cX9_item 8 = .ok (.ireturn, 1) := by decide +kernel
theorem dX9_item_9 : decode cX9_item 9 = .ok (.aload_n 0, 1) := by decide +kernel
theorem dX9_item_10 : decode cX9_item 10 = .ok (.getfield 39, 3) := by decide +kernel
theorem dX9_item_13 : decode cX9_item 13 = .ok (.iload_n 1, 1) := by decide +kernel
theorem dX9_item_14 : decode cX9_item 14 = .ok (.iaload, 1) := by decide +kernel
theorem dX9_item_15 : decode cX9_item 15 = .ok (.ifCond .ne 6, 3) := by decide +kernel
theorem dX9_item_18 : decode cX9_item 18 = .ok (.bipush (-11), 2) := by decide +kernel
theorem dX9_item_20 : decode cX9_item 20 = .ok (.ireturn, 1) := by decide +kernel
theorem dX9_item_21 : decode cX9_item 21 = .ok (.iload_n 2, 1) := by decide +kernel
theorem dX9_item_22 : decode cX9_item 22 = .ok (.iconst 0, 1) := by decide +kernel
theorem dX9_item_23 : decode cX9_item 23 = .ok (.aload_n 0, 1) := by decide +kernel
theorem dX9_item_24 : decode cX9_item 24 = .ok (.getfield 42, 3) := by decide +kernel
theorem dX9_item_27 : decode cX9_item 27 = .ok (.iload_n 1, 1) := by decide +kernel
theorem dX9_item_28 : decode cX9_item 28 = .ok (.iaload, 1) := by decide +kernel
theorem dX9_item_29 : decode cX9_item 29 = .ok (.iconst 1, 1) := by decide +kernel
theorem dX9_item_30 : decode cX9_item 30 = .ok (.isub, 1) := by decide +kernel
theorem dX9_item_31 : decode cX9_item 31 = .ok (.invokestatic 56, 3) := by decide +kernel
theorem dX9_item_34 : decode cX9_item 34 = .ok (.ifCond .ne 6, 3) := by decide +kernel
theorem dX9_item_37 : decode cX9_item 37 = .ok (.bipush (-13), 2) := by decide +kernel
theorem dX9_item_39 : decode cX9_item 39 = .ok (.ireturn, 1) := by decide +kernel
theorem dX9_item_40 : decode cX9_item 40 = .ok (.aload_n 0, 1) := by decide +kernel
theorem dX9_item_41 : decode cX9_item 41 = .ok (.getfield 39, 3) := by decide +kernel
theorem dX9_item_44 : decode cX9_item 44 = .ok (.iload_n 1, 1) := by decide +kernel
theorem dX9_item_45 : decode cX9_item 45 = .ok (.iaload, 1) := by decide +kernel
theorem dX9_item_46 : decode cX9_item 46 = .ok (.istore 5, 2) := by decide +kernel
theorem dX9_item_48 : decode cX9_item 48 = .ok (.aload_n 0, 1) := by decide +kernel
theorem dX9_item_49 : decode cX9_item 49 = .ok (.getfield 45, 3) := by decide +kernel
theorem dX9_item_52 : decode cX9_item 52 = .ok (.bipush 60, 2) := by decide +kernel
theorem dX9_item_54 : decode cX9_item 54 = .ok (.iload_n 1, 1) := by decide +kernel
theorem dX9_item_55 : decode cX9_item 55 = .ok (.imul, 1) := by decide +kernel
theorem dX9_item_56 : decode cX9_item 56 = .ok (.iload_n 2, 1) := by decide +kernel
theorem dX9_item_57 : decode cX9_item 57 = .ok (.iadd, 1) := by decide +kernel
theorem dX9_item_58 : decode cX9_item 58 = .ok (.iload 5, 2) := by decide +kernel
theorem dX9_item_60 : decode cX9_item 60 = .ok (.iconst 1, 1) := by decide +kernel
theorem dX9_item_61 : decode cX9_item 61 = .ok (.if_icmp .ne 10, 3) := by decide +kernel
theorem dX9_item_64 : decode cX9_item 64 = .ok (.lload_n 3, 1) := by decide +kernel
theorem dX9_item_65 : decode cX9_item 65 = .ok (.l2i, 1) := by decide +kernel
theorem dX9_item_66 : decode cX9_item 66 = .ok (.i2b, 1) := by decide +kernel
theorem dX9_item_67 : decode cX9_item 67 = .ok (.i2l, 1) := by decide +kernel
theorem dX9_item_68 : decode cX9_item 68 = .ok (.goto 49, 3) := by decide +kernel
theorem dX9_item_71 : decode cX9_item 71 = .ok (.iload 5, 2) := by decide +kernel
theorem dX9_item_73 : decode cX9_item 73 = .ok (.iconst 2, 1) := by decide +kernel
theorem dX9_item_74 : decode cX9_item 74 = .ok (.if_icmp .ne 10, 3) := by decide +kernel
theorem dX9_item_77 : decode cX9_item 77 = .ok (.lload_n 3, 1) := by decide +kernel
theorem dX9_item_78 : decode cX9_item 78 = .ok (.l2i, 1) := by decide +kernel
theorem dX9_item_79 : decode cX9_item 79 = .ok (.i2s, 1) := by decide +kernel
theorem dX9_item_80 : decode cX9_item 80 = .ok (.i2l, 1) := by decide +kernel
theorem dX9_item_81 : decode cX9_item 81 = .ok (.goto 36, 3) := by decide +kernel
theorem dX9_item_84 : decode cX9_item 84 = .ok (.iload 5, 2) := by decide +kernel
theorem dX9_item_86 : decode cX9_item 86 = .ok (.iconst 3, 1) := by decide +kernel
theorem dX9_item_87 : decode cX9_item 87 = .ok (.if_icmp .ne 9, 3) := by decide +kernel
theorem dX9_item_90 : decode cX9_item 90 = .ok (.lload_n 3, 1) := by decide +kernel
theorem dX9_item_91 : decode cX9_item 91 = .ok (.l2i, 1) := by decide +kernel
theorem dX9_item_92 : decode cX9_item 92 = .ok (.i2l, 1) := by decide +kernel
theorem dX9_item_93 : decode cX9_item 93 = .ok (.goto 24, 3) := by decide +kernel
theorem dX9_item_96 : decode cX9_item 96 = .ok (.iload 5, 2) := by decide +kernel
theorem dX9_item_98 : decode cX9_item 98 = .ok (.iconst 4, 1) := by decide +kernel
theorem dX9_item_99 : decode cX9_item 99 = .ok (.if_icmp .ne 7, 3) := by decide +kernel
theorem dX9_item_102 : decode cX9_item 102 = .ok (.lload_n 3, 1) := by decide +kernel
theorem dX9_item_103 : decode cX9_item 103 = .ok (.goto 14, 3) := by decide +kernel
theorem dX9_item_106 : decode cX9_item 106 = .ok (.lload_n 3, 1) := by decide +kernel
theorem dX9_item_107 : decode cX9_item 107 = .ok (.lconst 0, 1) := by decide +kernel
theorem dX9_item_108 : decode cX9_item 108 = .ok (.lcmp, 1) := by decide +kernel
theorem dX9_item_109 : decode cX9_item 109 = .ok (.ifCond .eq 7, 3) := by decide +kernel
theorem dX9_item_112 : decode cX9_item 112 = .ok (.lconst 1, 1) := by decide +kernel
theorem dX9_item_113 : decode cX9_item 113 = .ok (.goto 4, 3) := by decide +kernel
theorem dX9_item_116 : decode cX9_item 116 = .ok (.lconst 0, 1) := by decide +kernel
theorem dX9_item_117 : decode cX9_item 117 = .ok (.lastore, 1) := by decide +kernel
theorem dX9_item_118 : decode cX9_item 118 = .ok (.iconst 1, 1) := by decide +kernel
theorem dX9_item_119 : decode cX9_item 119 = .ok (.ireturn, 1) := by decide +kernel
set_option maxRecDepth 20000 in
theorem ggX9_peek_X9_isTape : GoodIn wsX9_peek wsX9_isTape := goodIn_r _ [7, 8, 9, 6, 10] (by decide +kernel) (by decide +kernel)
set_option maxRecDepth 20000 in
theorem gX9_peek_X9_isTape : GoodIn wsX9_peek (va_wsS RX9 181 yX9_isTape wsX9_isTape) := goodIn_app (goodIn_of _ (by decide +kernel)) ggX9_peek_X9_isTape
set_option maxRecDepth 20000 in
theorem ggX9_peek_X9_within : GoodIn wsX9_peek wsX9_within := goodIn_r _ [10] (by decide +kernel) (by decide +kernel)
set_option maxRecDepth 20000 in
theorem gX9_peek_X9_within : GoodIn wsX9_peek (va_wsS RX9 56 yX9_within wsX9_within) := goodIn_app (goodIn_of _ (by decide +kernel)) ggX9_peek_X9_within
theorem dX9_peek_0 : decode cX9_peek 0 = .ok (.iload_n 1, 1) := by decide +kernel
theorem dX9_peek_1 : decode cX9_peek 1 = .ok (.invokestatic 181, 3) := by decide +kernel
theorem dX9_peek_4 : decode cX9_peek 4 = .ok (.ifCond .eq 33, 3) := by decide +kernel
theorem dX9_peek_7 : decode cX9_peek 7 = .ok (.iload_n 2, 1) := by decide +kernel
theorem dX9_peek_8 : decode cX9_peek 8 = .ok (.iconst 0, 1) := by decide +kernel
theorem dX9_peek_9 : decode cX9_peek 9 = .ok (.aload_n 0, 1) := by decide +kernel
theorem dX9_peek_10 : decode cX9_peek 10 = .ok (.getfield 42, 3) := by decide +kernel
theorem dX9_peek_13 : decode cX9_peek 13 = .ok (.iload_n 1, 1) := by decide +kernel
theorem dX9_peek_14 : decode cX9_peek 14 = .ok (.iaload, 1) := by decide +kernel
theorem dX9_peek_15 : decode cX9_peek 15 = .ok (.iconst 1, 1) := by decide +kernel
theorem dX9_peek_16 : decode cX9_peek 16 = .ok (.isub, 1) := by decide +kernel
theorem dX9_peek_17 : decode cX9_peek 17 = .ok (.invokestatic 56, 3) := by decide +kernel
theorem dX9_peek_20 : decode cX9_peek 20 = .ok (.ifCond .eq 17, 3) := by decide +kernel
theorem dX9_peek_23 : decode cX9_peek 23 = .ok (.aload_n 0, 1) := by decide +kernel
theorem dX9_peek_24 : decode cX9_peek 24 = .ok (.getfield 45, 3) := by decide +kernel
theorem dX9_peek_27 : decode cX9_peek 27 = .ok (.bipush 60, 2) := by decide +kernel
theorem dX9_peek_29 : decode cX9_peek 29 = .ok (.iload_n 1, 1) := by decide +kernel
theorem dX9_peek_30 : decode cX9_peek 30 = .ok (.imul, 1) := by decide +kernel
theorem dX9_peek_31 : decode cX9_peek 31 = .ok (.iload_n 2, 1) := by decide +kernel
theorem dX9_peek_32 : decode cX9_peek 32 = .ok (.iadd, 1) := by decide +kernel
theorem dX9_peek_33 : decode cX9_peek 33 = .ok (.laload, 1) := by decide +kernel
theorem dX9_peek_34 : decode cX9_peek 34 = .ok (.goto 6, 3) := by decide +kernel
theorem dX9_peek_37 : decode cX9_peek 37 = .ok (.ldc2_w 170, 3) := by decide +kernel
theorem dX9_peek_40 : decode cX9_peek 40 = .ok (.lreturn, 1) := by decide +kernel
set_option maxRecDepth 20000 in
theorem ggX9_shift_X9_isTape : GoodIn wsX9_shift wsX9_isTape := goodIn_r _ [8, 9, 10, 7, 11] (by decide +kernel) (by decide +kernel)
set_option maxRecDepth 20000 in
theorem gX9_shift_X9_isTape : GoodIn wsX9_shift (va_wsS RX9 181 yX9_isTape wsX9_isTape) := goodIn_app (goodIn_of _ (by decide +kernel)) ggX9_shift_X9_isTape
theorem dX9_shift_0 : decode cX9_shift 0 = .ok (.iload_n 1, 1) := by decide +kernel
theorem dX9_shift_1 : decode cX9_shift 1 = .ok (.invokestatic 181, 3) := by decide +kernel
theorem dX9_shift_4 : decode cX9_shift 4 = .ok (.ifCond .eq 10, 3) := by decide +kernel
theorem dX9_shift_7 : decode cX9_shift 7 = .ok (.iload_n 3, 1) := by decide +kernel
theorem dX9_shift_8 : decode cX9_shift 8 = .ok (.invokestatic 181, 3) := by decide +kernel
theorem dX9_shift_11 : decode cX9_shift 11 = .ok (.ifCond .ne 5, 3) := by decide +kernel
theorem dX9_shift_14 : decode cX9_shift 14 = .ok (.iconst (-1), 1) := by decide +kernel
theorem dX9_shift_15 : decode cX9_shift 15 = .ok (.ireturn, 1) := by decide +kernel
theorem dX9_shift_16 : decode cX9_shift 16 = .ok (.aload_n 0, 1) := by decide +kernel
theorem dX9_shift_17 : decode cX9_shift 17 = .ok (.getfield 39, 3) := by decide +kernel
theorem dX9_shift_20 : decode cX9_shift 20 = .ok (.iload_n 1, 1) := by decide +kernel
theorem dX9_shift_21 : decode cX9_shift 21 = .ok (.iaload, 1) := by decide +kernel
theorem dX9_shift_22 : decode cX9_shift 22 = .ok (.ifCond .eq 12, 3) := by decide +kernel
theorem dX9_shift_25 : decode cX9_shift 25 = .ok (.aload_n 0, 1) := by decide +kernel
theorem dX9_shift_26 : decode cX9_shift 26 = .ok (.getfield 39, 3) := by decide +kernel
theorem dX9_shift_29 : decode cX9_shift 29 = .ok (.iload_n 3, 1) := by decide +kernel
theorem dX9_shift_30 : decode cX9_shift 30 = .ok (.iaload, 1) := by decide +kernel
theorem dX9_shift_31 : decode cX9_shift 31 = .ok (.ifCond .ne 6, 3) := by decide +kernel
theorem dX9_shift_34 : decode cX9_shift 34 = .ok (.bipush (-11), 2) := by decide +kernel
theorem dX9_shift_36 : decode cX9_shift 36 = .ok (.ireturn, 1) := by decide +kernel
theorem dX9_shift_37 : decode cX9_shift 37 = .ok (.aload_n 0, 1) := by decide +kernel
theorem dX9_shift_38 : decode cX9_shift 38 = .ok (.getfield 39, 3) := by decide +kernel
theorem dX9_shift_41 : decode cX9_shift 41 = .ok (.iload_n 1, 1) := by decide +kernel
theorem dX9_shift_42 : decode cX9_shift 42 = .ok (.iaload, 1) := by decide +kernel
theorem dX9_shift_43 : decode cX9_shift 43 = .ok (.aload_n 0, 1) := by decide +kernel
theorem dX9_shift_44 : decode cX9_shift 44 = .ok (.getfield 39, 3) := by decide +kernel
theorem dX9_shift_47 : decode cX9_shift 47 = .ok (.iload_n 3, 1) := by decide +kernel
theorem dX9_shift_48 : decode cX9_shift 48 = .ok (.iaload, 1) := by decide +kernel
theorem dX9_shift_49 : decode cX9_shift 49 = .ok (.if_icmp .eq 6, 3) := by decide +kernel
theorem dX9_shift_52 : decode cX9_shift 52 = .ok (.bipush (-12), 2) := by decide +kernel
theorem dX9_shift_54 : decode cX9_shift 54 = .ok (.ireturn, 1) := by decide +kernel
theorem dX9_shift_55 : decode cX9_shift 55 = .ok (.iload 5, 2) := by decide +kernel
theorem dX9_shift_57 : decode cX9_shift 57 = .ok (.ifCond .lt 47, 3) := by decide +kernel
theorem dX9_shift_60 : decode cX9_shift 60 = .ok (.iload_n 2, 1) := by decide +kernel
theorem dX9_shift_61 : decode cX9_shift 61 = .ok (.ifCond .lt 43, 3) := by decide +kernel
theorem dX9_shift_64 : decode cX9_shift 64 = .ok (.iload 4, 2) := by decide +kernel
theorem dX9_shift_66 : decode cX9_shift 66 = .ok (.ifCond .lt 38, 3) := by decide +kernel
theorem dX9_shift_69 : decode cX9_shift 69 = .ok (.iload_n 2, 1) := by decide +kernel
theorem dX9_shift_70 : decode cX9_shift 70 = .ok (.i2l, 1) := by decide +kernel
theorem dX9_shift_71 : decode cX9_shift 71 = .ok (.iload 5, 2) := by decide +kernel
theorem dX9_shift_73 : decode cX9_shift 73 = .ok (.i2l, 1) := by decide +kernel
theorem dX9_shift_74 : decode cX9_shift 74 = .ok (.ladd, 1) := by decide +kernel
theorem dX9_shift_75 : decode cX9_shift 75 = .ok (.aload_n 0, 1) := by decide +kernel
theorem dX9_shift_76 : decode cX9_shift 76 = .ok (.getfield 42, 3) := by decide +kernel
theorem dX9_shift_79 : decode cX9_shift 79 = .ok (.iload_n 1, 1) := by decide +kernel
theorem dX9_shift_80 : decode cX9_shift 80 = .ok (.iaload, 1) := by decide +kernel
theorem dX9_shift_81 : decode cX9_shift 81 = .ok (.i2l, 1) := by decide +kernel
theorem dX9_shift_82 : decode cX9_shift 82 = .ok (.lcmp, 1) := by decide +kernel
theorem dX9_shift_83 : decode cX9_shift 83 = .ok (.ifCond .gt 21, 3) := by decide +kernel
theorem dX9_shift_86 : decode cX9_shift 86 = .ok (.iload 4, 2) := by decide +kernel
theorem dX9_shift_88 : decode cX9_shift 88 = .ok (.i2l, 1) := by decide +kernel
theorem dX9_shift_89 : decode cX9_shift 89 = .ok (.iload 5, 2) := by decide +kernel
theorem dX9_shift_91 : decode cX9_shift 91 = .ok (.i2l, 1) := by decide +kernel
theorem dX9_shift_92 : decode cX9_shift 92 = .ok (.ladd, 1) := by decide +kernel
theorem dX9_shift_93 : decode cX9_shift 93 = .ok (.aload_n 0, 1) := by decide +kernel
theorem dX9_shift_94 : decode cX9_shift 94 = .ok (.getfield 42, 3) := by decide +kernel
theorem dX9_shift_97 : decode cX9_shift 97 = .ok (.iload_n 3, 1) := by decide +kernel
theorem dX9_shift_98 : decode cX9_shift 98 = .ok (.iaload, 1) := by decide +kernel
theorem dX9_shift_99 : decode cX9_shift 99 = .ok (.i2l, 1) := by decide +kernel
theorem dX9_shift_100 : decode cX9_shift 100 = .ok (.lcmp, 1) := by decide +kernel
theorem dX9_shift_101 : decode cX9_shift 101 = .ok (.ifCond .le 6, 3) := by decide +kernel
theorem dX9_shift_104 : decode cX9_shift 104 = .ok (.bipush (-13), 2) := by decide +kernel
theorem dX9_shift_106 : decode cX9_shift 106 = .ok (.ireturn, 1) := by decide +kernel
theorem dX9_shift_107 : decode cX9_shift 107 = .ok (.iconst 0, 1) := by decide +kernel
theorem dX9_shift_108 : decode cX9_shift 108 = .ok (.istore 6, 2) := by decide +kernel
theorem dX9_shift_110 : decode cX9_shift 110 = .ok (.iload 6, 2) := by decide +kernel
theorem dX9_shift_112 : decode cX9_shift 112 = .ok (.iload 5, 2) := by decide +kernel
theorem dX9_shift_114 : decode cX9_shift 114 = .ok (.if_icmp .ge 30, 3) := by decide +kernel
theorem dX9_shift_117 : decode cX9_shift 117 = .ok (.aload_n 0, 1) := by decide +kernel
theorem dX9_shift_118 : decode cX9_shift 118 = .ok (.getfield 49, 3) := by decide +kernel
theorem dX9_shift_121 : decode cX9_shift 121 = .ok (.iload 6, 2) := by decide +kernel
theorem dX9_shift_123 : decode cX9_shift 123 = .ok (.aload_n 0, 1) := by decide +kernel
theorem dX9_shift_124 : decode cX9_shift 124 = .ok (.getfield 45, 3) := by decide +kernel
theorem dX9_shift_127 : decode cX9_shift 127 = .ok (.bipush 60, 2) := by decide +kernel
theorem dX9_shift_129 : decode cX9_shift 129 = .ok (.iload_n 1, 1) := by decide +kernel
theorem dX9_shift_130 : decode cX9_shift 130 = .ok (.imul, 1) := by decide +kernel
theorem dX9_shift_131 : decode cX9_shift 131 = .ok (.iload_n 2, 1) := by decide +kernel
theorem dX9_shift_132 : decode cX9_shift 132 = .ok (.iadd, 1) := by decide +kernel
theorem dX9_shift_133 : decode cX9_shift 133 = .ok (.iload 6, 2) := by decide +kernel
theorem dX9_shift_135 : decode cX9_shift 135 = .ok (.iadd, 1) := by decide +kernel
theorem dX9_shift_136 : decode cX9_shift 136 = .ok (.laload, 1) := by decide +kernel
theorem dX9_shift_137 : decode cX9_shift 137 = .ok (.lastore, 1) := by decide +kernel
theorem dX9_shift_138 : decode cX9_shift 138 = .ok (.iinc 6 1, 3) := by decide +kernel
theorem dX9_shift_141 : decode cX9_shift 141 = .ok (.goto (-31), 3) := by decide +kernel
theorem dX9_shift_144 : decode cX9_shift 144 = .ok (.iconst 0, 1) := by decide +kernel
theorem dX9_shift_145 : decode cX9_shift 145 = .ok (.istore 6, 2) := by decide +kernel
theorem dX9_shift_147 : decode cX9_shift 147 = .ok (.iload 6, 2) := by decide +kernel
theorem dX9_shift_149 : decode cX9_shift 149 = .ok (.iload 5, 2) := by decide +kernel
theorem dX9_shift_151 : decode cX9_shift 151 = .ok (.if_icmp .ge 31, 3) := by decide +kernel
theorem dX9_shift_154 : decode cX9_shift 154 = .ok (.aload_n 0, 1) := by decide +kernel
theorem dX9_shift_155 : decode cX9_shift 155 = .ok (.getfield 45, 3) := by decide +kernel
theorem dX9_shift_158 : decode cX9_shift 158 = .ok (.bipush 60, 2) := by decide +kernel
theorem dX9_shift_160 : decode cX9_shift 160 = .ok (.iload_n 3, 1) := by decide +kernel
theorem dX9_shift_161 : decode cX9_shift 161 = .ok (.imul, 1) := by decide +kernel
theorem dX9_shift_162 : decode cX9_shift 162 = .ok (.iload 4, 2) := by decide +kernel
theorem dX9_shift_164 : decode cX9_shift 164 = .ok (.iadd, 1) := by decide +kernel
theorem dX9_shift_165 : decode cX9_shift 165 = .ok (.iload 6, 2) := by decide +kernel
theorem dX9_shift_167 : decode cX9_shift 167 = .ok (.iadd, 1) := by decide +kernel
theorem dX9_shift_168 : decode cX9_shift 168 = .ok (.aload_n 0, 1) := by decide +kernel
theorem dX9_shift_169 : decode cX9_shift 169 = .ok (.getfield 49, 3) := by decide +kernel
theorem dX9_shift_172 : decode cX9_shift 172 = .ok (.iload 6, 2) := by decide +kernel
theorem dX9_shift_174 : decode cX9_shift 174 = .ok (.laload, 1) := by decide +kernel
theorem dX9_shift_175 : decode cX9_shift 175 = .ok (.lastore, 1) := by decide +kernel
theorem dX9_shift_176 : decode cX9_shift 176 = .ok (.iinc 6 1, 3) := by decide +kernel
theorem dX9_shift_179 : decode cX9_shift 179 = .ok (.goto (-32), 3) := by decide +kernel
theorem dX9_shift_182 : decode cX9_shift 182 = .ok (.iload 5, 2) := by decide +kernel
theorem dX9_shift_184 : decode cX9_shift 184 = .ok (.ireturn, 1) := by decide +kernel
theorem dJ9_max_7cf53_0 : decode cJ9_max_7cf53 0 = .ok (.iload_n 0, 1) := by decide +kernel
theorem dJ9_max_7cf53_1 : decode cJ9_max_7cf53 1 = .ok (.iload_n 1, 1) := by decide +kernel
theorem dJ9_max_7cf53_2 : decode cJ9_max_7cf53 2 = .ok (.if_icmp .lt 7, 3) := by decide +kernel
theorem dJ9_max_7cf53_5 : decode cJ9_max_7cf53 5 = .ok (.iload_n 0, 1) := by decide +kernel
theorem dJ9_max_7cf53_6 : decode cJ9_max_7cf53 6 = .ok (.goto 4, 3) := by decide +kernel
theorem dJ9_max_7cf53_9 : decode cJ9_max_7cf53 9 = .ok (.iload_n 1, 1) := by decide +kernel
theorem dJ9_max_7cf53_10 : decode cJ9_max_7cf53 10 = .ok (.ireturn, 1) := by decide +kernel
set_option maxRecDepth 20000 in
theorem ggL_law_X8_init : GoodIn wsL_law wsX8_init := goodIn_r _ [9, 10, 11, 12, 13, 14, 15, 16, 17, 18, 19, 20, 21, 22, 23, 24, 25, 26, 27, 28, 29, 30, 31, 32, 33, 34, 35, 36, 37, 38, 39, 40, 41, 42, 43, 44, 45, 46, 47, 48, 49, 50, 51, 52, 53, 54, 55, 56, 57, 58, 59, 60, 61, 62, 63, 64, 65, 66, 67, 68, 69, 70, 71, 72, 73, 74, 75, 76, 77, 78, 79, 80, 81, 82, 83, 84, 85, 86, 87, 88, 89, 90, 91, 92, 93, 94, 95, 96, 97, 98, 99, 100, 101, 102, 103, 104, 105, 106, 107, 108, 109, 110, 111, 112, 113, 869, 870, 871, 872, 873, 874, 875, 876, 877, 878, 879, 839, 840, 841, 842, 843, 844, 845, 846, 847, 848, 880, 881, 882, 883, 884, 885, 886, 887, 888, 889, 890, 891, 892, 893, 894, 895, 896, 897, 898, 899, 900, 901, 902, 903, 904, 905, 906, 907, 908, 909, 910] (by decide +kernel) (by decide +kernel)
set_option maxRecDepth 20000 in
theorem gL_law_X8_init : GoodIn wsL_law (wsX8_init) := ggL_law_X8_init
set_option maxRecDepth 20000 in
theorem ggL_law_X9_init : GoodIn wsL_law wsX9_init := goodIn_r _ [116, 117, 11, 12, 42, 118, 119, 120, 121, 122, 123, 124, 125, 126, 127, 128, 112, 129, 130, 131, 132, 133, 5, 134, 849, 850, 851, 852, 853, 854, 855, 856, 857, 858, 859, 860, 861, 862, 863, 864, 865, 866, 867, 868] (by decide +kernel) (by decide +kernel)
set_option maxRecDepth 20000 in
theorem gL_law_X9_init : GoodIn wsL_law (wsX9_init) := ggL_law_X9_init
set_option maxRecDepth 20000 in
theorem ggL_law_X8_bells : GoodIn wsL_law wsX8_bells := goodIn_r _ [138, 16, 139, 35, 140, 141, 142, 15, 143, 41, 44, 45, 46, 48, 47, 49, 53, 144, 54, 55, 839, 840, 841, 842, 843, 844, 845, 846, 847, 848, 869, 870, 871, 872, 873, 874, 875, 876, 877, 878, 879, 906, 907, 908, 909] (by decide +kernel) (by decide +kernel)
set_option maxRecDepth 20000 in
theorem gL_law_X8_bells : GoodIn wsL_law (wsV RL 13 RX8 yX8_bells wsX8_bells) := goodIn_app (goodIn_of _ (by decide +kernel)) ggL_law_X8_bells
set_option maxRecDepth 20000 in
theorem ggL_law_X9_bells : GoodIn wsL_law wsX9_bells := goodIn_r _ [148, 118, 149, 150, 5, 151, 131, 132, 133, 134, 849, 850, 851, 852, 853, 854, 855, 856, 857, 858, 859, 860, 861, 862, 863, 864, 865, 866, 867, 868] (by decide +kernel) (by decide +kernel)
set_option maxRecDepth 20000 in
theorem gL_law_X9_bells : GoodIn wsL_law (wsV RL 17 RX9 yX9_bells wsX9_bells) := goodIn_app (goodIn_of _ (by decide +kernel)) ggL_law_X9_bells
set_option maxRecDepth 20000 in
theorem ggL_law_X8_change : GoodIn wsL_law wsX8_change := goodIn_r _ [155, 16, 139, 156, 157, 35, 158, 159, 160, 2, 161, 162, 163, 164, 165, 166, 167, 168, 169, 170, 171, 839, 840, 841, 842, 843, 844, 845, 846, 847, 848, 869, 870, 871, 872, 873, 874, 875, 876, 877, 878, 879] (by decide +kernel) (by decide +kernel)
set_option maxRecDepth 20000 in
theorem gL_law_X8_change : GoodIn wsL_law (wsV RL 18 RX8 yX8_change wsX8_change) := goodIn_app (goodIn_of _ (by decide +kernel)) ggL_law_X8_change
set_option maxRecDepth 20000 in
theorem ggL_law_X9_change : GoodIn wsL_law wsX9_change := goodIn_r _ [175, 118, 176, 177, 178, 5, 179, 149, 150, 151, 180, 181, 182, 183, 849, 850, 851, 852, 853, 854, 855, 856, 857, 858, 859, 860, 861, 862, 863, 864, 865, 866, 867, 868] (by decide +kernel) (by decide +kernel)
set_option maxRecDepth 20000 in
theorem gL_law_X9_change : GoodIn wsL_law (wsV RL 21 RX9 yX9_change wsX9_change) := goodIn_app (goodIn_of _ (by decide +kernel)) ggL_law_X9_change
set_option maxRecDepth 20000 in
theorem ggL_law_X8_calls : GoodIn wsL_law wsX8_calls := goodIn_r _ [187, 16, 139, 35, 158, 159, 160, 2, 161, 162, 163, 164, 165, 166, 167, 168, 169, 170, 171, 188, 189, 190, 15, 191, 45, 46, 192, 193, 194, 195, 839, 840, 841, 842, 843, 844, 845, 846, 847, 848, 869, 870, 871, 872, 873, 874, 875, 876, 877, 878, 879] (by decide +kernel) (by decide +kernel)
set_option maxRecDepth 20000 in
theorem gL_law_X8_calls : GoodIn wsL_law (wsV RL 22 RX8 yX8_calls wsX8_calls) := goodIn_app (goodIn_of _ (by decide +kernel)) ggL_law_X8_calls
set_option maxRecDepth 20000 in
theorem ggL_law_X9_calls : GoodIn wsL_law wsX9_calls := goodIn_r _ [199, 149, 150, 5, 151, 176, 177, 178, 179, 118, 180, 181, 182, 183, 200, 201, 202, 203, 849, 850, 851, 852, 853, 854, 855, 856, 857, 858, 859, 860, 861, 862, 863, 864, 865, 866, 867, 868] (by decide +kernel) (by decide +kernel)
set_option maxRecDepth 20000 in
theorem gL_law_X9_calls : GoodIn wsL_law (wsV RL 26 RX9 yX9_calls wsX9_calls) := goodIn_app (goodIn_of _ (by decide +kernel)) ggL_law_X9_calls
set_option maxRecDepth 20000 in
theorem ggL_law_X8_call : GoodIn wsL_law wsX8_call := goodIn_r _ [207, 16, 208, 35, 209, 210, 2, 211, 839, 840, 841, 842, 843, 844, 845, 846, 847, 848, 869, 870, 871, 872, 873, 874, 875, 876, 877, 878, 879] (by decide +kernel) (by decide +kernel)
set_option maxRecDepth 20000 in
theorem gL_law_X8_call : GoodIn wsL_law (wsV RL 27 RX8 yX8_call wsX8_call) := goodIn_app (goodIn_of _ (by decide +kernel)) ggL_law_X8_call
set_option maxRecDepth 20000 in
theorem ggL_law_X9_call : GoodIn wsL_law wsX9_call := goodIn_r _ [215, 149, 150, 5, 151, 200, 201, 202, 203, 118, 849, 850, 851, 852, 853, 854, 855, 856, 857, 858, 859, 860, 861, 862, 863, 864, 865, 866, 867, 868] (by decide +kernel) (by decide +kernel)
set_option maxRecDepth 20000 in
theorem gL_law_X9_call : GoodIn wsL_law (wsV RL 30 RX9 yX9_call wsX9_call) := goodIn_app (goodIn_of _ (by decide +kernel)) ggL_law_X9_call
set_option maxRecDepth 20000 in
theorem ggL_law_X8_leads : GoodIn wsL_law wsX8_leads := goodIn_r _ [219, 16, 220, 35, 839, 840, 841, 842, 843, 844, 845, 846, 847, 848, 869, 870, 871, 872, 873, 874, 875, 876, 877, 878, 879] (by decide +kernel) (by decide +kernel)
set_option maxRecDepth 20000 in
theorem gL_law_X8_leads : GoodIn wsL_law (wsV RL 31 RX8 yX8_leads wsX8_leads) := goodIn_app (goodIn_of _ (by decide +kernel)) ggL_law_X8_leads
set_option maxRecDepth 20000 in
theorem ggL_law_X9_leads : GoodIn wsL_law wsX9_leads := goodIn_r _ [224, 149, 150, 5, 151, 200, 201, 202, 203, 118, 849, 850, 851, 852, 853, 854, 855, 856, 857, 858, 859, 860, 861, 862, 863, 864, 865, 866, 867, 868] (by decide +kernel) (by decide +kernel)
set_option maxRecDepth 20000 in
theorem gL_law_X9_leads : GoodIn wsL_law (wsV RL 34 RX9 yX9_leads wsX9_leads) := goodIn_app (goodIn_of _ (by decide +kernel)) ggL_law_X9_leads
set_option maxRecDepth 20000 in
theorem ggL_law_X8_pattern : GoodIn wsL_law wsX8_pattern := goodIn_r _ [228, 16, 229, 839, 840, 841, 842, 843, 844, 845, 846, 847, 848, 869, 870, 871, 872, 873, 874, 875, 876, 877, 878, 879] (by decide +kernel) (by decide +kernel)
set_option maxRecDepth 20000 in
theorem gL_law_X8_pattern : GoodIn wsL_law (wsV RL 35 RX8 yX8_pattern wsX8_pattern) := goodIn_app (goodIn_of _ (by decide +kernel)) ggL_law_X8_pattern
set_option maxRecDepth 20000 in
theorem ggL_law_X9_pattern : GoodIn wsL_law wsX9_pattern := goodIn_r _ [233, 149, 150, 5, 151, 200, 201, 202, 203, 118, 849, 850, 851, 852, 853, 854, 855, 856, 857, 858, 859, 860, 861, 862, 863, 864, 865, 866, 867, 868] (by decide +kernel) (by decide +kernel)
set_option maxRecDepth 20000 in
theorem gL_law_X9_pattern : GoodIn wsL_law (wsV RL 38 RX9 yX9_pattern wsX9_pattern) := goodIn_app (goodIn_of _ (by decide +kernel)) ggL_law_X9_pattern
set_option maxRecDepth 20000 in
theorem ggL_law_X8_feed : GoodIn wsL_law wsX8_feed := goodIn_r _ [237, 31, 238, 239, 240, 241, 30, 242, 98, 100, 839, 840, 841, 842, 843, 844, 845, 846, 847, 848, 895, 896, 897, 898, 899, 900, 901, 902] (by decide +kernel) (by decide +kernel)
set_option maxRecDepth 20000 in
theorem gL_law_X8_feed : GoodIn wsL_law (wsV RL 39 RX8 yX8_feed wsX8_feed) := goodIn_app (goodIn_of _ (by decide +kernel)) ggL_law_X8_feed
set_option maxRecDepth 20000 in
theorem ggL_law_X9_feed : GoodIn wsL_law wsX9_feed := goodIn_r _ [246, 247, 122, 149, 150, 5, 151, 849, 850, 851, 852, 853, 854, 855, 856, 857, 858, 859, 860, 861, 862, 863, 864, 865, 866, 867, 868] (by decide +kernel) (by decide +kernel)
set_option maxRecDepth 20000 in
theorem gL_law_X9_feed : GoodIn wsL_law (wsV RL 42 RX9 yX9_feed wsX9_feed) := goodIn_app (goodIn_of _ (by decide +kernel)) ggL_law_X9_feed
set_option maxRecDepth 20000 in
theorem ggL_law_X8_read : GoodIn wsL_law wsX8_read := goodIn_r _ [251, 31, 238, 35, 16, 252, 253, 254, 30, 255, 101, 104, 106, 103, 102, 256, 257, 258, 259, 98, 100, 260, 261, 262, 263, 264, 265, 266, 267, 268, 269, 270, 271, 105, 272, 273, 274, 275, 276, 277, 278, 279, 280, 281, 282, 283, 284, 285, 286, 287, 288, 289, 290, 291, 292, 293, 294, 295, 296, 297, 298, 299, 300, 301, 141, 142, 15, 143, 41, 44, 45, 46, 48, 47, 49, 53, 144, 54, 55, 302, 303, 304, 305, 306, 307, 308, 309, 163, 164, 165, 166, 167, 168, 169, 170, 171, 310, 311, 312, 313, 193, 194, 195, 314, 315, 316, 317, 318, 319, 839, 840, 841, 842, 843, 844, 845, 846, 847, 848, 895, 896, 897, 898, 899, 900, 901, 902, 869, 870, 871, 872, 873, 874, 875, 876, 877, 878, 879, 906, 907, 908, 909] (by decide +kernel) (by decide +kernel)
set_option maxRecDepth 20000 in
theorem gL_law_X8_read : GoodIn wsL_law (wsV RL 43 RX8 yX8_read wsX8_read) := goodIn_app (goodIn_of _ (by decide +kernel)) ggL_law_X8_read
set_option maxRecDepth 20000 in
theorem ggL_law_X9_read : GoodIn wsL_law wsX9_read := goodIn_r _ [323, 324, 325, 326, 327, 247, 328, 329, 330, 5, 331, 123, 124, 125, 332, 333, 334, 335, 122, 149, 150, 151, 336, 337, 338, 339, 340, 341, 342, 343, 126, 344, 345, 346, 347, 348, 349, 350, 351, 352, 353, 354, 355, 356, 357, 358, 359, 360, 361, 362, 118, 363, 146, 147, 148, 131, 132, 133, 134, 364, 197, 198, 199, 176, 177, 178, 179, 180, 181, 182, 183, 200, 201, 202, 203, 365, 366, 367, 368, 849, 850, 851, 852, 853, 854, 855, 856, 857, 858, 859, 860, 861, 862, 863, 864, 865, 866, 867, 868] (by decide +kernel) (by decide +kernel)
set_option maxRecDepth 20000 in
theorem gL_law_X9_read : GoodIn wsL_law (wsV RL 47 RX9 yX9_read wsX9_read) := goodIn_app (goodIn_of _ (by decide +kernel)) ggL_law_X9_read
set_option maxRecDepth 20000 in
theorem ggL_law_X8_of : GoodIn wsL_law wsX8_of := goodIn_r _ [372, 16, 156, 157, 373, 374, 208, 375, 376, 2, 377, 209, 210, 211, 839, 840, 841, 842, 843, 844, 845, 846, 847, 848, 869, 870, 871, 872, 873, 874, 875, 876, 877, 878, 879] (by decide +kernel) (by decide +kernel)
set_option maxRecDepth 20000 in
theorem gL_law_X8_of : GoodIn wsL_law (wsV RL 48 RX8 yX8_of wsX8_of) := goodIn_app (goodIn_of _ (by decide +kernel)) ggL_law_X8_of
set_option maxRecDepth 20000 in
theorem ggL_law_X9_of : GoodIn wsL_law wsX9_of := goodIn_r _ [381, 118, 149, 150, 5, 151, 849, 850, 851, 852, 853, 854, 855, 856, 857, 858, 859, 860, 861, 862, 863, 864, 865, 866, 867, 868] (by decide +kernel) (by decide +kernel)
set_option maxRecDepth 20000 in
theorem gL_law_X9_of : GoodIn wsL_law (wsV RL 51 RX9 yX9_of wsX9_of) := goodIn_app (goodIn_of _ (by decide +kernel)) ggL_law_X9_of
set_option maxRecDepth 20000 in
theorem ggL_law_X8_told : GoodIn wsL_law wsX8_told := goodIn_r _ [385, 16, 139, 156, 220, 386, 387, 388, 389, 2, 390, 35, 22, 391, 392, 393, 21, 394, 395, 69, 396, 397, 398, 399, 400, 401, 70, 402, 403, 71, 67, 68, 77, 404, 167, 164, 168, 169, 170, 171, 405, 189, 190, 15, 191, 45, 46, 406, 407, 408, 409, 410, 411, 412, 413, 414, 415, 416, 417, 418, 419, 72, 420, 421, 422, 423, 76, 424, 425, 426, 75, 427, 81, 428, 429, 430, 431, 432, 433, 434, 435, 436, 437, 438, 439, 440, 441, 442, 443, 444, 445, 446, 447, 448, 839, 840, 841, 842, 843, 844, 845, 846, 847, 848, 869, 870, 871, 872, 873, 874, 875, 876, 877, 878, 879, 880, 881, 882, 883, 884, 885, 886, 887, 910] (by decide +kernel) (by decide +kernel)
set_option maxRecDepth 20000 in
theorem gL_law_X8_told : GoodIn wsL_law (wsV RL 52 RX8 yX8_told wsX8_told) := goodIn_app (goodIn_of _ (by decide +kernel)) ggL_law_X8_told
set_option maxRecDepth 20000 in
theorem ggL_law_X9_told : GoodIn wsL_law wsX9_told := goodIn_r _ [452, 118, 453, 454, 455, 456, 5, 457, 120, 121, 458, 459, 460, 461, 462, 463, 464, 465, 466, 467, 468, 469, 470, 471, 472, 473, 474, 475, 476, 477, 478, 479, 480, 481, 482, 483, 484, 485, 849, 850, 851, 852, 853, 854, 855, 856, 857, 858, 859, 860, 861, 862, 863, 864, 865, 866, 867, 868] (by decide +kernel) (by decide +kernel)
set_option maxRecDepth 20000 in
theorem gL_law_X9_told : GoodIn wsL_law (wsV RL 55 RX9 yX9_told wsX9_told) := goodIn_app (goodIn_of _ (by decide +kernel)) ggL_law_X9_told
set_option maxRecDepth 20000 in
theorem ggL_law_X8_at : GoodIn wsL_law wsX8_at := goodIn_r _ [489, 490, 491, 492, 493, 2, 494, 386, 387, 388, 389, 390, 35, 22, 16, 391, 392, 393, 21, 394, 395, 69, 396, 397, 398, 399, 400, 401, 70, 402, 403, 71, 67, 68, 77, 404, 167, 164, 168, 169, 170, 171, 405, 189, 190, 15, 191, 45, 46, 406, 407, 408, 409, 410, 411, 412, 413, 414, 415, 495, 496, 497, 498, 139, 499, 500, 501, 880, 881, 882, 883, 884, 885, 886, 887, 839, 840, 841, 842, 843, 844, 845, 846, 847, 848, 869, 870, 871, 872, 873, 874, 875, 876, 877, 878, 879] (by decide +kernel) (by decide +kernel)
set_option maxRecDepth 20000 in
theorem gL_law_X8_at : GoodIn wsL_law (wsV RL 56 RX8 yX8_at wsX8_at) := goodIn_app (goodIn_of _ (by decide +kernel)) ggL_law_X8_at
set_option maxRecDepth 20000 in
theorem ggL_law_X9_at : GoodIn wsL_law wsX9_at := goodIn_r _ [505, 453, 120, 466, 467, 468, 5, 469, 118, 458, 459, 460, 461, 121, 462, 463, 464, 465, 149, 150, 151, 506, 507, 508, 509, 849, 850, 851, 852, 853, 854, 855, 856, 857, 858, 859, 860, 861, 862, 863, 864, 865, 866, 867, 868] (by decide +kernel) (by decide +kernel)
set_option maxRecDepth 20000 in
theorem gL_law_X9_at : GoodIn wsL_law (wsV RL 59 RX9 yX9_at wsX9_at) := goodIn_app (goodIn_of _ (by decide +kernel)) ggL_law_X9_at
set_option maxRecDepth 20000 in
theorem ggL_law_X8_where : GoodIn wsL_law wsX8_where := goodIn_r _ [513, 490, 491, 492, 493, 2, 494, 386, 387, 388, 389, 390, 35, 22, 16, 391, 392, 393, 21, 394, 395, 69, 396, 397, 398, 399, 400, 401, 70, 402, 403, 71, 67, 68, 77, 404, 167, 164, 168, 169, 170, 171, 405, 189, 190, 15, 191, 45, 46, 406, 407, 408, 409, 410, 411, 412, 413, 414, 415, 495, 496, 497, 498, 139, 514, 515, 516, 517, 500, 501, 880, 881, 882, 883, 884, 885, 886, 887, 839, 840, 841, 842, 843, 844, 845, 846, 847, 848, 869, 870, 871, 872, 873, 874, 875, 876, 877, 878, 879] (by decide +kernel) (by decide +kernel)
set_option maxRecDepth 20000 in
theorem gL_law_X8_where : GoodIn wsL_law (wsV RL 60 RX8 yX8_where wsX8_where) := goodIn_app (goodIn_of _ (by decide +kernel)) ggL_law_X8_where
set_option maxRecDepth 20000 in
theorem ggL_law_X9_where : GoodIn wsL_law wsX9_where := goodIn_r _ [521, 453, 466, 467, 468, 5, 469, 118, 120, 458, 459, 460, 461, 121, 462, 463, 464, 465, 149, 150, 151, 506, 507, 508, 509, 522, 523, 524, 525, 849, 850, 851, 852, 853, 854, 855, 856, 857, 858, 859, 860, 861, 862, 863, 864, 865, 866, 867, 868] (by decide +kernel) (by decide +kernel)
set_option maxRecDepth 20000 in
theorem gL_law_X9_where : GoodIn wsL_law (wsV RL 63 RX9 yX9_where wsX9_where) := goodIn_app (goodIn_of _ (by decide +kernel)) ggL_law_X9_where
set_option maxRecDepth 20000 in
theorem ggL_law_X8_same : GoodIn wsL_law wsX8_same := goodIn_r _ [529, 491, 492, 493, 2, 494, 386, 387, 388, 389, 390, 35, 22, 16, 391, 392, 393, 21, 394, 395, 69, 396, 397, 398, 399, 400, 401, 70, 402, 403, 71, 67, 68, 77, 404, 167, 164, 168, 169, 170, 171, 405, 189, 190, 15, 191, 45, 46, 406, 407, 408, 409, 410, 411, 412, 413, 414, 415, 530, 531, 532, 533, 72, 420, 421, 422, 423, 76, 424, 425, 426, 75, 427, 81, 428, 429, 430, 431, 432, 433, 434, 435, 880, 881, 882, 883, 884, 885, 886, 887, 839, 840, 841, 842, 843, 844, 845, 846, 847, 848, 869, 870, 871, 872, 873, 874, 875, 876, 877, 878, 879, 910] (by decide +kernel) (by decide +kernel)
set_option maxRecDepth 20000 in
theorem gL_law_X8_same : GoodIn wsL_law (wsV RL 64 RX8 yX8_same wsX8_same) := goodIn_app (goodIn_of _ (by decide +kernel)) ggL_law_X8_same
set_option maxRecDepth 20000 in
theorem ggL_law_X9_same : GoodIn wsL_law wsX9_same := goodIn_r _ [537, 453, 466, 467, 468, 5, 469, 118, 120, 458, 459, 460, 461, 121, 462, 463, 464, 465, 149, 150, 151, 478, 479, 480, 481, 849, 850, 851, 852, 853, 854, 855, 856, 857, 858, 859, 860, 861, 862, 863, 864, 865, 866, 867, 868] (by decide +kernel) (by decide +kernel)
set_option maxRecDepth 20000 in
theorem gL_law_X9_same : GoodIn wsL_law (wsV RL 67 RX9 yX9_same wsX9_same) := goodIn_app (goodIn_of _ (by decide +kernel)) ggL_law_X9_same
set_option maxRecDepth 20000 in
theorem ggL_law_X8_good : GoodIn wsL_law wsX8_good := goodIn_r _ [541, 16, 139, 158, 159, 160, 2, 161, 162, 163, 164, 165, 166, 167, 168, 169, 170, 171, 839, 840, 841, 842, 843, 844, 845, 846, 847, 848, 869, 870, 871, 872, 873, 874, 875, 876, 877, 878, 879] (by decide +kernel) (by decide +kernel)
set_option maxRecDepth 20000 in
theorem gL_law_X8_good : GoodIn wsL_law (wsV RL 68 RX8 yX8_good wsX8_good) := goodIn_app (goodIn_of _ (by decide +kernel)) ggL_law_X8_good
set_option maxRecDepth 20000 in
theorem ggL_law_X9_good : GoodIn wsL_law wsX9_good := goodIn_r _ [545, 176, 177, 178, 5, 179, 118, 149, 150, 151, 180, 181, 182, 183, 849, 850, 851, 852, 853, 854, 855, 856, 857, 858, 859, 860, 861, 862, 863, 864, 865, 866, 867, 868] (by decide +kernel) (by decide +kernel)
set_option maxRecDepth 20000 in
theorem gL_law_X9_good : GoodIn wsL_law (wsV RL 71 RX9 yX9_good wsX9_good) := goodIn_app (goodIn_of _ (by decide +kernel)) ggL_law_X9_good
set_option maxRecDepth 20000 in
theorem ggL_law_X8_music : GoodIn wsL_law wsX8_music := goodIn_r _ [549, 550, 551, 552, 2, 553, 490, 22, 386, 16, 387, 388, 389, 390, 35, 391, 392, 393, 21, 394, 395, 69, 396, 397, 398, 399, 400, 401, 70, 402, 403, 71, 67, 68, 77, 404, 167, 164, 168, 169, 170, 171, 405, 189, 190, 15, 191, 45, 46, 406, 407, 408, 409, 410, 411, 412, 413, 414, 415, 554, 555, 556, 557, 41, 558, 559, 560, 561, 562, 563, 49, 564, 500, 501, 565, 566, 567, 568, 515, 516, 517, 880, 881, 882, 883, 884, 885, 886, 887, 839, 840, 841, 842, 843, 844, 845, 846, 847, 848, 869, 870, 871, 872, 873, 874, 875, 876, 877, 878, 879] (by decide +kernel) (by decide +kernel)
set_option maxRecDepth 20000 in
theorem gL_law_X8_music : GoodIn wsL_law (wsV RL 72 RX8 yX8_music wsX8_music) := goodIn_app (goodIn_of _ (by decide +kernel)) ggL_law_X8_music
set_option maxRecDepth 20000 in
theorem ggL_law_X9_music : GoodIn wsL_law wsX9_music := goodIn_r _ [572, 149, 150, 5, 151, 466, 467, 468, 469, 118, 120, 453, 458, 459, 460, 461, 121, 462, 463, 464, 465, 573, 574, 575, 576, 577, 578, 579, 580, 522, 523, 524, 525, 849, 850, 851, 852, 853, 854, 855, 856, 857, 858, 859, 860, 861, 862, 863, 864, 865, 866, 867, 868] (by decide +kernel) (by decide +kernel)
set_option maxRecDepth 20000 in
theorem gL_law_X9_music : GoodIn wsL_law (wsV RL 75 RX9 yX9_music wsX9_music) := goodIn_app (goodIn_of _ (by decide +kernel)) ggL_law_X9_music
set_option maxRecDepth 20000 in
theorem ggL_law_X8_least : GoodIn wsL_law wsX8_least := goodIn_r _ [584, 27, 16, 585, 586, 587, 588, 589, 26, 590, 85, 86, 93, 94, 92, 591, 592, 88, 593, 90, 594, 595, 398, 399, 21, 400, 401, 69, 70, 402, 403, 71, 67, 68, 77, 404, 167, 164, 168, 169, 170, 171, 405, 189, 190, 15, 191, 45, 46, 406, 407, 408, 596, 425, 426, 75, 427, 81, 428, 429, 430, 431, 597, 598, 599, 600, 601, 602, 603, 604, 605, 410, 411, 412, 413, 414, 415, 606, 607, 608, 609, 610, 611, 612, 613, 614, 433, 434, 435, 839, 840, 841, 842, 843, 844, 845, 846, 847, 848, 888, 889, 890, 891, 892, 893, 894, 869, 870, 871, 872, 873, 874, 875, 876, 877, 878, 879, 880, 881, 882, 883, 884, 885, 886, 887, 910] (by decide +kernel) (by decide +kernel)
set_option maxRecDepth 20000 in
theorem gL_law_X8_least : GoodIn wsL_law (wsV RL 76 RX8 yX8_least wsX8_least) := goodIn_app (goodIn_of _ (by decide +kernel)) ggL_law_X8_least
set_option maxRecDepth 20000 in
theorem ggL_law_X9_least : GoodIn wsL_law wsX9_least := goodIn_r _ [618, 118, 149, 150, 5, 151, 466, 467, 468, 469, 120, 453, 458, 459, 460, 461, 121, 462, 463, 464, 465, 482, 483, 484, 485, 474, 475, 476, 477, 478, 479, 480, 481, 849, 850, 851, 852, 853, 854, 855, 856, 857, 858, 859, 860, 861, 862, 863, 864, 865, 866, 867, 868] (by decide +kernel) (by decide +kernel)
set_option maxRecDepth 20000 in
theorem gL_law_X9_least : GoodIn wsL_law (wsV RL 79 RX9 yX9_least wsX9_least) := goodIn_app (goodIn_of _ (by decide +kernel)) ggL_law_X9_least
set_option maxRecDepth 20000 in
theorem ggL_law_X8_still : GoodIn wsL_law wsX8_still := goodIn_r _ [622, 490, 22, 386, 495, 496, 497, 2, 498, 16, 139, 387, 388, 389, 390, 35, 391, 392, 393, 21, 394, 395, 69, 396, 397, 398, 399, 400, 401, 70, 402, 403, 71, 67, 68, 77, 404, 167, 164, 168, 169, 170, 171, 405, 189, 190, 15, 191, 45, 46, 406, 407, 408, 409, 410, 411, 412, 413, 414, 415, 514, 515, 516, 517, 500, 501, 880, 881, 882, 883, 884, 885, 886, 887, 839, 840, 841, 842, 843, 844, 845, 846, 847, 848, 869, 870, 871, 872, 873, 874, 875, 876, 877, 878, 879] (by decide +kernel) (by decide +kernel)
set_option maxRecDepth 20000 in
theorem gL_law_X8_still : GoodIn wsL_law (wsV RL 80 RX8 yX8_still wsX8_still) := goodIn_app (goodIn_of _ (by decide +kernel)) ggL_law_X8_still
set_option maxRecDepth 20000 in
theorem ggL_law_X9_still : GoodIn wsL_law wsX9_still := goodIn_r _ [626, 453, 506, 507, 508, 5, 509, 118, 149, 150, 151, 466, 467, 468, 469, 120, 458, 459, 460, 461, 121, 462, 463, 464, 465, 522, 523, 524, 525, 849, 850, 851, 852, 853, 854, 855, 856, 857, 858, 859, 860, 861, 862, 863, 864, 865, 866, 867, 868] (by decide +kernel) (by decide +kernel)
set_option maxRecDepth 20000 in
theorem gL_law_X9_still : GoodIn wsL_law (wsV RL 83 RX9 yX9_still wsX9_still) := goodIn_app (goodIn_of _ (by decide +kernel)) ggL_law_X9_still
set_option maxRecDepth 20000 in
theorem ggL_law_X8_ahead : GoodIn wsL_law wsX8_ahead := goodIn_r _ [630, 490, 22, 386, 495, 496, 497, 2, 498, 16, 139, 387, 388, 389, 390, 35, 391, 392, 393, 21, 394, 395, 69, 396, 397, 398, 399, 400, 401, 70, 402, 403, 71, 67, 68, 77, 404, 167, 164, 168, 169, 170, 171, 405, 189, 190, 15, 191, 45, 46, 406, 407, 408, 409, 410, 411, 412, 413, 414, 415, 631, 566, 567, 568, 515, 516, 517, 500, 501, 880, 881, 882, 883, 884, 885, 886, 887, 839, 840, 841, 842, 843, 844, 845, 846, 847, 848, 869, 870, 871, 872, 873, 874, 875, 876, 877, 878, 879] (by decide +kernel) (by decide +kernel)
set_option maxRecDepth 20000 in
theorem gL_law_X8_ahead : GoodIn wsL_law (wsV RL 84 RX8 yX8_ahead wsX8_ahead) := goodIn_app (goodIn_of _ (by decide +kernel)) ggL_law_X8_ahead
set_option maxRecDepth 20000 in
theorem ggL_law_X9_ahead : GoodIn wsL_law wsX9_ahead := goodIn_r _ [635, 453, 506, 507, 508, 5, 509, 118, 149, 150, 151, 466, 467, 468, 469, 120, 458, 459, 460, 461, 121, 462, 463, 464, 465, 522, 523, 524, 525, 849, 850, 851, 852, 853, 854, 855, 856, 857, 858, 859, 860, 861, 862, 863, 864, 865, 866, 867, 868] (by decide +kernel) (by decide +kernel)
set_option maxRecDepth 20000 in
theorem gL_law_X9_ahead : GoodIn wsL_law (wsV RL 87 RX9 yX9_ahead wsX9_ahead) := goodIn_app (goodIn_of _ (by decide +kernel)) ggL_law_X9_ahead
set_option maxRecDepth 20000 in
theorem ggL_law_X8_see : GoodIn wsL_law wsX8_see := goodIn_r _ [639, 16, 640, 641, 495, 496, 497, 2, 498, 139, 642, 643, 644, 52, 645, 60, 61, 62, 63, 839, 840, 841, 842, 843, 844, 845, 846, 847, 848, 869, 870, 871, 872, 873, 874, 875, 876, 877, 878, 879, 906, 907, 908, 909] (by decide +kernel) (by decide +kernel)
set_option maxRecDepth 20000 in
theorem gL_law_X8_see : GoodIn wsL_law (wsV RL 88 RX8 yX8_see wsX8_see) := goodIn_app (goodIn_of _ (by decide +kernel)) ggL_law_X8_see
set_option maxRecDepth 20000 in
theorem ggL_law_X9_see : GoodIn wsL_law wsX9_see := goodIn_r _ [649, 118, 149, 150, 5, 151, 506, 507, 508, 509, 849, 850, 851, 852, 853, 854, 855, 856, 857, 858, 859, 860, 861, 862, 863, 864, 865, 866, 867, 868] (by decide +kernel) (by decide +kernel)
set_option maxRecDepth 20000 in
theorem gL_law_X9_see : GoodIn wsL_law (wsV RL 92 RX9 yX9_see wsX9_see) := goodIn_app (goodIn_of _ (by decide +kernel)) ggL_law_X9_see
set_option maxRecDepth 20000 in
theorem ggL_law_X8_fits : GoodIn wsL_law wsX8_fits := goodIn_r _ [653, 18, 16, 156, 139, 654, 655, 656, 15, 657, 41, 44, 45, 46, 48, 43, 658, 659, 660, 661, 47, 49, 53, 54, 55, 662, 663, 664, 52, 665, 60, 61, 62, 63, 666, 643, 644, 645, 162, 163, 164, 165, 166, 167, 168, 169, 170, 171, 667, 668, 669, 2, 670, 157, 23, 640, 641, 671, 386, 490, 672, 673, 391, 392, 393, 21, 394, 395, 69, 396, 397, 398, 399, 400, 401, 70, 402, 403, 71, 67, 68, 77, 404, 405, 189, 190, 191, 406, 407, 408, 409, 410, 411, 412, 413, 414, 415, 499, 500, 501, 839, 840, 841, 842, 843, 844, 845, 846, 847, 848, 869, 870, 871, 872, 873, 874, 875, 876, 877, 878, 879, 906, 907, 908, 909, 880, 881, 882, 883, 884, 885, 886, 887] (by decide +kernel) (by decide +kernel)
set_option maxRecDepth 20000 in
theorem gL_law_X8_fits : GoodIn wsL_law (wsV RL 93 RX8 yX8_fits wsX8_fits) := goodIn_app (goodIn_of _ (by decide +kernel)) ggL_law_X8_fits
set_option maxRecDepth 20000 in
theorem ggL_law_X9_fits : GoodIn wsL_law wsX9_fits := goodIn_r _ [677, 118, 149, 150, 5, 151, 180, 181, 182, 183, 466, 467, 468, 469, 120, 453, 458, 459, 460, 461, 121, 462, 463, 464, 465, 678, 679, 680, 681, 849, 850, 851, 852, 853, 854, 855, 856, 857, 858, 859, 860, 861, 862, 863, 864, 865, 866, 867, 868] (by decide +kernel) (by decide +kernel)
set_option maxRecDepth 20000 in
theorem gL_law_X9_fits : GoodIn wsL_law (wsV RL 96 RX9 yX9_fits wsX9_fits) := goodIn_app (goodIn_of _ (by decide +kernel)) ggL_law_X9_fits
set_option maxRecDepth 20000 in
theorem ggL_law_X8_odds : GoodIn wsL_law wsX8_odds := goodIn_r _ [685, 686, 490, 22, 386, 495, 496, 497, 2, 498, 16, 139, 687, 688, 689, 387, 388, 389, 390, 35, 391, 392, 393, 21, 394, 395, 69, 396, 397, 398, 399, 400, 401, 70, 402, 403, 71, 67, 68, 77, 404, 167, 164, 168, 169, 170, 171, 405, 189, 190, 15, 191, 45, 46, 406, 407, 408, 409, 410, 411, 412, 413, 414, 415, 499, 500, 501, 690, 691, 692, 880, 881, 882, 883, 884, 885, 886, 887, 839, 840, 841, 842, 843, 844, 845, 846, 847, 848, 869, 870, 871, 872, 873, 874, 875, 876, 877, 878, 879] (by decide +kernel) (by decide +kernel)
set_option maxRecDepth 20000 in
theorem gL_law_X8_odds : GoodIn wsL_law (wsV RL 97 RX8 yX8_odds wsX8_odds) := goodIn_app (goodIn_of _ (by decide +kernel)) ggL_law_X8_odds
set_option maxRecDepth 20000 in
theorem ggL_law_X9_odds : GoodIn wsL_law wsX9_odds := goodIn_r _ [696, 697, 453, 506, 507, 508, 5, 509, 118, 149, 150, 151, 466, 467, 468, 469, 120, 458, 459, 460, 461, 121, 462, 463, 464, 465, 522, 523, 524, 525, 698, 699, 700, 849, 850, 851, 852, 853, 854, 855, 856, 857, 858, 859, 860, 861, 862, 863, 864, 865, 866, 867, 868] (by decide +kernel) (by decide +kernel)
set_option maxRecDepth 20000 in
theorem gL_law_X9_odds : GoodIn wsL_law (wsV RL 101 RX9 yX9_odds wsX9_odds) := goodIn_app (goodIn_of _ (by decide +kernel)) ggL_law_X9_odds
set_option maxRecDepth 20000 in
theorem ggL_law_X8_mean : GoodIn wsL_law wsX8_mean := goodIn_r _ [704, 686, 386, 687, 688, 2, 689, 550, 551, 552, 553, 490, 22, 16, 387, 388, 389, 390, 35, 391, 392, 393, 21, 394, 395, 69, 396, 397, 398, 399, 400, 401, 70, 402, 403, 71, 67, 68, 77, 404, 167, 164, 168, 169, 170, 171, 405, 189, 190, 15, 191, 45, 46, 406, 407, 408, 409, 410, 411, 412, 413, 414, 415, 554, 555, 556, 557, 41, 558, 559, 560, 561, 562, 563, 49, 564, 500, 501, 565, 566, 567, 568, 515, 516, 517, 690, 691, 692, 880, 881, 882, 883, 884, 885, 886, 887, 839, 840, 841, 842, 843, 844, 845, 846, 847, 848, 869, 870, 871, 872, 873, 874, 875, 876, 877, 878, 879] (by decide +kernel) (by decide +kernel)
set_option maxRecDepth 20000 in
theorem gL_law_X8_mean : GoodIn wsL_law (wsV RL 102 RX8 yX8_mean wsX8_mean) := goodIn_app (goodIn_of _ (by decide +kernel)) ggL_law_X8_mean
set_option maxRecDepth 20000 in
theorem ggL_law_X9_mean : GoodIn wsL_law wsX9_mean := goodIn_r _ [708, 697, 453, 149, 150, 5, 151, 466, 467, 468, 469, 118, 120, 458, 459, 460, 461, 121, 462, 463, 464, 465, 573, 574, 575, 576, 577, 578, 579, 580, 522, 523, 524, 525, 698, 699, 700, 849, 850, 851, 852, 853, 854, 855, 856, 857, 858, 859, 860, 861, 862, 863, 864, 865, 866, 867, 868] (by decide +kernel) (by decide +kernel)
set_option maxRecDepth 20000 in
theorem gL_law_X9_mean : GoodIn wsL_law (wsV RL 106 RX9 yX9_mean wsX9_mean) := goodIn_app (goodIn_of _ (by decide +kernel)) ggL_law_X9_mean
set_option maxRecDepth 20000 in
theorem ggL_law_X8_event : GoodIn wsL_law wsX8_event := goodIn_r _ [712, 16, 713, 641, 209, 210, 2, 211, 642, 643, 644, 52, 645, 60, 61, 62, 63, 839, 840, 841, 842, 843, 844, 845, 846, 847, 848, 869, 870, 871, 872, 873, 874, 875, 876, 877, 878, 879, 906, 907, 908, 909] (by decide +kernel) (by decide +kernel)
set_option maxRecDepth 20000 in
theorem gL_law_X8_event : GoodIn wsL_law (wsV RL 107 RX8 yX8_event wsX8_event) := goodIn_app (goodIn_of _ (by decide +kernel)) ggL_law_X8_event
set_option maxRecDepth 20000 in
theorem ggL_law_X9_event : GoodIn wsL_law wsX9_event := goodIn_r _ [717, 118, 149, 150, 5, 151, 849, 850, 851, 852, 853, 854, 855, 856, 857, 858, 859, 860, 861, 862, 863, 864, 865, 866, 867, 868] (by decide +kernel) (by decide +kernel)
set_option maxRecDepth 20000 in
theorem gL_law_X9_event : GoodIn wsL_law (wsV RL 110 RX9 yX9_event wsX9_event) := goodIn_app (goodIn_of _ (by decide +kernel)) ggL_law_X9_event
set_option maxRecDepth 20000 in
theorem ggL_law_X8_after : GoodIn wsL_law wsX8_after := goodIn_r _ [721, 18, 16, 23, 654, 655, 656, 15, 657, 41, 44, 45, 46, 48, 43, 658, 659, 660, 661, 47, 49, 53, 54, 55, 662, 663, 664, 52, 665, 60, 61, 62, 63, 666, 643, 644, 645, 722, 723, 724, 725, 144, 726, 727, 728, 729, 730, 731, 391, 392, 393, 21, 394, 395, 69, 396, 397, 398, 399, 400, 401, 70, 402, 403, 71, 67, 68, 77, 404, 167, 164, 168, 169, 170, 171, 405, 189, 190, 191, 406, 407, 408, 409, 410, 411, 412, 413, 414, 415, 416, 417, 418, 419, 72, 420, 421, 422, 423, 76, 424, 425, 426, 75, 427, 81, 428, 429, 430, 431, 432, 433, 434, 435, 436, 437, 438, 439, 440, 441, 442, 443, 444, 839, 840, 841, 842, 843, 844, 845, 846, 847, 848, 869, 870, 871, 872, 873, 874, 875, 876, 877, 878, 879, 906, 907, 908, 909, 880, 881, 882, 883, 884, 885, 886, 887, 910] (by decide +kernel) (by decide +kernel)
set_option maxRecDepth 20000 in
theorem gL_law_X8_after : GoodIn wsL_law (wsV RL 111 RX8 yX8_after wsX8_after) := goodIn_app (goodIn_of _ (by decide +kernel)) ggL_law_X8_after
set_option maxRecDepth 20000 in
theorem ggL_law_X9_after : GoodIn wsL_law wsX9_after := goodIn_r _ [735, 118, 736, 729, 730, 731, 149, 150, 5, 151, 466, 467, 468, 469, 120, 453, 458, 459, 460, 461, 121, 462, 463, 464, 465, 470, 471, 472, 473, 474, 475, 476, 477, 478, 479, 480, 481, 482, 483, 484, 485, 849, 850, 851, 852, 853, 854, 855, 856, 857, 858, 859, 860, 861, 862, 863, 864, 865, 866, 867, 868] (by decide +kernel) (by decide +kernel)
set_option maxRecDepth 20000 in
theorem gL_law_X9_after : GoodIn wsL_law (wsV RL 114 RX9 yX9_after wsX9_after) := goodIn_app (goodIn_of _ (by decide +kernel)) ggL_law_X9_after
set_option maxRecDepth 20000 in
theorem ggL_law_X8_book : GoodIn wsL_law wsX8_book := goodIn_r _ [740, 16, 741, 641, 495, 496, 497, 2, 498, 139, 642, 643, 644, 52, 645, 60, 61, 62, 63, 839, 840, 841, 842, 843, 844, 845, 846, 847, 848, 869, 870, 871, 872, 873, 874, 875, 876, 877, 878, 879, 906, 907, 908, 909] (by decide +kernel) (by decide +kernel)
set_option maxRecDepth 20000 in
theorem gL_law_X8_book : GoodIn wsL_law (wsV RL 115 RX8 yX8_book wsX8_book) := goodIn_app (goodIn_of _ (by decide +kernel)) ggL_law_X8_book
set_option maxRecDepth 20000 in
theorem ggL_law_X9_book : GoodIn wsL_law wsX9_book := goodIn_r _ [745, 118, 149, 150, 5, 151, 506, 507, 508, 509, 849, 850, 851, 852, 853, 854, 855, 856, 857, 858, 859, 860, 861, 862, 863, 864, 865, 866, 867, 868] (by decide +kernel) (by decide +kernel)
set_option maxRecDepth 20000 in
theorem gL_law_X9_book : GoodIn wsL_law (wsV RL 118 RX9 yX9_book wsX9_book) := goodIn_app (goodIn_of _ (by decide +kernel)) ggL_law_X9_book
set_option maxRecDepth 20000 in
theorem ggL_law_X8_looked : GoodIn wsL_law wsX8_looked := goodIn_r _ [749, 16, 741, 641, 671, 490, 672, 491, 492, 493, 2, 494, 386, 387, 388, 389, 390, 35, 22, 391, 392, 393, 21, 394, 395, 69, 396, 397, 398, 399, 400, 401, 70, 402, 403, 71, 67, 68, 77, 404, 167, 164, 168, 169, 170, 171, 405, 189, 190, 15, 191, 45, 46, 406, 407, 408, 409, 410, 411, 412, 413, 414, 415, 499, 500, 501, 839, 840, 841, 842, 843, 844, 845, 846, 847, 848, 869, 870, 871, 872, 873, 874, 875, 876, 877, 878, 879, 906, 907, 908, 909, 880, 881, 882, 883, 884, 885, 886, 887] (by decide +kernel) (by decide +kernel)
set_option maxRecDepth 20000 in
theorem gL_law_X8_looked : GoodIn wsL_law (wsV RL 119 RX8 yX8_looked wsX8_looked) := goodIn_app (goodIn_of _ (by decide +kernel)) ggL_law_X8_looked
set_option maxRecDepth 20000 in
theorem ggL_law_X9_looked : GoodIn wsL_law wsX9_looked := goodIn_r _ [753, 118, 453, 120, 466, 467, 468, 5, 469, 458, 459, 460, 461, 121, 462, 463, 464, 465, 849, 850, 851, 852, 853, 854, 855, 856, 857, 858, 859, 860, 861, 862, 863, 864, 865, 866, 867, 868] (by decide +kernel) (by decide +kernel)
set_option maxRecDepth 20000 in
theorem gL_law_X9_looked : GoodIn wsL_law (wsV RL 122 RX9 yX9_looked wsX9_looked) := goodIn_app (goodIn_of _ (by decide +kernel)) ggL_law_X9_looked
set_option maxRecDepth 20000 in
theorem ggL_law_X8_judge : GoodIn wsL_law wsX8_judge := goodIn_r _ [757, 33, 758, 16, 139, 759, 490, 491, 492, 493, 2, 494, 386, 387, 388, 389, 390, 35, 22, 391, 392, 393, 21, 394, 395, 69, 396, 397, 398, 399, 400, 401, 70, 402, 403, 71, 67, 68, 77, 404, 167, 164, 168, 169, 170, 171, 405, 189, 190, 15, 191, 45, 46, 406, 407, 408, 409, 410, 411, 412, 413, 414, 415, 760, 761, 762, 763, 764, 765, 37, 766, 111, 499, 500, 501, 839, 840, 841, 842, 843, 844, 845, 846, 847, 848, 903, 904, 905, 869, 870, 871, 872, 873, 874, 875, 876, 877, 878, 879, 880, 881, 882, 883, 884, 885, 886, 887] (by decide +kernel) (by decide +kernel)
set_option maxRecDepth 20000 in
theorem gL_law_X8_judge : GoodIn wsL_law (wsV RL 123 RX8 yX8_judge wsX8_judge) := goodIn_app (goodIn_of _ (by decide +kernel)) ggL_law_X8_judge
set_option maxRecDepth 20000 in
theorem ggL_law_X9_judge : GoodIn wsL_law wsX9_judge := goodIn_r _ [770, 453, 127, 118, 128, 129, 120, 466, 467, 468, 5, 469, 458, 459, 460, 461, 121, 462, 463, 464, 465, 149, 150, 151, 771, 772, 773, 849, 850, 851, 852, 853, 854, 855, 856, 857, 858, 859, 860, 861, 862, 863, 864, 865, 866, 867, 868] (by decide +kernel) (by decide +kernel)
set_option maxRecDepth 20000 in
theorem gL_law_X9_judge : GoodIn wsL_law (wsV RL 126 RX9 yX9_judge wsX9_judge) := goodIn_app (goodIn_of _ (by decide +kernel)) ggL_law_X9_judge
set_option maxRecDepth 20000 in
theorem ggL_law_X8_image : GoodIn wsL_law wsX8_image := goodIn_r _ [777, 17, 16, 34, 156, 654, 655, 656, 15, 657, 41, 44, 45, 46, 48, 43, 658, 659, 660, 661, 47, 49, 53, 54, 55, 662, 663, 664, 52, 665, 60, 61, 62, 63, 666, 643, 644, 645, 839, 840, 841, 842, 843, 844, 845, 846, 847, 848, 869, 870, 871, 872, 873, 874, 875, 876, 877, 878, 879, 906, 907, 908, 909] (by decide +kernel) (by decide +kernel)
set_option maxRecDepth 20000 in
theorem gL_law_X8_image : GoodIn wsL_law (wsV RL 127 RX8 yX8_image wsX8_image) := goodIn_app (goodIn_of _ (by decide +kernel)) ggL_law_X8_image
set_option maxRecDepth 20000 in
theorem ggL_law_X9_image : GoodIn wsL_law wsX9_image := goodIn_r _ [781, 782, 119, 118, 849, 850, 851, 852, 853, 854, 855, 856, 857, 858, 859, 860, 861, 862, 863, 864, 865, 866, 867, 868] (by decide +kernel) (by decide +kernel)
set_option maxRecDepth 20000 in
theorem gL_law_X9_image : GoodIn wsL_law (wsV RL 130 RX9 yX9_image wsX9_image) := goodIn_app (goodIn_of _ (by decide +kernel)) ggL_law_X9_image
set_option maxRecDepth 20000 in
theorem ggL_law_X8_undo : GoodIn wsL_law wsX8_undo := goodIn_r _ [786, 34, 16, 17, 35, 156, 654, 655, 656, 15, 657, 41, 44, 45, 46, 48, 43, 658, 659, 660, 661, 47, 49, 53, 54, 55, 662, 663, 664, 52, 665, 60, 61, 62, 63, 666, 643, 644, 645, 839, 840, 841, 842, 843, 844, 845, 846, 847, 848, 869, 870, 871, 872, 873, 874, 875, 876, 877, 878, 879, 906, 907, 908, 909] (by decide +kernel) (by decide +kernel)
set_option maxRecDepth 20000 in
theorem gL_law_X8_undo : GoodIn wsL_law (wsV RL 131 RX8 yX8_undo wsX8_undo) := goodIn_app (goodIn_of _ (by decide +kernel)) ggL_law_X8_undo
set_option maxRecDepth 20000 in
theorem ggL_law_X9_undo : GoodIn wsL_law wsX9_undo := goodIn_r _ [790, 782, 118, 119, 849, 850, 851, 852, 853, 854, 855, 856, 857, 858, 859, 860, 861, 862, 863, 864, 865, 866, 867, 868] (by decide +kernel) (by decide +kernel)
set_option maxRecDepth 20000 in
theorem gL_law_X9_undo : GoodIn wsL_law (wsV RL 134 RX9 yX9_undo wsX9_undo) := goodIn_app (goodIn_of _ (by decide +kernel)) ggL_law_X9_undo
set_option maxRecDepth 20000 in
theorem ggL_law_X8_count : GoodIn wsL_law wsX8_count := goodIn_r _ [794, 16, 640, 641, 713, 741, 31, 238, 839, 840, 841, 842, 843, 844, 845, 846, 847, 848, 869, 870, 871, 872, 873, 874, 875, 876, 877, 878, 879, 906, 907, 908, 909, 895, 896, 897, 898, 899, 900, 901, 902] (by decide +kernel) (by decide +kernel)
set_option maxRecDepth 20000 in
theorem gL_law_X8_count : GoodIn wsL_law (wsV RL 135 RX8 yX8_count wsX8_count) := goodIn_app (goodIn_of _ (by decide +kernel)) ggL_law_X8_count
set_option maxRecDepth 20000 in
theorem ggL_law_X9_count : GoodIn wsL_law wsX9_count := goodIn_r _ [798, 118, 247, 149, 150, 5, 151, 849, 850, 851, 852, 853, 854, 855, 856, 857, 858, 859, 860, 861, 862, 863, 864, 865, 866, 867, 868] (by decide +kernel) (by decide +kernel)
set_option maxRecDepth 20000 in
theorem gL_law_X9_count : GoodIn wsL_law (wsV RL 138 RX9 yX9_count wsX9_count) := goodIn_app (goodIn_of _ (by decide +kernel)) ggL_law_X9_count
set_option maxRecDepth 20000 in
theorem ggL_law_X8_tape : GoodIn wsL_law wsX8_tape := goodIn_r _ [802, 33, 760, 761, 2, 762, 803, 804, 805, 37, 806, 110, 111, 113, 839, 840, 841, 842, 843, 844, 845, 846, 847, 848, 903, 904, 905] (by decide +kernel) (by decide +kernel)
set_option maxRecDepth 20000 in
theorem gL_law_X8_tape : GoodIn wsL_law (wsV RL 139 RX8 yX8_tape wsX8_tape) := goodIn_app (goodIn_of _ (by decide +kernel)) ggL_law_X8_tape
set_option maxRecDepth 20000 in
theorem ggL_law_X9_tape : GoodIn wsL_law wsX9_tape := goodIn_r _ [810, 127, 128, 129, 771, 772, 5, 773, 149, 150, 151, 849, 850, 851, 852, 853, 854, 855, 856, 857, 858, 859, 860, 861, 862, 863, 864, 865, 866, 867, 868] (by decide +kernel) (by decide +kernel)
set_option maxRecDepth 20000 in
theorem gL_law_X9_tape : GoodIn wsL_law (wsV RL 142 RX9 yX9_tape wsX9_tape) := goodIn_app (goodIn_of _ (by decide +kernel)) ggL_law_X9_tape
set_option maxRecDepth 20000 in
theorem ggL_law_X8_item : GoodIn wsL_law wsX8_item := goodIn_r _ [814, 33, 758, 759, 760, 761, 2, 762, 763, 764, 765, 37, 766, 111, 815, 816, 817, 839, 840, 841, 842, 843, 844, 845, 846, 847, 848, 903, 904, 905] (by decide +kernel) (by decide +kernel)
set_option maxRecDepth 20000 in
theorem gL_law_X8_item : GoodIn wsL_law (wsV RL 145 RX8 yX8_item wsX8_item) := goodIn_app (goodIn_of _ (by decide +kernel)) ggL_law_X8_item
set_option maxRecDepth 20000 in
theorem ggL_law_X9_item : GoodIn wsL_law wsX9_item := goodIn_r _ [821, 127, 128, 129, 771, 772, 5, 773, 149, 150, 151, 849, 850, 851, 852, 853, 854, 855, 856, 857, 858, 859, 860, 861, 862, 863, 864, 865, 866, 867, 868] (by decide +kernel) (by decide +kernel)
set_option maxRecDepth 20000 in
theorem gL_law_X9_item : GoodIn wsL_law (wsV RL 149 RX9 yX9_item wsX9_item) := goodIn_app (goodIn_of _ (by decide +kernel)) ggL_law_X9_item
set_option maxRecDepth 20000 in
theorem ggL_law_X8_peek : GoodIn wsL_law wsX8_peek := goodIn_r _ [825, 33, 686, 759, 760, 761, 2, 762, 763, 764, 765, 37, 766, 111, 839, 840, 841, 842, 843, 844, 845, 846, 847, 848, 903, 904, 905] (by decide +kernel) (by decide +kernel)
set_option maxRecDepth 20000 in
theorem gL_law_X8_peek : GoodIn wsL_law (wsV RL 150 RX8 yX8_peek wsX8_peek) := goodIn_app (goodIn_of _ (by decide +kernel)) ggL_law_X8_peek
set_option maxRecDepth 20000 in
theorem ggL_law_X9_peek : GoodIn wsL_law wsX9_peek := goodIn_r _ [829, 128, 129, 697, 771, 772, 5, 773, 149, 150, 151, 849, 850, 851, 852, 853, 854, 855, 856, 857, 858, 859, 860, 861, 862, 863, 864, 865, 866, 867, 868] (by decide +kernel) (by decide +kernel)
set_option maxRecDepth 20000 in
theorem gL_law_X9_peek : GoodIn wsL_law (wsV RL 154 RX9 yX9_peek wsX9_peek) := goodIn_app (goodIn_of _ (by decide +kernel)) ggL_law_X9_peek
set_option maxRecDepth 20000 in
theorem ggL_law_X8_shift : GoodIn wsL_law wsX8_shift := goodIn_r _ [833, 33, 758, 759, 834, 659, 660, 661, 760, 761, 2, 762, 763, 764, 765, 37, 766, 111, 839, 840, 841, 842, 843, 844, 845, 846, 847, 848, 903, 904, 905] (by decide +kernel) (by decide +kernel)
set_option maxRecDepth 20000 in
theorem gL_law_X8_shift : GoodIn wsL_law (wsV RL 155 RX8 yX8_shift wsX8_shift) := goodIn_app (goodIn_of _ (by decide +kernel)) ggL_law_X8_shift
set_option maxRecDepth 20000 in
theorem ggL_law_X9_shift : GoodIn wsL_law wsX9_shift := goodIn_r _ [838, 127, 128, 130, 129, 771, 772, 5, 773, 149, 150, 151, 849, 850, 851, 852, 853, 854, 855, 856, 857, 858, 859, 860, 861, 862, 863, 864, 865, 866, 867, 868] (by decide +kernel) (by decide +kernel)
set_option maxRecDepth 20000 in
theorem gL_law_X9_shift : GoodIn wsL_law (wsV RL 159 RX9 yX9_shift wsX9_shift) := goodIn_app (goodIn_of _ (by decide +kernel)) ggL_law_X9_shift
theorem dL_law_0 : decode cL_law 0 = .ok (.new 7, 3) := by decide +kernel
theorem dL_law_3 : decode cL_law 3 = .ok (.dup, 1) := by decide +kernel
theorem dL_law_4 : decode cL_law 4 = .ok (.invokespecial 9, 3) := by decide +kernel
theorem dL_law_7 : decode cL_law 7 = .ok (.astore_n 1, 1) := by decide +kernel
theorem dL_law_8 : decode cL_law 8 = .ok (.new 10, 3) := by decide +kernel
theorem dL_law_11 : decode cL_law 11 = .ok (.dup, 1) := by decide +kernel
theorem dL_law_12 : decode cL_law 12 = .ok (.invokespecial 12, 3) := by decide +kernel
theorem dL_law_15 : decode cL_law 15 = .ok (.astore_n 2, 1) := by decide +kernel
theorem dL_law_16 : decode cL_law 16 = .ok (.iconst 0, 1) := by decide +kernel
theorem dL_law_17 : decode cL_law 17 = .ok (.istore_n 3, 1) := by decide +kernel
theorem dL_law_18 : decode cL_law 18 = .ok (.iload_n 3, 1) := by decide +kernel
theorem dL_law_19 : decode cL_law 19 = .ok (.aload_n 0, 1) := by decide +kernel
theorem dL_law_20 : decode cL_law 20 = .ok (.arraylength, 1) := by decide +kernel
theorem dL_law_21 : decode cL_law 21 = .ok (.bipush 6, 2) := by decide +kernel
theorem dL_law_23 : decode cL_law 23 = .ok (.isub, 1) := by decide +kernel
theorem dL_law_24 : decode cL_law 24 = .ok (.if_icmp .gt 1191, 3) := by decide +kernel
theorem dL_law_27 : decode cL_law 27 = .ok (.aload_n 0, 1) := by decide +kernel
theorem dL_law_28 : decode cL_law 28 = .ok (.iload_n 3, 1) := by decide +kernel
theorem dL_law_29 : decode cL_law 29 = .ok (.iaload, 1) := by decide +kernel
theorem dL_law_30 : decode cL_law 30 = .ok (.bipush 63, 2) := by decide +kernel
theorem dL_law_32 : decode cL_law 32 = .ok (.iand, 1) := by decide +kernel
theorem dL_law_33 : decode cL_law 33 = .ok (.tableswitch 1176 0 33 #[151, 174, 197, 230, 263, 286, 319, 342, 355, 388, 411, 444, 477, 500, 523, 546, 579, 602, 635, 678, 701, 745, 769, 802, 825, 858, 871, 914, 927, 940, 963, 1006, 1079, 1113], 151) := by decide +kernel
theorem dL_law_184 : decode cL_law 184 = .ok (.aload_n 1, 1) := by decide +kernel
theorem dL_law_185 : decode cL_law 185 = .ok (.aload_n 0, 1) := by decide +kernel
theorem dL_law_186 : decode cL_law 186 = .ok (.iload_n 3, 1) := by decide +kernel
theorem dL_law_187 : decode cL_law 187 = .ok (.iconst 1, 1) := by decide +kernel
theorem dL_law_188 : decode cL_law 188 = .ok (.iadd, 1) := by decide +kernel
theorem dL_law_189 : decode cL_law 189 = .ok (.iaload, 1) := by decide +kernel
theorem dL_law_190 : decode cL_law 190 = .ok (.invokevirtual 13, 3) := by decide +kernel
theorem dL_law_193 : decode cL_law 193 = .ok (.aload_n 2, 1) := by decide +kernel
theorem dL_law_194 : decode cL_law 194 = .ok (.aload_n 0, 1) := by decide +kernel
theorem dL_law_195 : decode cL_law 195 = .ok (.iload_n 3, 1) := by decide +kernel
theorem dL_law_196 : decode cL_law 196 = .ok (.iconst 1, 1) := by decide +kernel
theorem dL_law_197 : decode cL_law 197 = .ok (.iadd, 1) := by decide +kernel
theorem dL_law_198 : decode cL_law 198 = .ok (.iaload, 1) := by decide +kernel
theorem dL_law_199 : decode cL_law 199 = .ok (.invokevirtual 17, 3) := by decide +kernel
theorem dL_law_202 : decode cL_law 202 = .ok (.if_icmp .eq 1007, 3) := by decide +kernel
theorem dL_law_205 : decode cL_law 205 = .ok (.iconst 0, 1) := by decide +kernel
theorem dL_law_206 : decode cL_law 206 = .ok (.ireturn, 1) := by decide +kernel
theorem dL_law_207 : decode cL_law 207 = .ok (.aload_n 1, 1) := by decide +kernel
theorem dL_law_208 : decode cL_law 208 = .ok (.aload_n 0, 1) := by decide +kernel
theorem dL_law_209 : decode cL_law 209 = .ok (.iload_n 3, 1) := by decide +kernel
theorem dL_law_210 : decode cL_law 210 = .ok (.iconst 1, 1) := by decide +kernel
theorem dL_law_211 : decode cL_law 211 = .ok (.iadd, 1) := by decide +kernel
theorem dL_law_212 : decode cL_law 212 = .ok (.iaload, 1) := by decide +kernel
theorem dL_law_213 : decode cL_law 213 = .ok (.invokevirtual 18, 3) := by decide +kernel
theorem dL_law_216 : decode cL_law 216 = .ok (.aload_n 2, 1) := by decide +kernel
theorem dL_law_217 : decode cL_law 217 = .ok (.aload_n 0, 1) := by decide +kernel
theorem dL_law_218 : decode cL_law 218 = .ok (.iload_n 3, 1) := by decide +kernel
theorem dL_law_219 : decode cL_law 219 = .ok (.iconst 1, 1) := by decide +kernel
theorem dL_law_220 : decode cL_law 220 = .ok (.iadd, 1) := by decide +kernel
theorem dL_law_221 : decode cL_law 221 = .ok (.iaload, 1) := by decide +kernel
theorem dL_law_222 : decode cL_law 222 = .ok (.invokevirtual 21, 3) := by decide +kernel
theorem dL_law_225 : decode cL_law 225 = .ok (.if_icmp .eq 984, 3) := by decide +kernel
theorem dL_law_228 : decode cL_law 228 = .ok (.iconst 0, 1) := by decide +kernel
theorem dL_law_229 : decode cL_law 229 = .ok (.ireturn, 1) := by decide +kernel
theorem dL_law_230 : decode cL_law 230 = .ok (.aload_n 1, 1) := by decide +kernel
theorem dL_law_231 : decode cL_law 231 = .ok (.aload_n 0, 1) := by decide +kernel
theorem dL_law_232 : decode cL_law 232 = .ok (.iload_n 3, 1) := by decide +kernel
theorem dL_law_233 : decode cL_law 233 = .ok (.iconst 1, 1) := by decide +kernel
theorem dL_law_234 : decode cL_law 234 = .ok (.iadd, 1) := by decide +kernel
theorem dL_law_235 : decode cL_law 235 = .ok (.iaload, 1) := by decide +kernel
theorem dL_law_236 : decode cL_law 236 = .ok (.aload_n 0, 1) := by decide +kernel
theorem dL_law_237 : decode cL_law 237 = .ok (.iload_n 3, 1) := by decide +kernel
theorem dL_law_238 : decode cL_law 238 = .ok (.iconst 2, 1) := by decide +kernel
theorem dL_law_239 : decode cL_law 239 = .ok (.iadd, 1) := by decide +kernel
theorem dL_law_240 : decode cL_law 240 = .ok (.iaload, 1) := by decide +kernel
theorem dL_law_241 : decode cL_law 241 = .ok (.invokevirtual 22, 3) := by decide +kernel
theorem dL_law_244 : decode cL_law 244 = .ok (.aload_n 2, 1) := by decide +kernel
theorem dL_law_245 : decode cL_law 245 = .ok (.aload_n 0, 1) := by decide +kernel
theorem dL_law_246 : decode cL_law 246 = .ok (.iload_n 3, 1) := by decide +kernel
theorem dL_law_247 : decode cL_law 247 = .ok (.iconst 1, 1) := by decide +kernel
theorem dL_law_248 : decode cL_law 248 = .ok (.iadd, 1) := by decide +kernel
theorem dL_law_249 : decode cL_law 249 = .ok (.iaload, 1) := by decide +kernel
theorem dL_law_250 : decode cL_law 250 = .ok (.aload_n 0, 1) := by decide +kernel
theorem dL_law_251 : decode cL_law 251 = .ok (.iload_n 3, 1) := by decide +kernel
theorem dL_law_252 : decode cL_law 252 = .ok (.iconst 2, 1) := by decide +kernel
theorem dL_law_253 : decode cL_law 253 = .ok (.iadd, 1) := by decide +kernel
theorem dL_law_254 : decode cL_law 254 = .ok (.iaload, 1) := by decide +kernel
theorem dL_law_255 : decode cL_law 255 = .ok (.invokevirtual 26, 3) := by decide +kernel
theorem dL_law_258 : decode cL_law 258 = .ok (.if_icmp .eq 951, 3) := by decide +kernel
theorem dL_law_261 : decode cL_law 261 = .ok (.iconst 0, 1) := by decide +kernel
theorem dL_law_262 : decode cL_law 262 = .ok (.ireturn, 1) := by decide +kernel
theorem dL_law_263 : decode cL_law 263 = .ok (.aload_n 1, 1) := by decide +kernel
theorem dL_law_264 : decode cL_law 264 = .ok (.aload_n 0, 1) := by decide +kernel
theorem dL_law_265 : decode cL_law 265 = .ok (.iload_n 3, 1) := by decide +kernel
theorem dL_law_266 : decode cL_law 266 = .ok (.iconst 1, 1) := by decide +kernel
theorem dL_law_267 : decode cL_law 267 = .ok (.iadd, 1) := by decide +kernel
theorem dL_law_268 : decode cL_law 268 = .ok (.iaload, 1) := by decide +kernel
theorem dL_law_269 : decode cL_law 269 = .ok (.aload_n 0, 1) := by decide +kernel
theorem dL_law_270 : decode cL_law 270 = .ok (.iload_n 3, 1) := by decide +kernel
theorem dL_law_271 : decode cL_law 271 = .ok (.iconst 2, 1) := by decide +kernel
theorem dL_law_272 : decode cL_law 272 = .ok (.iadd, 1) := by decide +kernel
theorem dL_law_273 : decode cL_law 273 = .ok (.iaload, 1) := by decide +kernel
theorem dL_law_274 : decode cL_law 274 = .ok (.invokevirtual 27, 3) := by decide +kernel
theorem dL_law_277 : decode cL_law 277 = .ok (.aload_n 2, 1) := by decide +kernel
theorem dL_law_278 : decode cL_law 278 = .ok (.aload_n 0, 1) := by decide +kernel
theorem dL_law_279 : decode cL_law 279 = .ok (.iload_n 3, 1) := by decide +kernel
theorem dL_law_280 : decode cL_law 280 = .ok (.iconst 1, 1) := by decide +kernel
theorem dL_law_281 : decode cL_law 281 = .ok (.iadd, 1) := by decide +kernel
theorem dL_law_282 : decode cL_law 282 = .ok (.iaload, 1) := by decide +kernel
theorem dL_law_283 : decode cL_law 283 = .ok (.aload_n 0, 1) := by decide +kernel
theorem dL_law_284 : decode cL_law 284 = .ok (.iload_n 3, 1) := by decide +kernel
theorem dL_law_285 : decode cL_law 285 = .ok (.iconst 2, 1) := by decide +kernel
theorem dL_law_286 : decode cL_law 286 = .ok (.iadd, 1) := by decide +kernel
theorem dL_law_287 : decode cL_law 287 = .ok (.iaload, 1) := by decide +kernel
theorem dL_law_288 : decode cL_law 288 = .ok (.invokevirtual 30, 3) := by decide +kernel
theorem dL_law_291 : decode cL_law 291 = .ok (.if_icmp .eq 918, 3) := by decide +kernel
theorem dL_law_294 : decode cL_law 294 = .ok (.iconst 0, 1) := by decide +kernel
theorem dL_law_295 : decode cL_law 295 = .ok (.ireturn, 1) := by decide +kernel
theorem dL_law_296 : decode cL_law 296 = .ok (.aload_n 1, 1) := by decide +kernel
theorem dL_law_297 : decode cL_law 297 = .ok (.aload_n 0, 1) := by decide +kernel
theorem dL_law_298 : decode cL_law 298 = .ok (.iload_n 3, 1) := by decide +kernel
theorem dL_law_299 : decode cL_law 299 = .ok (.iconst 1, 1) := by decide +kernel
theorem dL_law_300 : decode cL_law 300 = .ok (.iadd, 1) := by decide +kernel
theorem dL_law_301 : decode cL_law 301 = .ok (.iaload, 1) := by decide +kernel
theorem dL_law_302 : decode cL_law 302 = .ok (.invokevirtual 31, 3) := by decide +kernel
theorem dL_law_305 : decode cL_law 305 = .ok (.aload_n 2, 1) := by decide +kernel
theorem dL_law_306 : decode cL_law 306 = .ok (.aload_n 0, 1) := by decide +kernel
theorem dL_law_307 : decode cL_law 307 = .ok (.iload_n 3, 1) := by decide +kernel
theorem dL_law_308 : decode cL_law 308 = .ok (.iconst 1, 1) := by decide +kernel
theorem dL_law_309 : decode cL_law 309 = .ok (.iadd, 1) := by decide +kernel
theorem dL_law_310 : decode cL_law 310 = .ok (.iaload, 1) := by decide +kernel
theorem dL_law_311 : decode cL_law 311 = .ok (.invokevirtual 34, 3) := by decide +kernel
theorem dL_law_314 : decode cL_law 314 = .ok (.if_icmp .eq 895, 3) := by decide +kernel
theorem dL_law_317 : decode cL_law 317 = .ok (.iconst 0, 1) := by decide +kernel
theorem dL_law_318 : decode cL_law 318 = .ok (.ireturn, 1) := by decide +kernel
theorem dL_law_319 : decode cL_law 319 = .ok (.aload_n 1, 1) := by decide +kernel
theorem dL_law_320 : decode cL_law 320 = .ok (.aload_n 0, 1) := by decide +kernel
theorem dL_law_321 : decode cL_law 321 = .ok (.iload_n 3, 1) := by decide +kernel
theorem dL_law_322 : decode cL_law 322 = .ok (.iconst 1, 1) := by decide +kernel
theorem dL_law_323 : decode cL_law 323 = .ok (.iadd, 1) := by decide +kernel
theorem dL_law_324 : decode cL_law 324 = .ok (.iaload, 1) := by decide +kernel
theorem dL_law_325 : decode cL_law 325 = .ok (.aload_n 0, 1) := by decide +kernel
theorem dL_law_326 : decode cL_law 326 = .ok (.iload_n 3, 1) := by decide +kernel
theorem dL_law_327 : decode cL_law 327 = .ok (.iconst 2, 1) := by decide +kernel
theorem dL_law_328 : decode cL_law 328 = .ok (.iadd, 1) := by decide +kernel
theorem dL_law_329 : decode cL_law 329 = .ok (.iaload, 1) := by decide +kernel
theorem dL_law_330 : decode cL_law 330 = .ok (.invokevirtual 35, 3) := by decide +kernel
theorem dL_law_333 : decode cL_law 333 = .ok (.aload_n 2, 1) := by decide +kernel
theorem dL_law_334 : decode cL_law 334 = .ok (.aload_n 0, 1) := by decide +kernel
theorem dL_law_335 : decode cL_law 335 = .ok (.iload_n 3, 1) := by decide +kernel
theorem dL_law_336 : decode cL_law 336 = .ok (.iconst 1, 1) := by decide +kernel
theorem dL_law_337 : decode cL_law 337 = .ok (.iadd, 1) := by decide +kernel
theorem dL_law_338 : decode cL_law 338 = .ok (.iaload, 1) := by decide +kernel
theorem dL_law_339 : decode cL_law 339 = .ok (.aload_n 0, 1) := by decide +kernel
theorem dL_law_340 : decode cL_law 340 = .ok (.iload_n 3, 1) := by decide +kernel
theorem dL_law_341 : decode cL_law 341 = .ok (.iconst 2, 1) := by decide +kernel
theorem dL_law_342 : decode cL_law 342 = .ok (.iadd, 1) := by decide +kernel
theorem dL_law_343 : decode cL_law 343 = .ok (.iaload, 1) := by decide +kernel
theorem dL_law_344 : decode cL_law 344 = .ok (.invokevirtual 38, 3) := by decide +kernel
theorem dL_law_347 : decode cL_law 347 = .ok (.if_icmp .eq 862, 3) := by decide +kernel
theorem dL_law_350 : decode cL_law 350 = .ok (.iconst 0, 1) := by decide +kernel
theorem dL_law_351 : decode cL_law 351 = .ok (.ireturn, 1) := by decide +kernel
theorem dL_law_352 : decode cL_law 352 = .ok (.aload_n 1, 1) := by decide +kernel
theorem dL_law_353 : decode cL_law 353 = .ok (.aload_n 0, 1) := by decide +kernel
theorem dL_law_354 : decode cL_law 354 = .ok (.iload_n 3, 1) := by decide +kernel
theorem dL_law_355 : decode cL_law 355 = .ok (.iconst 1, 1) := by decide +kernel
theorem dL_law_356 : decode cL_law 356 = .ok (.iadd, 1) := by decide +kernel
theorem dL_law_357 : decode cL_law 357 = .ok (.iaload, 1) := by decide +kernel
theorem dL_law_358 : decode cL_law 358 = .ok (.invokevirtual 39, 3) := by decide +kernel
theorem dL_law_361 : decode cL_law 361 = .ok (.aload_n 2, 1) := by decide +kernel
theorem dL_law_362 : decode cL_law 362 = .ok (.aload_n 0, 1) := by decide +kernel
theorem dL_law_363 : decode cL_law 363 = .ok (.iload_n 3, 1) := by decide +kernel
theorem dL_law_364 : decode cL_law 364 = .ok (.iconst 1, 1) := by decide +kernel
theorem dL_law_365 : decode cL_law 365 = .ok (.iadd, 1) := by decide +kernel
theorem dL_law_366 : decode cL_law 366 = .ok (.iaload, 1) := by decide +kernel
theorem dL_law_367 : decode cL_law 367 = .ok (.invokevirtual 42, 3) := by decide +kernel
theorem dL_law_370 : decode cL_law 370 = .ok (.if_icmp .eq 839, 3) := by decide +kernel
theorem dL_law_373 : decode cL_law 373 = .ok (.iconst 0, 1) := by decide +kernel
theorem dL_law_374 : decode cL_law 374 = .ok (.ireturn, 1) := by decide +kernel
theorem dL_law_375 : decode cL_law 375 = .ok (.aload_n 1, 1) := by decide +kernel
theorem dL_law_376 : decode cL_law 376 = .ok (.invokevirtual 43, 3) := by decide +kernel
theorem dL_law_379 : decode cL_law 379 = .ok (.aload_n 2, 1) := by decide +kernel
theorem dL_law_380 : decode cL_law 380 = .ok (.invokevirtual 47, 3) := by decide +kernel
theorem dL_law_383 : decode cL_law 383 = .ok (.if_icmp .eq 826, 3) := by decide +kernel
theorem dL_law_386 : decode cL_law 386 = .ok (.iconst 0, 1) := by decide +kernel
theorem dL_law_387 : decode cL_law 387 = .ok (.ireturn, 1) := by decide +kernel
theorem dL_law_388 : decode cL_law 388 = .ok (.aload_n 1, 1) := by decide +kernel
theorem dL_law_389 : decode cL_law 389 = .ok (.aload_n 0, 1) := by decide +kernel
theorem dL_law_390 : decode cL_law 390 = .ok (.iload_n 3, 1) := by decide +kernel
theorem dL_law_391 : decode cL_law 391 = .ok (.iconst 1, 1) := by decide +kernel
theorem dL_law_392 : decode cL_law 392 = .ok (.iadd, 1) := by decide +kernel
theorem dL_law_393 : decode cL_law 393 = .ok (.iaload, 1) := by decide +kernel
theorem dL_law_394 : decode cL_law 394 = .ok (.aload_n 0, 1) := by decide +kernel
theorem dL_law_395 : decode cL_law 395 = .ok (.iload_n 3, 1) := by decide +kernel
theorem dL_law_396 : decode cL_law 396 = .ok (.iconst 2, 1) := by decide +kernel
theorem dL_law_397 : decode cL_law 397 = .ok (.iadd, 1) := by decide +kernel
theorem dL_law_398 : decode cL_law 398 = .ok (.iaload, 1) := by decide +kernel
theorem dL_law_399 : decode cL_law 399 = .ok (.invokevirtual 48, 3) := by decide +kernel
theorem dL_law_402 : decode cL_law 402 = .ok (.aload_n 2, 1) := by decide +kernel
theorem dL_law_403 : decode cL_law 403 = .ok (.aload_n 0, 1) := by decide +kernel
theorem dL_law_404 : decode cL_law 404 = .ok (.iload_n 3, 1) := by decide +kernel
theorem dL_law_405 : decode cL_law 405 = .ok (.iconst 1, 1) := by decide +kernel
theorem dL_law_406 : decode cL_law 406 = .ok (.iadd, 1) := by decide +kernel
theorem dL_law_407 : decode cL_law 407 = .ok (.iaload, 1) := by decide +kernel
theorem dL_law_408 : decode cL_law 408 = .ok (.aload_n 0, 1) := by decide +kernel
theorem dL_law_409 : decode cL_law 409 = .ok (.iload_n 3, 1) := by decide +kernel
theorem dL_law_410 : decode cL_law 410 = .ok (.iconst 2, 1) := by decide +kernel
theorem dL_law_411 : decode cL_law 411 = .ok (.iadd, 1) := by decide +kernel
theorem dL_law_412 : decode cL_law 412 = .ok (.iaload, 1) := by decide +kernel
theorem dL_law_413 : decode cL_law 413 = .ok (.invokevirtual 51, 3) := by decide +kernel
theorem dL_law_416 : decode cL_law 416 = .ok (.if_icmp .eq 793, 3) := by decide +kernel
theorem dL_law_419 : decode cL_law 419 = .ok (.iconst 0, 1) := by decide +kernel
theorem dL_law_420 : decode cL_law 420 = .ok (.ireturn, 1) := by decide +kernel
theorem dL_law_421 : decode cL_law 421 = .ok (.aload_n 1, 1) := by decide +kernel
theorem dL_law_422 : decode cL_law 422 = .ok (.aload_n 0, 1) := by decide +kernel
theorem dL_law_423 : decode cL_law 423 = .ok (.iload_n 3, 1) := by decide +kernel
theorem dL_law_424 : decode cL_law 424 = .ok (.iconst 1, 1) := by decide +kernel
theorem dL_law_425 : decode cL_law 425 = .ok (.iadd, 1) := by decide +kernel
theorem dL_law_426 : decode cL_law 426 = .ok (.iaload, 1) := by decide +kernel
theorem dL_law_427 : decode cL_law 427 = .ok (.invokevirtual 52, 3) := by decide +kernel
theorem dL_law_430 : decode cL_law 430 = .ok (.aload_n 2, 1) := by decide +kernel
theorem dL_law_431 : decode cL_law 431 = .ok (.aload_n 0, 1) := by decide +kernel
theorem dL_law_432 : decode cL_law 432 = .ok (.iload_n 3, 1) := by decide +kernel
theorem dL_law_433 : decode cL_law 433 = .ok (.iconst 1, 1) := by decide +kernel
theorem dL_law_434 : decode cL_law 434 = .ok (.iadd, 1) := by decide +kernel
theorem dL_law_435 : decode cL_law 435 = .ok (.iaload, 1) := by decide +kernel
theorem dL_law_436 : decode cL_law 436 = .ok (.invokevirtual 55, 3) := by decide +kernel
theorem dL_law_439 : decode cL_law 439 = .ok (.if_icmp .eq 770, 3) := by decide +kernel
theorem dL_law_442 : decode cL_law 442 = .ok (.iconst 0, 1) := by decide +kernel
theorem dL_law_443 : decode cL_law 443 = .ok (.ireturn, 1) := by decide +kernel
theorem dL_law_444 : decode cL_law 444 = .ok (.aload_n 1, 1) := by decide +kernel
theorem dL_law_445 : decode cL_law 445 = .ok (.aload_n 0, 1) := by decide +kernel
theorem dL_law_446 : decode cL_law 446 = .ok (.iload_n 3, 1) := by decide +kernel
theorem dL_law_447 : decode cL_law 447 = .ok (.iconst 1, 1) := by decide +kernel
theorem dL_law_448 : decode cL_law 448 = .ok (.iadd, 1) := by decide +kernel
theorem dL_law_449 : decode cL_law 449 = .ok (.iaload, 1) := by decide +kernel
theorem dL_law_450 : decode cL_law 450 = .ok (.aload_n 0, 1) := by decide +kernel
theorem dL_law_451 : decode cL_law 451 = .ok (.iload_n 3, 1) := by decide +kernel
theorem dL_law_452 : decode cL_law 452 = .ok (.iconst 2, 1) := by decide +kernel
theorem dL_law_453 : decode cL_law 453 = .ok (.iadd, 1) := by decide +kernel
theorem dL_law_454 : decode cL_law 454 = .ok (.iaload, 1) := by decide +kernel
theorem dL_law_455 : decode cL_law 455 = .ok (.invokevirtual 56, 3) := by decide +kernel
theorem dL_law_458 : decode cL_law 458 = .ok (.aload_n 2, 1) := by decide +kernel
theorem dL_law_459 : decode cL_law 459 = .ok (.aload_n 0, 1) := by decide +kernel
theorem dL_law_460 : decode cL_law 460 = .ok (.iload_n 3, 1) := by decide +kernel
theorem dL_law_461 : decode cL_law 461 = .ok (.iconst 1, 1) := by decide +kernel
theorem dL_law_462 : decode cL_law 462 = .ok (.iadd, 1) := by decide +kernel
theorem dL_law_463 : decode cL_law 463 = .ok (.iaload, 1) := by decide +kernel
theorem dL_law_464 : decode cL_law 464 = .ok (.aload_n 0, 1) := by decide +kernel
theorem dL_law_465 : decode cL_law 465 = .ok (.iload_n 3, 1) := by decide +kernel
theorem dL_law_466 : decode cL_law 466 = .ok (.iconst 2, 1) := by decide +kernel
theorem dL_law_467 : decode cL_law 467 = .ok (.iadd, 1) := by decide +kernel
theorem dL_law_468 : decode cL_law 468 = .ok (.iaload, 1) := by decide +kernel
theorem dL_law_469 : decode cL_law 469 = .ok (.invokevirtual 59, 3) := by decide +kernel
theorem dL_law_472 : decode cL_law 472 = .ok (.if_icmp .eq 737, 3) := by decide +kernel
theorem dL_law_475 : decode cL_law 475 = .ok (.iconst 0, 1) := by decide +kernel
theorem dL_law_476 : decode cL_law 476 = .ok (.ireturn, 1) := by decide +kernel
theorem dL_law_477 : decode cL_law 477 = .ok (.aload_n 1, 1) := by decide +kernel
theorem dL_law_478 : decode cL_law 478 = .ok (.aload_n 0, 1) := by decide +kernel
theorem dL_law_479 : decode cL_law 479 = .ok (.iload_n 3, 1) := by decide +kernel
theorem dL_law_480 : decode cL_law 480 = .ok (.iconst 1, 1) := by decide +kernel
theorem dL_law_481 : decode cL_law 481 = .ok (.iadd, 1) := by decide +kernel
theorem dL_law_482 : decode cL_law 482 = .ok (.iaload, 1) := by decide +kernel
theorem dL_law_483 : decode cL_law 483 = .ok (.aload_n 0, 1) := by decide +kernel
theorem dL_law_484 : decode cL_law 484 = .ok (.iload_n 3, 1) := by decide +kernel
theorem dL_law_485 : decode cL_law 485 = .ok (.iconst 2, 1) := by decide +kernel
theorem dL_law_486 : decode cL_law 486 = .ok (.iadd, 1) := by decide +kernel
theorem dL_law_487 : decode cL_law 487 = .ok (.iaload, 1) := by decide +kernel
theorem dL_law_488 : decode cL_law 488 = .ok (.invokevirtual 60, 3) := by decide +kernel
theorem dL_law_491 : decode cL_law 491 = .ok (.aload_n 2, 1) := by decide +kernel
theorem dL_law_492 : decode cL_law 492 = .ok (.aload_n 0, 1) := by decide +kernel
theorem dL_law_493 : decode cL_law 493 = .ok (.iload_n 3, 1) := by decide +kernel
theorem dL_law_494 : decode cL_law 494 = .ok (.iconst 1, 1) := by decide +kernel
theorem dL_law_495 : decode cL_law 495 = .ok (.iadd, 1) := by decide +kernel
theorem dL_law_496 : decode cL_law 496 = .ok (.iaload, 1) := by decide +kernel
theorem dL_law_497 : decode cL_law 497 = .ok (.aload_n 0, 1) := by decide +kernel
theorem dL_law_498 : decode cL_law 498 = .ok (.iload_n 3, 1) := by decide +kernel
theorem dL_law_499 : decode cL_law 499 = .ok (.iconst 2, 1) := by decide +kernel
theorem dL_law_500 : decode cL_law 500 = .ok (.iadd, 1) := by decide +kernel
theorem dL_law_501 : decode cL_law 501 = .ok (.iaload, 1) := by decide +kernel
theorem dL_law_502 : decode cL_law 502 = .ok (.invokevirtual 63, 3) := by decide +kernel
theorem dL_law_505 : decode cL_law 505 = .ok (.if_icmp .eq 704, 3) := by decide +kernel
theorem dL_law_508 : decode cL_law 508 = .ok (.iconst 0, 1) := by decide +kernel
theorem dL_law_509 : decode cL_law 509 = .ok (.ireturn, 1) := by decide +kernel
theorem dL_law_510 : decode cL_law 510 = .ok (.aload_n 1, 1) := by decide +kernel
theorem dL_law_511 : decode cL_law 511 = .ok (.aload_n 0, 1) := by decide +kernel
theorem dL_law_512 : decode cL_law 512 = .ok (.iload_n 3, 1) := by decide +kernel
theorem dL_law_513 : decode cL_law 513 = .ok (.iconst 1, 1) := by decide +kernel
theorem dL_law_514 : decode cL_law 514 = .ok (.iadd, 1) := by decide +kernel
theorem dL_law_515 : decode cL_law 515 = .ok (.iaload, 1) := by decide +kernel
theorem dL_law_516 : decode cL_law 516 = .ok (.invokevirtual 64, 3) := by decide +kernel
theorem dL_law_519 : decode cL_law 519 = .ok (.aload_n 2, 1) := by decide +kernel
theorem dL_law_520 : decode cL_law 520 = .ok (.aload_n 0, 1) := by decide +kernel
theorem dL_law_521 : decode cL_law 521 = .ok (.iload_n 3, 1) := by decide +kernel
theorem dL_law_522 : decode cL_law 522 = .ok (.iconst 1, 1) := by decide +kernel
theorem dL_law_523 : decode cL_law 523 = .ok (.iadd, 1) := by decide +kernel
theorem dL_law_524 : decode cL_law 524 = .ok (.iaload, 1) := by decide +kernel
theorem dL_law_525 : decode cL_law 525 = .ok (.invokevirtual 67, 3) := by decide +kernel
theorem dL_law_528 : decode cL_law 528 = .ok (.if_icmp .eq 681, 3) := by decide +kernel
theorem dL_law_531 : decode cL_law 531 = .ok (.iconst 0, 1) := by decide +kernel
theorem dL_law_532 : decode cL_law 532 = .ok (.ireturn, 1) := by decide +kernel
theorem dL_law_533 : decode cL_law 533 = .ok (.aload_n 1, 1) := by decide +kernel
theorem dL_law_534 : decode cL_law 534 = .ok (.aload_n 0, 1) := by decide +kernel
theorem dL_law_535 : decode cL_law 535 = .ok (.iload_n 3, 1) := by decide +kernel
theorem dL_law_536 : decode cL_law 536 = .ok (.iconst 1, 1) := by decide +kernel
theorem dL_law_537 : decode cL_law 537 = .ok (.iadd, 1) := by decide +kernel
theorem dL_law_538 : decode cL_law 538 = .ok (.iaload, 1) := by decide +kernel
theorem dL_law_539 : decode cL_law 539 = .ok (.invokevirtual 68, 3) := by decide +kernel
theorem dL_law_542 : decode cL_law 542 = .ok (.aload_n 2, 1) := by decide +kernel
theorem dL_law_543 : decode cL_law 543 = .ok (.aload_n 0, 1) := by decide +kernel
theorem dL_law_544 : decode cL_law 544 = .ok (.iload_n 3, 1) := by decide +kernel
theorem dL_law_545 : decode cL_law 545 = .ok (.iconst 1, 1) := by decide +kernel
theorem dL_law_546 : decode cL_law 546 = .ok (.iadd, 1) := by decide +kernel
theorem dL_law_547 : decode cL_law 547 = .ok (.iaload, 1) := by decide +kernel
theorem dL_law_548 : decode cL_law 548 = .ok (.invokevirtual 71, 3) := by decide +kernel
theorem dL_law_551 : decode cL_law 551 = .ok (.if_icmp .eq 658, 3) := by decide +kernel
theorem dL_law_554 : decode cL_law 554 = .ok (.iconst 0, 1) := by decide +kernel
theorem dL_law_555 : decode cL_law 555 = .ok (.ireturn, 1) := by decide +kernel
theorem dL_law_556 : decode cL_law 556 = .ok (.aload_n 1, 1) := by decide +kernel
theorem dL_law_557 : decode cL_law 557 = .ok (.aload_n 0, 1) := by decide +kernel
theorem dL_law_558 : decode cL_law 558 = .ok (.iload_n 3, 1) := by decide +kernel
theorem dL_law_559 : decode cL_law 559 = .ok (.iconst 1, 1) := by decide +kernel
theorem dL_law_560 : decode cL_law 560 = .ok (.iadd, 1) := by decide +kernel
theorem dL_law_561 : decode cL_law 561 = .ok (.iaload, 1) := by decide +kernel
theorem dL_law_562 : decode cL_law 562 = .ok (.invokevirtual 72, 3) := by decide +kernel
theorem dL_law_565 : decode cL_law 565 = .ok (.aload_n 2, 1) := by decide +kernel
theorem dL_law_566 : decode cL_law 566 = .ok (.aload_n 0, 1) := by decide +kernel
theorem dL_law_567 : decode cL_law 567 = .ok (.iload_n 3, 1) := by decide +kernel
theorem dL_law_568 : decode cL_law 568 = .ok (.iconst 1, 1) := by decide +kernel
theorem dL_law_569 : decode cL_law 569 = .ok (.iadd, 1) := by decide +kernel
theorem dL_law_570 : decode cL_law 570 = .ok (.iaload, 1) := by decide +kernel
theorem dL_law_571 : decode cL_law 571 = .ok (.invokevirtual 75, 3) := by decide +kernel
theorem dL_law_574 : decode cL_law 574 = .ok (.if_icmp .eq 635, 3) := by decide +kernel
theorem dL_law_577 : decode cL_law 577 = .ok (.iconst 0, 1) := by decide +kernel
theorem dL_law_578 : decode cL_law 578 = .ok (.ireturn, 1) := by decide +kernel
theorem dL_law_579 : decode cL_law 579 = .ok (.aload_n 1, 1) := by decide +kernel
theorem dL_law_580 : decode cL_law 580 = .ok (.aload_n 0, 1) := by decide +kernel
theorem dL_law_581 : decode cL_law 581 = .ok (.iload_n 3, 1) := by decide +kernel
theorem dL_law_582 : decode cL_law 582 = .ok (.iconst 1, 1) := by decide +kernel
theorem dL_law_583 : decode cL_law 583 = .ok (.iadd, 1) := by decide +kernel
theorem dL_law_584 : decode cL_law 584 = .ok (.iaload, 1) := by decide +kernel
theorem dL_law_585 : decode cL_law 585 = .ok (.aload_n 0, 1) := by decide +kernel
theorem dL_law_586 : decode cL_law 586 = .ok (.iload_n 3, 1) := by decide +kernel
theorem dL_law_587 : decode cL_law 587 = .ok (.iconst 2, 1) := by decide +kernel
theorem dL_law_588 : decode cL_law 588 = .ok (.iadd, 1) := by decide +kernel
theorem dL_law_589 : decode cL_law 589 = .ok (.iaload, 1) := by decide +kernel
theorem dL_law_590 : decode cL_law 590 = .ok (.invokevirtual 76, 3) := by decide +kernel
theorem dL_law_593 : decode cL_law 593 = .ok (.aload_n 2, 1) := by decide +kernel
theorem dL_law_594 : decode cL_law 594 = .ok (.aload_n 0, 1) := by decide +kernel
theorem dL_law_595 : decode cL_law 595 = .ok (.iload_n 3, 1) := by decide +kernel
theorem dL_law_596 : decode cL_law 596 = .ok (.iconst 1, 1) := by decide +kernel
theorem dL_law_597 : decode cL_law 597 = .ok (.iadd, 1) := by decide +kernel
theorem dL_law_598 : decode cL_law 598 = .ok (.iaload, 1) := by decide +kernel
theorem dL_law_599 : decode cL_law 599 = .ok (.aload_n 0, 1) := by decide +kernel
theorem dL_law_600 : decode cL_law 600 = .ok (.iload_n 3, 1) := by decide +kernel
theorem dL_law_601 : decode cL_law 601 = .ok (.iconst 2, 1) := by decide +kernel
theorem dL_law_602 : decode cL_law 602 = .ok (.iadd, 1) := by decide +kernel
theorem dL_law_603 : decode cL_law 603 = .ok (.iaload, 1) := by decide +kernel
theorem dL_law_604 : decode cL_law 604 = .ok (.invokevirtual 79, 3) := by decide +kernel
theorem dL_law_607 : decode cL_law 607 = .ok (.if_icmp .eq 602, 3) := by decide +kernel
theorem dL_law_610 : decode cL_law 610 = .ok (.iconst 0, 1) := by decide +kernel
theorem dL_law_611 : decode cL_law 611 = .ok (.ireturn, 1) := by decide +kernel
theorem dL_law_612 : decode cL_law 612 = .ok (.aload_n 1, 1) := by decide +kernel
theorem dL_law_613 : decode cL_law 613 = .ok (.aload_n 0, 1) := by decide +kernel
theorem dL_law_614 : decode cL_law 614 = .ok (.iload_n 3, 1) := by decide +kernel
theorem dL_law_615 : decode cL_law 615 = .ok (.iconst 1, 1) := by decide +kernel
theorem dL_law_616 : decode cL_law 616 = .ok (.iadd, 1) := by decide +kernel
theorem dL_law_617 : decode cL_law 617 = .ok (.iaload, 1) := by decide +kernel
theorem dL_law_618 : decode cL_law 618 = .ok (.invokevirtual 80, 3) := by decide +kernel
theorem dL_law_621 : decode cL_law 621 = .ok (.aload_n 2, 1) := by decide +kernel
theorem dL_law_622 : decode cL_law 622 = .ok (.aload_n 0, 1) := by decide +kernel
theorem dL_law_623 : decode cL_law 623 = .ok (.iload_n 3, 1) := by decide +kernel
theorem dL_law_624 : decode cL_law 624 = .ok (.iconst 1, 1) := by decide +kernel
theorem dL_law_625 : decode cL_law 625 = .ok (.iadd, 1) := by decide +kernel
theorem dL_law_626 : decode cL_law 626 = .ok (.iaload, 1) := by decide +kernel
theorem dL_law_627 : decode cL_law 627 = .ok (.invokevirtual 83, 3) := by decide +kernel
theorem dL_law_630 : decode cL_law 630 = .ok (.if_icmp .eq 579, 3) := by decide +kernel
theorem dL_law_633 : decode cL_law 633 = .ok (.iconst 0, 1) := by decide +kernel
theorem dL_law_634 : decode cL_law 634 = .ok (.ireturn, 1) := by decide +kernel
theorem dL_law_635 : decode cL_law 635 = .ok (.aload_n 1, 1) := by decide +kernel
theorem dL_law_636 : decode cL_law 636 = .ok (.aload_n 0, 1) := by decide +kernel
theorem dL_law_637 : decode cL_law 637 = .ok (.iload_n 3, 1) := by decide +kernel
theorem dL_law_638 : decode cL_law 638 = .ok (.iconst 1, 1) := by decide +kernel
theorem dL_law_639 : decode cL_law 639 = .ok (.iadd, 1) := by decide +kernel
theorem dL_law_640 : decode cL_law 640 = .ok (.iaload, 1) := by decide +kernel
theorem dL_law_641 : decode cL_law 641 = .ok (.aload_n 0, 1) := by decide +kernel
theorem dL_law_642 : decode cL_law 642 = .ok (.iload_n 3, 1) := by decide +kernel
theorem dL_law_643 : decode cL_law 643 = .ok (.iconst 2, 1) := by decide +kernel
theorem dL_law_644 : decode cL_law 644 = .ok (.iadd, 1) := by decide +kernel
theorem dL_law_645 : decode cL_law 645 = .ok (.iaload, 1) := by decide +kernel
theorem dL_law_646 : decode cL_law 646 = .ok (.invokevirtual 84, 3) := by decide +kernel
theorem dL_law_649 : decode cL_law 649 = .ok (.aload_n 2, 1) := by decide +kernel
theorem dL_law_650 : decode cL_law 650 = .ok (.aload_n 0, 1) := by decide +kernel
theorem dL_law_651 : decode cL_law 651 = .ok (.iload_n 3, 1) := by decide +kernel
theorem dL_law_652 : decode cL_law 652 = .ok (.iconst 1, 1) := by decide +kernel
theorem dL_law_653 : decode cL_law 653 = .ok (.iadd, 1) := by decide +kernel
theorem dL_law_654 : decode cL_law 654 = .ok (.iaload, 1) := by decide +kernel
theorem dL_law_655 : decode cL_law 655 = .ok (.aload_n 0, 1) := by decide +kernel
theorem dL_law_656 : decode cL_law 656 = .ok (.iload_n 3, 1) := by decide +kernel
theorem dL_law_657 : decode cL_law 657 = .ok (.iconst 2, 1) := by decide +kernel
theorem dL_law_658 : decode cL_law 658 = .ok (.iadd, 1) := by decide +kernel
theorem dL_law_659 : decode cL_law 659 = .ok (.iaload, 1) := by decide +kernel
theorem dL_law_660 : decode cL_law 660 = .ok (.invokevirtual 87, 3) := by decide +kernel
theorem dL_law_663 : decode cL_law 663 = .ok (.if_icmp .eq 546, 3) := by decide +kernel
theorem dL_law_666 : decode cL_law 666 = .ok (.iconst 0, 1) := by decide +kernel
theorem dL_law_667 : decode cL_law 667 = .ok (.ireturn, 1) := by decide +kernel
theorem dL_law_668 : decode cL_law 668 = .ok (.aload_n 1, 1) := by decide +kernel
theorem dL_law_669 : decode cL_law 669 = .ok (.aload_n 0, 1) := by decide +kernel
theorem dL_law_670 : decode cL_law 670 = .ok (.iload_n 3, 1) := by decide +kernel
theorem dL_law_671 : decode cL_law 671 = .ok (.iconst 1, 1) := by decide +kernel
theorem dL_law_672 : decode cL_law 672 = .ok (.iadd, 1) := by decide +kernel
theorem dL_law_673 : decode cL_law 673 = .ok (.iaload, 1) := by decide +kernel
theorem dL_law_674 : decode cL_law 674 = .ok (.aload_n 0, 1) := by decide +kernel
theorem dL_law_675 : decode cL_law 675 = .ok (.iload_n 3, 1) := by decide +kernel
theorem dL_law_676 : decode cL_law 676 = .ok (.iconst 2, 1) := by decide +kernel
theorem dL_law_677 : decode cL_law 677 = .ok (.iadd, 1) := by decide +kernel
theorem dL_law_678 : decode cL_law 678 = .ok (.iaload, 1) := by decide +kernel
theorem dL_law_679 : decode cL_law 679 = .ok (.aload_n 0, 1) := by decide +kernel
theorem dL_law_680 : decode cL_law 680 = .ok (.iload_n 3, 1) := by decide +kernel
theorem dL_law_681 : decode cL_law 681 = .ok (.iconst 3, 1) := by decide +kernel
theorem dL_law_682 : decode cL_law 682 = .ok (.iadd, 1) := by decide +kernel
theorem dL_law_683 : decode cL_law 683 = .ok (.iaload, 1) := by decide +kernel
theorem dL_law_684 : decode cL_law 684 = .ok (.invokevirtual 88, 3) := by decide +kernel
theorem dL_law_687 : decode cL_law 687 = .ok (.aload_n 2, 1) := by decide +kernel
theorem dL_law_688 : decode cL_law 688 = .ok (.aload_n 0, 1) := by decide +kernel
theorem dL_law_689 : decode cL_law 689 = .ok (.iload_n 3, 1) := by decide +kernel
theorem dL_law_690 : decode cL_law 690 = .ok (.iconst 1, 1) := by decide +kernel
theorem dL_law_691 : decode cL_law 691 = .ok (.iadd, 1) := by decide +kernel
theorem dL_law_692 : decode cL_law 692 = .ok (.iaload, 1) := by decide +kernel
theorem dL_law_693 : decode cL_law 693 = .ok (.aload_n 0, 1) := by decide +kernel
theorem dL_law_694 : decode cL_law 694 = .ok (.iload_n 3, 1) := by decide +kernel
theorem dL_law_695 : decode cL_law 695 = .ok (.iconst 2, 1) := by decide +kernel
theorem dL_law_696 : decode cL_law 696 = .ok (.iadd, 1) := by decide +kernel
theorem dL_law_697 : decode cL_law 697 = .ok (.iaload, 1) := by decide +kernel
theorem dL_law_698 : decode cL_law 698 = .ok (.aload_n 0, 1) := by decide +kernel
theorem dL_law_699 : decode cL_law 699 = .ok (.iload_n 3, 1) := by decide +kernel
theorem dL_law_700 : decode cL_law 700 = .ok (.iconst 3, 1) := by decide +kernel
theorem dL_law_701 : decode cL_law 701 = .ok (.iadd, 1) := by decide +kernel
theorem dL_law_702 : decode cL_law 702 = .ok (.iaload, 1) := by decide +kernel
theorem dL_law_703 : decode cL_law 703 = .ok (.invokevirtual 92, 3) := by decide +kernel
theorem dL_law_706 : decode cL_law 706 = .ok (.if_icmp .eq 503, 3) := by decide +kernel
theorem dL_law_709 : decode cL_law 709 = .ok (.iconst 0, 1) := by decide +kernel
theorem dL_law_710 : decode cL_law 710 = .ok (.ireturn, 1) := by decide +kernel
theorem dL_law_711 : decode cL_law 711 = .ok (.aload_n 1, 1) := by decide +kernel
theorem dL_law_712 : decode cL_law 712 = .ok (.aload_n 0, 1) := by decide +kernel
theorem dL_law_713 : decode cL_law 713 = .ok (.iload_n 3, 1) := by decide +kernel
theorem dL_law_714 : decode cL_law 714 = .ok (.iconst 1, 1) := by decide +kernel
theorem dL_law_715 : decode cL_law 715 = .ok (.iadd, 1) := by decide +kernel
theorem dL_law_716 : decode cL_law 716 = .ok (.iaload, 1) := by decide +kernel
theorem dL_law_717 : decode cL_law 717 = .ok (.invokevirtual 93, 3) := by decide +kernel
theorem dL_law_720 : decode cL_law 720 = .ok (.aload_n 2, 1) := by decide +kernel
theorem dL_law_721 : decode cL_law 721 = .ok (.aload_n 0, 1) := by decide +kernel
theorem dL_law_722 : decode cL_law 722 = .ok (.iload_n 3, 1) := by decide +kernel
theorem dL_law_723 : decode cL_law 723 = .ok (.iconst 1, 1) := by decide +kernel
theorem dL_law_724 : decode cL_law 724 = .ok (.iadd, 1) := by decide +kernel
theorem dL_law_725 : decode cL_law 725 = .ok (.iaload, 1) := by decide +kernel
theorem dL_law_726 : decode cL_law 726 = .ok (.invokevirtual 96, 3) := by decide +kernel
theorem dL_law_729 : decode cL_law 729 = .ok (.if_icmp .eq 480, 3) := by decide +kernel
theorem dL_law_732 : decode cL_law 732 = .ok (.iconst 0, 1) := by decide +kernel
theorem dL_law_733 : decode cL_law 733 = .ok (.ireturn, 1) := by decide +kernel
theorem dL_law_734 : decode cL_law 734 = .ok (.aload_n 1, 1) := by decide +kernel
theorem dL_law_735 : decode cL_law 735 = .ok (.aload_n 0, 1) := by decide +kernel
theorem dL_law_736 : decode cL_law 736 = .ok (.iload_n 3, 1) := by decide +kernel
theorem dL_law_737 : decode cL_law 737 = .ok (.iconst 1, 1) := by decide +kernel
theorem dL_law_738 : decode cL_law 738 = .ok (.iadd, 1) := by decide +kernel
theorem dL_law_739 : decode cL_law 739 = .ok (.iaload, 1) := by decide +kernel
theorem dL_law_740 : decode cL_law 740 = .ok (.aload_n 0, 1) := by decide +kernel
theorem dL_law_741 : decode cL_law 741 = .ok (.iload_n 3, 1) := by decide +kernel
theorem dL_law_742 : decode cL_law 742 = .ok (.iconst 2, 1) := by decide +kernel
theorem dL_law_743 : decode cL_law 743 = .ok (.iadd, 1) := by decide +kernel
theorem dL_law_744 : decode cL_law 744 = .ok (.iaload, 1) := by decide +kernel
theorem dL_law_745 : decode cL_law 745 = .ok (.aload_n 0, 1) := by decide +kernel
theorem dL_law_746 : decode cL_law 746 = .ok (.iload_n 3, 1) := by decide +kernel
theorem dL_law_747 : decode cL_law 747 = .ok (.iconst 3, 1) := by decide +kernel
theorem dL_law_748 : decode cL_law 748 = .ok (.iadd, 1) := by decide +kernel
theorem dL_law_749 : decode cL_law 749 = .ok (.iaload, 1) := by decide +kernel
theorem dL_law_750 : decode cL_law 750 = .ok (.invokevirtual 97, 3) := by decide +kernel
theorem dL_law_753 : decode cL_law 753 = .ok (.aload_n 2, 1) := by decide +kernel
theorem dL_law_754 : decode cL_law 754 = .ok (.aload_n 0, 1) := by decide +kernel
theorem dL_law_755 : decode cL_law 755 = .ok (.iload_n 3, 1) := by decide +kernel
theorem dL_law_756 : decode cL_law 756 = .ok (.iconst 1, 1) := by decide +kernel
theorem dL_law_757 : decode cL_law 757 = .ok (.iadd, 1) := by decide +kernel
theorem dL_law_758 : decode cL_law 758 = .ok (.iaload, 1) := by decide +kernel
theorem dL_law_759 : decode cL_law 759 = .ok (.aload_n 0, 1) := by decide +kernel
theorem dL_law_760 : decode cL_law 760 = .ok (.iload_n 3, 1) := by decide +kernel
theorem dL_law_761 : decode cL_law 761 = .ok (.iconst 2, 1) := by decide +kernel
theorem dL_law_762 : decode cL_law 762 = .ok (.iadd, 1) := by decide +kernel
theorem dL_law_763 : decode cL_law 763 = .ok (.iaload, 1) := by decide +kernel
theorem dL_law_764 : decode cL_law 764 = .ok (.aload_n 0, 1) := by decide +kernel
theorem dL_law_765 : decode cL_law 765 = .ok (.iload_n 3, 1) := by decide +kernel
theorem dL_law_766 : decode cL_law 766 = .ok (.iconst 3, 1) := by decide +kernel
theorem dL_law_767 : decode cL_law 767 = .ok (.iadd, 1) := by decide +kernel
theorem dL_law_768 : decode cL_law 768 = .ok (.iaload, 1) := by decide +kernel
theorem dL_law_769 : decode cL_law 769 = .ok (.invokevirtual 101, 3) := by decide +kernel
theorem dL_law_772 : decode cL_law 772 = .ok (.lcmp, 1) := by decide +kernel
theorem dL_law_773 : decode cL_law 773 = .ok (.ifCond .eq 436, 3) := by decide +kernel
theorem dL_law_776 : decode cL_law 776 = .ok (.iconst 0, 1) := by decide +kernel
theorem dL_law_777 : decode cL_law 777 = .ok (.ireturn, 1) := by decide +kernel
theorem dL_law_778 : decode cL_law 778 = .ok (.aload_n 1, 1) := by decide +kernel
theorem dL_law_779 : decode cL_law 779 = .ok (.aload_n 0, 1) := by decide +kernel
theorem dL_law_780 : decode cL_law 780 = .ok (.iload_n 3, 1) := by decide +kernel
theorem dL_law_781 : decode cL_law 781 = .ok (.iconst 1, 1) := by decide +kernel
theorem dL_law_782 : decode cL_law 782 = .ok (.iadd, 1) := by decide +kernel
theorem dL_law_783 : decode cL_law 783 = .ok (.iaload, 1) := by decide +kernel
theorem dL_law_784 : decode cL_law 784 = .ok (.invokevirtual 102, 3) := by decide +kernel
theorem dL_law_787 : decode cL_law 787 = .ok (.aload_n 2, 1) := by decide +kernel
theorem dL_law_788 : decode cL_law 788 = .ok (.aload_n 0, 1) := by decide +kernel
theorem dL_law_789 : decode cL_law 789 = .ok (.iload_n 3, 1) := by decide +kernel
theorem dL_law_790 : decode cL_law 790 = .ok (.iconst 1, 1) := by decide +kernel
theorem dL_law_791 : decode cL_law 791 = .ok (.iadd, 1) := by decide +kernel
theorem dL_law_792 : decode cL_law 792 = .ok (.iaload, 1) := by decide +kernel
theorem dL_law_793 : decode cL_law 793 = .ok (.invokevirtual 106, 3) := by decide +kernel
theorem dL_law_796 : decode cL_law 796 = .ok (.lcmp, 1) := by decide +kernel
theorem dL_law_797 : decode cL_law 797 = .ok (.ifCond .eq 412, 3) := by decide +kernel
theorem dL_law_800 : decode cL_law 800 = .ok (.iconst 0, 1) := by decide +kernel
theorem dL_law_801 : decode cL_law 801 = .ok (.ireturn, 1) := by decide +kernel
theorem dL_law_802 : decode cL_law 802 = .ok (.aload_n 1, 1) := by decide +kernel
theorem dL_law_803 : decode cL_law 803 = .ok (.aload_n 0, 1) := by decide +kernel
theorem dL_law_804 : decode cL_law 804 = .ok (.iload_n 3, 1) := by decide +kernel
theorem dL_law_805 : decode cL_law 805 = .ok (.iconst 1, 1) := by decide +kernel
theorem dL_law_806 : decode cL_law 806 = .ok (.iadd, 1) := by decide +kernel
theorem dL_law_807 : decode cL_law 807 = .ok (.iaload, 1) := by decide +kernel
theorem dL_law_808 : decode cL_law 808 = .ok (.aload_n 0, 1) := by decide +kernel
theorem dL_law_809 : decode cL_law 809 = .ok (.iload_n 3, 1) := by decide +kernel
theorem dL_law_810 : decode cL_law 810 = .ok (.iconst 2, 1) := by decide +kernel
theorem dL_law_811 : decode cL_law 811 = .ok (.iadd, 1) := by decide +kernel
theorem dL_law_812 : decode cL_law 812 = .ok (.iaload, 1) := by decide +kernel
theorem dL_law_813 : decode cL_law 813 = .ok (.invokevirtual 107, 3) := by decide +kernel
theorem dL_law_816 : decode cL_law 816 = .ok (.aload_n 2, 1) := by decide +kernel
theorem dL_law_817 : decode cL_law 817 = .ok (.aload_n 0, 1) := by decide +kernel
theorem dL_law_818 : decode cL_law 818 = .ok (.iload_n 3, 1) := by decide +kernel
theorem dL_law_819 : decode cL_law 819 = .ok (.iconst 1, 1) := by decide +kernel
theorem dL_law_820 : decode cL_law 820 = .ok (.iadd, 1) := by decide +kernel
theorem dL_law_821 : decode cL_law 821 = .ok (.iaload, 1) := by decide +kernel
theorem dL_law_822 : decode cL_law 822 = .ok (.aload_n 0, 1) := by decide +kernel
theorem dL_law_823 : decode cL_law 823 = .ok (.iload_n 3, 1) := by decide +kernel
theorem dL_law_824 : decode cL_law 824 = .ok (.iconst 2, 1) := by decide +kernel
theorem dL_law_825 : decode cL_law 825 = .ok (.iadd, 1) := by decide +kernel
theorem dL_law_826 : decode cL_law 826 = .ok (.iaload, 1) := by decide +kernel
theorem dL_law_827 : decode cL_law 827 = .ok (.invokevirtual 110, 3) := by decide +kernel
theorem dL_law_830 : decode cL_law 830 = .ok (.if_icmp .eq 379, 3) := by decide +kernel
theorem dL_law_833 : decode cL_law 833 = .ok (.iconst 0, 1) := by decide +kernel
theorem dL_law_834 : decode cL_law 834 = .ok (.ireturn, 1) := by decide +kernel
theorem dL_law_835 : decode cL_law 835 = .ok (.aload_n 1, 1) := by decide +kernel
theorem dL_law_836 : decode cL_law 836 = .ok (.aload_n 0, 1) := by decide +kernel
theorem dL_law_837 : decode cL_law 837 = .ok (.iload_n 3, 1) := by decide +kernel
theorem dL_law_838 : decode cL_law 838 = .ok (.iconst 1, 1) := by decide +kernel
theorem dL_law_839 : decode cL_law 839 = .ok (.iadd, 1) := by decide +kernel
theorem dL_law_840 : decode cL_law 840 = .ok (.iaload, 1) := by decide +kernel
theorem dL_law_841 : decode cL_law 841 = .ok (.invokevirtual 111, 3) := by decide +kernel
theorem dL_law_844 : decode cL_law 844 = .ok (.aload_n 2, 1) := by decide +kernel
theorem dL_law_845 : decode cL_law 845 = .ok (.aload_n 0, 1) := by decide +kernel
theorem dL_law_846 : decode cL_law 846 = .ok (.iload_n 3, 1) := by decide +kernel
theorem dL_law_847 : decode cL_law 847 = .ok (.iconst 1, 1) := by decide +kernel
theorem dL_law_848 : decode cL_law 848 = .ok (.iadd, 1) := by decide +kernel
theorem dL_law_849 : decode cL_law 849 = .ok (.iaload, 1) := by decide +kernel
theorem dL_law_850 : decode cL_law 850 = .ok (.invokevirtual 114, 3) := by decide +kernel
theorem dL_law_853 : decode cL_law 853 = .ok (.if_icmp .eq 356, 3) := by decide +kernel
theorem dL_law_856 : decode cL_law 856 = .ok (.iconst 0, 1) := by decide +kernel
theorem dL_law_857 : decode cL_law 857 = .ok (.ireturn, 1) := by decide +kernel
theorem dL_law_858 : decode cL_law 858 = .ok (.aload_n 1, 1) := by decide +kernel
theorem dL_law_859 : decode cL_law 859 = .ok (.aload_n 0, 1) := by decide +kernel
theorem dL_law_860 : decode cL_law 860 = .ok (.iload_n 3, 1) := by decide +kernel
theorem dL_law_861 : decode cL_law 861 = .ok (.iconst 1, 1) := by decide +kernel
theorem dL_law_862 : decode cL_law 862 = .ok (.iadd, 1) := by decide +kernel
theorem dL_law_863 : decode cL_law 863 = .ok (.iaload, 1) := by decide +kernel
theorem dL_law_864 : decode cL_law 864 = .ok (.aload_n 0, 1) := by decide +kernel
theorem dL_law_865 : decode cL_law 865 = .ok (.iload_n 3, 1) := by decide +kernel
theorem dL_law_866 : decode cL_law 866 = .ok (.iconst 2, 1) := by decide +kernel
theorem dL_law_867 : decode cL_law 867 = .ok (.iadd, 1) := by decide +kernel
theorem dL_law_868 : decode cL_law 868 = .ok (.iaload, 1) := by decide +kernel
theorem dL_law_869 : decode cL_law 869 = .ok (.invokevirtual 115, 3) := by decide +kernel
theorem dL_law_872 : decode cL_law 872 = .ok (.aload_n 2, 1) := by decide +kernel
theorem dL_law_873 : decode cL_law 873 = .ok (.aload_n 0, 1) := by decide +kernel
theorem dL_law_874 : decode cL_law 874 = .ok (.iload_n 3, 1) := by decide +kernel
theorem dL_law_875 : decode cL_law 875 = .ok (.iconst 1, 1) := by decide +kernel
theorem dL_law_876 : decode cL_law 876 = .ok (.iadd, 1) := by decide +kernel
theorem dL_law_877 : decode cL_law 877 = .ok (.iaload, 1) := by decide +kernel
theorem dL_law_878 : decode cL_law 878 = .ok (.aload_n 0, 1) := by decide +kernel
theorem dL_law_879 : decode cL_law 879 = .ok (.iload_n 3, 1) := by decide +kernel
theorem dL_law_880 : decode cL_law 880 = .ok (.iconst 2, 1) := by decide +kernel
theorem dL_law_881 : decode cL_law 881 = .ok (.iadd, 1) := by decide +kernel
theorem dL_law_882 : decode cL_law 882 = .ok (.iaload, 1) := by decide +kernel
theorem dL_law_883 : decode cL_law 883 = .ok (.invokevirtual 118, 3) := by decide +kernel
theorem dL_law_886 : decode cL_law 886 = .ok (.if_icmp .eq 323, 3) := by decide +kernel
theorem dL_law_889 : decode cL_law 889 = .ok (.iconst 0, 1) := by decide +kernel
theorem dL_law_890 : decode cL_law 890 = .ok (.ireturn, 1) := by decide +kernel
theorem dL_law_891 : decode cL_law 891 = .ok (.aload_n 1, 1) := by decide +kernel
theorem dL_law_892 : decode cL_law 892 = .ok (.invokevirtual 119, 3) := by decide +kernel
theorem dL_law_895 : decode cL_law 895 = .ok (.aload_n 2, 1) := by decide +kernel
theorem dL_law_896 : decode cL_law 896 = .ok (.invokevirtual 122, 3) := by decide +kernel
theorem dL_law_899 : decode cL_law 899 = .ok (.if_icmp .eq 310, 3) := by decide +kernel
theorem dL_law_902 : decode cL_law 902 = .ok (.iconst 0, 1) := by decide +kernel
theorem dL_law_903 : decode cL_law 903 = .ok (.ireturn, 1) := by decide +kernel
theorem dL_law_904 : decode cL_law 904 = .ok (.aload_n 1, 1) := by decide +kernel
theorem dL_law_905 : decode cL_law 905 = .ok (.aload_n 0, 1) := by decide +kernel
theorem dL_law_906 : decode cL_law 906 = .ok (.iload_n 3, 1) := by decide +kernel
theorem dL_law_907 : decode cL_law 907 = .ok (.iconst 1, 1) := by decide +kernel
theorem dL_law_908 : decode cL_law 908 = .ok (.iadd, 1) := by decide +kernel
theorem dL_law_909 : decode cL_law 909 = .ok (.iaload, 1) := by decide +kernel
theorem dL_law_910 : decode cL_law 910 = .ok (.aload_n 0, 1) := by decide +kernel
theorem dL_law_911 : decode cL_law 911 = .ok (.iload_n 3, 1) := by decide +kernel
theorem dL_law_912 : decode cL_law 912 = .ok (.iconst 2, 1) := by decide +kernel
theorem dL_law_913 : decode cL_law 913 = .ok (.iadd, 1) := by decide +kernel
theorem dL_law_914 : decode cL_law 914 = .ok (.iaload, 1) := by decide +kernel
theorem dL_law_915 : decode cL_law 915 = .ok (.aload_n 0, 1) := by decide +kernel
theorem dL_law_916 : decode cL_law 916 = .ok (.iload_n 3, 1) := by decide +kernel
theorem dL_law_917 : decode cL_law 917 = .ok (.iconst 3, 1) := by decide +kernel
theorem dL_law_918 : decode cL_law 918 = .ok (.iadd, 1) := by decide +kernel
theorem dL_law_919 : decode cL_law 919 = .ok (.iaload, 1) := by decide +kernel
theorem dL_law_920 : decode cL_law 920 = .ok (.invokevirtual 123, 3) := by decide +kernel
theorem dL_law_923 : decode cL_law 923 = .ok (.aload_n 2, 1) := by decide +kernel
theorem dL_law_924 : decode cL_law 924 = .ok (.aload_n 0, 1) := by decide +kernel
theorem dL_law_925 : decode cL_law 925 = .ok (.iload_n 3, 1) := by decide +kernel
theorem dL_law_926 : decode cL_law 926 = .ok (.iconst 1, 1) := by decide +kernel
theorem dL_law_927 : decode cL_law 927 = .ok (.iadd, 1) := by decide +kernel
theorem dL_law_928 : decode cL_law 928 = .ok (.iaload, 1) := by decide +kernel
theorem dL_law_929 : decode cL_law 929 = .ok (.aload_n 0, 1) := by decide +kernel
theorem dL_law_930 : decode cL_law 930 = .ok (.iload_n 3, 1) := by decide +kernel
theorem dL_law_931 : decode cL_law 931 = .ok (.iconst 2, 1) := by decide +kernel
theorem dL_law_932 : decode cL_law 932 = .ok (.iadd, 1) := by decide +kernel
theorem dL_law_933 : decode cL_law 933 = .ok (.iaload, 1) := by decide +kernel
theorem dL_law_934 : decode cL_law 934 = .ok (.aload_n 0, 1) := by decide +kernel
theorem dL_law_935 : decode cL_law 935 = .ok (.iload_n 3, 1) := by decide +kernel
theorem dL_law_936 : decode cL_law 936 = .ok (.iconst 3, 1) := by decide +kernel
theorem dL_law_937 : decode cL_law 937 = .ok (.iadd, 1) := by decide +kernel
theorem dL_law_938 : decode cL_law 938 = .ok (.iaload, 1) := by decide +kernel
theorem dL_law_939 : decode cL_law 939 = .ok (.invokevirtual 126, 3) := by decide +kernel
theorem dL_law_942 : decode cL_law 942 = .ok (.if_icmp .eq 267, 3) := by decide +kernel
theorem dL_law_945 : decode cL_law 945 = .ok (.iconst 0, 1) := by decide +kernel
theorem dL_law_946 : decode cL_law 946 = .ok (.ireturn, 1) := by decide +kernel
theorem dL_law_947 : decode cL_law 947 = .ok (.aload_n 1, 1) := by decide +kernel
theorem dL_law_948 : decode cL_law 948 = .ok (.invokevirtual 127, 3) := by decide +kernel
theorem dL_law_951 : decode cL_law 951 = .ok (.aload_n 2, 1) := by decide +kernel
theorem dL_law_952 : decode cL_law 952 = .ok (.invokevirtual 130, 3) := by decide +kernel
theorem dL_law_955 : decode cL_law 955 = .ok (.if_icmp .eq 254, 3) := by decide +kernel
theorem dL_law_958 : decode cL_law 958 = .ok (.iconst 0, 1) := by decide +kernel
theorem dL_law_959 : decode cL_law 959 = .ok (.ireturn, 1) := by decide +kernel
theorem dL_law_960 : decode cL_law 960 = .ok (.aload_n 1, 1) := by decide +kernel
theorem dL_law_961 : decode cL_law 961 = .ok (.invokevirtual 131, 3) := by decide +kernel
theorem dL_law_964 : decode cL_law 964 = .ok (.aload_n 2, 1) := by decide +kernel
theorem dL_law_965 : decode cL_law 965 = .ok (.invokevirtual 134, 3) := by decide +kernel
theorem dL_law_968 : decode cL_law 968 = .ok (.if_icmp .eq 241, 3) := by decide +kernel
theorem dL_law_971 : decode cL_law 971 = .ok (.iconst 0, 1) := by decide +kernel
theorem dL_law_972 : decode cL_law 972 = .ok (.ireturn, 1) := by decide +kernel
theorem dL_law_973 : decode cL_law 973 = .ok (.aload_n 1, 1) := by decide +kernel
theorem dL_law_974 : decode cL_law 974 = .ok (.aload_n 0, 1) := by decide +kernel
theorem dL_law_975 : decode cL_law 975 = .ok (.iload_n 3, 1) := by decide +kernel
theorem dL_law_976 : decode cL_law 976 = .ok (.iconst 1, 1) := by decide +kernel
theorem dL_law_977 : decode cL_law 977 = .ok (.iadd, 1) := by decide +kernel
theorem dL_law_978 : decode cL_law 978 = .ok (.iaload, 1) := by decide +kernel
theorem dL_law_979 : decode cL_law 979 = .ok (.invokevirtual 135, 3) := by decide +kernel
theorem dL_law_982 : decode cL_law 982 = .ok (.aload_n 2, 1) := by decide +kernel
theorem dL_law_983 : decode cL_law 983 = .ok (.aload_n 0, 1) := by decide +kernel
theorem dL_law_984 : decode cL_law 984 = .ok (.iload_n 3, 1) := by decide +kernel
theorem dL_law_985 : decode cL_law 985 = .ok (.iconst 1, 1) := by decide +kernel
theorem dL_law_986 : decode cL_law 986 = .ok (.iadd, 1) := by decide +kernel
theorem dL_law_987 : decode cL_law 987 = .ok (.iaload, 1) := by decide +kernel
theorem dL_law_988 : decode cL_law 988 = .ok (.invokevirtual 138, 3) := by decide +kernel
theorem dL_law_991 : decode cL_law 991 = .ok (.if_icmp .eq 218, 3) := by decide +kernel
theorem dL_law_994 : decode cL_law 994 = .ok (.iconst 0, 1) := by decide +kernel
theorem dL_law_995 : decode cL_law 995 = .ok (.ireturn, 1) := by decide +kernel
theorem dL_law_996 : decode cL_law 996 = .ok (.aload_n 1, 1) := by decide +kernel
theorem dL_law_997 : decode cL_law 997 = .ok (.aload_n 0, 1) := by decide +kernel
theorem dL_law_998 : decode cL_law 998 = .ok (.iload_n 3, 1) := by decide +kernel
theorem dL_law_999 : decode cL_law 999 = .ok (.iconst 1, 1) := by decide +kernel
theorem dL_law_1000 : decode cL_law 1000 = .ok (.iadd, 1) := by decide +kernel
theorem dL_law_1001 : decode cL_law 1001 = .ok (.iaload, 1) := by decide +kernel
theorem dL_law_1002 : decode cL_law 1002 = .ok (.aload_n 0, 1) := by decide +kernel
theorem dL_law_1003 : decode cL_law 1003 = .ok (.iload_n 3, 1) := by decide +kernel
theorem dL_law_1004 : decode cL_law 1004 = .ok (.iconst 2, 1) := by decide +kernel
theorem dL_law_1005 : decode cL_law 1005 = .ok (.iadd, 1) := by decide +kernel
theorem dL_law_1006 : decode cL_law 1006 = .ok (.iaload, 1) := by decide +kernel
theorem dL_law_1007 : decode cL_law 1007 = .ok (.aload_n 0, 1) := by decide +kernel
theorem dL_law_1008 : decode cL_law 1008 = .ok (.iload_n 3, 1) := by decide +kernel
theorem dL_law_1009 : decode cL_law 1009 = .ok (.iconst 3, 1) := by decide +kernel
theorem dL_law_1010 : decode cL_law 1010 = .ok (.iadd, 1) := by decide +kernel
theorem dL_law_1011 : decode cL_law 1011 = .ok (.iaload, 1) := by decide +kernel
theorem dL_law_1012 : decode cL_law 1012 = .ok (.invokevirtual 139, 3) := by decide +kernel
theorem dL_law_1015 : decode cL_law 1015 = .ok (.aload_n 2, 1) := by decide +kernel
theorem dL_law_1016 : decode cL_law 1016 = .ok (.aload_n 0, 1) := by decide +kernel
theorem dL_law_1017 : decode cL_law 1017 = .ok (.iload_n 3, 1) := by decide +kernel
theorem dL_law_1018 : decode cL_law 1018 = .ok (.iconst 1, 1) := by decide +kernel
theorem dL_law_1019 : decode cL_law 1019 = .ok (.iadd, 1) := by decide +kernel
theorem dL_law_1020 : decode cL_law 1020 = .ok (.iaload, 1) := by decide +kernel
theorem dL_law_1021 : decode cL_law 1021 = .ok (.aload_n 0, 1) := by decide +kernel
theorem dL_law_1022 : decode cL_law 1022 = .ok (.iload_n 3, 1) := by decide +kernel
theorem dL_law_1023 : decode cL_law 1023 = .ok (.iconst 2, 1) := by decide +kernel
theorem dL_law_1024 : decode cL_law 1024 = .ok (.iadd, 1) := by decide +kernel
theorem dL_law_1025 : decode cL_law 1025 = .ok (.iaload, 1) := by decide +kernel
theorem dL_law_1026 : decode cL_law 1026 = .ok (.aload_n 0, 1) := by decide +kernel
theorem dL_law_1027 : decode cL_law 1027 = .ok (.iload_n 3, 1) := by decide +kernel
theorem dL_law_1028 : decode cL_law 1028 = .ok (.iconst 3, 1) := by decide +kernel
theorem dL_law_1029 : decode cL_law 1029 = .ok (.iadd, 1) := by decide +kernel
theorem dL_law_1030 : decode cL_law 1030 = .ok (.iaload, 1) := by decide +kernel
theorem dL_law_1031 : decode cL_law 1031 = .ok (.invokevirtual 142, 3) := by decide +kernel
theorem dL_law_1034 : decode cL_law 1034 = .ok (.if_icmp .eq 175, 3) := by decide +kernel
theorem dL_law_1037 : decode cL_law 1037 = .ok (.iconst 0, 1) := by decide +kernel
theorem dL_law_1038 : decode cL_law 1038 = .ok (.ireturn, 1) := by decide +kernel
theorem dL_law_1039 : decode cL_law 1039 = .ok (.aload_n 1, 1) := by decide +kernel
theorem dL_law_1040 : decode cL_law 1040 = .ok (.aload_n 0, 1) := by decide +kernel
theorem dL_law_1041 : decode cL_law 1041 = .ok (.iload_n 3, 1) := by decide +kernel
theorem dL_law_1042 : decode cL_law 1042 = .ok (.iconst 1, 1) := by decide +kernel
theorem dL_law_1043 : decode cL_law 1043 = .ok (.iadd, 1) := by decide +kernel
theorem dL_law_1044 : decode cL_law 1044 = .ok (.iaload, 1) := by decide +kernel
theorem dL_law_1045 : decode cL_law 1045 = .ok (.aload_n 0, 1) := by decide +kernel
theorem dL_law_1046 : decode cL_law 1046 = .ok (.iload_n 3, 1) := by decide +kernel
theorem dL_law_1047 : decode cL_law 1047 = .ok (.iconst 2, 1) := by decide +kernel
theorem dL_law_1048 : decode cL_law 1048 = .ok (.iadd, 1) := by decide +kernel
theorem dL_law_1049 : decode cL_law 1049 = .ok (.iaload, 1) := by decide +kernel
theorem dL_law_1050 : decode cL_law 1050 = .ok (.aload_n 0, 1) := by decide +kernel
theorem dL_law_1051 : decode cL_law 1051 = .ok (.iload_n 3, 1) := by decide +kernel
theorem dL_law_1052 : decode cL_law 1052 = .ok (.iconst 3, 1) := by decide +kernel
theorem dL_law_1053 : decode cL_law 1053 = .ok (.iadd, 1) := by decide +kernel
theorem dL_law_1054 : decode cL_law 1054 = .ok (.iaload, 1) := by decide +kernel
theorem dL_law_1055 : decode cL_law 1055 = .ok (.i2l, 1) := by decide +kernel
theorem dL_law_1056 : decode cL_law 1056 = .ok (.bipush 32, 2) := by decide +kernel
theorem dL_law_1058 : decode cL_law 1058 = .ok (.lshl, 1) := by decide +kernel
theorem dL_law_1059 : decode cL_law 1059 = .ok (.aload_n 0, 1) := by decide +kernel
theorem dL_law_1060 : decode cL_law 1060 = .ok (.iload_n 3, 1) := by decide +kernel
theorem dL_law_1061 : decode cL_law 1061 = .ok (.iconst 4, 1) := by decide +kernel
theorem dL_law_1062 : decode cL_law 1062 = .ok (.iadd, 1) := by decide +kernel
theorem dL_law_1063 : decode cL_law 1063 = .ok (.iaload, 1) := by decide +kernel
theorem dL_law_1064 : decode cL_law 1064 = .ok (.i2l, 1) := by decide +kernel
theorem dL_law_1065 : decode cL_law 1065 = .ok (.ldc2_w 143, 3) := by decide +kernel
theorem dL_law_1068 : decode cL_law 1068 = .ok (.land, 1) := by decide +kernel
theorem dL_law_1069 : decode cL_law 1069 = .ok (.lor, 1) := by decide +kernel
theorem dL_law_1070 : decode cL_law 1070 = .ok (.invokevirtual 145, 3) := by decide +kernel
theorem dL_law_1073 : decode cL_law 1073 = .ok (.aload_n 2, 1) := by decide +kernel
theorem dL_law_1074 : decode cL_law 1074 = .ok (.aload_n 0, 1) := by decide +kernel
theorem dL_law_1075 : decode cL_law 1075 = .ok (.iload_n 3, 1) := by decide +kernel
theorem dL_law_1076 : decode cL_law 1076 = .ok (.iconst 1, 1) := by decide +kernel
theorem dL_law_1077 : decode cL_law 1077 = .ok (.iadd, 1) := by decide +kernel
theorem dL_law_1078 : decode cL_law 1078 = .ok (.iaload, 1) := by decide +kernel
theorem dL_law_1079 : decode cL_law 1079 = .ok (.aload_n 0, 1) := by decide +kernel
theorem dL_law_1080 : decode cL_law 1080 = .ok (.iload_n 3, 1) := by decide +kernel
theorem dL_law_1081 : decode cL_law 1081 = .ok (.iconst 2, 1) := by decide +kernel
theorem dL_law_1082 : decode cL_law 1082 = .ok (.iadd, 1) := by decide +kernel
theorem dL_law_1083 : decode cL_law 1083 = .ok (.iaload, 1) := by decide +kernel
theorem dL_law_1084 : decode cL_law 1084 = .ok (.aload_n 0, 1) := by decide +kernel
theorem dL_law_1085 : decode cL_law 1085 = .ok (.iload_n 3, 1) := by decide +kernel
theorem dL_law_1086 : decode cL_law 1086 = .ok (.iconst 3, 1) := by decide +kernel
theorem dL_law_1087 : decode cL_law 1087 = .ok (.iadd, 1) := by decide +kernel
theorem dL_law_1088 : decode cL_law 1088 = .ok (.iaload, 1) := by decide +kernel
theorem dL_law_1089 : decode cL_law 1089 = .ok (.i2l, 1) := by decide +kernel
theorem dL_law_1090 : decode cL_law 1090 = .ok (.bipush 32, 2) := by decide +kernel
theorem dL_law_1092 : decode cL_law 1092 = .ok (.lshl, 1) := by decide +kernel
theorem dL_law_1093 : decode cL_law 1093 = .ok (.aload_n 0, 1) := by decide +kernel
theorem dL_law_1094 : decode cL_law 1094 = .ok (.iload_n 3, 1) := by decide +kernel
theorem dL_law_1095 : decode cL_law 1095 = .ok (.iconst 4, 1) := by decide +kernel
theorem dL_law_1096 : decode cL_law 1096 = .ok (.iadd, 1) := by decide +kernel
theorem dL_law_1097 : decode cL_law 1097 = .ok (.iaload, 1) := by decide +kernel
theorem dL_law_1098 : decode cL_law 1098 = .ok (.i2l, 1) := by decide +kernel
theorem dL_law_1099 : decode cL_law 1099 = .ok (.ldc2_w 143, 3) := by decide +kernel
theorem dL_law_1102 : decode cL_law 1102 = .ok (.land, 1) := by decide +kernel
theorem dL_law_1103 : decode cL_law 1103 = .ok (.lor, 1) := by decide +kernel
theorem dL_law_1104 : decode cL_law 1104 = .ok (.invokevirtual 149, 3) := by decide +kernel
theorem dL_law_1107 : decode cL_law 1107 = .ok (.if_icmp .eq 102, 3) := by decide +kernel
theorem dL_law_1110 : decode cL_law 1110 = .ok (.iconst 0, 1) := by decide +kernel
theorem dL_law_1111 : decode cL_law 1111 = .ok (.ireturn, 1) := by decide +kernel
theorem dL_law_1112 : decode cL_law 1112 = .ok (.aload_n 1, 1) := by decide +kernel
theorem dL_law_1113 : decode cL_law 1113 = .ok (.aload_n 0, 1) := by decide +kernel
theorem dL_law_1114 : decode cL_law 1114 = .ok (.iload_n 3, 1) := by decide +kernel
theorem dL_law_1115 : decode cL_law 1115 = .ok (.iconst 1, 1) := by decide +kernel
theorem dL_law_1116 : decode cL_law 1116 = .ok (.iadd, 1) := by decide +kernel
theorem dL_law_1117 : decode cL_law 1117 = .ok (.iaload, 1) := by decide +kernel
theorem dL_law_1118 : decode cL_law 1118 = .ok (.aload_n 0, 1) := by decide +kernel
theorem dL_law_1119 : decode cL_law 1119 = .ok (.iload_n 3, 1) := by decide +kernel
theorem dL_law_1120 : decode cL_law 1120 = .ok (.iconst 2, 1) := by decide +kernel
theorem dL_law_1121 : decode cL_law 1121 = .ok (.iadd, 1) := by decide +kernel
theorem dL_law_1122 : decode cL_law 1122 = .ok (.iaload, 1) := by decide +kernel
theorem dL_law_1123 : decode cL_law 1123 = .ok (.invokevirtual 150, 3) := by decide +kernel
theorem dL_law_1126 : decode cL_law 1126 = .ok (.aload_n 2, 1) := by decide +kernel
theorem dL_law_1127 : decode cL_law 1127 = .ok (.aload_n 0, 1) := by decide +kernel
theorem dL_law_1128 : decode cL_law 1128 = .ok (.iload_n 3, 1) := by decide +kernel
theorem dL_law_1129 : decode cL_law 1129 = .ok (.iconst 1, 1) := by decide +kernel
theorem dL_law_1130 : decode cL_law 1130 = .ok (.iadd, 1) := by decide +kernel
theorem dL_law_1131 : decode cL_law 1131 = .ok (.iaload, 1) := by decide +kernel
theorem dL_law_1132 : decode cL_law 1132 = .ok (.aload_n 0, 1) := by decide +kernel
theorem dL_law_1133 : decode cL_law 1133 = .ok (.iload_n 3, 1) := by decide +kernel
theorem dL_law_1134 : decode cL_law 1134 = .ok (.iconst 2, 1) := by decide +kernel
theorem dL_law_1135 : decode cL_law 1135 = .ok (.iadd, 1) := by decide +kernel
theorem dL_law_1136 : decode cL_law 1136 = .ok (.iaload, 1) := by decide +kernel
theorem dL_law_1137 : decode cL_law 1137 = .ok (.invokevirtual 154, 3) := by decide +kernel
theorem dL_law_1140 : decode cL_law 1140 = .ok (.lcmp, 1) := by decide +kernel
theorem dL_law_1141 : decode cL_law 1141 = .ok (.ifCond .eq 68, 3) := by decide +kernel
theorem dL_law_1144 : decode cL_law 1144 = .ok (.iconst 0, 1) := by decide +kernel
theorem dL_law_1145 : decode cL_law 1145 = .ok (.ireturn, 1) := by decide +kernel
theorem dL_law_1146 : decode cL_law 1146 = .ok (.aload_n 1, 1) := by decide +kernel
theorem dL_law_1147 : decode cL_law 1147 = .ok (.aload_n 0, 1) := by decide +kernel
theorem dL_law_1148 : decode cL_law 1148 = .ok (.iload_n 3, 1) := by decide +kernel
theorem dL_law_1149 : decode cL_law 1149 = .ok (.iconst 1, 1) := by decide +kernel
theorem dL_law_1150 : decode cL_law 1150 = .ok (.iadd, 1) := by decide +kernel
theorem dL_law_1151 : decode cL_law 1151 = .ok (.iaload, 1) := by decide +kernel
theorem dL_law_1152 : decode cL_law 1152 = .ok (.aload_n 0, 1) := by decide +kernel
theorem dL_law_1153 : decode cL_law 1153 = .ok (.iload_n 3, 1) := by decide +kernel
theorem dL_law_1154 : decode cL_law 1154 = .ok (.iconst 2, 1) := by decide +kernel
theorem dL_law_1155 : decode cL_law 1155 = .ok (.iadd, 1) := by decide +kernel
theorem dL_law_1156 : decode cL_law 1156 = .ok (.iaload, 1) := by decide +kernel
theorem dL_law_1157 : decode cL_law 1157 = .ok (.aload_n 0, 1) := by decide +kernel
theorem dL_law_1158 : decode cL_law 1158 = .ok (.iload_n 3, 1) := by decide +kernel
theorem dL_law_1159 : decode cL_law 1159 = .ok (.iconst 3, 1) := by decide +kernel
theorem dL_law_1160 : decode cL_law 1160 = .ok (.iadd, 1) := by decide +kernel
theorem dL_law_1161 : decode cL_law 1161 = .ok (.iaload, 1) := by decide +kernel
theorem dL_law_1162 : decode cL_law 1162 = .ok (.aload_n 0, 1) := by decide +kernel
theorem dL_law_1163 : decode cL_law 1163 = .ok (.iload_n 3, 1) := by decide +kernel
theorem dL_law_1164 : decode cL_law 1164 = .ok (.iconst 4, 1) := by decide +kernel
theorem dL_law_1165 : decode cL_law 1165 = .ok (.iadd, 1) := by decide +kernel
theorem dL_law_1166 : decode cL_law 1166 = .ok (.iaload, 1) := by decide +kernel
theorem dL_law_1167 : decode cL_law 1167 = .ok (.aload_n 0, 1) := by decide +kernel
theorem dL_law_1168 : decode cL_law 1168 = .ok (.iload_n 3, 1) := by decide +kernel
theorem dL_law_1169 : decode cL_law 1169 = .ok (.iconst 5, 1) := by decide +kernel
theorem dL_law_1170 : decode cL_law 1170 = .ok (.iadd, 1) := by decide +kernel
theorem dL_law_1171 : decode cL_law 1171 = .ok (.iaload, 1) := by decide +kernel
theorem dL_law_1172 : decode cL_law 1172 = .ok (.invokevirtual 155, 3) := by decide +kernel
theorem dL_law_1175 : decode cL_law 1175 = .ok (.aload_n 2, 1) := by decide +kernel
theorem dL_law_1176 : decode cL_law 1176 = .ok (.aload_n 0, 1) := by decide +kernel
theorem dL_law_1177 : decode cL_law 1177 = .ok (.iload_n 3, 1) := by decide +kernel
theorem dL_law_1178 : decode cL_law 1178 = .ok (.iconst 1, 1) := by decide +kernel
theorem dL_law_1179 : decode cL_law 1179 = .ok (.iadd, 1) := by decide +kernel
theorem dL_law_1180 : decode cL_law 1180 = .ok (.iaload, 1) := by decide +kernel
theorem dL_law_1181 : decode cL_law 1181 = .ok (.aload_n 0, 1) := by decide +kernel
theorem dL_law_1182 : decode cL_law 1182 = .ok (.iload_n 3, 1) := by decide +kernel
theorem dL_law_1183 : decode cL_law 1183 = .ok (.iconst 2, 1) := by decide +kernel
theorem dL_law_1184 : decode cL_law 1184 = .ok (.iadd, 1) := by decide +kernel
theorem dL_law_1185 : decode cL_law 1185 = .ok (.iaload, 1) := by decide +kernel
theorem dL_law_1186 : decode cL_law 1186 = .ok (.aload_n 0, 1) := by decide +kernel
theorem dL_law_1187 : decode cL_law 1187 = .ok (.iload_n 3, 1) := by decide +kernel
theorem dL_law_1188 : decode cL_law 1188 = .ok (.iconst 3, 1) := by decide +kernel
theorem dL_law_1189 : decode cL_law 1189 = .ok (.iadd, 1) := by decide +kernel
theorem dL_law_1190 : decode cL_law 1190 = .ok (.iaload, 1) := by decide +kernel
theorem dL_law_1191 : decode cL_law 1191 = .ok (.aload_n 0, 1) := by decide +kernel
theorem dL_law_1192 : decode cL_law 1192 = .ok (.iload_n 3, 1) := by decide +kernel
theorem dL_law_1193 : decode cL_law 1193 = .ok (.iconst 4, 1) := by decide +kernel
theorem dL_law_1194 : decode cL_law 1194 = .ok (.iadd, 1) := by decide +kernel
theorem dL_law_1195 : decode cL_law 1195 = .ok (.iaload, 1) := by decide +kernel
theorem dL_law_1196 : decode cL_law 1196 = .ok (.aload_n 0, 1) := by decide +kernel
theorem dL_law_1197 : decode cL_law 1197 = .ok (.iload_n 3, 1) := by decide +kernel
theorem dL_law_1198 : decode cL_law 1198 = .ok (.iconst 5, 1) := by decide +kernel
theorem dL_law_1199 : decode cL_law 1199 = .ok (.iadd, 1) := by decide +kernel
theorem dL_law_1200 : decode cL_law 1200 = .ok (.iaload, 1) := by decide +kernel
theorem dL_law_1201 : decode cL_law 1201 = .ok (.invokevirtual 159, 3) := by decide +kernel
theorem dL_law_1204 : decode cL_law 1204 = .ok (.if_icmp .eq 5, 3) := by decide +kernel
theorem dL_law_1207 : decode cL_law 1207 = .ok (.iconst 0, 1) := by decide +kernel
theorem dL_law_1208 : decode cL_law 1208 = .ok (.ireturn, 1) := by decide +kernel
theorem dL_law_1209 : decode cL_law 1209 = .ok (.iinc 3 6, 3) := by decide +kernel
theorem dL_law_1212 : decode cL_law 1212 = .ok (.goto (-1194), 3) := by decide +kernel
theorem dL_law_1215 : decode cL_law 1215 = .ok (.iconst 1, 1) := by decide +kernel
theorem dL_law_1216 : decode cL_law 1216 = .ok (.ireturn, 1) := by decide +kernel
abbrev vwCl : List vw_C := [(RX0, TX0, 7), (RX1, TX1, 4), (RX3, TX3, 1), (RX4, TX4, 11), (RX5, TX5, 8), (RX6, TX6, 3), (RX7, TX7, 8), (RX8, TX8, 10), (RX9, TX9, 20)]
/-- the objects of BellTouches$Fewest, kind 0: what each holds, by its address -/
structure wK_O_Fewest where
  f_number : Nat → Int32
  f_notPlain : Nat → Int32
  f_touch : Nat → Option Nat
  f_table : Nat → Option Nat
  f_thereIs : Nat → Option Nat
  f_leadCount : Nat → Int32
  f_bound : Nat → Int32
/-- the objects of BellTouches$HandRows, kind 1: what each holds, by its address -/
structure wK_O_HandRows where
  f_first : Nat → Option Nat
  f_second : Nat → Option Nat
  f_third : Nat → Option Nat
  f_size : Nat → Int32
/-- the objects of BellTouches$RowTable, kind 2: what each holds, by its address -/
structure wK_O_RowTable where
  f_numbers : Nat → Option Nat
/-- the objects of BellTouches$Setup, kind 3: what each holds, by its address -/
structure wK_O_Setup where
  f_n : Nat → Int32
  f_changes : Nat → Option Nat
  f_changeCount : Nat → Int32
  f_bob : Nat → Int32
  f_single : Nat → Int32
  f_leadCalls : Nat → Option Nat
  f_leadCount : Nat → Int32
  f_patternBells : Nat → Option Nat
  f_seen : Nat → Option Nat
  f_events : Nat → Option Nat
  f_book : Nat → Option Nat
/-- the objects of BellTouches$SetupText, kind 4: what each holds, by its address -/
structure wK_O_SetupText where
  f_length : Nat → Int32
  f_signs : Nat → Option Nat
  f_place : Nat → Int32
  f_kinds : Nat → Option Nat
  f_starts : Nat → Option Nat
  f_clauseCount : Nat → Int32
  f_values : Nat → Option Nat
  f_valueCount : Nat → Int32
/-- the objects of BellTouches$Tape, kind 5: what each holds, by its address -/
structure wK_O_Tape where
  f_sort : Nat → Int32
  f_length : Nat → Int32
  f_items : Nat → Option Nat
/-- the objects of BellTouches$Touch, kind 6: what each holds, by its address -/
structure wK_O_Touch where
  f_rows : Nat → Option Nat
  f_last : Nat → Int32
  f_changeCount : Nat → Int32
  f_pairs : Nat → Option Nat
  f_lastPairs : Nat → Option Nat
  f_firsts : Nat → Option Nat
  f_table : Nat → Option Nat
  f_compared : Nat → Int32
/-- the objects of BellTouches, kind 7: what each holds, by its address -/
structure wK_O_BellTouches where
  f_setup : Nat → Option Nat
  f_kept : Nat → Option Nat
  f_trialSetup : Nat → Option Nat
  f_touch : Nat → Option Nat
  f_trial : Nat → Option Nat
  f_fewest : Nat → Option Nat
  f_text : Nat → Option Nat
  f_tapes : Nat → Option Nat
  f_hasImage : Nat → Int32
  f_stale : Nat → Int32
/-- the objects of BellTouchesModel, kind 8: what each holds, by its address -/
structure wK_O_BellTouchesModel where
  f_now : Nat → Option Nat
  f_old : Nat → Option Nat
  f_imaged : Nat → Int32
  f_last : Nat → Int32
  f_bell : Nat → Option Nat
  f_key : Nat → Option Nat
  f_texts : Nat → Int32
  f_text : Nat → Option Nat
  f_at : Nat → Int32
  f_fault : Nat → Int32
  f_clauses : Nat → Int32
  f_clause : Nat → Option Nat
  f_from : Nat → Option Nat
  f_many : Nat → Option Nat
  f_numbers : Nat → Int32
  f_number : Nat → Option Nat
  f_sort : Nat → Option Nat
  f_long1 : Nat → Option Nat
  f_items : Nat → Option Nat
  f_moved : Nat → Option Nat
/-- the arrays of kind 9: what each holds, by its address -/
structure wK_R_B where
  len : Nat → Nat
  row : Nat → Nat → Int32
/-- the arrays of kind 10: what each holds, by its address -/
structure wK_R_I where
  len : Nat → Nat
  row : Nat → Nat → Int32
/-- the arrays of kind 11: what each holds, by its address -/
structure wK_R_J where
  len : Nat → Nat
  row : Nat → Nat → Int64
/-- the arrays of kind 12: what each holds, by its address -/
structure wK_R_Z where
  len : Nat → Nat
  row : Nat → Nat → Int32
/-- the arrays of kind 13: what each holds, by its address -/
structure wK_R_Tape where
  len : Nat → Nat
  row : Nat → Nat → Option Nat
/-- the pool: the addresses, the kind of each, and the kinds -/
structure wPS where
  L : List Nat
  K : Nat → Nat
  O_Fewest : wK_O_Fewest
  O_HandRows : wK_O_HandRows
  O_RowTable : wK_O_RowTable
  O_Setup : wK_O_Setup
  O_SetupText : wK_O_SetupText
  O_Tape : wK_O_Tape
  O_Touch : wK_O_Touch
  O_BellTouches : wK_O_BellTouches
  O_BellTouchesModel : wK_O_BellTouchesModel
  R_B : wK_R_B
  R_I : wK_R_I
  R_J : wK_R_J
  R_Z : wK_R_Z
  R_Tape : wK_R_Tape
/-- the empty pool -/
abbrev wP0 : wPS := { L := [], K := (fun _ => 0), O_Fewest := { f_number := (fun _ => 0), f_notPlain := (fun _ => 0), f_touch := (fun _ => none), f_table := (fun _ => none), f_thereIs := (fun _ => none), f_leadCount := (fun _ => 0), f_bound := (fun _ => 0) }, O_HandRows := { f_first := (fun _ => none), f_second := (fun _ => none), f_third := (fun _ => none), f_size := (fun _ => 0) }, O_RowTable := { f_numbers := (fun _ => none) }, O_Setup := { f_n := (fun _ => 0), f_changes := (fun _ => none), f_changeCount := (fun _ => 0), f_bob := (fun _ => 0), f_single := (fun _ => 0), f_leadCalls := (fun _ => none), f_leadCount := (fun _ => 0), f_patternBells := (fun _ => none), f_seen := (fun _ => none), f_events := (fun _ => none), f_book := (fun _ => none) }, O_SetupText := { f_length := (fun _ => 0), f_signs := (fun _ => none), f_place := (fun _ => 0), f_kinds := (fun _ => none), f_starts := (fun _ => none), f_clauseCount := (fun _ => 0), f_values := (fun _ => none), f_valueCount := (fun _ => 0) }, O_Tape := { f_sort := (fun _ => 0), f_length := (fun _ => 0), f_items := (fun _ => none) }, O_Touch := { f_rows := (fun _ => none), f_last := (fun _ => 0), f_changeCount := (fun _ => 0), f_pairs := (fun _ => none), f_lastPairs := (fun _ => none), f_firsts := (fun _ => none), f_table := (fun _ => none), f_compared := (fun _ => 0) }, O_BellTouches := { f_setup := (fun _ => none), f_kept := (fun _ => none), f_trialSetup := (fun _ => none), f_touch := (fun _ => none), f_trial := (fun _ => none), f_fewest := (fun _ => none), f_text := (fun _ => none), f_tapes := (fun _ => none), f_hasImage := (fun _ => 0), f_stale := (fun _ => 0) }, O_BellTouchesModel := { f_now := (fun _ => none), f_old := (fun _ => none), f_imaged := (fun _ => 0), f_last := (fun _ => 0), f_bell := (fun _ => none), f_key := (fun _ => none), f_texts := (fun _ => 0), f_text := (fun _ => none), f_at := (fun _ => 0), f_fault := (fun _ => 0), f_clauses := (fun _ => 0), f_clause := (fun _ => none), f_from := (fun _ => none), f_many := (fun _ => none), f_numbers := (fun _ => 0), f_number := (fun _ => none), f_sort := (fun _ => none), f_long1 := (fun _ => none), f_items := (fun _ => none), f_moved := (fun _ => none) }, R_B := { len := (fun _ => 0), row := (fun _ _ => 0) }, R_I := { len := (fun _ => 0), row := (fun _ _ => 0) }, R_J := { len := (fun _ => 0), row := (fun _ _ => 0) }, R_Z := { len := (fun _ => 0), row := (fun _ _ => 0) }, R_Tape := { len := (fun _ => 0), row := (fun _ _ => none) } }
/-- the pool's rows by their kinds -/
abbrev wPF (cyB : ClassId) (cyI : ClassId) (cyJ : ClassId) (cyZ : ClassId) (cyO51cc9 : ClassId) (S : wPS) : Nat → va_E := fun a => if S.K a = 0 then .inr (0, [.int (S.O_Fewest.f_number a), .int (S.O_Fewest.f_notPlain a), va_rf (S.O_Fewest.f_touch a), va_rf (S.O_Fewest.f_table a), va_rf (S.O_Fewest.f_thereIs a), .int (S.O_Fewest.f_leadCount a), .int (S.O_Fewest.f_bound a)]) else if S.K a = 1 then .inr (1, [va_rf (S.O_HandRows.f_first a), va_rf (S.O_HandRows.f_second a), va_rf (S.O_HandRows.f_third a), .int (S.O_HandRows.f_size a)]) else if S.K a = 2 then .inr (2, [va_rf (S.O_RowTable.f_numbers a)]) else if S.K a = 3 then .inr (3, [.int (S.O_Setup.f_n a), va_rf (S.O_Setup.f_changes a), .int (S.O_Setup.f_changeCount a), .int (S.O_Setup.f_bob a), .int (S.O_Setup.f_single a), va_rf (S.O_Setup.f_leadCalls a), .int (S.O_Setup.f_leadCount a), va_rf (S.O_Setup.f_patternBells a), va_rf (S.O_Setup.f_seen a), va_rf (S.O_Setup.f_events a), va_rf (S.O_Setup.f_book a)]) else if S.K a = 4 then .inr (4, [.int (S.O_SetupText.f_length a), va_rf (S.O_SetupText.f_signs a), .int (S.O_SetupText.f_place a), va_rf (S.O_SetupText.f_kinds a), va_rf (S.O_SetupText.f_starts a), .int (S.O_SetupText.f_clauseCount a), va_rf (S.O_SetupText.f_values a), .int (S.O_SetupText.f_valueCount a)]) else if S.K a = 5 then .inr (5, [.int (S.O_Tape.f_sort a), .int (S.O_Tape.f_length a), va_rf (S.O_Tape.f_items a)]) else if S.K a = 6 then .inr (6, [va_rf (S.O_Touch.f_rows a), .int (S.O_Touch.f_last a), .int (S.O_Touch.f_changeCount a), va_rf (S.O_Touch.f_pairs a), va_rf (S.O_Touch.f_lastPairs a), va_rf (S.O_Touch.f_firsts a), va_rf (S.O_Touch.f_table a), .int (S.O_Touch.f_compared a)]) else if S.K a = 7 then .inr (7, [va_rf (S.O_BellTouches.f_setup a), va_rf (S.O_BellTouches.f_kept a), va_rf (S.O_BellTouches.f_trialSetup a), va_rf (S.O_BellTouches.f_touch a), va_rf (S.O_BellTouches.f_trial a), va_rf (S.O_BellTouches.f_fewest a), va_rf (S.O_BellTouches.f_text a), va_rf (S.O_BellTouches.f_tapes a), .int (S.O_BellTouches.f_hasImage a), .int (S.O_BellTouches.f_stale a)]) else if S.K a = 8 then .inr (8, [va_rf (S.O_BellTouchesModel.f_now a), va_rf (S.O_BellTouchesModel.f_old a), .int (S.O_BellTouchesModel.f_imaged a), .int (S.O_BellTouchesModel.f_last a), va_rf (S.O_BellTouchesModel.f_bell a), va_rf (S.O_BellTouchesModel.f_key a), .int (S.O_BellTouchesModel.f_texts a), va_rf (S.O_BellTouchesModel.f_text a), .int (S.O_BellTouchesModel.f_at a), .int (S.O_BellTouchesModel.f_fault a), .int (S.O_BellTouchesModel.f_clauses a), va_rf (S.O_BellTouchesModel.f_clause a), va_rf (S.O_BellTouchesModel.f_from a), va_rf (S.O_BellTouchesModel.f_many a), .int (S.O_BellTouchesModel.f_numbers a), va_rf (S.O_BellTouchesModel.f_number a), va_rf (S.O_BellTouchesModel.f_sort a), va_rf (S.O_BellTouchesModel.f_long1 a), va_rf (S.O_BellTouchesModel.f_items a), va_rf (S.O_BellTouchesModel.f_moved a)]) else if S.K a = 9 then .inl (cyB, S.R_B.len a, .inl (S.R_B.row a)) else if S.K a = 10 then .inl (cyI, S.R_I.len a, .inl (S.R_I.row a)) else if S.K a = 11 then .inl (cyJ, S.R_J.len a, .inr (.inl (S.R_J.row a))) else if S.K a = 12 then .inl (cyZ, S.R_Z.len a, .inl (S.R_Z.row a)) else .inl (cyO51cc9, S.R_Tape.len a, .inr (.inr (.inr (.inr (S.R_Tape.row a)))))
theorem wAt_O_Fewest (cyB : ClassId) (cyI : ClassId) (cyJ : ClassId) (cyZ : ClassId) (cyO51cc9 : ClassId) (S : wPS) {a : Nat} (h : S.K a = 0) : wPF cyB cyI cyJ cyZ cyO51cc9 S a = .inr (0, [.int (S.O_Fewest.f_number a), .int (S.O_Fewest.f_notPlain a), va_rf (S.O_Fewest.f_touch a), va_rf (S.O_Fewest.f_table a), va_rf (S.O_Fewest.f_thereIs a), .int (S.O_Fewest.f_leadCount a), .int (S.O_Fewest.f_bound a)]) := by simp [wPF, h]
theorem wGt_O_Fewest (cyB : ClassId) (cyI : ClassId) (cyJ : ClassId) (cyZ : ClassId) (cyO51cc9 : ClassId) (X : va_W) (S : wPS) {a : Nat} (hL : a ∈ S.L) (h : S.K a = 0) : ∃ k : Nat, (X ++ va_pl S.L (wPF cyB cyI cyJ cyZ cyO51cc9 S))[k]? = some (a, wPF cyB cyI cyJ cyZ cyO51cc9 S a) ∧ (X ++ va_pl S.L (wPF cyB cyI cyJ cyZ cyO51cc9 S))[k]? = some (a, .inr (0, [.int (S.O_Fewest.f_number a), .int (S.O_Fewest.f_notPlain a), va_rf (S.O_Fewest.f_touch a), va_rf (S.O_Fewest.f_table a), va_rf (S.O_Fewest.f_thereIs a), .int (S.O_Fewest.f_leadCount a), .int (S.O_Fewest.f_bound a)])) := by
  obtain ⟨k, hk⟩ := va_pl_get (X := X) (f := wPF cyB cyI cyJ cyZ cyO51cc9 S) hL
  exact ⟨k, hk, hk.trans (congrArg (fun e => some (a, e)) (wAt_O_Fewest cyB cyI cyJ cyZ cyO51cc9 S h))⟩
theorem wSt_O_Fewest_f_number (cyB : ClassId) (cyI : ClassId) (cyJ : ClassId) (cyZ : ClassId) (cyO51cc9 : ClassId) (S : wPS) {a : Nat} (h : S.K a = 0) (v : Int32) (b : Nat) : va_up (wPF cyB cyI cyJ cyZ cyO51cc9 S) a (.inr (0, [.int v, .int (S.O_Fewest.f_notPlain a), va_rf (S.O_Fewest.f_touch a), va_rf (S.O_Fewest.f_table a), va_rf (S.O_Fewest.f_thereIs a), .int (S.O_Fewest.f_leadCount a), .int (S.O_Fewest.f_bound a)])) b = wPF cyB cyI cyJ cyZ cyO51cc9 { S with O_Fewest := { S.O_Fewest with f_number := va_up S.O_Fewest.f_number a v } } b := by by_cases hb : b = a <;> first | (simp only [wPF, va_up_ne _ _ hb]; done) | (simp only [wPF, va_up, if_neg hb]; done) | simp [wPF, va_re, va_up, va_rf, hb, h]
theorem wPu_O_Fewest_f_number (cyB : ClassId) (cyI : ClassId) (cyJ : ClassId) (cyZ : ClassId) (cyO51cc9 : ClassId) (X : va_W) (S : wPS) {A : Nat → Prop} {a k : Nat} (hD : va_D A (X ++ va_pl S.L (wPF cyB cyI cyJ cyZ cyO51cc9 S))) (hL : a ∈ S.L) (h : S.K a = 0) (hk : (X ++ va_pl S.L (wPF cyB cyI cyJ cyZ cyO51cc9 S))[k]? = some (a, wPF cyB cyI cyJ cyZ cyO51cc9 S a)) (v : Int32) : (X ++ va_pl S.L (wPF cyB cyI cyJ cyZ cyO51cc9 S)).set k (a, .inr (0, [.int v, .int (S.O_Fewest.f_notPlain a), va_rf (S.O_Fewest.f_touch a), va_rf (S.O_Fewest.f_table a), va_rf (S.O_Fewest.f_thereIs a), .int (S.O_Fewest.f_leadCount a), .int (S.O_Fewest.f_bound a)])) = X ++ va_pl S.L (wPF cyB cyI cyJ cyZ cyO51cc9 { S with O_Fewest := { S.O_Fewest with f_number := va_up S.O_Fewest.f_number a v } }) := by
  rw [va_pl_set hD hL hk]
  exact congrArg (fun l => X ++ l) (va_pl_congr (wSt_O_Fewest_f_number cyB cyI cyJ cyZ cyO51cc9 S h v))
theorem wSt_O_Fewest_f_notPlain (cyB : ClassId) (cyI : ClassId) (cyJ : ClassId) (cyZ : ClassId) (cyO51cc9 : ClassId) (S : wPS) {a : Nat} (h : S.K a = 0) (v : Int32) (b : Nat) : va_up (wPF cyB cyI cyJ cyZ cyO51cc9 S) a (.inr (0, [.int (S.O_Fewest.f_number a), .int v, va_rf (S.O_Fewest.f_touch a), va_rf (S.O_Fewest.f_table a), va_rf (S.O_Fewest.f_thereIs a), .int (S.O_Fewest.f_leadCount a), .int (S.O_Fewest.f_bound a)])) b = wPF cyB cyI cyJ cyZ cyO51cc9 { S with O_Fewest := { S.O_Fewest with f_notPlain := va_up S.O_Fewest.f_notPlain a v } } b := by by_cases hb : b = a <;> first | (simp only [wPF, va_up_ne _ _ hb]; done) | (simp only [wPF, va_up, if_neg hb]; done) | simp [wPF, va_re, va_up, va_rf, hb, h]
theorem wPu_O_Fewest_f_notPlain (cyB : ClassId) (cyI : ClassId) (cyJ : ClassId) (cyZ : ClassId) (cyO51cc9 : ClassId) (X : va_W) (S : wPS) {A : Nat → Prop} {a k : Nat} (hD : va_D A (X ++ va_pl S.L (wPF cyB cyI cyJ cyZ cyO51cc9 S))) (hL : a ∈ S.L) (h : S.K a = 0) (hk : (X ++ va_pl S.L (wPF cyB cyI cyJ cyZ cyO51cc9 S))[k]? = some (a, wPF cyB cyI cyJ cyZ cyO51cc9 S a)) (v : Int32) : (X ++ va_pl S.L (wPF cyB cyI cyJ cyZ cyO51cc9 S)).set k (a, .inr (0, [.int (S.O_Fewest.f_number a), .int v, va_rf (S.O_Fewest.f_touch a), va_rf (S.O_Fewest.f_table a), va_rf (S.O_Fewest.f_thereIs a), .int (S.O_Fewest.f_leadCount a), .int (S.O_Fewest.f_bound a)])) = X ++ va_pl S.L (wPF cyB cyI cyJ cyZ cyO51cc9 { S with O_Fewest := { S.O_Fewest with f_notPlain := va_up S.O_Fewest.f_notPlain a v } }) := by
  rw [va_pl_set hD hL hk]
  exact congrArg (fun l => X ++ l) (va_pl_congr (wSt_O_Fewest_f_notPlain cyB cyI cyJ cyZ cyO51cc9 S h v))
theorem wSt_O_Fewest_f_touch (cyB : ClassId) (cyI : ClassId) (cyJ : ClassId) (cyZ : ClassId) (cyO51cc9 : ClassId) (S : wPS) {a : Nat} (h : S.K a = 0) (v : Option Nat) (b : Nat) : va_up (wPF cyB cyI cyJ cyZ cyO51cc9 S) a (.inr (0, [.int (S.O_Fewest.f_number a), .int (S.O_Fewest.f_notPlain a), va_rf v, va_rf (S.O_Fewest.f_table a), va_rf (S.O_Fewest.f_thereIs a), .int (S.O_Fewest.f_leadCount a), .int (S.O_Fewest.f_bound a)])) b = wPF cyB cyI cyJ cyZ cyO51cc9 { S with O_Fewest := { S.O_Fewest with f_touch := va_up S.O_Fewest.f_touch a v } } b := by by_cases hb : b = a <;> first | (simp only [wPF, va_up_ne _ _ hb]; done) | (simp only [wPF, va_up, if_neg hb]; done) | simp [wPF, va_re, va_up, va_rf, hb, h]
theorem wPu_O_Fewest_f_touch (cyB : ClassId) (cyI : ClassId) (cyJ : ClassId) (cyZ : ClassId) (cyO51cc9 : ClassId) (X : va_W) (S : wPS) {A : Nat → Prop} {a k : Nat} (hD : va_D A (X ++ va_pl S.L (wPF cyB cyI cyJ cyZ cyO51cc9 S))) (hL : a ∈ S.L) (h : S.K a = 0) (hk : (X ++ va_pl S.L (wPF cyB cyI cyJ cyZ cyO51cc9 S))[k]? = some (a, wPF cyB cyI cyJ cyZ cyO51cc9 S a)) (v : Option Nat) : (X ++ va_pl S.L (wPF cyB cyI cyJ cyZ cyO51cc9 S)).set k (a, .inr (0, [.int (S.O_Fewest.f_number a), .int (S.O_Fewest.f_notPlain a), va_rf v, va_rf (S.O_Fewest.f_table a), va_rf (S.O_Fewest.f_thereIs a), .int (S.O_Fewest.f_leadCount a), .int (S.O_Fewest.f_bound a)])) = X ++ va_pl S.L (wPF cyB cyI cyJ cyZ cyO51cc9 { S with O_Fewest := { S.O_Fewest with f_touch := va_up S.O_Fewest.f_touch a v } }) := by
  rw [va_pl_set hD hL hk]
  exact congrArg (fun l => X ++ l) (va_pl_congr (wSt_O_Fewest_f_touch cyB cyI cyJ cyZ cyO51cc9 S h v))
theorem wSt_O_Fewest_f_table (cyB : ClassId) (cyI : ClassId) (cyJ : ClassId) (cyZ : ClassId) (cyO51cc9 : ClassId) (S : wPS) {a : Nat} (h : S.K a = 0) (v : Option Nat) (b : Nat) : va_up (wPF cyB cyI cyJ cyZ cyO51cc9 S) a (.inr (0, [.int (S.O_Fewest.f_number a), .int (S.O_Fewest.f_notPlain a), va_rf (S.O_Fewest.f_touch a), va_rf v, va_rf (S.O_Fewest.f_thereIs a), .int (S.O_Fewest.f_leadCount a), .int (S.O_Fewest.f_bound a)])) b = wPF cyB cyI cyJ cyZ cyO51cc9 { S with O_Fewest := { S.O_Fewest with f_table := va_up S.O_Fewest.f_table a v } } b := by by_cases hb : b = a <;> first | (simp only [wPF, va_up_ne _ _ hb]; done) | (simp only [wPF, va_up, if_neg hb]; done) | simp [wPF, va_re, va_up, va_rf, hb, h]
theorem wPu_O_Fewest_f_table (cyB : ClassId) (cyI : ClassId) (cyJ : ClassId) (cyZ : ClassId) (cyO51cc9 : ClassId) (X : va_W) (S : wPS) {A : Nat → Prop} {a k : Nat} (hD : va_D A (X ++ va_pl S.L (wPF cyB cyI cyJ cyZ cyO51cc9 S))) (hL : a ∈ S.L) (h : S.K a = 0) (hk : (X ++ va_pl S.L (wPF cyB cyI cyJ cyZ cyO51cc9 S))[k]? = some (a, wPF cyB cyI cyJ cyZ cyO51cc9 S a)) (v : Option Nat) : (X ++ va_pl S.L (wPF cyB cyI cyJ cyZ cyO51cc9 S)).set k (a, .inr (0, [.int (S.O_Fewest.f_number a), .int (S.O_Fewest.f_notPlain a), va_rf (S.O_Fewest.f_touch a), va_rf v, va_rf (S.O_Fewest.f_thereIs a), .int (S.O_Fewest.f_leadCount a), .int (S.O_Fewest.f_bound a)])) = X ++ va_pl S.L (wPF cyB cyI cyJ cyZ cyO51cc9 { S with O_Fewest := { S.O_Fewest with f_table := va_up S.O_Fewest.f_table a v } }) := by
  rw [va_pl_set hD hL hk]
  exact congrArg (fun l => X ++ l) (va_pl_congr (wSt_O_Fewest_f_table cyB cyI cyJ cyZ cyO51cc9 S h v))
theorem wSt_O_Fewest_f_thereIs (cyB : ClassId) (cyI : ClassId) (cyJ : ClassId) (cyZ : ClassId) (cyO51cc9 : ClassId) (S : wPS) {a : Nat} (h : S.K a = 0) (v : Option Nat) (b : Nat) : va_up (wPF cyB cyI cyJ cyZ cyO51cc9 S) a (.inr (0, [.int (S.O_Fewest.f_number a), .int (S.O_Fewest.f_notPlain a), va_rf (S.O_Fewest.f_touch a), va_rf (S.O_Fewest.f_table a), va_rf v, .int (S.O_Fewest.f_leadCount a), .int (S.O_Fewest.f_bound a)])) b = wPF cyB cyI cyJ cyZ cyO51cc9 { S with O_Fewest := { S.O_Fewest with f_thereIs := va_up S.O_Fewest.f_thereIs a v } } b := by by_cases hb : b = a <;> first | (simp only [wPF, va_up_ne _ _ hb]; done) | (simp only [wPF, va_up, if_neg hb]; done) | simp [wPF, va_re, va_up, va_rf, hb, h]
theorem wPu_O_Fewest_f_thereIs (cyB : ClassId) (cyI : ClassId) (cyJ : ClassId) (cyZ : ClassId) (cyO51cc9 : ClassId) (X : va_W) (S : wPS) {A : Nat → Prop} {a k : Nat} (hD : va_D A (X ++ va_pl S.L (wPF cyB cyI cyJ cyZ cyO51cc9 S))) (hL : a ∈ S.L) (h : S.K a = 0) (hk : (X ++ va_pl S.L (wPF cyB cyI cyJ cyZ cyO51cc9 S))[k]? = some (a, wPF cyB cyI cyJ cyZ cyO51cc9 S a)) (v : Option Nat) : (X ++ va_pl S.L (wPF cyB cyI cyJ cyZ cyO51cc9 S)).set k (a, .inr (0, [.int (S.O_Fewest.f_number a), .int (S.O_Fewest.f_notPlain a), va_rf (S.O_Fewest.f_touch a), va_rf (S.O_Fewest.f_table a), va_rf v, .int (S.O_Fewest.f_leadCount a), .int (S.O_Fewest.f_bound a)])) = X ++ va_pl S.L (wPF cyB cyI cyJ cyZ cyO51cc9 { S with O_Fewest := { S.O_Fewest with f_thereIs := va_up S.O_Fewest.f_thereIs a v } }) := by
  rw [va_pl_set hD hL hk]
  exact congrArg (fun l => X ++ l) (va_pl_congr (wSt_O_Fewest_f_thereIs cyB cyI cyJ cyZ cyO51cc9 S h v))
theorem wSt_O_Fewest_f_leadCount (cyB : ClassId) (cyI : ClassId) (cyJ : ClassId) (cyZ : ClassId) (cyO51cc9 : ClassId) (S : wPS) {a : Nat} (h : S.K a = 0) (v : Int32) (b : Nat) : va_up (wPF cyB cyI cyJ cyZ cyO51cc9 S) a (.inr (0, [.int (S.O_Fewest.f_number a), .int (S.O_Fewest.f_notPlain a), va_rf (S.O_Fewest.f_touch a), va_rf (S.O_Fewest.f_table a), va_rf (S.O_Fewest.f_thereIs a), .int v, .int (S.O_Fewest.f_bound a)])) b = wPF cyB cyI cyJ cyZ cyO51cc9 { S with O_Fewest := { S.O_Fewest with f_leadCount := va_up S.O_Fewest.f_leadCount a v } } b := by by_cases hb : b = a <;> first | (simp only [wPF, va_up_ne _ _ hb]; done) | (simp only [wPF, va_up, if_neg hb]; done) | simp [wPF, va_re, va_up, va_rf, hb, h]
theorem wPu_O_Fewest_f_leadCount (cyB : ClassId) (cyI : ClassId) (cyJ : ClassId) (cyZ : ClassId) (cyO51cc9 : ClassId) (X : va_W) (S : wPS) {A : Nat → Prop} {a k : Nat} (hD : va_D A (X ++ va_pl S.L (wPF cyB cyI cyJ cyZ cyO51cc9 S))) (hL : a ∈ S.L) (h : S.K a = 0) (hk : (X ++ va_pl S.L (wPF cyB cyI cyJ cyZ cyO51cc9 S))[k]? = some (a, wPF cyB cyI cyJ cyZ cyO51cc9 S a)) (v : Int32) : (X ++ va_pl S.L (wPF cyB cyI cyJ cyZ cyO51cc9 S)).set k (a, .inr (0, [.int (S.O_Fewest.f_number a), .int (S.O_Fewest.f_notPlain a), va_rf (S.O_Fewest.f_touch a), va_rf (S.O_Fewest.f_table a), va_rf (S.O_Fewest.f_thereIs a), .int v, .int (S.O_Fewest.f_bound a)])) = X ++ va_pl S.L (wPF cyB cyI cyJ cyZ cyO51cc9 { S with O_Fewest := { S.O_Fewest with f_leadCount := va_up S.O_Fewest.f_leadCount a v } }) := by
  rw [va_pl_set hD hL hk]
  exact congrArg (fun l => X ++ l) (va_pl_congr (wSt_O_Fewest_f_leadCount cyB cyI cyJ cyZ cyO51cc9 S h v))
theorem wSt_O_Fewest_f_bound (cyB : ClassId) (cyI : ClassId) (cyJ : ClassId) (cyZ : ClassId) (cyO51cc9 : ClassId) (S : wPS) {a : Nat} (h : S.K a = 0) (v : Int32) (b : Nat) : va_up (wPF cyB cyI cyJ cyZ cyO51cc9 S) a (.inr (0, [.int (S.O_Fewest.f_number a), .int (S.O_Fewest.f_notPlain a), va_rf (S.O_Fewest.f_touch a), va_rf (S.O_Fewest.f_table a), va_rf (S.O_Fewest.f_thereIs a), .int (S.O_Fewest.f_leadCount a), .int v])) b = wPF cyB cyI cyJ cyZ cyO51cc9 { S with O_Fewest := { S.O_Fewest with f_bound := va_up S.O_Fewest.f_bound a v } } b := by by_cases hb : b = a <;> first | (simp only [wPF, va_up_ne _ _ hb]; done) | (simp only [wPF, va_up, if_neg hb]; done) | simp [wPF, va_re, va_up, va_rf, hb, h]
theorem wPu_O_Fewest_f_bound (cyB : ClassId) (cyI : ClassId) (cyJ : ClassId) (cyZ : ClassId) (cyO51cc9 : ClassId) (X : va_W) (S : wPS) {A : Nat → Prop} {a k : Nat} (hD : va_D A (X ++ va_pl S.L (wPF cyB cyI cyJ cyZ cyO51cc9 S))) (hL : a ∈ S.L) (h : S.K a = 0) (hk : (X ++ va_pl S.L (wPF cyB cyI cyJ cyZ cyO51cc9 S))[k]? = some (a, wPF cyB cyI cyJ cyZ cyO51cc9 S a)) (v : Int32) : (X ++ va_pl S.L (wPF cyB cyI cyJ cyZ cyO51cc9 S)).set k (a, .inr (0, [.int (S.O_Fewest.f_number a), .int (S.O_Fewest.f_notPlain a), va_rf (S.O_Fewest.f_touch a), va_rf (S.O_Fewest.f_table a), va_rf (S.O_Fewest.f_thereIs a), .int (S.O_Fewest.f_leadCount a), .int v])) = X ++ va_pl S.L (wPF cyB cyI cyJ cyZ cyO51cc9 { S with O_Fewest := { S.O_Fewest with f_bound := va_up S.O_Fewest.f_bound a v } }) := by
  rw [va_pl_set hD hL hk]
  exact congrArg (fun l => X ++ l) (va_pl_congr (wSt_O_Fewest_f_bound cyB cyI cyJ cyZ cyO51cc9 S h v))
theorem wNw_O_Fewest (cyB : ClassId) (cyI : ClassId) (cyJ : ClassId) (cyZ : ClassId) (cyO51cc9 : ClassId) (S : wPS) (a b : Nat) : va_up (wPF cyB cyI cyJ cyZ cyO51cc9 S) a (.inr (0, [.int 0, .int 0, .null, .null, .null, .int 0, .int 0])) b = wPF cyB cyI cyJ cyZ cyO51cc9 { S with L := S.L ++ [a], K := va_up S.K a 0, O_Fewest := { f_number := va_up S.O_Fewest.f_number a 0, f_notPlain := va_up S.O_Fewest.f_notPlain a 0, f_touch := va_up S.O_Fewest.f_touch a none, f_table := va_up S.O_Fewest.f_table a none, f_thereIs := va_up S.O_Fewest.f_thereIs a none, f_leadCount := va_up S.O_Fewest.f_leadCount a 0, f_bound := va_up S.O_Fewest.f_bound a 0 } } b := by by_cases hb : b = a <;> first | (simp only [wPF, va_up_ne _ _ hb]; done) | (simp only [wPF, va_up, if_neg hb]; done) | simp [wPF, va_re, va_up, va_rf, hb]
theorem wPn_O_Fewest (cyB : ClassId) (cyI : ClassId) (cyJ : ClassId) (cyZ : ClassId) (cyO51cc9 : ClassId) (X : va_W) (S : wPS) {a : Nat} (ha : a ∉ S.L) : (X ++ va_pl S.L (wPF cyB cyI cyJ cyZ cyO51cc9 S)) ++ [(a, .inr (0, [.int 0, .int 0, .null, .null, .null, .int 0, .int 0]))] = X ++ va_pl (S.L ++ [a]) (wPF cyB cyI cyJ cyZ cyO51cc9 { S with L := S.L ++ [a], K := va_up S.K a 0, O_Fewest := { f_number := va_up S.O_Fewest.f_number a 0, f_notPlain := va_up S.O_Fewest.f_notPlain a 0, f_touch := va_up S.O_Fewest.f_touch a none, f_table := va_up S.O_Fewest.f_table a none, f_thereIs := va_up S.O_Fewest.f_thereIs a none, f_leadCount := va_up S.O_Fewest.f_leadCount a 0, f_bound := va_up S.O_Fewest.f_bound a 0 } }) := by
  rw [List.append_assoc, va_pl_push ha]
  exact congrArg (fun l => X ++ l) (va_pl_congr (wNw_O_Fewest cyB cyI cyJ cyZ cyO51cc9 S a))
theorem wAt_O_HandRows (cyB : ClassId) (cyI : ClassId) (cyJ : ClassId) (cyZ : ClassId) (cyO51cc9 : ClassId) (S : wPS) {a : Nat} (h : S.K a = 1) : wPF cyB cyI cyJ cyZ cyO51cc9 S a = .inr (1, [va_rf (S.O_HandRows.f_first a), va_rf (S.O_HandRows.f_second a), va_rf (S.O_HandRows.f_third a), .int (S.O_HandRows.f_size a)]) := by simp [wPF, h]
theorem wGt_O_HandRows (cyB : ClassId) (cyI : ClassId) (cyJ : ClassId) (cyZ : ClassId) (cyO51cc9 : ClassId) (X : va_W) (S : wPS) {a : Nat} (hL : a ∈ S.L) (h : S.K a = 1) : ∃ k : Nat, (X ++ va_pl S.L (wPF cyB cyI cyJ cyZ cyO51cc9 S))[k]? = some (a, wPF cyB cyI cyJ cyZ cyO51cc9 S a) ∧ (X ++ va_pl S.L (wPF cyB cyI cyJ cyZ cyO51cc9 S))[k]? = some (a, .inr (1, [va_rf (S.O_HandRows.f_first a), va_rf (S.O_HandRows.f_second a), va_rf (S.O_HandRows.f_third a), .int (S.O_HandRows.f_size a)])) := by
  obtain ⟨k, hk⟩ := va_pl_get (X := X) (f := wPF cyB cyI cyJ cyZ cyO51cc9 S) hL
  exact ⟨k, hk, hk.trans (congrArg (fun e => some (a, e)) (wAt_O_HandRows cyB cyI cyJ cyZ cyO51cc9 S h))⟩
theorem wSt_O_HandRows_f_first (cyB : ClassId) (cyI : ClassId) (cyJ : ClassId) (cyZ : ClassId) (cyO51cc9 : ClassId) (S : wPS) {a : Nat} (h : S.K a = 1) (v : Option Nat) (b : Nat) : va_up (wPF cyB cyI cyJ cyZ cyO51cc9 S) a (.inr (1, [va_rf v, va_rf (S.O_HandRows.f_second a), va_rf (S.O_HandRows.f_third a), .int (S.O_HandRows.f_size a)])) b = wPF cyB cyI cyJ cyZ cyO51cc9 { S with O_HandRows := { S.O_HandRows with f_first := va_up S.O_HandRows.f_first a v } } b := by by_cases hb : b = a <;> first | (simp only [wPF, va_up_ne _ _ hb]; done) | (simp only [wPF, va_up, if_neg hb]; done) | simp [wPF, va_re, va_up, va_rf, hb, h]
theorem wPu_O_HandRows_f_first (cyB : ClassId) (cyI : ClassId) (cyJ : ClassId) (cyZ : ClassId) (cyO51cc9 : ClassId) (X : va_W) (S : wPS) {A : Nat → Prop} {a k : Nat} (hD : va_D A (X ++ va_pl S.L (wPF cyB cyI cyJ cyZ cyO51cc9 S))) (hL : a ∈ S.L) (h : S.K a = 1) (hk : (X ++ va_pl S.L (wPF cyB cyI cyJ cyZ cyO51cc9 S))[k]? = some (a, wPF cyB cyI cyJ cyZ cyO51cc9 S a)) (v : Option Nat) : (X ++ va_pl S.L (wPF cyB cyI cyJ cyZ cyO51cc9 S)).set k (a, .inr (1, [va_rf v, va_rf (S.O_HandRows.f_second a), va_rf (S.O_HandRows.f_third a), .int (S.O_HandRows.f_size a)])) = X ++ va_pl S.L (wPF cyB cyI cyJ cyZ cyO51cc9 { S with O_HandRows := { S.O_HandRows with f_first := va_up S.O_HandRows.f_first a v } }) := by
  rw [va_pl_set hD hL hk]
  exact congrArg (fun l => X ++ l) (va_pl_congr (wSt_O_HandRows_f_first cyB cyI cyJ cyZ cyO51cc9 S h v))
theorem wSt_O_HandRows_f_second (cyB : ClassId) (cyI : ClassId) (cyJ : ClassId) (cyZ : ClassId) (cyO51cc9 : ClassId) (S : wPS) {a : Nat} (h : S.K a = 1) (v : Option Nat) (b : Nat) : va_up (wPF cyB cyI cyJ cyZ cyO51cc9 S) a (.inr (1, [va_rf (S.O_HandRows.f_first a), va_rf v, va_rf (S.O_HandRows.f_third a), .int (S.O_HandRows.f_size a)])) b = wPF cyB cyI cyJ cyZ cyO51cc9 { S with O_HandRows := { S.O_HandRows with f_second := va_up S.O_HandRows.f_second a v } } b := by by_cases hb : b = a <;> first | (simp only [wPF, va_up_ne _ _ hb]; done) | (simp only [wPF, va_up, if_neg hb]; done) | simp [wPF, va_re, va_up, va_rf, hb, h]
theorem wPu_O_HandRows_f_second (cyB : ClassId) (cyI : ClassId) (cyJ : ClassId) (cyZ : ClassId) (cyO51cc9 : ClassId) (X : va_W) (S : wPS) {A : Nat → Prop} {a k : Nat} (hD : va_D A (X ++ va_pl S.L (wPF cyB cyI cyJ cyZ cyO51cc9 S))) (hL : a ∈ S.L) (h : S.K a = 1) (hk : (X ++ va_pl S.L (wPF cyB cyI cyJ cyZ cyO51cc9 S))[k]? = some (a, wPF cyB cyI cyJ cyZ cyO51cc9 S a)) (v : Option Nat) : (X ++ va_pl S.L (wPF cyB cyI cyJ cyZ cyO51cc9 S)).set k (a, .inr (1, [va_rf (S.O_HandRows.f_first a), va_rf v, va_rf (S.O_HandRows.f_third a), .int (S.O_HandRows.f_size a)])) = X ++ va_pl S.L (wPF cyB cyI cyJ cyZ cyO51cc9 { S with O_HandRows := { S.O_HandRows with f_second := va_up S.O_HandRows.f_second a v } }) := by
  rw [va_pl_set hD hL hk]
  exact congrArg (fun l => X ++ l) (va_pl_congr (wSt_O_HandRows_f_second cyB cyI cyJ cyZ cyO51cc9 S h v))
theorem wSt_O_HandRows_f_third (cyB : ClassId) (cyI : ClassId) (cyJ : ClassId) (cyZ : ClassId) (cyO51cc9 : ClassId) (S : wPS) {a : Nat} (h : S.K a = 1) (v : Option Nat) (b : Nat) : va_up (wPF cyB cyI cyJ cyZ cyO51cc9 S) a (.inr (1, [va_rf (S.O_HandRows.f_first a), va_rf (S.O_HandRows.f_second a), va_rf v, .int (S.O_HandRows.f_size a)])) b = wPF cyB cyI cyJ cyZ cyO51cc9 { S with O_HandRows := { S.O_HandRows with f_third := va_up S.O_HandRows.f_third a v } } b := by by_cases hb : b = a <;> first | (simp only [wPF, va_up_ne _ _ hb]; done) | (simp only [wPF, va_up, if_neg hb]; done) | simp [wPF, va_re, va_up, va_rf, hb, h]
theorem wPu_O_HandRows_f_third (cyB : ClassId) (cyI : ClassId) (cyJ : ClassId) (cyZ : ClassId) (cyO51cc9 : ClassId) (X : va_W) (S : wPS) {A : Nat → Prop} {a k : Nat} (hD : va_D A (X ++ va_pl S.L (wPF cyB cyI cyJ cyZ cyO51cc9 S))) (hL : a ∈ S.L) (h : S.K a = 1) (hk : (X ++ va_pl S.L (wPF cyB cyI cyJ cyZ cyO51cc9 S))[k]? = some (a, wPF cyB cyI cyJ cyZ cyO51cc9 S a)) (v : Option Nat) : (X ++ va_pl S.L (wPF cyB cyI cyJ cyZ cyO51cc9 S)).set k (a, .inr (1, [va_rf (S.O_HandRows.f_first a), va_rf (S.O_HandRows.f_second a), va_rf v, .int (S.O_HandRows.f_size a)])) = X ++ va_pl S.L (wPF cyB cyI cyJ cyZ cyO51cc9 { S with O_HandRows := { S.O_HandRows with f_third := va_up S.O_HandRows.f_third a v } }) := by
  rw [va_pl_set hD hL hk]
  exact congrArg (fun l => X ++ l) (va_pl_congr (wSt_O_HandRows_f_third cyB cyI cyJ cyZ cyO51cc9 S h v))
theorem wSt_O_HandRows_f_size (cyB : ClassId) (cyI : ClassId) (cyJ : ClassId) (cyZ : ClassId) (cyO51cc9 : ClassId) (S : wPS) {a : Nat} (h : S.K a = 1) (v : Int32) (b : Nat) : va_up (wPF cyB cyI cyJ cyZ cyO51cc9 S) a (.inr (1, [va_rf (S.O_HandRows.f_first a), va_rf (S.O_HandRows.f_second a), va_rf (S.O_HandRows.f_third a), .int v])) b = wPF cyB cyI cyJ cyZ cyO51cc9 { S with O_HandRows := { S.O_HandRows with f_size := va_up S.O_HandRows.f_size a v } } b := by by_cases hb : b = a <;> first | (simp only [wPF, va_up_ne _ _ hb]; done) | (simp only [wPF, va_up, if_neg hb]; done) | simp [wPF, va_re, va_up, va_rf, hb, h]
theorem wPu_O_HandRows_f_size (cyB : ClassId) (cyI : ClassId) (cyJ : ClassId) (cyZ : ClassId) (cyO51cc9 : ClassId) (X : va_W) (S : wPS) {A : Nat → Prop} {a k : Nat} (hD : va_D A (X ++ va_pl S.L (wPF cyB cyI cyJ cyZ cyO51cc9 S))) (hL : a ∈ S.L) (h : S.K a = 1) (hk : (X ++ va_pl S.L (wPF cyB cyI cyJ cyZ cyO51cc9 S))[k]? = some (a, wPF cyB cyI cyJ cyZ cyO51cc9 S a)) (v : Int32) : (X ++ va_pl S.L (wPF cyB cyI cyJ cyZ cyO51cc9 S)).set k (a, .inr (1, [va_rf (S.O_HandRows.f_first a), va_rf (S.O_HandRows.f_second a), va_rf (S.O_HandRows.f_third a), .int v])) = X ++ va_pl S.L (wPF cyB cyI cyJ cyZ cyO51cc9 { S with O_HandRows := { S.O_HandRows with f_size := va_up S.O_HandRows.f_size a v } }) := by
  rw [va_pl_set hD hL hk]
  exact congrArg (fun l => X ++ l) (va_pl_congr (wSt_O_HandRows_f_size cyB cyI cyJ cyZ cyO51cc9 S h v))
theorem wNw_O_HandRows (cyB : ClassId) (cyI : ClassId) (cyJ : ClassId) (cyZ : ClassId) (cyO51cc9 : ClassId) (S : wPS) (a b : Nat) : va_up (wPF cyB cyI cyJ cyZ cyO51cc9 S) a (.inr (1, [.null, .null, .null, .int 0])) b = wPF cyB cyI cyJ cyZ cyO51cc9 { S with L := S.L ++ [a], K := va_up S.K a 1, O_HandRows := { f_first := va_up S.O_HandRows.f_first a none, f_second := va_up S.O_HandRows.f_second a none, f_third := va_up S.O_HandRows.f_third a none, f_size := va_up S.O_HandRows.f_size a 0 } } b := by by_cases hb : b = a <;> first | (simp only [wPF, va_up_ne _ _ hb]; done) | (simp only [wPF, va_up, if_neg hb]; done) | simp [wPF, va_re, va_up, va_rf, hb]
theorem wPn_O_HandRows (cyB : ClassId) (cyI : ClassId) (cyJ : ClassId) (cyZ : ClassId) (cyO51cc9 : ClassId) (X : va_W) (S : wPS) {a : Nat} (ha : a ∉ S.L) : (X ++ va_pl S.L (wPF cyB cyI cyJ cyZ cyO51cc9 S)) ++ [(a, .inr (1, [.null, .null, .null, .int 0]))] = X ++ va_pl (S.L ++ [a]) (wPF cyB cyI cyJ cyZ cyO51cc9 { S with L := S.L ++ [a], K := va_up S.K a 1, O_HandRows := { f_first := va_up S.O_HandRows.f_first a none, f_second := va_up S.O_HandRows.f_second a none, f_third := va_up S.O_HandRows.f_third a none, f_size := va_up S.O_HandRows.f_size a 0 } }) := by
  rw [List.append_assoc, va_pl_push ha]
  exact congrArg (fun l => X ++ l) (va_pl_congr (wNw_O_HandRows cyB cyI cyJ cyZ cyO51cc9 S a))
theorem wAt_O_RowTable (cyB : ClassId) (cyI : ClassId) (cyJ : ClassId) (cyZ : ClassId) (cyO51cc9 : ClassId) (S : wPS) {a : Nat} (h : S.K a = 2) : wPF cyB cyI cyJ cyZ cyO51cc9 S a = .inr (2, [va_rf (S.O_RowTable.f_numbers a)]) := by simp [wPF, h]
theorem wGt_O_RowTable (cyB : ClassId) (cyI : ClassId) (cyJ : ClassId) (cyZ : ClassId) (cyO51cc9 : ClassId) (X : va_W) (S : wPS) {a : Nat} (hL : a ∈ S.L) (h : S.K a = 2) : ∃ k : Nat, (X ++ va_pl S.L (wPF cyB cyI cyJ cyZ cyO51cc9 S))[k]? = some (a, wPF cyB cyI cyJ cyZ cyO51cc9 S a) ∧ (X ++ va_pl S.L (wPF cyB cyI cyJ cyZ cyO51cc9 S))[k]? = some (a, .inr (2, [va_rf (S.O_RowTable.f_numbers a)])) := by
  obtain ⟨k, hk⟩ := va_pl_get (X := X) (f := wPF cyB cyI cyJ cyZ cyO51cc9 S) hL
  exact ⟨k, hk, hk.trans (congrArg (fun e => some (a, e)) (wAt_O_RowTable cyB cyI cyJ cyZ cyO51cc9 S h))⟩
theorem wSt_O_RowTable_f_numbers (cyB : ClassId) (cyI : ClassId) (cyJ : ClassId) (cyZ : ClassId) (cyO51cc9 : ClassId) (S : wPS) {a : Nat} (h : S.K a = 2) (v : Option Nat) (b : Nat) : va_up (wPF cyB cyI cyJ cyZ cyO51cc9 S) a (.inr (2, [va_rf v])) b = wPF cyB cyI cyJ cyZ cyO51cc9 { S with O_RowTable := { f_numbers := va_up S.O_RowTable.f_numbers a v } } b := by by_cases hb : b = a <;> first | (simp only [wPF, va_up_ne _ _ hb]; done) | (simp only [wPF, va_up, if_neg hb]; done) | simp [wPF, va_re, va_up, va_rf, hb, h]
theorem wPu_O_RowTable_f_numbers (cyB : ClassId) (cyI : ClassId) (cyJ : ClassId) (cyZ : ClassId) (cyO51cc9 : ClassId) (X : va_W) (S : wPS) {A : Nat → Prop} {a k : Nat} (hD : va_D A (X ++ va_pl S.L (wPF cyB cyI cyJ cyZ cyO51cc9 S))) (hL : a ∈ S.L) (h : S.K a = 2) (hk : (X ++ va_pl S.L (wPF cyB cyI cyJ cyZ cyO51cc9 S))[k]? = some (a, wPF cyB cyI cyJ cyZ cyO51cc9 S a)) (v : Option Nat) : (X ++ va_pl S.L (wPF cyB cyI cyJ cyZ cyO51cc9 S)).set k (a, .inr (2, [va_rf v])) = X ++ va_pl S.L (wPF cyB cyI cyJ cyZ cyO51cc9 { S with O_RowTable := { f_numbers := va_up S.O_RowTable.f_numbers a v } }) := by
  rw [va_pl_set hD hL hk]
  exact congrArg (fun l => X ++ l) (va_pl_congr (wSt_O_RowTable_f_numbers cyB cyI cyJ cyZ cyO51cc9 S h v))
theorem wNw_O_RowTable (cyB : ClassId) (cyI : ClassId) (cyJ : ClassId) (cyZ : ClassId) (cyO51cc9 : ClassId) (S : wPS) (a b : Nat) : va_up (wPF cyB cyI cyJ cyZ cyO51cc9 S) a (.inr (2, [.null])) b = wPF cyB cyI cyJ cyZ cyO51cc9 { S with L := S.L ++ [a], K := va_up S.K a 2, O_RowTable := { f_numbers := va_up S.O_RowTable.f_numbers a none } } b := by by_cases hb : b = a <;> first | (simp only [wPF, va_up_ne _ _ hb]; done) | (simp only [wPF, va_up, if_neg hb]; done) | simp [wPF, va_re, va_up, va_rf, hb]
theorem wPn_O_RowTable (cyB : ClassId) (cyI : ClassId) (cyJ : ClassId) (cyZ : ClassId) (cyO51cc9 : ClassId) (X : va_W) (S : wPS) {a : Nat} (ha : a ∉ S.L) : (X ++ va_pl S.L (wPF cyB cyI cyJ cyZ cyO51cc9 S)) ++ [(a, .inr (2, [.null]))] = X ++ va_pl (S.L ++ [a]) (wPF cyB cyI cyJ cyZ cyO51cc9 { S with L := S.L ++ [a], K := va_up S.K a 2, O_RowTable := { f_numbers := va_up S.O_RowTable.f_numbers a none } }) := by
  rw [List.append_assoc, va_pl_push ha]
  exact congrArg (fun l => X ++ l) (va_pl_congr (wNw_O_RowTable cyB cyI cyJ cyZ cyO51cc9 S a))
theorem wAt_O_Setup (cyB : ClassId) (cyI : ClassId) (cyJ : ClassId) (cyZ : ClassId) (cyO51cc9 : ClassId) (S : wPS) {a : Nat} (h : S.K a = 3) : wPF cyB cyI cyJ cyZ cyO51cc9 S a = .inr (3, [.int (S.O_Setup.f_n a), va_rf (S.O_Setup.f_changes a), .int (S.O_Setup.f_changeCount a), .int (S.O_Setup.f_bob a), .int (S.O_Setup.f_single a), va_rf (S.O_Setup.f_leadCalls a), .int (S.O_Setup.f_leadCount a), va_rf (S.O_Setup.f_patternBells a), va_rf (S.O_Setup.f_seen a), va_rf (S.O_Setup.f_events a), va_rf (S.O_Setup.f_book a)]) := by simp [wPF, h]
theorem wGt_O_Setup (cyB : ClassId) (cyI : ClassId) (cyJ : ClassId) (cyZ : ClassId) (cyO51cc9 : ClassId) (X : va_W) (S : wPS) {a : Nat} (hL : a ∈ S.L) (h : S.K a = 3) : ∃ k : Nat, (X ++ va_pl S.L (wPF cyB cyI cyJ cyZ cyO51cc9 S))[k]? = some (a, wPF cyB cyI cyJ cyZ cyO51cc9 S a) ∧ (X ++ va_pl S.L (wPF cyB cyI cyJ cyZ cyO51cc9 S))[k]? = some (a, .inr (3, [.int (S.O_Setup.f_n a), va_rf (S.O_Setup.f_changes a), .int (S.O_Setup.f_changeCount a), .int (S.O_Setup.f_bob a), .int (S.O_Setup.f_single a), va_rf (S.O_Setup.f_leadCalls a), .int (S.O_Setup.f_leadCount a), va_rf (S.O_Setup.f_patternBells a), va_rf (S.O_Setup.f_seen a), va_rf (S.O_Setup.f_events a), va_rf (S.O_Setup.f_book a)])) := by
  obtain ⟨k, hk⟩ := va_pl_get (X := X) (f := wPF cyB cyI cyJ cyZ cyO51cc9 S) hL
  exact ⟨k, hk, hk.trans (congrArg (fun e => some (a, e)) (wAt_O_Setup cyB cyI cyJ cyZ cyO51cc9 S h))⟩
theorem wSt_O_Setup_f_n (cyB : ClassId) (cyI : ClassId) (cyJ : ClassId) (cyZ : ClassId) (cyO51cc9 : ClassId) (S : wPS) {a : Nat} (h : S.K a = 3) (v : Int32) (b : Nat) : va_up (wPF cyB cyI cyJ cyZ cyO51cc9 S) a (.inr (3, [.int v, va_rf (S.O_Setup.f_changes a), .int (S.O_Setup.f_changeCount a), .int (S.O_Setup.f_bob a), .int (S.O_Setup.f_single a), va_rf (S.O_Setup.f_leadCalls a), .int (S.O_Setup.f_leadCount a), va_rf (S.O_Setup.f_patternBells a), va_rf (S.O_Setup.f_seen a), va_rf (S.O_Setup.f_events a), va_rf (S.O_Setup.f_book a)])) b = wPF cyB cyI cyJ cyZ cyO51cc9 { S with O_Setup := { S.O_Setup with f_n := va_up S.O_Setup.f_n a v } } b := by by_cases hb : b = a <;> first | (simp only [wPF, va_up_ne _ _ hb]; done) | (simp only [wPF, va_up, if_neg hb]; done) | simp [wPF, va_re, va_up, va_rf, hb, h]
theorem wPu_O_Setup_f_n (cyB : ClassId) (cyI : ClassId) (cyJ : ClassId) (cyZ : ClassId) (cyO51cc9 : ClassId) (X : va_W) (S : wPS) {A : Nat → Prop} {a k : Nat} (hD : va_D A (X ++ va_pl S.L (wPF cyB cyI cyJ cyZ cyO51cc9 S))) (hL : a ∈ S.L) (h : S.K a = 3) (hk : (X ++ va_pl S.L (wPF cyB cyI cyJ cyZ cyO51cc9 S))[k]? = some (a, wPF cyB cyI cyJ cyZ cyO51cc9 S a)) (v : Int32) : (X ++ va_pl S.L (wPF cyB cyI cyJ cyZ cyO51cc9 S)).set k (a, .inr (3, [.int v, va_rf (S.O_Setup.f_changes a), .int (S.O_Setup.f_changeCount a), .int (S.O_Setup.f_bob a), .int (S.O_Setup.f_single a), va_rf (S.O_Setup.f_leadCalls a), .int (S.O_Setup.f_leadCount a), va_rf (S.O_Setup.f_patternBells a), va_rf (S.O_Setup.f_seen a), va_rf (S.O_Setup.f_events a), va_rf (S.O_Setup.f_book a)])) = X ++ va_pl S.L (wPF cyB cyI cyJ cyZ cyO51cc9 { S with O_Setup := { S.O_Setup with f_n := va_up S.O_Setup.f_n a v } }) := by
  rw [va_pl_set hD hL hk]
  exact congrArg (fun l => X ++ l) (va_pl_congr (wSt_O_Setup_f_n cyB cyI cyJ cyZ cyO51cc9 S h v))
theorem wSt_O_Setup_f_changes (cyB : ClassId) (cyI : ClassId) (cyJ : ClassId) (cyZ : ClassId) (cyO51cc9 : ClassId) (S : wPS) {a : Nat} (h : S.K a = 3) (v : Option Nat) (b : Nat) : va_up (wPF cyB cyI cyJ cyZ cyO51cc9 S) a (.inr (3, [.int (S.O_Setup.f_n a), va_rf v, .int (S.O_Setup.f_changeCount a), .int (S.O_Setup.f_bob a), .int (S.O_Setup.f_single a), va_rf (S.O_Setup.f_leadCalls a), .int (S.O_Setup.f_leadCount a), va_rf (S.O_Setup.f_patternBells a), va_rf (S.O_Setup.f_seen a), va_rf (S.O_Setup.f_events a), va_rf (S.O_Setup.f_book a)])) b = wPF cyB cyI cyJ cyZ cyO51cc9 { S with O_Setup := { S.O_Setup with f_changes := va_up S.O_Setup.f_changes a v } } b := by by_cases hb : b = a <;> first | (simp only [wPF, va_up_ne _ _ hb]; done) | (simp only [wPF, va_up, if_neg hb]; done) | simp [wPF, va_re, va_up, va_rf, hb, h]
theorem wPu_O_Setup_f_changes (cyB : ClassId) (cyI : ClassId) (cyJ : ClassId) (cyZ : ClassId) (cyO51cc9 : ClassId) (X : va_W) (S : wPS) {A : Nat → Prop} {a k : Nat} (hD : va_D A (X ++ va_pl S.L (wPF cyB cyI cyJ cyZ cyO51cc9 S))) (hL : a ∈ S.L) (h : S.K a = 3) (hk : (X ++ va_pl S.L (wPF cyB cyI cyJ cyZ cyO51cc9 S))[k]? = some (a, wPF cyB cyI cyJ cyZ cyO51cc9 S a)) (v : Option Nat) : (X ++ va_pl S.L (wPF cyB cyI cyJ cyZ cyO51cc9 S)).set k (a, .inr (3, [.int (S.O_Setup.f_n a), va_rf v, .int (S.O_Setup.f_changeCount a), .int (S.O_Setup.f_bob a), .int (S.O_Setup.f_single a), va_rf (S.O_Setup.f_leadCalls a), .int (S.O_Setup.f_leadCount a), va_rf (S.O_Setup.f_patternBells a), va_rf (S.O_Setup.f_seen a), va_rf (S.O_Setup.f_events a), va_rf (S.O_Setup.f_book a)])) = X ++ va_pl S.L (wPF cyB cyI cyJ cyZ cyO51cc9 { S with O_Setup := { S.O_Setup with f_changes := va_up S.O_Setup.f_changes a v } }) := by
  rw [va_pl_set hD hL hk]
  exact congrArg (fun l => X ++ l) (va_pl_congr (wSt_O_Setup_f_changes cyB cyI cyJ cyZ cyO51cc9 S h v))
theorem wSt_O_Setup_f_changeCount (cyB : ClassId) (cyI : ClassId) (cyJ : ClassId) (cyZ : ClassId) (cyO51cc9 : ClassId) (S : wPS) {a : Nat} (h : S.K a = 3) (v : Int32) (b : Nat) : va_up (wPF cyB cyI cyJ cyZ cyO51cc9 S) a (.inr (3, [.int (S.O_Setup.f_n a), va_rf (S.O_Setup.f_changes a), .int v, .int (S.O_Setup.f_bob a), .int (S.O_Setup.f_single a), va_rf (S.O_Setup.f_leadCalls a), .int (S.O_Setup.f_leadCount a), va_rf (S.O_Setup.f_patternBells a), va_rf (S.O_Setup.f_seen a), va_rf (S.O_Setup.f_events a), va_rf (S.O_Setup.f_book a)])) b = wPF cyB cyI cyJ cyZ cyO51cc9 { S with O_Setup := { S.O_Setup with f_changeCount := va_up S.O_Setup.f_changeCount a v } } b := by by_cases hb : b = a <;> first | (simp only [wPF, va_up_ne _ _ hb]; done) | (simp only [wPF, va_up, if_neg hb]; done) | simp [wPF, va_re, va_up, va_rf, hb, h]
theorem wPu_O_Setup_f_changeCount (cyB : ClassId) (cyI : ClassId) (cyJ : ClassId) (cyZ : ClassId) (cyO51cc9 : ClassId) (X : va_W) (S : wPS) {A : Nat → Prop} {a k : Nat} (hD : va_D A (X ++ va_pl S.L (wPF cyB cyI cyJ cyZ cyO51cc9 S))) (hL : a ∈ S.L) (h : S.K a = 3) (hk : (X ++ va_pl S.L (wPF cyB cyI cyJ cyZ cyO51cc9 S))[k]? = some (a, wPF cyB cyI cyJ cyZ cyO51cc9 S a)) (v : Int32) : (X ++ va_pl S.L (wPF cyB cyI cyJ cyZ cyO51cc9 S)).set k (a, .inr (3, [.int (S.O_Setup.f_n a), va_rf (S.O_Setup.f_changes a), .int v, .int (S.O_Setup.f_bob a), .int (S.O_Setup.f_single a), va_rf (S.O_Setup.f_leadCalls a), .int (S.O_Setup.f_leadCount a), va_rf (S.O_Setup.f_patternBells a), va_rf (S.O_Setup.f_seen a), va_rf (S.O_Setup.f_events a), va_rf (S.O_Setup.f_book a)])) = X ++ va_pl S.L (wPF cyB cyI cyJ cyZ cyO51cc9 { S with O_Setup := { S.O_Setup with f_changeCount := va_up S.O_Setup.f_changeCount a v } }) := by
  rw [va_pl_set hD hL hk]
  exact congrArg (fun l => X ++ l) (va_pl_congr (wSt_O_Setup_f_changeCount cyB cyI cyJ cyZ cyO51cc9 S h v))
theorem wSt_O_Setup_f_bob (cyB : ClassId) (cyI : ClassId) (cyJ : ClassId) (cyZ : ClassId) (cyO51cc9 : ClassId) (S : wPS) {a : Nat} (h : S.K a = 3) (v : Int32) (b : Nat) : va_up (wPF cyB cyI cyJ cyZ cyO51cc9 S) a (.inr (3, [.int (S.O_Setup.f_n a), va_rf (S.O_Setup.f_changes a), .int (S.O_Setup.f_changeCount a), .int v, .int (S.O_Setup.f_single a), va_rf (S.O_Setup.f_leadCalls a), .int (S.O_Setup.f_leadCount a), va_rf (S.O_Setup.f_patternBells a), va_rf (S.O_Setup.f_seen a), va_rf (S.O_Setup.f_events a), va_rf (S.O_Setup.f_book a)])) b = wPF cyB cyI cyJ cyZ cyO51cc9 { S with O_Setup := { S.O_Setup with f_bob := va_up S.O_Setup.f_bob a v } } b := by by_cases hb : b = a <;> first | (simp only [wPF, va_up_ne _ _ hb]; done) | (simp only [wPF, va_up, if_neg hb]; done) | simp [wPF, va_re, va_up, va_rf, hb, h]
theorem wPu_O_Setup_f_bob (cyB : ClassId) (cyI : ClassId) (cyJ : ClassId) (cyZ : ClassId) (cyO51cc9 : ClassId) (X : va_W) (S : wPS) {A : Nat → Prop} {a k : Nat} (hD : va_D A (X ++ va_pl S.L (wPF cyB cyI cyJ cyZ cyO51cc9 S))) (hL : a ∈ S.L) (h : S.K a = 3) (hk : (X ++ va_pl S.L (wPF cyB cyI cyJ cyZ cyO51cc9 S))[k]? = some (a, wPF cyB cyI cyJ cyZ cyO51cc9 S a)) (v : Int32) : (X ++ va_pl S.L (wPF cyB cyI cyJ cyZ cyO51cc9 S)).set k (a, .inr (3, [.int (S.O_Setup.f_n a), va_rf (S.O_Setup.f_changes a), .int (S.O_Setup.f_changeCount a), .int v, .int (S.O_Setup.f_single a), va_rf (S.O_Setup.f_leadCalls a), .int (S.O_Setup.f_leadCount a), va_rf (S.O_Setup.f_patternBells a), va_rf (S.O_Setup.f_seen a), va_rf (S.O_Setup.f_events a), va_rf (S.O_Setup.f_book a)])) = X ++ va_pl S.L (wPF cyB cyI cyJ cyZ cyO51cc9 { S with O_Setup := { S.O_Setup with f_bob := va_up S.O_Setup.f_bob a v } }) := by
  rw [va_pl_set hD hL hk]
  exact congrArg (fun l => X ++ l) (va_pl_congr (wSt_O_Setup_f_bob cyB cyI cyJ cyZ cyO51cc9 S h v))
theorem wSt_O_Setup_f_single (cyB : ClassId) (cyI : ClassId) (cyJ : ClassId) (cyZ : ClassId) (cyO51cc9 : ClassId) (S : wPS) {a : Nat} (h : S.K a = 3) (v : Int32) (b : Nat) : va_up (wPF cyB cyI cyJ cyZ cyO51cc9 S) a (.inr (3, [.int (S.O_Setup.f_n a), va_rf (S.O_Setup.f_changes a), .int (S.O_Setup.f_changeCount a), .int (S.O_Setup.f_bob a), .int v, va_rf (S.O_Setup.f_leadCalls a), .int (S.O_Setup.f_leadCount a), va_rf (S.O_Setup.f_patternBells a), va_rf (S.O_Setup.f_seen a), va_rf (S.O_Setup.f_events a), va_rf (S.O_Setup.f_book a)])) b = wPF cyB cyI cyJ cyZ cyO51cc9 { S with O_Setup := { S.O_Setup with f_single := va_up S.O_Setup.f_single a v } } b := by by_cases hb : b = a <;> first | (simp only [wPF, va_up_ne _ _ hb]; done) | (simp only [wPF, va_up, if_neg hb]; done) | simp [wPF, va_re, va_up, va_rf, hb, h]
theorem wPu_O_Setup_f_single (cyB : ClassId) (cyI : ClassId) (cyJ : ClassId) (cyZ : ClassId) (cyO51cc9 : ClassId) (X : va_W) (S : wPS) {A : Nat → Prop} {a k : Nat} (hD : va_D A (X ++ va_pl S.L (wPF cyB cyI cyJ cyZ cyO51cc9 S))) (hL : a ∈ S.L) (h : S.K a = 3) (hk : (X ++ va_pl S.L (wPF cyB cyI cyJ cyZ cyO51cc9 S))[k]? = some (a, wPF cyB cyI cyJ cyZ cyO51cc9 S a)) (v : Int32) : (X ++ va_pl S.L (wPF cyB cyI cyJ cyZ cyO51cc9 S)).set k (a, .inr (3, [.int (S.O_Setup.f_n a), va_rf (S.O_Setup.f_changes a), .int (S.O_Setup.f_changeCount a), .int (S.O_Setup.f_bob a), .int v, va_rf (S.O_Setup.f_leadCalls a), .int (S.O_Setup.f_leadCount a), va_rf (S.O_Setup.f_patternBells a), va_rf (S.O_Setup.f_seen a), va_rf (S.O_Setup.f_events a), va_rf (S.O_Setup.f_book a)])) = X ++ va_pl S.L (wPF cyB cyI cyJ cyZ cyO51cc9 { S with O_Setup := { S.O_Setup with f_single := va_up S.O_Setup.f_single a v } }) := by
  rw [va_pl_set hD hL hk]
  exact congrArg (fun l => X ++ l) (va_pl_congr (wSt_O_Setup_f_single cyB cyI cyJ cyZ cyO51cc9 S h v))
theorem wSt_O_Setup_f_leadCalls (cyB : ClassId) (cyI : ClassId) (cyJ : ClassId) (cyZ : ClassId) (cyO51cc9 : ClassId) (S : wPS) {a : Nat} (h : S.K a = 3) (v : Option Nat) (b : Nat) : va_up (wPF cyB cyI cyJ cyZ cyO51cc9 S) a (.inr (3, [.int (S.O_Setup.f_n a), va_rf (S.O_Setup.f_changes a), .int (S.O_Setup.f_changeCount a), .int (S.O_Setup.f_bob a), .int (S.O_Setup.f_single a), va_rf v, .int (S.O_Setup.f_leadCount a), va_rf (S.O_Setup.f_patternBells a), va_rf (S.O_Setup.f_seen a), va_rf (S.O_Setup.f_events a), va_rf (S.O_Setup.f_book a)])) b = wPF cyB cyI cyJ cyZ cyO51cc9 { S with O_Setup := { S.O_Setup with f_leadCalls := va_up S.O_Setup.f_leadCalls a v } } b := by by_cases hb : b = a <;> first | (simp only [wPF, va_up_ne _ _ hb]; done) | (simp only [wPF, va_up, if_neg hb]; done) | simp [wPF, va_re, va_up, va_rf, hb, h]
theorem wPu_O_Setup_f_leadCalls (cyB : ClassId) (cyI : ClassId) (cyJ : ClassId) (cyZ : ClassId) (cyO51cc9 : ClassId) (X : va_W) (S : wPS) {A : Nat → Prop} {a k : Nat} (hD : va_D A (X ++ va_pl S.L (wPF cyB cyI cyJ cyZ cyO51cc9 S))) (hL : a ∈ S.L) (h : S.K a = 3) (hk : (X ++ va_pl S.L (wPF cyB cyI cyJ cyZ cyO51cc9 S))[k]? = some (a, wPF cyB cyI cyJ cyZ cyO51cc9 S a)) (v : Option Nat) : (X ++ va_pl S.L (wPF cyB cyI cyJ cyZ cyO51cc9 S)).set k (a, .inr (3, [.int (S.O_Setup.f_n a), va_rf (S.O_Setup.f_changes a), .int (S.O_Setup.f_changeCount a), .int (S.O_Setup.f_bob a), .int (S.O_Setup.f_single a), va_rf v, .int (S.O_Setup.f_leadCount a), va_rf (S.O_Setup.f_patternBells a), va_rf (S.O_Setup.f_seen a), va_rf (S.O_Setup.f_events a), va_rf (S.O_Setup.f_book a)])) = X ++ va_pl S.L (wPF cyB cyI cyJ cyZ cyO51cc9 { S with O_Setup := { S.O_Setup with f_leadCalls := va_up S.O_Setup.f_leadCalls a v } }) := by
  rw [va_pl_set hD hL hk]
  exact congrArg (fun l => X ++ l) (va_pl_congr (wSt_O_Setup_f_leadCalls cyB cyI cyJ cyZ cyO51cc9 S h v))
theorem wSt_O_Setup_f_leadCount (cyB : ClassId) (cyI : ClassId) (cyJ : ClassId) (cyZ : ClassId) (cyO51cc9 : ClassId) (S : wPS) {a : Nat} (h : S.K a = 3) (v : Int32) (b : Nat) : va_up (wPF cyB cyI cyJ cyZ cyO51cc9 S) a (.inr (3, [.int (S.O_Setup.f_n a), va_rf (S.O_Setup.f_changes a), .int (S.O_Setup.f_changeCount a), .int (S.O_Setup.f_bob a), .int (S.O_Setup.f_single a), va_rf (S.O_Setup.f_leadCalls a), .int v, va_rf (S.O_Setup.f_patternBells a), va_rf (S.O_Setup.f_seen a), va_rf (S.O_Setup.f_events a), va_rf (S.O_Setup.f_book a)])) b = wPF cyB cyI cyJ cyZ cyO51cc9 { S with O_Setup := { S.O_Setup with f_leadCount := va_up S.O_Setup.f_leadCount a v } } b := by by_cases hb : b = a <;> first | (simp only [wPF, va_up_ne _ _ hb]; done) | (simp only [wPF, va_up, if_neg hb]; done) | simp [wPF, va_re, va_up, va_rf, hb, h]
theorem wPu_O_Setup_f_leadCount (cyB : ClassId) (cyI : ClassId) (cyJ : ClassId) (cyZ : ClassId) (cyO51cc9 : ClassId) (X : va_W) (S : wPS) {A : Nat → Prop} {a k : Nat} (hD : va_D A (X ++ va_pl S.L (wPF cyB cyI cyJ cyZ cyO51cc9 S))) (hL : a ∈ S.L) (h : S.K a = 3) (hk : (X ++ va_pl S.L (wPF cyB cyI cyJ cyZ cyO51cc9 S))[k]? = some (a, wPF cyB cyI cyJ cyZ cyO51cc9 S a)) (v : Int32) : (X ++ va_pl S.L (wPF cyB cyI cyJ cyZ cyO51cc9 S)).set k (a, .inr (3, [.int (S.O_Setup.f_n a), va_rf (S.O_Setup.f_changes a), .int (S.O_Setup.f_changeCount a), .int (S.O_Setup.f_bob a), .int (S.O_Setup.f_single a), va_rf (S.O_Setup.f_leadCalls a), .int v, va_rf (S.O_Setup.f_patternBells a), va_rf (S.O_Setup.f_seen a), va_rf (S.O_Setup.f_events a), va_rf (S.O_Setup.f_book a)])) = X ++ va_pl S.L (wPF cyB cyI cyJ cyZ cyO51cc9 { S with O_Setup := { S.O_Setup with f_leadCount := va_up S.O_Setup.f_leadCount a v } }) := by
  rw [va_pl_set hD hL hk]
  exact congrArg (fun l => X ++ l) (va_pl_congr (wSt_O_Setup_f_leadCount cyB cyI cyJ cyZ cyO51cc9 S h v))
theorem wSt_O_Setup_f_patternBells (cyB : ClassId) (cyI : ClassId) (cyJ : ClassId) (cyZ : ClassId) (cyO51cc9 : ClassId) (S : wPS) {a : Nat} (h : S.K a = 3) (v : Option Nat) (b : Nat) : va_up (wPF cyB cyI cyJ cyZ cyO51cc9 S) a (.inr (3, [.int (S.O_Setup.f_n a), va_rf (S.O_Setup.f_changes a), .int (S.O_Setup.f_changeCount a), .int (S.O_Setup.f_bob a), .int (S.O_Setup.f_single a), va_rf (S.O_Setup.f_leadCalls a), .int (S.O_Setup.f_leadCount a), va_rf v, va_rf (S.O_Setup.f_seen a), va_rf (S.O_Setup.f_events a), va_rf (S.O_Setup.f_book a)])) b = wPF cyB cyI cyJ cyZ cyO51cc9 { S with O_Setup := { S.O_Setup with f_patternBells := va_up S.O_Setup.f_patternBells a v } } b := by by_cases hb : b = a <;> first | (simp only [wPF, va_up_ne _ _ hb]; done) | (simp only [wPF, va_up, if_neg hb]; done) | simp [wPF, va_re, va_up, va_rf, hb, h]
theorem wPu_O_Setup_f_patternBells (cyB : ClassId) (cyI : ClassId) (cyJ : ClassId) (cyZ : ClassId) (cyO51cc9 : ClassId) (X : va_W) (S : wPS) {A : Nat → Prop} {a k : Nat} (hD : va_D A (X ++ va_pl S.L (wPF cyB cyI cyJ cyZ cyO51cc9 S))) (hL : a ∈ S.L) (h : S.K a = 3) (hk : (X ++ va_pl S.L (wPF cyB cyI cyJ cyZ cyO51cc9 S))[k]? = some (a, wPF cyB cyI cyJ cyZ cyO51cc9 S a)) (v : Option Nat) : (X ++ va_pl S.L (wPF cyB cyI cyJ cyZ cyO51cc9 S)).set k (a, .inr (3, [.int (S.O_Setup.f_n a), va_rf (S.O_Setup.f_changes a), .int (S.O_Setup.f_changeCount a), .int (S.O_Setup.f_bob a), .int (S.O_Setup.f_single a), va_rf (S.O_Setup.f_leadCalls a), .int (S.O_Setup.f_leadCount a), va_rf v, va_rf (S.O_Setup.f_seen a), va_rf (S.O_Setup.f_events a), va_rf (S.O_Setup.f_book a)])) = X ++ va_pl S.L (wPF cyB cyI cyJ cyZ cyO51cc9 { S with O_Setup := { S.O_Setup with f_patternBells := va_up S.O_Setup.f_patternBells a v } }) := by
  rw [va_pl_set hD hL hk]
  exact congrArg (fun l => X ++ l) (va_pl_congr (wSt_O_Setup_f_patternBells cyB cyI cyJ cyZ cyO51cc9 S h v))
theorem wSt_O_Setup_f_seen (cyB : ClassId) (cyI : ClassId) (cyJ : ClassId) (cyZ : ClassId) (cyO51cc9 : ClassId) (S : wPS) {a : Nat} (h : S.K a = 3) (v : Option Nat) (b : Nat) : va_up (wPF cyB cyI cyJ cyZ cyO51cc9 S) a (.inr (3, [.int (S.O_Setup.f_n a), va_rf (S.O_Setup.f_changes a), .int (S.O_Setup.f_changeCount a), .int (S.O_Setup.f_bob a), .int (S.O_Setup.f_single a), va_rf (S.O_Setup.f_leadCalls a), .int (S.O_Setup.f_leadCount a), va_rf (S.O_Setup.f_patternBells a), va_rf v, va_rf (S.O_Setup.f_events a), va_rf (S.O_Setup.f_book a)])) b = wPF cyB cyI cyJ cyZ cyO51cc9 { S with O_Setup := { S.O_Setup with f_seen := va_up S.O_Setup.f_seen a v } } b := by by_cases hb : b = a <;> first | (simp only [wPF, va_up_ne _ _ hb]; done) | (simp only [wPF, va_up, if_neg hb]; done) | simp [wPF, va_re, va_up, va_rf, hb, h]
theorem wPu_O_Setup_f_seen (cyB : ClassId) (cyI : ClassId) (cyJ : ClassId) (cyZ : ClassId) (cyO51cc9 : ClassId) (X : va_W) (S : wPS) {A : Nat → Prop} {a k : Nat} (hD : va_D A (X ++ va_pl S.L (wPF cyB cyI cyJ cyZ cyO51cc9 S))) (hL : a ∈ S.L) (h : S.K a = 3) (hk : (X ++ va_pl S.L (wPF cyB cyI cyJ cyZ cyO51cc9 S))[k]? = some (a, wPF cyB cyI cyJ cyZ cyO51cc9 S a)) (v : Option Nat) : (X ++ va_pl S.L (wPF cyB cyI cyJ cyZ cyO51cc9 S)).set k (a, .inr (3, [.int (S.O_Setup.f_n a), va_rf (S.O_Setup.f_changes a), .int (S.O_Setup.f_changeCount a), .int (S.O_Setup.f_bob a), .int (S.O_Setup.f_single a), va_rf (S.O_Setup.f_leadCalls a), .int (S.O_Setup.f_leadCount a), va_rf (S.O_Setup.f_patternBells a), va_rf v, va_rf (S.O_Setup.f_events a), va_rf (S.O_Setup.f_book a)])) = X ++ va_pl S.L (wPF cyB cyI cyJ cyZ cyO51cc9 { S with O_Setup := { S.O_Setup with f_seen := va_up S.O_Setup.f_seen a v } }) := by
  rw [va_pl_set hD hL hk]
  exact congrArg (fun l => X ++ l) (va_pl_congr (wSt_O_Setup_f_seen cyB cyI cyJ cyZ cyO51cc9 S h v))
theorem wSt_O_Setup_f_events (cyB : ClassId) (cyI : ClassId) (cyJ : ClassId) (cyZ : ClassId) (cyO51cc9 : ClassId) (S : wPS) {a : Nat} (h : S.K a = 3) (v : Option Nat) (b : Nat) : va_up (wPF cyB cyI cyJ cyZ cyO51cc9 S) a (.inr (3, [.int (S.O_Setup.f_n a), va_rf (S.O_Setup.f_changes a), .int (S.O_Setup.f_changeCount a), .int (S.O_Setup.f_bob a), .int (S.O_Setup.f_single a), va_rf (S.O_Setup.f_leadCalls a), .int (S.O_Setup.f_leadCount a), va_rf (S.O_Setup.f_patternBells a), va_rf (S.O_Setup.f_seen a), va_rf v, va_rf (S.O_Setup.f_book a)])) b = wPF cyB cyI cyJ cyZ cyO51cc9 { S with O_Setup := { S.O_Setup with f_events := va_up S.O_Setup.f_events a v } } b := by by_cases hb : b = a <;> first | (simp only [wPF, va_up_ne _ _ hb]; done) | (simp only [wPF, va_up, if_neg hb]; done) | simp [wPF, va_re, va_up, va_rf, hb, h]
theorem wPu_O_Setup_f_events (cyB : ClassId) (cyI : ClassId) (cyJ : ClassId) (cyZ : ClassId) (cyO51cc9 : ClassId) (X : va_W) (S : wPS) {A : Nat → Prop} {a k : Nat} (hD : va_D A (X ++ va_pl S.L (wPF cyB cyI cyJ cyZ cyO51cc9 S))) (hL : a ∈ S.L) (h : S.K a = 3) (hk : (X ++ va_pl S.L (wPF cyB cyI cyJ cyZ cyO51cc9 S))[k]? = some (a, wPF cyB cyI cyJ cyZ cyO51cc9 S a)) (v : Option Nat) : (X ++ va_pl S.L (wPF cyB cyI cyJ cyZ cyO51cc9 S)).set k (a, .inr (3, [.int (S.O_Setup.f_n a), va_rf (S.O_Setup.f_changes a), .int (S.O_Setup.f_changeCount a), .int (S.O_Setup.f_bob a), .int (S.O_Setup.f_single a), va_rf (S.O_Setup.f_leadCalls a), .int (S.O_Setup.f_leadCount a), va_rf (S.O_Setup.f_patternBells a), va_rf (S.O_Setup.f_seen a), va_rf v, va_rf (S.O_Setup.f_book a)])) = X ++ va_pl S.L (wPF cyB cyI cyJ cyZ cyO51cc9 { S with O_Setup := { S.O_Setup with f_events := va_up S.O_Setup.f_events a v } }) := by
  rw [va_pl_set hD hL hk]
  exact congrArg (fun l => X ++ l) (va_pl_congr (wSt_O_Setup_f_events cyB cyI cyJ cyZ cyO51cc9 S h v))
theorem wSt_O_Setup_f_book (cyB : ClassId) (cyI : ClassId) (cyJ : ClassId) (cyZ : ClassId) (cyO51cc9 : ClassId) (S : wPS) {a : Nat} (h : S.K a = 3) (v : Option Nat) (b : Nat) : va_up (wPF cyB cyI cyJ cyZ cyO51cc9 S) a (.inr (3, [.int (S.O_Setup.f_n a), va_rf (S.O_Setup.f_changes a), .int (S.O_Setup.f_changeCount a), .int (S.O_Setup.f_bob a), .int (S.O_Setup.f_single a), va_rf (S.O_Setup.f_leadCalls a), .int (S.O_Setup.f_leadCount a), va_rf (S.O_Setup.f_patternBells a), va_rf (S.O_Setup.f_seen a), va_rf (S.O_Setup.f_events a), va_rf v])) b = wPF cyB cyI cyJ cyZ cyO51cc9 { S with O_Setup := { S.O_Setup with f_book := va_up S.O_Setup.f_book a v } } b := by by_cases hb : b = a <;> first | (simp only [wPF, va_up_ne _ _ hb]; done) | (simp only [wPF, va_up, if_neg hb]; done) | simp [wPF, va_re, va_up, va_rf, hb, h]
theorem wPu_O_Setup_f_book (cyB : ClassId) (cyI : ClassId) (cyJ : ClassId) (cyZ : ClassId) (cyO51cc9 : ClassId) (X : va_W) (S : wPS) {A : Nat → Prop} {a k : Nat} (hD : va_D A (X ++ va_pl S.L (wPF cyB cyI cyJ cyZ cyO51cc9 S))) (hL : a ∈ S.L) (h : S.K a = 3) (hk : (X ++ va_pl S.L (wPF cyB cyI cyJ cyZ cyO51cc9 S))[k]? = some (a, wPF cyB cyI cyJ cyZ cyO51cc9 S a)) (v : Option Nat) : (X ++ va_pl S.L (wPF cyB cyI cyJ cyZ cyO51cc9 S)).set k (a, .inr (3, [.int (S.O_Setup.f_n a), va_rf (S.O_Setup.f_changes a), .int (S.O_Setup.f_changeCount a), .int (S.O_Setup.f_bob a), .int (S.O_Setup.f_single a), va_rf (S.O_Setup.f_leadCalls a), .int (S.O_Setup.f_leadCount a), va_rf (S.O_Setup.f_patternBells a), va_rf (S.O_Setup.f_seen a), va_rf (S.O_Setup.f_events a), va_rf v])) = X ++ va_pl S.L (wPF cyB cyI cyJ cyZ cyO51cc9 { S with O_Setup := { S.O_Setup with f_book := va_up S.O_Setup.f_book a v } }) := by
  rw [va_pl_set hD hL hk]
  exact congrArg (fun l => X ++ l) (va_pl_congr (wSt_O_Setup_f_book cyB cyI cyJ cyZ cyO51cc9 S h v))
theorem wNw_O_Setup (cyB : ClassId) (cyI : ClassId) (cyJ : ClassId) (cyZ : ClassId) (cyO51cc9 : ClassId) (S : wPS) (a b : Nat) : va_up (wPF cyB cyI cyJ cyZ cyO51cc9 S) a (.inr (3, [.int 0, .null, .int 0, .int 0, .int 0, .null, .int 0, .null, .null, .null, .null])) b = wPF cyB cyI cyJ cyZ cyO51cc9 { S with L := S.L ++ [a], K := va_up S.K a 3, O_Setup := { f_n := va_up S.O_Setup.f_n a 0, f_changes := va_up S.O_Setup.f_changes a none, f_changeCount := va_up S.O_Setup.f_changeCount a 0, f_bob := va_up S.O_Setup.f_bob a 0, f_single := va_up S.O_Setup.f_single a 0, f_leadCalls := va_up S.O_Setup.f_leadCalls a none, f_leadCount := va_up S.O_Setup.f_leadCount a 0, f_patternBells := va_up S.O_Setup.f_patternBells a none, f_seen := va_up S.O_Setup.f_seen a none, f_events := va_up S.O_Setup.f_events a none, f_book := va_up S.O_Setup.f_book a none } } b := by by_cases hb : b = a <;> first | (simp only [wPF, va_up_ne _ _ hb]; done) | (simp only [wPF, va_up, if_neg hb]; done) | simp [wPF, va_re, va_up, va_rf, hb]
theorem wPn_O_Setup (cyB : ClassId) (cyI : ClassId) (cyJ : ClassId) (cyZ : ClassId) (cyO51cc9 : ClassId) (X : va_W) (S : wPS) {a : Nat} (ha : a ∉ S.L) : (X ++ va_pl S.L (wPF cyB cyI cyJ cyZ cyO51cc9 S)) ++ [(a, .inr (3, [.int 0, .null, .int 0, .int 0, .int 0, .null, .int 0, .null, .null, .null, .null]))] = X ++ va_pl (S.L ++ [a]) (wPF cyB cyI cyJ cyZ cyO51cc9 { S with L := S.L ++ [a], K := va_up S.K a 3, O_Setup := { f_n := va_up S.O_Setup.f_n a 0, f_changes := va_up S.O_Setup.f_changes a none, f_changeCount := va_up S.O_Setup.f_changeCount a 0, f_bob := va_up S.O_Setup.f_bob a 0, f_single := va_up S.O_Setup.f_single a 0, f_leadCalls := va_up S.O_Setup.f_leadCalls a none, f_leadCount := va_up S.O_Setup.f_leadCount a 0, f_patternBells := va_up S.O_Setup.f_patternBells a none, f_seen := va_up S.O_Setup.f_seen a none, f_events := va_up S.O_Setup.f_events a none, f_book := va_up S.O_Setup.f_book a none } }) := by
  rw [List.append_assoc, va_pl_push ha]
  exact congrArg (fun l => X ++ l) (va_pl_congr (wNw_O_Setup cyB cyI cyJ cyZ cyO51cc9 S a))
theorem wAt_O_SetupText (cyB : ClassId) (cyI : ClassId) (cyJ : ClassId) (cyZ : ClassId) (cyO51cc9 : ClassId) (S : wPS) {a : Nat} (h : S.K a = 4) : wPF cyB cyI cyJ cyZ cyO51cc9 S a = .inr (4, [.int (S.O_SetupText.f_length a), va_rf (S.O_SetupText.f_signs a), .int (S.O_SetupText.f_place a), va_rf (S.O_SetupText.f_kinds a), va_rf (S.O_SetupText.f_starts a), .int (S.O_SetupText.f_clauseCount a), va_rf (S.O_SetupText.f_values a), .int (S.O_SetupText.f_valueCount a)]) := by simp [wPF, h]
theorem wGt_O_SetupText (cyB : ClassId) (cyI : ClassId) (cyJ : ClassId) (cyZ : ClassId) (cyO51cc9 : ClassId) (X : va_W) (S : wPS) {a : Nat} (hL : a ∈ S.L) (h : S.K a = 4) : ∃ k : Nat, (X ++ va_pl S.L (wPF cyB cyI cyJ cyZ cyO51cc9 S))[k]? = some (a, wPF cyB cyI cyJ cyZ cyO51cc9 S a) ∧ (X ++ va_pl S.L (wPF cyB cyI cyJ cyZ cyO51cc9 S))[k]? = some (a, .inr (4, [.int (S.O_SetupText.f_length a), va_rf (S.O_SetupText.f_signs a), .int (S.O_SetupText.f_place a), va_rf (S.O_SetupText.f_kinds a), va_rf (S.O_SetupText.f_starts a), .int (S.O_SetupText.f_clauseCount a), va_rf (S.O_SetupText.f_values a), .int (S.O_SetupText.f_valueCount a)])) := by
  obtain ⟨k, hk⟩ := va_pl_get (X := X) (f := wPF cyB cyI cyJ cyZ cyO51cc9 S) hL
  exact ⟨k, hk, hk.trans (congrArg (fun e => some (a, e)) (wAt_O_SetupText cyB cyI cyJ cyZ cyO51cc9 S h))⟩
theorem wSt_O_SetupText_f_length (cyB : ClassId) (cyI : ClassId) (cyJ : ClassId) (cyZ : ClassId) (cyO51cc9 : ClassId) (S : wPS) {a : Nat} (h : S.K a = 4) (v : Int32) (b : Nat) : va_up (wPF cyB cyI cyJ cyZ cyO51cc9 S) a (.inr (4, [.int v, va_rf (S.O_SetupText.f_signs a), .int (S.O_SetupText.f_place a), va_rf (S.O_SetupText.f_kinds a), va_rf (S.O_SetupText.f_starts a), .int (S.O_SetupText.f_clauseCount a), va_rf (S.O_SetupText.f_values a), .int (S.O_SetupText.f_valueCount a)])) b = wPF cyB cyI cyJ cyZ cyO51cc9 { S with O_SetupText := { S.O_SetupText with f_length := va_up S.O_SetupText.f_length a v } } b := by by_cases hb : b = a <;> first | (simp only [wPF, va_up_ne _ _ hb]; done) | (simp only [wPF, va_up, if_neg hb]; done) | simp [wPF, va_re, va_up, va_rf, hb, h]
theorem wPu_O_SetupText_f_length (cyB : ClassId) (cyI : ClassId) (cyJ : ClassId) (cyZ : ClassId) (cyO51cc9 : ClassId) (X : va_W) (S : wPS) {A : Nat → Prop} {a k : Nat} (hD : va_D A (X ++ va_pl S.L (wPF cyB cyI cyJ cyZ cyO51cc9 S))) (hL : a ∈ S.L) (h : S.K a = 4) (hk : (X ++ va_pl S.L (wPF cyB cyI cyJ cyZ cyO51cc9 S))[k]? = some (a, wPF cyB cyI cyJ cyZ cyO51cc9 S a)) (v : Int32) : (X ++ va_pl S.L (wPF cyB cyI cyJ cyZ cyO51cc9 S)).set k (a, .inr (4, [.int v, va_rf (S.O_SetupText.f_signs a), .int (S.O_SetupText.f_place a), va_rf (S.O_SetupText.f_kinds a), va_rf (S.O_SetupText.f_starts a), .int (S.O_SetupText.f_clauseCount a), va_rf (S.O_SetupText.f_values a), .int (S.O_SetupText.f_valueCount a)])) = X ++ va_pl S.L (wPF cyB cyI cyJ cyZ cyO51cc9 { S with O_SetupText := { S.O_SetupText with f_length := va_up S.O_SetupText.f_length a v } }) := by
  rw [va_pl_set hD hL hk]
  exact congrArg (fun l => X ++ l) (va_pl_congr (wSt_O_SetupText_f_length cyB cyI cyJ cyZ cyO51cc9 S h v))
theorem wSt_O_SetupText_f_signs (cyB : ClassId) (cyI : ClassId) (cyJ : ClassId) (cyZ : ClassId) (cyO51cc9 : ClassId) (S : wPS) {a : Nat} (h : S.K a = 4) (v : Option Nat) (b : Nat) : va_up (wPF cyB cyI cyJ cyZ cyO51cc9 S) a (.inr (4, [.int (S.O_SetupText.f_length a), va_rf v, .int (S.O_SetupText.f_place a), va_rf (S.O_SetupText.f_kinds a), va_rf (S.O_SetupText.f_starts a), .int (S.O_SetupText.f_clauseCount a), va_rf (S.O_SetupText.f_values a), .int (S.O_SetupText.f_valueCount a)])) b = wPF cyB cyI cyJ cyZ cyO51cc9 { S with O_SetupText := { S.O_SetupText with f_signs := va_up S.O_SetupText.f_signs a v } } b := by by_cases hb : b = a <;> first | (simp only [wPF, va_up_ne _ _ hb]; done) | (simp only [wPF, va_up, if_neg hb]; done) | simp [wPF, va_re, va_up, va_rf, hb, h]
theorem wPu_O_SetupText_f_signs (cyB : ClassId) (cyI : ClassId) (cyJ : ClassId) (cyZ : ClassId) (cyO51cc9 : ClassId) (X : va_W) (S : wPS) {A : Nat → Prop} {a k : Nat} (hD : va_D A (X ++ va_pl S.L (wPF cyB cyI cyJ cyZ cyO51cc9 S))) (hL : a ∈ S.L) (h : S.K a = 4) (hk : (X ++ va_pl S.L (wPF cyB cyI cyJ cyZ cyO51cc9 S))[k]? = some (a, wPF cyB cyI cyJ cyZ cyO51cc9 S a)) (v : Option Nat) : (X ++ va_pl S.L (wPF cyB cyI cyJ cyZ cyO51cc9 S)).set k (a, .inr (4, [.int (S.O_SetupText.f_length a), va_rf v, .int (S.O_SetupText.f_place a), va_rf (S.O_SetupText.f_kinds a), va_rf (S.O_SetupText.f_starts a), .int (S.O_SetupText.f_clauseCount a), va_rf (S.O_SetupText.f_values a), .int (S.O_SetupText.f_valueCount a)])) = X ++ va_pl S.L (wPF cyB cyI cyJ cyZ cyO51cc9 { S with O_SetupText := { S.O_SetupText with f_signs := va_up S.O_SetupText.f_signs a v } }) := by
  rw [va_pl_set hD hL hk]
  exact congrArg (fun l => X ++ l) (va_pl_congr (wSt_O_SetupText_f_signs cyB cyI cyJ cyZ cyO51cc9 S h v))
theorem wSt_O_SetupText_f_place (cyB : ClassId) (cyI : ClassId) (cyJ : ClassId) (cyZ : ClassId) (cyO51cc9 : ClassId) (S : wPS) {a : Nat} (h : S.K a = 4) (v : Int32) (b : Nat) : va_up (wPF cyB cyI cyJ cyZ cyO51cc9 S) a (.inr (4, [.int (S.O_SetupText.f_length a), va_rf (S.O_SetupText.f_signs a), .int v, va_rf (S.O_SetupText.f_kinds a), va_rf (S.O_SetupText.f_starts a), .int (S.O_SetupText.f_clauseCount a), va_rf (S.O_SetupText.f_values a), .int (S.O_SetupText.f_valueCount a)])) b = wPF cyB cyI cyJ cyZ cyO51cc9 { S with O_SetupText := { S.O_SetupText with f_place := va_up S.O_SetupText.f_place a v } } b := by by_cases hb : b = a <;> first | (simp only [wPF, va_up_ne _ _ hb]; done) | (simp only [wPF, va_up, if_neg hb]; done) | simp [wPF, va_re, va_up, va_rf, hb, h]
theorem wPu_O_SetupText_f_place (cyB : ClassId) (cyI : ClassId) (cyJ : ClassId) (cyZ : ClassId) (cyO51cc9 : ClassId) (X : va_W) (S : wPS) {A : Nat → Prop} {a k : Nat} (hD : va_D A (X ++ va_pl S.L (wPF cyB cyI cyJ cyZ cyO51cc9 S))) (hL : a ∈ S.L) (h : S.K a = 4) (hk : (X ++ va_pl S.L (wPF cyB cyI cyJ cyZ cyO51cc9 S))[k]? = some (a, wPF cyB cyI cyJ cyZ cyO51cc9 S a)) (v : Int32) : (X ++ va_pl S.L (wPF cyB cyI cyJ cyZ cyO51cc9 S)).set k (a, .inr (4, [.int (S.O_SetupText.f_length a), va_rf (S.O_SetupText.f_signs a), .int v, va_rf (S.O_SetupText.f_kinds a), va_rf (S.O_SetupText.f_starts a), .int (S.O_SetupText.f_clauseCount a), va_rf (S.O_SetupText.f_values a), .int (S.O_SetupText.f_valueCount a)])) = X ++ va_pl S.L (wPF cyB cyI cyJ cyZ cyO51cc9 { S with O_SetupText := { S.O_SetupText with f_place := va_up S.O_SetupText.f_place a v } }) := by
  rw [va_pl_set hD hL hk]
  exact congrArg (fun l => X ++ l) (va_pl_congr (wSt_O_SetupText_f_place cyB cyI cyJ cyZ cyO51cc9 S h v))
theorem wSt_O_SetupText_f_kinds (cyB : ClassId) (cyI : ClassId) (cyJ : ClassId) (cyZ : ClassId) (cyO51cc9 : ClassId) (S : wPS) {a : Nat} (h : S.K a = 4) (v : Option Nat) (b : Nat) : va_up (wPF cyB cyI cyJ cyZ cyO51cc9 S) a (.inr (4, [.int (S.O_SetupText.f_length a), va_rf (S.O_SetupText.f_signs a), .int (S.O_SetupText.f_place a), va_rf v, va_rf (S.O_SetupText.f_starts a), .int (S.O_SetupText.f_clauseCount a), va_rf (S.O_SetupText.f_values a), .int (S.O_SetupText.f_valueCount a)])) b = wPF cyB cyI cyJ cyZ cyO51cc9 { S with O_SetupText := { S.O_SetupText with f_kinds := va_up S.O_SetupText.f_kinds a v } } b := by by_cases hb : b = a <;> first | (simp only [wPF, va_up_ne _ _ hb]; done) | (simp only [wPF, va_up, if_neg hb]; done) | simp [wPF, va_re, va_up, va_rf, hb, h]
theorem wPu_O_SetupText_f_kinds (cyB : ClassId) (cyI : ClassId) (cyJ : ClassId) (cyZ : ClassId) (cyO51cc9 : ClassId) (X : va_W) (S : wPS) {A : Nat → Prop} {a k : Nat} (hD : va_D A (X ++ va_pl S.L (wPF cyB cyI cyJ cyZ cyO51cc9 S))) (hL : a ∈ S.L) (h : S.K a = 4) (hk : (X ++ va_pl S.L (wPF cyB cyI cyJ cyZ cyO51cc9 S))[k]? = some (a, wPF cyB cyI cyJ cyZ cyO51cc9 S a)) (v : Option Nat) : (X ++ va_pl S.L (wPF cyB cyI cyJ cyZ cyO51cc9 S)).set k (a, .inr (4, [.int (S.O_SetupText.f_length a), va_rf (S.O_SetupText.f_signs a), .int (S.O_SetupText.f_place a), va_rf v, va_rf (S.O_SetupText.f_starts a), .int (S.O_SetupText.f_clauseCount a), va_rf (S.O_SetupText.f_values a), .int (S.O_SetupText.f_valueCount a)])) = X ++ va_pl S.L (wPF cyB cyI cyJ cyZ cyO51cc9 { S with O_SetupText := { S.O_SetupText with f_kinds := va_up S.O_SetupText.f_kinds a v } }) := by
  rw [va_pl_set hD hL hk]
  exact congrArg (fun l => X ++ l) (va_pl_congr (wSt_O_SetupText_f_kinds cyB cyI cyJ cyZ cyO51cc9 S h v))
theorem wSt_O_SetupText_f_starts (cyB : ClassId) (cyI : ClassId) (cyJ : ClassId) (cyZ : ClassId) (cyO51cc9 : ClassId) (S : wPS) {a : Nat} (h : S.K a = 4) (v : Option Nat) (b : Nat) : va_up (wPF cyB cyI cyJ cyZ cyO51cc9 S) a (.inr (4, [.int (S.O_SetupText.f_length a), va_rf (S.O_SetupText.f_signs a), .int (S.O_SetupText.f_place a), va_rf (S.O_SetupText.f_kinds a), va_rf v, .int (S.O_SetupText.f_clauseCount a), va_rf (S.O_SetupText.f_values a), .int (S.O_SetupText.f_valueCount a)])) b = wPF cyB cyI cyJ cyZ cyO51cc9 { S with O_SetupText := { S.O_SetupText with f_starts := va_up S.O_SetupText.f_starts a v } } b := by by_cases hb : b = a <;> first | (simp only [wPF, va_up_ne _ _ hb]; done) | (simp only [wPF, va_up, if_neg hb]; done) | simp [wPF, va_re, va_up, va_rf, hb, h]
theorem wPu_O_SetupText_f_starts (cyB : ClassId) (cyI : ClassId) (cyJ : ClassId) (cyZ : ClassId) (cyO51cc9 : ClassId) (X : va_W) (S : wPS) {A : Nat → Prop} {a k : Nat} (hD : va_D A (X ++ va_pl S.L (wPF cyB cyI cyJ cyZ cyO51cc9 S))) (hL : a ∈ S.L) (h : S.K a = 4) (hk : (X ++ va_pl S.L (wPF cyB cyI cyJ cyZ cyO51cc9 S))[k]? = some (a, wPF cyB cyI cyJ cyZ cyO51cc9 S a)) (v : Option Nat) : (X ++ va_pl S.L (wPF cyB cyI cyJ cyZ cyO51cc9 S)).set k (a, .inr (4, [.int (S.O_SetupText.f_length a), va_rf (S.O_SetupText.f_signs a), .int (S.O_SetupText.f_place a), va_rf (S.O_SetupText.f_kinds a), va_rf v, .int (S.O_SetupText.f_clauseCount a), va_rf (S.O_SetupText.f_values a), .int (S.O_SetupText.f_valueCount a)])) = X ++ va_pl S.L (wPF cyB cyI cyJ cyZ cyO51cc9 { S with O_SetupText := { S.O_SetupText with f_starts := va_up S.O_SetupText.f_starts a v } }) := by
  rw [va_pl_set hD hL hk]
  exact congrArg (fun l => X ++ l) (va_pl_congr (wSt_O_SetupText_f_starts cyB cyI cyJ cyZ cyO51cc9 S h v))
theorem wSt_O_SetupText_f_clauseCount (cyB : ClassId) (cyI : ClassId) (cyJ : ClassId) (cyZ : ClassId) (cyO51cc9 : ClassId) (S : wPS) {a : Nat} (h : S.K a = 4) (v : Int32) (b : Nat) : va_up (wPF cyB cyI cyJ cyZ cyO51cc9 S) a (.inr (4, [.int (S.O_SetupText.f_length a), va_rf (S.O_SetupText.f_signs a), .int (S.O_SetupText.f_place a), va_rf (S.O_SetupText.f_kinds a), va_rf (S.O_SetupText.f_starts a), .int v, va_rf (S.O_SetupText.f_values a), .int (S.O_SetupText.f_valueCount a)])) b = wPF cyB cyI cyJ cyZ cyO51cc9 { S with O_SetupText := { S.O_SetupText with f_clauseCount := va_up S.O_SetupText.f_clauseCount a v } } b := by by_cases hb : b = a <;> first | (simp only [wPF, va_up_ne _ _ hb]; done) | (simp only [wPF, va_up, if_neg hb]; done) | simp [wPF, va_re, va_up, va_rf, hb, h]
theorem wPu_O_SetupText_f_clauseCount (cyB : ClassId) (cyI : ClassId) (cyJ : ClassId) (cyZ : ClassId) (cyO51cc9 : ClassId) (X : va_W) (S : wPS) {A : Nat → Prop} {a k : Nat} (hD : va_D A (X ++ va_pl S.L (wPF cyB cyI cyJ cyZ cyO51cc9 S))) (hL : a ∈ S.L) (h : S.K a = 4) (hk : (X ++ va_pl S.L (wPF cyB cyI cyJ cyZ cyO51cc9 S))[k]? = some (a, wPF cyB cyI cyJ cyZ cyO51cc9 S a)) (v : Int32) : (X ++ va_pl S.L (wPF cyB cyI cyJ cyZ cyO51cc9 S)).set k (a, .inr (4, [.int (S.O_SetupText.f_length a), va_rf (S.O_SetupText.f_signs a), .int (S.O_SetupText.f_place a), va_rf (S.O_SetupText.f_kinds a), va_rf (S.O_SetupText.f_starts a), .int v, va_rf (S.O_SetupText.f_values a), .int (S.O_SetupText.f_valueCount a)])) = X ++ va_pl S.L (wPF cyB cyI cyJ cyZ cyO51cc9 { S with O_SetupText := { S.O_SetupText with f_clauseCount := va_up S.O_SetupText.f_clauseCount a v } }) := by
  rw [va_pl_set hD hL hk]
  exact congrArg (fun l => X ++ l) (va_pl_congr (wSt_O_SetupText_f_clauseCount cyB cyI cyJ cyZ cyO51cc9 S h v))
theorem wSt_O_SetupText_f_values (cyB : ClassId) (cyI : ClassId) (cyJ : ClassId) (cyZ : ClassId) (cyO51cc9 : ClassId) (S : wPS) {a : Nat} (h : S.K a = 4) (v : Option Nat) (b : Nat) : va_up (wPF cyB cyI cyJ cyZ cyO51cc9 S) a (.inr (4, [.int (S.O_SetupText.f_length a), va_rf (S.O_SetupText.f_signs a), .int (S.O_SetupText.f_place a), va_rf (S.O_SetupText.f_kinds a), va_rf (S.O_SetupText.f_starts a), .int (S.O_SetupText.f_clauseCount a), va_rf v, .int (S.O_SetupText.f_valueCount a)])) b = wPF cyB cyI cyJ cyZ cyO51cc9 { S with O_SetupText := { S.O_SetupText with f_values := va_up S.O_SetupText.f_values a v } } b := by by_cases hb : b = a <;> first | (simp only [wPF, va_up_ne _ _ hb]; done) | (simp only [wPF, va_up, if_neg hb]; done) | simp [wPF, va_re, va_up, va_rf, hb, h]
theorem wPu_O_SetupText_f_values (cyB : ClassId) (cyI : ClassId) (cyJ : ClassId) (cyZ : ClassId) (cyO51cc9 : ClassId) (X : va_W) (S : wPS) {A : Nat → Prop} {a k : Nat} (hD : va_D A (X ++ va_pl S.L (wPF cyB cyI cyJ cyZ cyO51cc9 S))) (hL : a ∈ S.L) (h : S.K a = 4) (hk : (X ++ va_pl S.L (wPF cyB cyI cyJ cyZ cyO51cc9 S))[k]? = some (a, wPF cyB cyI cyJ cyZ cyO51cc9 S a)) (v : Option Nat) : (X ++ va_pl S.L (wPF cyB cyI cyJ cyZ cyO51cc9 S)).set k (a, .inr (4, [.int (S.O_SetupText.f_length a), va_rf (S.O_SetupText.f_signs a), .int (S.O_SetupText.f_place a), va_rf (S.O_SetupText.f_kinds a), va_rf (S.O_SetupText.f_starts a), .int (S.O_SetupText.f_clauseCount a), va_rf v, .int (S.O_SetupText.f_valueCount a)])) = X ++ va_pl S.L (wPF cyB cyI cyJ cyZ cyO51cc9 { S with O_SetupText := { S.O_SetupText with f_values := va_up S.O_SetupText.f_values a v } }) := by
  rw [va_pl_set hD hL hk]
  exact congrArg (fun l => X ++ l) (va_pl_congr (wSt_O_SetupText_f_values cyB cyI cyJ cyZ cyO51cc9 S h v))
theorem wSt_O_SetupText_f_valueCount (cyB : ClassId) (cyI : ClassId) (cyJ : ClassId) (cyZ : ClassId) (cyO51cc9 : ClassId) (S : wPS) {a : Nat} (h : S.K a = 4) (v : Int32) (b : Nat) : va_up (wPF cyB cyI cyJ cyZ cyO51cc9 S) a (.inr (4, [.int (S.O_SetupText.f_length a), va_rf (S.O_SetupText.f_signs a), .int (S.O_SetupText.f_place a), va_rf (S.O_SetupText.f_kinds a), va_rf (S.O_SetupText.f_starts a), .int (S.O_SetupText.f_clauseCount a), va_rf (S.O_SetupText.f_values a), .int v])) b = wPF cyB cyI cyJ cyZ cyO51cc9 { S with O_SetupText := { S.O_SetupText with f_valueCount := va_up S.O_SetupText.f_valueCount a v } } b := by by_cases hb : b = a <;> first | (simp only [wPF, va_up_ne _ _ hb]; done) | (simp only [wPF, va_up, if_neg hb]; done) | simp [wPF, va_re, va_up, va_rf, hb, h]
theorem wPu_O_SetupText_f_valueCount (cyB : ClassId) (cyI : ClassId) (cyJ : ClassId) (cyZ : ClassId) (cyO51cc9 : ClassId) (X : va_W) (S : wPS) {A : Nat → Prop} {a k : Nat} (hD : va_D A (X ++ va_pl S.L (wPF cyB cyI cyJ cyZ cyO51cc9 S))) (hL : a ∈ S.L) (h : S.K a = 4) (hk : (X ++ va_pl S.L (wPF cyB cyI cyJ cyZ cyO51cc9 S))[k]? = some (a, wPF cyB cyI cyJ cyZ cyO51cc9 S a)) (v : Int32) : (X ++ va_pl S.L (wPF cyB cyI cyJ cyZ cyO51cc9 S)).set k (a, .inr (4, [.int (S.O_SetupText.f_length a), va_rf (S.O_SetupText.f_signs a), .int (S.O_SetupText.f_place a), va_rf (S.O_SetupText.f_kinds a), va_rf (S.O_SetupText.f_starts a), .int (S.O_SetupText.f_clauseCount a), va_rf (S.O_SetupText.f_values a), .int v])) = X ++ va_pl S.L (wPF cyB cyI cyJ cyZ cyO51cc9 { S with O_SetupText := { S.O_SetupText with f_valueCount := va_up S.O_SetupText.f_valueCount a v } }) := by
  rw [va_pl_set hD hL hk]
  exact congrArg (fun l => X ++ l) (va_pl_congr (wSt_O_SetupText_f_valueCount cyB cyI cyJ cyZ cyO51cc9 S h v))
theorem wNw_O_SetupText (cyB : ClassId) (cyI : ClassId) (cyJ : ClassId) (cyZ : ClassId) (cyO51cc9 : ClassId) (S : wPS) (a b : Nat) : va_up (wPF cyB cyI cyJ cyZ cyO51cc9 S) a (.inr (4, [.int 0, .null, .int 0, .null, .null, .int 0, .null, .int 0])) b = wPF cyB cyI cyJ cyZ cyO51cc9 { S with L := S.L ++ [a], K := va_up S.K a 4, O_SetupText := { f_length := va_up S.O_SetupText.f_length a 0, f_signs := va_up S.O_SetupText.f_signs a none, f_place := va_up S.O_SetupText.f_place a 0, f_kinds := va_up S.O_SetupText.f_kinds a none, f_starts := va_up S.O_SetupText.f_starts a none, f_clauseCount := va_up S.O_SetupText.f_clauseCount a 0, f_values := va_up S.O_SetupText.f_values a none, f_valueCount := va_up S.O_SetupText.f_valueCount a 0 } } b := by by_cases hb : b = a <;> first | (simp only [wPF, va_up_ne _ _ hb]; done) | (simp only [wPF, va_up, if_neg hb]; done) | simp [wPF, va_re, va_up, va_rf, hb]
theorem wPn_O_SetupText (cyB : ClassId) (cyI : ClassId) (cyJ : ClassId) (cyZ : ClassId) (cyO51cc9 : ClassId) (X : va_W) (S : wPS) {a : Nat} (ha : a ∉ S.L) : (X ++ va_pl S.L (wPF cyB cyI cyJ cyZ cyO51cc9 S)) ++ [(a, .inr (4, [.int 0, .null, .int 0, .null, .null, .int 0, .null, .int 0]))] = X ++ va_pl (S.L ++ [a]) (wPF cyB cyI cyJ cyZ cyO51cc9 { S with L := S.L ++ [a], K := va_up S.K a 4, O_SetupText := { f_length := va_up S.O_SetupText.f_length a 0, f_signs := va_up S.O_SetupText.f_signs a none, f_place := va_up S.O_SetupText.f_place a 0, f_kinds := va_up S.O_SetupText.f_kinds a none, f_starts := va_up S.O_SetupText.f_starts a none, f_clauseCount := va_up S.O_SetupText.f_clauseCount a 0, f_values := va_up S.O_SetupText.f_values a none, f_valueCount := va_up S.O_SetupText.f_valueCount a 0 } }) := by
  rw [List.append_assoc, va_pl_push ha]
  exact congrArg (fun l => X ++ l) (va_pl_congr (wNw_O_SetupText cyB cyI cyJ cyZ cyO51cc9 S a))
theorem wAt_O_Tape (cyB : ClassId) (cyI : ClassId) (cyJ : ClassId) (cyZ : ClassId) (cyO51cc9 : ClassId) (S : wPS) {a : Nat} (h : S.K a = 5) : wPF cyB cyI cyJ cyZ cyO51cc9 S a = .inr (5, [.int (S.O_Tape.f_sort a), .int (S.O_Tape.f_length a), va_rf (S.O_Tape.f_items a)]) := by simp [wPF, h]
theorem wGt_O_Tape (cyB : ClassId) (cyI : ClassId) (cyJ : ClassId) (cyZ : ClassId) (cyO51cc9 : ClassId) (X : va_W) (S : wPS) {a : Nat} (hL : a ∈ S.L) (h : S.K a = 5) : ∃ k : Nat, (X ++ va_pl S.L (wPF cyB cyI cyJ cyZ cyO51cc9 S))[k]? = some (a, wPF cyB cyI cyJ cyZ cyO51cc9 S a) ∧ (X ++ va_pl S.L (wPF cyB cyI cyJ cyZ cyO51cc9 S))[k]? = some (a, .inr (5, [.int (S.O_Tape.f_sort a), .int (S.O_Tape.f_length a), va_rf (S.O_Tape.f_items a)])) := by
  obtain ⟨k, hk⟩ := va_pl_get (X := X) (f := wPF cyB cyI cyJ cyZ cyO51cc9 S) hL
  exact ⟨k, hk, hk.trans (congrArg (fun e => some (a, e)) (wAt_O_Tape cyB cyI cyJ cyZ cyO51cc9 S h))⟩
theorem wSt_O_Tape_f_sort (cyB : ClassId) (cyI : ClassId) (cyJ : ClassId) (cyZ : ClassId) (cyO51cc9 : ClassId) (S : wPS) {a : Nat} (h : S.K a = 5) (v : Int32) (b : Nat) : va_up (wPF cyB cyI cyJ cyZ cyO51cc9 S) a (.inr (5, [.int v, .int (S.O_Tape.f_length a), va_rf (S.O_Tape.f_items a)])) b = wPF cyB cyI cyJ cyZ cyO51cc9 { S with O_Tape := { S.O_Tape with f_sort := va_up S.O_Tape.f_sort a v } } b := by by_cases hb : b = a <;> first | (simp only [wPF, va_up_ne _ _ hb]; done) | (simp only [wPF, va_up, if_neg hb]; done) | simp [wPF, va_re, va_up, va_rf, hb, h]
theorem wPu_O_Tape_f_sort (cyB : ClassId) (cyI : ClassId) (cyJ : ClassId) (cyZ : ClassId) (cyO51cc9 : ClassId) (X : va_W) (S : wPS) {A : Nat → Prop} {a k : Nat} (hD : va_D A (X ++ va_pl S.L (wPF cyB cyI cyJ cyZ cyO51cc9 S))) (hL : a ∈ S.L) (h : S.K a = 5) (hk : (X ++ va_pl S.L (wPF cyB cyI cyJ cyZ cyO51cc9 S))[k]? = some (a, wPF cyB cyI cyJ cyZ cyO51cc9 S a)) (v : Int32) : (X ++ va_pl S.L (wPF cyB cyI cyJ cyZ cyO51cc9 S)).set k (a, .inr (5, [.int v, .int (S.O_Tape.f_length a), va_rf (S.O_Tape.f_items a)])) = X ++ va_pl S.L (wPF cyB cyI cyJ cyZ cyO51cc9 { S with O_Tape := { S.O_Tape with f_sort := va_up S.O_Tape.f_sort a v } }) := by
  rw [va_pl_set hD hL hk]
  exact congrArg (fun l => X ++ l) (va_pl_congr (wSt_O_Tape_f_sort cyB cyI cyJ cyZ cyO51cc9 S h v))
theorem wSt_O_Tape_f_length (cyB : ClassId) (cyI : ClassId) (cyJ : ClassId) (cyZ : ClassId) (cyO51cc9 : ClassId) (S : wPS) {a : Nat} (h : S.K a = 5) (v : Int32) (b : Nat) : va_up (wPF cyB cyI cyJ cyZ cyO51cc9 S) a (.inr (5, [.int (S.O_Tape.f_sort a), .int v, va_rf (S.O_Tape.f_items a)])) b = wPF cyB cyI cyJ cyZ cyO51cc9 { S with O_Tape := { S.O_Tape with f_length := va_up S.O_Tape.f_length a v } } b := by by_cases hb : b = a <;> first | (simp only [wPF, va_up_ne _ _ hb]; done) | (simp only [wPF, va_up, if_neg hb]; done) | simp [wPF, va_re, va_up, va_rf, hb, h]
theorem wPu_O_Tape_f_length (cyB : ClassId) (cyI : ClassId) (cyJ : ClassId) (cyZ : ClassId) (cyO51cc9 : ClassId) (X : va_W) (S : wPS) {A : Nat → Prop} {a k : Nat} (hD : va_D A (X ++ va_pl S.L (wPF cyB cyI cyJ cyZ cyO51cc9 S))) (hL : a ∈ S.L) (h : S.K a = 5) (hk : (X ++ va_pl S.L (wPF cyB cyI cyJ cyZ cyO51cc9 S))[k]? = some (a, wPF cyB cyI cyJ cyZ cyO51cc9 S a)) (v : Int32) : (X ++ va_pl S.L (wPF cyB cyI cyJ cyZ cyO51cc9 S)).set k (a, .inr (5, [.int (S.O_Tape.f_sort a), .int v, va_rf (S.O_Tape.f_items a)])) = X ++ va_pl S.L (wPF cyB cyI cyJ cyZ cyO51cc9 { S with O_Tape := { S.O_Tape with f_length := va_up S.O_Tape.f_length a v } }) := by
  rw [va_pl_set hD hL hk]
  exact congrArg (fun l => X ++ l) (va_pl_congr (wSt_O_Tape_f_length cyB cyI cyJ cyZ cyO51cc9 S h v))
theorem wSt_O_Tape_f_items (cyB : ClassId) (cyI : ClassId) (cyJ : ClassId) (cyZ : ClassId) (cyO51cc9 : ClassId) (S : wPS) {a : Nat} (h : S.K a = 5) (v : Option Nat) (b : Nat) : va_up (wPF cyB cyI cyJ cyZ cyO51cc9 S) a (.inr (5, [.int (S.O_Tape.f_sort a), .int (S.O_Tape.f_length a), va_rf v])) b = wPF cyB cyI cyJ cyZ cyO51cc9 { S with O_Tape := { S.O_Tape with f_items := va_up S.O_Tape.f_items a v } } b := by by_cases hb : b = a <;> first | (simp only [wPF, va_up_ne _ _ hb]; done) | (simp only [wPF, va_up, if_neg hb]; done) | simp [wPF, va_re, va_up, va_rf, hb, h]
theorem wPu_O_Tape_f_items (cyB : ClassId) (cyI : ClassId) (cyJ : ClassId) (cyZ : ClassId) (cyO51cc9 : ClassId) (X : va_W) (S : wPS) {A : Nat → Prop} {a k : Nat} (hD : va_D A (X ++ va_pl S.L (wPF cyB cyI cyJ cyZ cyO51cc9 S))) (hL : a ∈ S.L) (h : S.K a = 5) (hk : (X ++ va_pl S.L (wPF cyB cyI cyJ cyZ cyO51cc9 S))[k]? = some (a, wPF cyB cyI cyJ cyZ cyO51cc9 S a)) (v : Option Nat) : (X ++ va_pl S.L (wPF cyB cyI cyJ cyZ cyO51cc9 S)).set k (a, .inr (5, [.int (S.O_Tape.f_sort a), .int (S.O_Tape.f_length a), va_rf v])) = X ++ va_pl S.L (wPF cyB cyI cyJ cyZ cyO51cc9 { S with O_Tape := { S.O_Tape with f_items := va_up S.O_Tape.f_items a v } }) := by
  rw [va_pl_set hD hL hk]
  exact congrArg (fun l => X ++ l) (va_pl_congr (wSt_O_Tape_f_items cyB cyI cyJ cyZ cyO51cc9 S h v))
theorem wNw_O_Tape (cyB : ClassId) (cyI : ClassId) (cyJ : ClassId) (cyZ : ClassId) (cyO51cc9 : ClassId) (S : wPS) (a b : Nat) : va_up (wPF cyB cyI cyJ cyZ cyO51cc9 S) a (.inr (5, [.int 0, .int 0, .null])) b = wPF cyB cyI cyJ cyZ cyO51cc9 { S with L := S.L ++ [a], K := va_up S.K a 5, O_Tape := { f_sort := va_up S.O_Tape.f_sort a 0, f_length := va_up S.O_Tape.f_length a 0, f_items := va_up S.O_Tape.f_items a none } } b := by by_cases hb : b = a <;> first | (simp only [wPF, va_up_ne _ _ hb]; done) | (simp only [wPF, va_up, if_neg hb]; done) | simp [wPF, va_re, va_up, va_rf, hb]
theorem wPn_O_Tape (cyB : ClassId) (cyI : ClassId) (cyJ : ClassId) (cyZ : ClassId) (cyO51cc9 : ClassId) (X : va_W) (S : wPS) {a : Nat} (ha : a ∉ S.L) : (X ++ va_pl S.L (wPF cyB cyI cyJ cyZ cyO51cc9 S)) ++ [(a, .inr (5, [.int 0, .int 0, .null]))] = X ++ va_pl (S.L ++ [a]) (wPF cyB cyI cyJ cyZ cyO51cc9 { S with L := S.L ++ [a], K := va_up S.K a 5, O_Tape := { f_sort := va_up S.O_Tape.f_sort a 0, f_length := va_up S.O_Tape.f_length a 0, f_items := va_up S.O_Tape.f_items a none } }) := by
  rw [List.append_assoc, va_pl_push ha]
  exact congrArg (fun l => X ++ l) (va_pl_congr (wNw_O_Tape cyB cyI cyJ cyZ cyO51cc9 S a))
theorem wAt_O_Touch (cyB : ClassId) (cyI : ClassId) (cyJ : ClassId) (cyZ : ClassId) (cyO51cc9 : ClassId) (S : wPS) {a : Nat} (h : S.K a = 6) : wPF cyB cyI cyJ cyZ cyO51cc9 S a = .inr (6, [va_rf (S.O_Touch.f_rows a), .int (S.O_Touch.f_last a), .int (S.O_Touch.f_changeCount a), va_rf (S.O_Touch.f_pairs a), va_rf (S.O_Touch.f_lastPairs a), va_rf (S.O_Touch.f_firsts a), va_rf (S.O_Touch.f_table a), .int (S.O_Touch.f_compared a)]) := by simp [wPF, h]
theorem wGt_O_Touch (cyB : ClassId) (cyI : ClassId) (cyJ : ClassId) (cyZ : ClassId) (cyO51cc9 : ClassId) (X : va_W) (S : wPS) {a : Nat} (hL : a ∈ S.L) (h : S.K a = 6) : ∃ k : Nat, (X ++ va_pl S.L (wPF cyB cyI cyJ cyZ cyO51cc9 S))[k]? = some (a, wPF cyB cyI cyJ cyZ cyO51cc9 S a) ∧ (X ++ va_pl S.L (wPF cyB cyI cyJ cyZ cyO51cc9 S))[k]? = some (a, .inr (6, [va_rf (S.O_Touch.f_rows a), .int (S.O_Touch.f_last a), .int (S.O_Touch.f_changeCount a), va_rf (S.O_Touch.f_pairs a), va_rf (S.O_Touch.f_lastPairs a), va_rf (S.O_Touch.f_firsts a), va_rf (S.O_Touch.f_table a), .int (S.O_Touch.f_compared a)])) := by
  obtain ⟨k, hk⟩ := va_pl_get (X := X) (f := wPF cyB cyI cyJ cyZ cyO51cc9 S) hL
  exact ⟨k, hk, hk.trans (congrArg (fun e => some (a, e)) (wAt_O_Touch cyB cyI cyJ cyZ cyO51cc9 S h))⟩
theorem wSt_O_Touch_f_rows (cyB : ClassId) (cyI : ClassId) (cyJ : ClassId) (cyZ : ClassId) (cyO51cc9 : ClassId) (S : wPS) {a : Nat} (h : S.K a = 6) (v : Option Nat) (b : Nat) : va_up (wPF cyB cyI cyJ cyZ cyO51cc9 S) a (.inr (6, [va_rf v, .int (S.O_Touch.f_last a), .int (S.O_Touch.f_changeCount a), va_rf (S.O_Touch.f_pairs a), va_rf (S.O_Touch.f_lastPairs a), va_rf (S.O_Touch.f_firsts a), va_rf (S.O_Touch.f_table a), .int (S.O_Touch.f_compared a)])) b = wPF cyB cyI cyJ cyZ cyO51cc9 { S with O_Touch := { S.O_Touch with f_rows := va_up S.O_Touch.f_rows a v } } b := by by_cases hb : b = a <;> first | (simp only [wPF, va_up_ne _ _ hb]; done) | (simp only [wPF, va_up, if_neg hb]; done) | simp [wPF, va_re, va_up, va_rf, hb, h]
theorem wPu_O_Touch_f_rows (cyB : ClassId) (cyI : ClassId) (cyJ : ClassId) (cyZ : ClassId) (cyO51cc9 : ClassId) (X : va_W) (S : wPS) {A : Nat → Prop} {a k : Nat} (hD : va_D A (X ++ va_pl S.L (wPF cyB cyI cyJ cyZ cyO51cc9 S))) (hL : a ∈ S.L) (h : S.K a = 6) (hk : (X ++ va_pl S.L (wPF cyB cyI cyJ cyZ cyO51cc9 S))[k]? = some (a, wPF cyB cyI cyJ cyZ cyO51cc9 S a)) (v : Option Nat) : (X ++ va_pl S.L (wPF cyB cyI cyJ cyZ cyO51cc9 S)).set k (a, .inr (6, [va_rf v, .int (S.O_Touch.f_last a), .int (S.O_Touch.f_changeCount a), va_rf (S.O_Touch.f_pairs a), va_rf (S.O_Touch.f_lastPairs a), va_rf (S.O_Touch.f_firsts a), va_rf (S.O_Touch.f_table a), .int (S.O_Touch.f_compared a)])) = X ++ va_pl S.L (wPF cyB cyI cyJ cyZ cyO51cc9 { S with O_Touch := { S.O_Touch with f_rows := va_up S.O_Touch.f_rows a v } }) := by
  rw [va_pl_set hD hL hk]
  exact congrArg (fun l => X ++ l) (va_pl_congr (wSt_O_Touch_f_rows cyB cyI cyJ cyZ cyO51cc9 S h v))
theorem wSt_O_Touch_f_last (cyB : ClassId) (cyI : ClassId) (cyJ : ClassId) (cyZ : ClassId) (cyO51cc9 : ClassId) (S : wPS) {a : Nat} (h : S.K a = 6) (v : Int32) (b : Nat) : va_up (wPF cyB cyI cyJ cyZ cyO51cc9 S) a (.inr (6, [va_rf (S.O_Touch.f_rows a), .int v, .int (S.O_Touch.f_changeCount a), va_rf (S.O_Touch.f_pairs a), va_rf (S.O_Touch.f_lastPairs a), va_rf (S.O_Touch.f_firsts a), va_rf (S.O_Touch.f_table a), .int (S.O_Touch.f_compared a)])) b = wPF cyB cyI cyJ cyZ cyO51cc9 { S with O_Touch := { S.O_Touch with f_last := va_up S.O_Touch.f_last a v } } b := by by_cases hb : b = a <;> first | (simp only [wPF, va_up_ne _ _ hb]; done) | (simp only [wPF, va_up, if_neg hb]; done) | simp [wPF, va_re, va_up, va_rf, hb, h]
theorem wPu_O_Touch_f_last (cyB : ClassId) (cyI : ClassId) (cyJ : ClassId) (cyZ : ClassId) (cyO51cc9 : ClassId) (X : va_W) (S : wPS) {A : Nat → Prop} {a k : Nat} (hD : va_D A (X ++ va_pl S.L (wPF cyB cyI cyJ cyZ cyO51cc9 S))) (hL : a ∈ S.L) (h : S.K a = 6) (hk : (X ++ va_pl S.L (wPF cyB cyI cyJ cyZ cyO51cc9 S))[k]? = some (a, wPF cyB cyI cyJ cyZ cyO51cc9 S a)) (v : Int32) : (X ++ va_pl S.L (wPF cyB cyI cyJ cyZ cyO51cc9 S)).set k (a, .inr (6, [va_rf (S.O_Touch.f_rows a), .int v, .int (S.O_Touch.f_changeCount a), va_rf (S.O_Touch.f_pairs a), va_rf (S.O_Touch.f_lastPairs a), va_rf (S.O_Touch.f_firsts a), va_rf (S.O_Touch.f_table a), .int (S.O_Touch.f_compared a)])) = X ++ va_pl S.L (wPF cyB cyI cyJ cyZ cyO51cc9 { S with O_Touch := { S.O_Touch with f_last := va_up S.O_Touch.f_last a v } }) := by
  rw [va_pl_set hD hL hk]
  exact congrArg (fun l => X ++ l) (va_pl_congr (wSt_O_Touch_f_last cyB cyI cyJ cyZ cyO51cc9 S h v))
theorem wSt_O_Touch_f_changeCount (cyB : ClassId) (cyI : ClassId) (cyJ : ClassId) (cyZ : ClassId) (cyO51cc9 : ClassId) (S : wPS) {a : Nat} (h : S.K a = 6) (v : Int32) (b : Nat) : va_up (wPF cyB cyI cyJ cyZ cyO51cc9 S) a (.inr (6, [va_rf (S.O_Touch.f_rows a), .int (S.O_Touch.f_last a), .int v, va_rf (S.O_Touch.f_pairs a), va_rf (S.O_Touch.f_lastPairs a), va_rf (S.O_Touch.f_firsts a), va_rf (S.O_Touch.f_table a), .int (S.O_Touch.f_compared a)])) b = wPF cyB cyI cyJ cyZ cyO51cc9 { S with O_Touch := { S.O_Touch with f_changeCount := va_up S.O_Touch.f_changeCount a v } } b := by by_cases hb : b = a <;> first | (simp only [wPF, va_up_ne _ _ hb]; done) | (simp only [wPF, va_up, if_neg hb]; done) | simp [wPF, va_re, va_up, va_rf, hb, h]
theorem wPu_O_Touch_f_changeCount (cyB : ClassId) (cyI : ClassId) (cyJ : ClassId) (cyZ : ClassId) (cyO51cc9 : ClassId) (X : va_W) (S : wPS) {A : Nat → Prop} {a k : Nat} (hD : va_D A (X ++ va_pl S.L (wPF cyB cyI cyJ cyZ cyO51cc9 S))) (hL : a ∈ S.L) (h : S.K a = 6) (hk : (X ++ va_pl S.L (wPF cyB cyI cyJ cyZ cyO51cc9 S))[k]? = some (a, wPF cyB cyI cyJ cyZ cyO51cc9 S a)) (v : Int32) : (X ++ va_pl S.L (wPF cyB cyI cyJ cyZ cyO51cc9 S)).set k (a, .inr (6, [va_rf (S.O_Touch.f_rows a), .int (S.O_Touch.f_last a), .int v, va_rf (S.O_Touch.f_pairs a), va_rf (S.O_Touch.f_lastPairs a), va_rf (S.O_Touch.f_firsts a), va_rf (S.O_Touch.f_table a), .int (S.O_Touch.f_compared a)])) = X ++ va_pl S.L (wPF cyB cyI cyJ cyZ cyO51cc9 { S with O_Touch := { S.O_Touch with f_changeCount := va_up S.O_Touch.f_changeCount a v } }) := by
  rw [va_pl_set hD hL hk]
  exact congrArg (fun l => X ++ l) (va_pl_congr (wSt_O_Touch_f_changeCount cyB cyI cyJ cyZ cyO51cc9 S h v))
theorem wSt_O_Touch_f_pairs (cyB : ClassId) (cyI : ClassId) (cyJ : ClassId) (cyZ : ClassId) (cyO51cc9 : ClassId) (S : wPS) {a : Nat} (h : S.K a = 6) (v : Option Nat) (b : Nat) : va_up (wPF cyB cyI cyJ cyZ cyO51cc9 S) a (.inr (6, [va_rf (S.O_Touch.f_rows a), .int (S.O_Touch.f_last a), .int (S.O_Touch.f_changeCount a), va_rf v, va_rf (S.O_Touch.f_lastPairs a), va_rf (S.O_Touch.f_firsts a), va_rf (S.O_Touch.f_table a), .int (S.O_Touch.f_compared a)])) b = wPF cyB cyI cyJ cyZ cyO51cc9 { S with O_Touch := { S.O_Touch with f_pairs := va_up S.O_Touch.f_pairs a v } } b := by by_cases hb : b = a <;> first | (simp only [wPF, va_up_ne _ _ hb]; done) | (simp only [wPF, va_up, if_neg hb]; done) | simp [wPF, va_re, va_up, va_rf, hb, h]
theorem wPu_O_Touch_f_pairs (cyB : ClassId) (cyI : ClassId) (cyJ : ClassId) (cyZ : ClassId) (cyO51cc9 : ClassId) (X : va_W) (S : wPS) {A : Nat → Prop} {a k : Nat} (hD : va_D A (X ++ va_pl S.L (wPF cyB cyI cyJ cyZ cyO51cc9 S))) (hL : a ∈ S.L) (h : S.K a = 6) (hk : (X ++ va_pl S.L (wPF cyB cyI cyJ cyZ cyO51cc9 S))[k]? = some (a, wPF cyB cyI cyJ cyZ cyO51cc9 S a)) (v : Option Nat) : (X ++ va_pl S.L (wPF cyB cyI cyJ cyZ cyO51cc9 S)).set k (a, .inr (6, [va_rf (S.O_Touch.f_rows a), .int (S.O_Touch.f_last a), .int (S.O_Touch.f_changeCount a), va_rf v, va_rf (S.O_Touch.f_lastPairs a), va_rf (S.O_Touch.f_firsts a), va_rf (S.O_Touch.f_table a), .int (S.O_Touch.f_compared a)])) = X ++ va_pl S.L (wPF cyB cyI cyJ cyZ cyO51cc9 { S with O_Touch := { S.O_Touch with f_pairs := va_up S.O_Touch.f_pairs a v } }) := by
  rw [va_pl_set hD hL hk]
  exact congrArg (fun l => X ++ l) (va_pl_congr (wSt_O_Touch_f_pairs cyB cyI cyJ cyZ cyO51cc9 S h v))
theorem wSt_O_Touch_f_lastPairs (cyB : ClassId) (cyI : ClassId) (cyJ : ClassId) (cyZ : ClassId) (cyO51cc9 : ClassId) (S : wPS) {a : Nat} (h : S.K a = 6) (v : Option Nat) (b : Nat) : va_up (wPF cyB cyI cyJ cyZ cyO51cc9 S) a (.inr (6, [va_rf (S.O_Touch.f_rows a), .int (S.O_Touch.f_last a), .int (S.O_Touch.f_changeCount a), va_rf (S.O_Touch.f_pairs a), va_rf v, va_rf (S.O_Touch.f_firsts a), va_rf (S.O_Touch.f_table a), .int (S.O_Touch.f_compared a)])) b = wPF cyB cyI cyJ cyZ cyO51cc9 { S with O_Touch := { S.O_Touch with f_lastPairs := va_up S.O_Touch.f_lastPairs a v } } b := by by_cases hb : b = a <;> first | (simp only [wPF, va_up_ne _ _ hb]; done) | (simp only [wPF, va_up, if_neg hb]; done) | simp [wPF, va_re, va_up, va_rf, hb, h]
theorem wPu_O_Touch_f_lastPairs (cyB : ClassId) (cyI : ClassId) (cyJ : ClassId) (cyZ : ClassId) (cyO51cc9 : ClassId) (X : va_W) (S : wPS) {A : Nat → Prop} {a k : Nat} (hD : va_D A (X ++ va_pl S.L (wPF cyB cyI cyJ cyZ cyO51cc9 S))) (hL : a ∈ S.L) (h : S.K a = 6) (hk : (X ++ va_pl S.L (wPF cyB cyI cyJ cyZ cyO51cc9 S))[k]? = some (a, wPF cyB cyI cyJ cyZ cyO51cc9 S a)) (v : Option Nat) : (X ++ va_pl S.L (wPF cyB cyI cyJ cyZ cyO51cc9 S)).set k (a, .inr (6, [va_rf (S.O_Touch.f_rows a), .int (S.O_Touch.f_last a), .int (S.O_Touch.f_changeCount a), va_rf (S.O_Touch.f_pairs a), va_rf v, va_rf (S.O_Touch.f_firsts a), va_rf (S.O_Touch.f_table a), .int (S.O_Touch.f_compared a)])) = X ++ va_pl S.L (wPF cyB cyI cyJ cyZ cyO51cc9 { S with O_Touch := { S.O_Touch with f_lastPairs := va_up S.O_Touch.f_lastPairs a v } }) := by
  rw [va_pl_set hD hL hk]
  exact congrArg (fun l => X ++ l) (va_pl_congr (wSt_O_Touch_f_lastPairs cyB cyI cyJ cyZ cyO51cc9 S h v))
theorem wSt_O_Touch_f_firsts (cyB : ClassId) (cyI : ClassId) (cyJ : ClassId) (cyZ : ClassId) (cyO51cc9 : ClassId) (S : wPS) {a : Nat} (h : S.K a = 6) (v : Option Nat) (b : Nat) : va_up (wPF cyB cyI cyJ cyZ cyO51cc9 S) a (.inr (6, [va_rf (S.O_Touch.f_rows a), .int (S.O_Touch.f_last a), .int (S.O_Touch.f_changeCount a), va_rf (S.O_Touch.f_pairs a), va_rf (S.O_Touch.f_lastPairs a), va_rf v, va_rf (S.O_Touch.f_table a), .int (S.O_Touch.f_compared a)])) b = wPF cyB cyI cyJ cyZ cyO51cc9 { S with O_Touch := { S.O_Touch with f_firsts := va_up S.O_Touch.f_firsts a v } } b := by by_cases hb : b = a <;> first | (simp only [wPF, va_up_ne _ _ hb]; done) | (simp only [wPF, va_up, if_neg hb]; done) | simp [wPF, va_re, va_up, va_rf, hb, h]
theorem wPu_O_Touch_f_firsts (cyB : ClassId) (cyI : ClassId) (cyJ : ClassId) (cyZ : ClassId) (cyO51cc9 : ClassId) (X : va_W) (S : wPS) {A : Nat → Prop} {a k : Nat} (hD : va_D A (X ++ va_pl S.L (wPF cyB cyI cyJ cyZ cyO51cc9 S))) (hL : a ∈ S.L) (h : S.K a = 6) (hk : (X ++ va_pl S.L (wPF cyB cyI cyJ cyZ cyO51cc9 S))[k]? = some (a, wPF cyB cyI cyJ cyZ cyO51cc9 S a)) (v : Option Nat) : (X ++ va_pl S.L (wPF cyB cyI cyJ cyZ cyO51cc9 S)).set k (a, .inr (6, [va_rf (S.O_Touch.f_rows a), .int (S.O_Touch.f_last a), .int (S.O_Touch.f_changeCount a), va_rf (S.O_Touch.f_pairs a), va_rf (S.O_Touch.f_lastPairs a), va_rf v, va_rf (S.O_Touch.f_table a), .int (S.O_Touch.f_compared a)])) = X ++ va_pl S.L (wPF cyB cyI cyJ cyZ cyO51cc9 { S with O_Touch := { S.O_Touch with f_firsts := va_up S.O_Touch.f_firsts a v } }) := by
  rw [va_pl_set hD hL hk]
  exact congrArg (fun l => X ++ l) (va_pl_congr (wSt_O_Touch_f_firsts cyB cyI cyJ cyZ cyO51cc9 S h v))
theorem wSt_O_Touch_f_table (cyB : ClassId) (cyI : ClassId) (cyJ : ClassId) (cyZ : ClassId) (cyO51cc9 : ClassId) (S : wPS) {a : Nat} (h : S.K a = 6) (v : Option Nat) (b : Nat) : va_up (wPF cyB cyI cyJ cyZ cyO51cc9 S) a (.inr (6, [va_rf (S.O_Touch.f_rows a), .int (S.O_Touch.f_last a), .int (S.O_Touch.f_changeCount a), va_rf (S.O_Touch.f_pairs a), va_rf (S.O_Touch.f_lastPairs a), va_rf (S.O_Touch.f_firsts a), va_rf v, .int (S.O_Touch.f_compared a)])) b = wPF cyB cyI cyJ cyZ cyO51cc9 { S with O_Touch := { S.O_Touch with f_table := va_up S.O_Touch.f_table a v } } b := by by_cases hb : b = a <;> first | (simp only [wPF, va_up_ne _ _ hb]; done) | (simp only [wPF, va_up, if_neg hb]; done) | simp [wPF, va_re, va_up, va_rf, hb, h]
theorem wPu_O_Touch_f_table (cyB : ClassId) (cyI : ClassId) (cyJ : ClassId) (cyZ : ClassId) (cyO51cc9 : ClassId) (X : va_W) (S : wPS) {A : Nat → Prop} {a k : Nat} (hD : va_D A (X ++ va_pl S.L (wPF cyB cyI cyJ cyZ cyO51cc9 S))) (hL : a ∈ S.L) (h : S.K a = 6) (hk : (X ++ va_pl S.L (wPF cyB cyI cyJ cyZ cyO51cc9 S))[k]? = some (a, wPF cyB cyI cyJ cyZ cyO51cc9 S a)) (v : Option Nat) : (X ++ va_pl S.L (wPF cyB cyI cyJ cyZ cyO51cc9 S)).set k (a, .inr (6, [va_rf (S.O_Touch.f_rows a), .int (S.O_Touch.f_last a), .int (S.O_Touch.f_changeCount a), va_rf (S.O_Touch.f_pairs a), va_rf (S.O_Touch.f_lastPairs a), va_rf (S.O_Touch.f_firsts a), va_rf v, .int (S.O_Touch.f_compared a)])) = X ++ va_pl S.L (wPF cyB cyI cyJ cyZ cyO51cc9 { S with O_Touch := { S.O_Touch with f_table := va_up S.O_Touch.f_table a v } }) := by
  rw [va_pl_set hD hL hk]
  exact congrArg (fun l => X ++ l) (va_pl_congr (wSt_O_Touch_f_table cyB cyI cyJ cyZ cyO51cc9 S h v))
theorem wSt_O_Touch_f_compared (cyB : ClassId) (cyI : ClassId) (cyJ : ClassId) (cyZ : ClassId) (cyO51cc9 : ClassId) (S : wPS) {a : Nat} (h : S.K a = 6) (v : Int32) (b : Nat) : va_up (wPF cyB cyI cyJ cyZ cyO51cc9 S) a (.inr (6, [va_rf (S.O_Touch.f_rows a), .int (S.O_Touch.f_last a), .int (S.O_Touch.f_changeCount a), va_rf (S.O_Touch.f_pairs a), va_rf (S.O_Touch.f_lastPairs a), va_rf (S.O_Touch.f_firsts a), va_rf (S.O_Touch.f_table a), .int v])) b = wPF cyB cyI cyJ cyZ cyO51cc9 { S with O_Touch := { S.O_Touch with f_compared := va_up S.O_Touch.f_compared a v } } b := by by_cases hb : b = a <;> first | (simp only [wPF, va_up_ne _ _ hb]; done) | (simp only [wPF, va_up, if_neg hb]; done) | simp [wPF, va_re, va_up, va_rf, hb, h]
theorem wPu_O_Touch_f_compared (cyB : ClassId) (cyI : ClassId) (cyJ : ClassId) (cyZ : ClassId) (cyO51cc9 : ClassId) (X : va_W) (S : wPS) {A : Nat → Prop} {a k : Nat} (hD : va_D A (X ++ va_pl S.L (wPF cyB cyI cyJ cyZ cyO51cc9 S))) (hL : a ∈ S.L) (h : S.K a = 6) (hk : (X ++ va_pl S.L (wPF cyB cyI cyJ cyZ cyO51cc9 S))[k]? = some (a, wPF cyB cyI cyJ cyZ cyO51cc9 S a)) (v : Int32) : (X ++ va_pl S.L (wPF cyB cyI cyJ cyZ cyO51cc9 S)).set k (a, .inr (6, [va_rf (S.O_Touch.f_rows a), .int (S.O_Touch.f_last a), .int (S.O_Touch.f_changeCount a), va_rf (S.O_Touch.f_pairs a), va_rf (S.O_Touch.f_lastPairs a), va_rf (S.O_Touch.f_firsts a), va_rf (S.O_Touch.f_table a), .int v])) = X ++ va_pl S.L (wPF cyB cyI cyJ cyZ cyO51cc9 { S with O_Touch := { S.O_Touch with f_compared := va_up S.O_Touch.f_compared a v } }) := by
  rw [va_pl_set hD hL hk]
  exact congrArg (fun l => X ++ l) (va_pl_congr (wSt_O_Touch_f_compared cyB cyI cyJ cyZ cyO51cc9 S h v))
theorem wNw_O_Touch (cyB : ClassId) (cyI : ClassId) (cyJ : ClassId) (cyZ : ClassId) (cyO51cc9 : ClassId) (S : wPS) (a b : Nat) : va_up (wPF cyB cyI cyJ cyZ cyO51cc9 S) a (.inr (6, [.null, .int 0, .int 0, .null, .null, .null, .null, .int 0])) b = wPF cyB cyI cyJ cyZ cyO51cc9 { S with L := S.L ++ [a], K := va_up S.K a 6, O_Touch := { f_rows := va_up S.O_Touch.f_rows a none, f_last := va_up S.O_Touch.f_last a 0, f_changeCount := va_up S.O_Touch.f_changeCount a 0, f_pairs := va_up S.O_Touch.f_pairs a none, f_lastPairs := va_up S.O_Touch.f_lastPairs a none, f_firsts := va_up S.O_Touch.f_firsts a none, f_table := va_up S.O_Touch.f_table a none, f_compared := va_up S.O_Touch.f_compared a 0 } } b := by by_cases hb : b = a <;> first | (simp only [wPF, va_up_ne _ _ hb]; done) | (simp only [wPF, va_up, if_neg hb]; done) | simp [wPF, va_re, va_up, va_rf, hb]
theorem wPn_O_Touch (cyB : ClassId) (cyI : ClassId) (cyJ : ClassId) (cyZ : ClassId) (cyO51cc9 : ClassId) (X : va_W) (S : wPS) {a : Nat} (ha : a ∉ S.L) : (X ++ va_pl S.L (wPF cyB cyI cyJ cyZ cyO51cc9 S)) ++ [(a, .inr (6, [.null, .int 0, .int 0, .null, .null, .null, .null, .int 0]))] = X ++ va_pl (S.L ++ [a]) (wPF cyB cyI cyJ cyZ cyO51cc9 { S with L := S.L ++ [a], K := va_up S.K a 6, O_Touch := { f_rows := va_up S.O_Touch.f_rows a none, f_last := va_up S.O_Touch.f_last a 0, f_changeCount := va_up S.O_Touch.f_changeCount a 0, f_pairs := va_up S.O_Touch.f_pairs a none, f_lastPairs := va_up S.O_Touch.f_lastPairs a none, f_firsts := va_up S.O_Touch.f_firsts a none, f_table := va_up S.O_Touch.f_table a none, f_compared := va_up S.O_Touch.f_compared a 0 } }) := by
  rw [List.append_assoc, va_pl_push ha]
  exact congrArg (fun l => X ++ l) (va_pl_congr (wNw_O_Touch cyB cyI cyJ cyZ cyO51cc9 S a))
theorem wAt_O_BellTouches (cyB : ClassId) (cyI : ClassId) (cyJ : ClassId) (cyZ : ClassId) (cyO51cc9 : ClassId) (S : wPS) {a : Nat} (h : S.K a = 7) : wPF cyB cyI cyJ cyZ cyO51cc9 S a = .inr (7, [va_rf (S.O_BellTouches.f_setup a), va_rf (S.O_BellTouches.f_kept a), va_rf (S.O_BellTouches.f_trialSetup a), va_rf (S.O_BellTouches.f_touch a), va_rf (S.O_BellTouches.f_trial a), va_rf (S.O_BellTouches.f_fewest a), va_rf (S.O_BellTouches.f_text a), va_rf (S.O_BellTouches.f_tapes a), .int (S.O_BellTouches.f_hasImage a), .int (S.O_BellTouches.f_stale a)]) := by simp [wPF, h]
theorem wGt_O_BellTouches (cyB : ClassId) (cyI : ClassId) (cyJ : ClassId) (cyZ : ClassId) (cyO51cc9 : ClassId) (X : va_W) (S : wPS) {a : Nat} (hL : a ∈ S.L) (h : S.K a = 7) : ∃ k : Nat, (X ++ va_pl S.L (wPF cyB cyI cyJ cyZ cyO51cc9 S))[k]? = some (a, wPF cyB cyI cyJ cyZ cyO51cc9 S a) ∧ (X ++ va_pl S.L (wPF cyB cyI cyJ cyZ cyO51cc9 S))[k]? = some (a, .inr (7, [va_rf (S.O_BellTouches.f_setup a), va_rf (S.O_BellTouches.f_kept a), va_rf (S.O_BellTouches.f_trialSetup a), va_rf (S.O_BellTouches.f_touch a), va_rf (S.O_BellTouches.f_trial a), va_rf (S.O_BellTouches.f_fewest a), va_rf (S.O_BellTouches.f_text a), va_rf (S.O_BellTouches.f_tapes a), .int (S.O_BellTouches.f_hasImage a), .int (S.O_BellTouches.f_stale a)])) := by
  obtain ⟨k, hk⟩ := va_pl_get (X := X) (f := wPF cyB cyI cyJ cyZ cyO51cc9 S) hL
  exact ⟨k, hk, hk.trans (congrArg (fun e => some (a, e)) (wAt_O_BellTouches cyB cyI cyJ cyZ cyO51cc9 S h))⟩
theorem wSt_O_BellTouches_f_setup (cyB : ClassId) (cyI : ClassId) (cyJ : ClassId) (cyZ : ClassId) (cyO51cc9 : ClassId) (S : wPS) {a : Nat} (h : S.K a = 7) (v : Option Nat) (b : Nat) : va_up (wPF cyB cyI cyJ cyZ cyO51cc9 S) a (.inr (7, [va_rf v, va_rf (S.O_BellTouches.f_kept a), va_rf (S.O_BellTouches.f_trialSetup a), va_rf (S.O_BellTouches.f_touch a), va_rf (S.O_BellTouches.f_trial a), va_rf (S.O_BellTouches.f_fewest a), va_rf (S.O_BellTouches.f_text a), va_rf (S.O_BellTouches.f_tapes a), .int (S.O_BellTouches.f_hasImage a), .int (S.O_BellTouches.f_stale a)])) b = wPF cyB cyI cyJ cyZ cyO51cc9 { S with O_BellTouches := { S.O_BellTouches with f_setup := va_up S.O_BellTouches.f_setup a v } } b := by by_cases hb : b = a <;> first | (simp only [wPF, va_up_ne _ _ hb]; done) | (simp only [wPF, va_up, if_neg hb]; done) | simp [wPF, va_re, va_up, va_rf, hb, h]
theorem wPu_O_BellTouches_f_setup (cyB : ClassId) (cyI : ClassId) (cyJ : ClassId) (cyZ : ClassId) (cyO51cc9 : ClassId) (X : va_W) (S : wPS) {A : Nat → Prop} {a k : Nat} (hD : va_D A (X ++ va_pl S.L (wPF cyB cyI cyJ cyZ cyO51cc9 S))) (hL : a ∈ S.L) (h : S.K a = 7) (hk : (X ++ va_pl S.L (wPF cyB cyI cyJ cyZ cyO51cc9 S))[k]? = some (a, wPF cyB cyI cyJ cyZ cyO51cc9 S a)) (v : Option Nat) : (X ++ va_pl S.L (wPF cyB cyI cyJ cyZ cyO51cc9 S)).set k (a, .inr (7, [va_rf v, va_rf (S.O_BellTouches.f_kept a), va_rf (S.O_BellTouches.f_trialSetup a), va_rf (S.O_BellTouches.f_touch a), va_rf (S.O_BellTouches.f_trial a), va_rf (S.O_BellTouches.f_fewest a), va_rf (S.O_BellTouches.f_text a), va_rf (S.O_BellTouches.f_tapes a), .int (S.O_BellTouches.f_hasImage a), .int (S.O_BellTouches.f_stale a)])) = X ++ va_pl S.L (wPF cyB cyI cyJ cyZ cyO51cc9 { S with O_BellTouches := { S.O_BellTouches with f_setup := va_up S.O_BellTouches.f_setup a v } }) := by
  rw [va_pl_set hD hL hk]
  exact congrArg (fun l => X ++ l) (va_pl_congr (wSt_O_BellTouches_f_setup cyB cyI cyJ cyZ cyO51cc9 S h v))
theorem wSt_O_BellTouches_f_kept (cyB : ClassId) (cyI : ClassId) (cyJ : ClassId) (cyZ : ClassId) (cyO51cc9 : ClassId) (S : wPS) {a : Nat} (h : S.K a = 7) (v : Option Nat) (b : Nat) : va_up (wPF cyB cyI cyJ cyZ cyO51cc9 S) a (.inr (7, [va_rf (S.O_BellTouches.f_setup a), va_rf v, va_rf (S.O_BellTouches.f_trialSetup a), va_rf (S.O_BellTouches.f_touch a), va_rf (S.O_BellTouches.f_trial a), va_rf (S.O_BellTouches.f_fewest a), va_rf (S.O_BellTouches.f_text a), va_rf (S.O_BellTouches.f_tapes a), .int (S.O_BellTouches.f_hasImage a), .int (S.O_BellTouches.f_stale a)])) b = wPF cyB cyI cyJ cyZ cyO51cc9 { S with O_BellTouches := { S.O_BellTouches with f_kept := va_up S.O_BellTouches.f_kept a v } } b := by by_cases hb : b = a <;> first | (simp only [wPF, va_up_ne _ _ hb]; done) | (simp only [wPF, va_up, if_neg hb]; done) | simp [wPF, va_re, va_up, va_rf, hb, h]
theorem wPu_O_BellTouches_f_kept (cyB : ClassId) (cyI : ClassId) (cyJ : ClassId) (cyZ : ClassId) (cyO51cc9 : ClassId) (X : va_W) (S : wPS) {A : Nat → Prop} {a k : Nat} (hD : va_D A (X ++ va_pl S.L (wPF cyB cyI cyJ cyZ cyO51cc9 S))) (hL : a ∈ S.L) (h : S.K a = 7) (hk : (X ++ va_pl S.L (wPF cyB cyI cyJ cyZ cyO51cc9 S))[k]? = some (a, wPF cyB cyI cyJ cyZ cyO51cc9 S a)) (v : Option Nat) : (X ++ va_pl S.L (wPF cyB cyI cyJ cyZ cyO51cc9 S)).set k (a, .inr (7, [va_rf (S.O_BellTouches.f_setup a), va_rf v, va_rf (S.O_BellTouches.f_trialSetup a), va_rf (S.O_BellTouches.f_touch a), va_rf (S.O_BellTouches.f_trial a), va_rf (S.O_BellTouches.f_fewest a), va_rf (S.O_BellTouches.f_text a), va_rf (S.O_BellTouches.f_tapes a), .int (S.O_BellTouches.f_hasImage a), .int (S.O_BellTouches.f_stale a)])) = X ++ va_pl S.L (wPF cyB cyI cyJ cyZ cyO51cc9 { S with O_BellTouches := { S.O_BellTouches with f_kept := va_up S.O_BellTouches.f_kept a v } }) := by
  rw [va_pl_set hD hL hk]
  exact congrArg (fun l => X ++ l) (va_pl_congr (wSt_O_BellTouches_f_kept cyB cyI cyJ cyZ cyO51cc9 S h v))
theorem wSt_O_BellTouches_f_trialSetup (cyB : ClassId) (cyI : ClassId) (cyJ : ClassId) (cyZ : ClassId) (cyO51cc9 : ClassId) (S : wPS) {a : Nat} (h : S.K a = 7) (v : Option Nat) (b : Nat) : va_up (wPF cyB cyI cyJ cyZ cyO51cc9 S) a (.inr (7, [va_rf (S.O_BellTouches.f_setup a), va_rf (S.O_BellTouches.f_kept a), va_rf v, va_rf (S.O_BellTouches.f_touch a), va_rf (S.O_BellTouches.f_trial a), va_rf (S.O_BellTouches.f_fewest a), va_rf (S.O_BellTouches.f_text a), va_rf (S.O_BellTouches.f_tapes a), .int (S.O_BellTouches.f_hasImage a), .int (S.O_BellTouches.f_stale a)])) b = wPF cyB cyI cyJ cyZ cyO51cc9 { S with O_BellTouches := { S.O_BellTouches with f_trialSetup := va_up S.O_BellTouches.f_trialSetup a v } } b := by by_cases hb : b = a <;> first | (simp only [wPF, va_up_ne _ _ hb]; done) | (simp only [wPF, va_up, if_neg hb]; done) | simp [wPF, va_re, va_up, va_rf, hb, h]
theorem wPu_O_BellTouches_f_trialSetup (cyB : ClassId) (cyI : ClassId) (cyJ : ClassId) (cyZ : ClassId) (cyO51cc9 : ClassId) (X : va_W) (S : wPS) {A : Nat → Prop} {a k : Nat} (hD : va_D A (X ++ va_pl S.L (wPF cyB cyI cyJ cyZ cyO51cc9 S))) (hL : a ∈ S.L) (h : S.K a = 7) (hk : (X ++ va_pl S.L (wPF cyB cyI cyJ cyZ cyO51cc9 S))[k]? = some (a, wPF cyB cyI cyJ cyZ cyO51cc9 S a)) (v : Option Nat) : (X ++ va_pl S.L (wPF cyB cyI cyJ cyZ cyO51cc9 S)).set k (a, .inr (7, [va_rf (S.O_BellTouches.f_setup a), va_rf (S.O_BellTouches.f_kept a), va_rf v, va_rf (S.O_BellTouches.f_touch a), va_rf (S.O_BellTouches.f_trial a), va_rf (S.O_BellTouches.f_fewest a), va_rf (S.O_BellTouches.f_text a), va_rf (S.O_BellTouches.f_tapes a), .int (S.O_BellTouches.f_hasImage a), .int (S.O_BellTouches.f_stale a)])) = X ++ va_pl S.L (wPF cyB cyI cyJ cyZ cyO51cc9 { S with O_BellTouches := { S.O_BellTouches with f_trialSetup := va_up S.O_BellTouches.f_trialSetup a v } }) := by
  rw [va_pl_set hD hL hk]
  exact congrArg (fun l => X ++ l) (va_pl_congr (wSt_O_BellTouches_f_trialSetup cyB cyI cyJ cyZ cyO51cc9 S h v))
theorem wSt_O_BellTouches_f_touch (cyB : ClassId) (cyI : ClassId) (cyJ : ClassId) (cyZ : ClassId) (cyO51cc9 : ClassId) (S : wPS) {a : Nat} (h : S.K a = 7) (v : Option Nat) (b : Nat) : va_up (wPF cyB cyI cyJ cyZ cyO51cc9 S) a (.inr (7, [va_rf (S.O_BellTouches.f_setup a), va_rf (S.O_BellTouches.f_kept a), va_rf (S.O_BellTouches.f_trialSetup a), va_rf v, va_rf (S.O_BellTouches.f_trial a), va_rf (S.O_BellTouches.f_fewest a), va_rf (S.O_BellTouches.f_text a), va_rf (S.O_BellTouches.f_tapes a), .int (S.O_BellTouches.f_hasImage a), .int (S.O_BellTouches.f_stale a)])) b = wPF cyB cyI cyJ cyZ cyO51cc9 { S with O_BellTouches := { S.O_BellTouches with f_touch := va_up S.O_BellTouches.f_touch a v } } b := by by_cases hb : b = a <;> first | (simp only [wPF, va_up_ne _ _ hb]; done) | (simp only [wPF, va_up, if_neg hb]; done) | simp [wPF, va_re, va_up, va_rf, hb, h]
theorem wPu_O_BellTouches_f_touch (cyB : ClassId) (cyI : ClassId) (cyJ : ClassId) (cyZ : ClassId) (cyO51cc9 : ClassId) (X : va_W) (S : wPS) {A : Nat → Prop} {a k : Nat} (hD : va_D A (X ++ va_pl S.L (wPF cyB cyI cyJ cyZ cyO51cc9 S))) (hL : a ∈ S.L) (h : S.K a = 7) (hk : (X ++ va_pl S.L (wPF cyB cyI cyJ cyZ cyO51cc9 S))[k]? = some (a, wPF cyB cyI cyJ cyZ cyO51cc9 S a)) (v : Option Nat) : (X ++ va_pl S.L (wPF cyB cyI cyJ cyZ cyO51cc9 S)).set k (a, .inr (7, [va_rf (S.O_BellTouches.f_setup a), va_rf (S.O_BellTouches.f_kept a), va_rf (S.O_BellTouches.f_trialSetup a), va_rf v, va_rf (S.O_BellTouches.f_trial a), va_rf (S.O_BellTouches.f_fewest a), va_rf (S.O_BellTouches.f_text a), va_rf (S.O_BellTouches.f_tapes a), .int (S.O_BellTouches.f_hasImage a), .int (S.O_BellTouches.f_stale a)])) = X ++ va_pl S.L (wPF cyB cyI cyJ cyZ cyO51cc9 { S with O_BellTouches := { S.O_BellTouches with f_touch := va_up S.O_BellTouches.f_touch a v } }) := by
  rw [va_pl_set hD hL hk]
  exact congrArg (fun l => X ++ l) (va_pl_congr (wSt_O_BellTouches_f_touch cyB cyI cyJ cyZ cyO51cc9 S h v))
theorem wSt_O_BellTouches_f_trial (cyB : ClassId) (cyI : ClassId) (cyJ : ClassId) (cyZ : ClassId) (cyO51cc9 : ClassId) (S : wPS) {a : Nat} (h : S.K a = 7) (v : Option Nat) (b : Nat) : va_up (wPF cyB cyI cyJ cyZ cyO51cc9 S) a (.inr (7, [va_rf (S.O_BellTouches.f_setup a), va_rf (S.O_BellTouches.f_kept a), va_rf (S.O_BellTouches.f_trialSetup a), va_rf (S.O_BellTouches.f_touch a), va_rf v, va_rf (S.O_BellTouches.f_fewest a), va_rf (S.O_BellTouches.f_text a), va_rf (S.O_BellTouches.f_tapes a), .int (S.O_BellTouches.f_hasImage a), .int (S.O_BellTouches.f_stale a)])) b = wPF cyB cyI cyJ cyZ cyO51cc9 { S with O_BellTouches := { S.O_BellTouches with f_trial := va_up S.O_BellTouches.f_trial a v } } b := by by_cases hb : b = a <;> first | (simp only [wPF, va_up_ne _ _ hb]; done) | (simp only [wPF, va_up, if_neg hb]; done) | simp [wPF, va_re, va_up, va_rf, hb, h]
theorem wPu_O_BellTouches_f_trial (cyB : ClassId) (cyI : ClassId) (cyJ : ClassId) (cyZ : ClassId) (cyO51cc9 : ClassId) (X : va_W) (S : wPS) {A : Nat → Prop} {a k : Nat} (hD : va_D A (X ++ va_pl S.L (wPF cyB cyI cyJ cyZ cyO51cc9 S))) (hL : a ∈ S.L) (h : S.K a = 7) (hk : (X ++ va_pl S.L (wPF cyB cyI cyJ cyZ cyO51cc9 S))[k]? = some (a, wPF cyB cyI cyJ cyZ cyO51cc9 S a)) (v : Option Nat) : (X ++ va_pl S.L (wPF cyB cyI cyJ cyZ cyO51cc9 S)).set k (a, .inr (7, [va_rf (S.O_BellTouches.f_setup a), va_rf (S.O_BellTouches.f_kept a), va_rf (S.O_BellTouches.f_trialSetup a), va_rf (S.O_BellTouches.f_touch a), va_rf v, va_rf (S.O_BellTouches.f_fewest a), va_rf (S.O_BellTouches.f_text a), va_rf (S.O_BellTouches.f_tapes a), .int (S.O_BellTouches.f_hasImage a), .int (S.O_BellTouches.f_stale a)])) = X ++ va_pl S.L (wPF cyB cyI cyJ cyZ cyO51cc9 { S with O_BellTouches := { S.O_BellTouches with f_trial := va_up S.O_BellTouches.f_trial a v } }) := by
  rw [va_pl_set hD hL hk]
  exact congrArg (fun l => X ++ l) (va_pl_congr (wSt_O_BellTouches_f_trial cyB cyI cyJ cyZ cyO51cc9 S h v))
theorem wSt_O_BellTouches_f_fewest (cyB : ClassId) (cyI : ClassId) (cyJ : ClassId) (cyZ : ClassId) (cyO51cc9 : ClassId) (S : wPS) {a : Nat} (h : S.K a = 7) (v : Option Nat) (b : Nat) : va_up (wPF cyB cyI cyJ cyZ cyO51cc9 S) a (.inr (7, [va_rf (S.O_BellTouches.f_setup a), va_rf (S.O_BellTouches.f_kept a), va_rf (S.O_BellTouches.f_trialSetup a), va_rf (S.O_BellTouches.f_touch a), va_rf (S.O_BellTouches.f_trial a), va_rf v, va_rf (S.O_BellTouches.f_text a), va_rf (S.O_BellTouches.f_tapes a), .int (S.O_BellTouches.f_hasImage a), .int (S.O_BellTouches.f_stale a)])) b = wPF cyB cyI cyJ cyZ cyO51cc9 { S with O_BellTouches := { S.O_BellTouches with f_fewest := va_up S.O_BellTouches.f_fewest a v } } b := by by_cases hb : b = a <;> first | (simp only [wPF, va_up_ne _ _ hb]; done) | (simp only [wPF, va_up, if_neg hb]; done) | simp [wPF, va_re, va_up, va_rf, hb, h]
theorem wPu_O_BellTouches_f_fewest (cyB : ClassId) (cyI : ClassId) (cyJ : ClassId) (cyZ : ClassId) (cyO51cc9 : ClassId) (X : va_W) (S : wPS) {A : Nat → Prop} {a k : Nat} (hD : va_D A (X ++ va_pl S.L (wPF cyB cyI cyJ cyZ cyO51cc9 S))) (hL : a ∈ S.L) (h : S.K a = 7) (hk : (X ++ va_pl S.L (wPF cyB cyI cyJ cyZ cyO51cc9 S))[k]? = some (a, wPF cyB cyI cyJ cyZ cyO51cc9 S a)) (v : Option Nat) : (X ++ va_pl S.L (wPF cyB cyI cyJ cyZ cyO51cc9 S)).set k (a, .inr (7, [va_rf (S.O_BellTouches.f_setup a), va_rf (S.O_BellTouches.f_kept a), va_rf (S.O_BellTouches.f_trialSetup a), va_rf (S.O_BellTouches.f_touch a), va_rf (S.O_BellTouches.f_trial a), va_rf v, va_rf (S.O_BellTouches.f_text a), va_rf (S.O_BellTouches.f_tapes a), .int (S.O_BellTouches.f_hasImage a), .int (S.O_BellTouches.f_stale a)])) = X ++ va_pl S.L (wPF cyB cyI cyJ cyZ cyO51cc9 { S with O_BellTouches := { S.O_BellTouches with f_fewest := va_up S.O_BellTouches.f_fewest a v } }) := by
  rw [va_pl_set hD hL hk]
  exact congrArg (fun l => X ++ l) (va_pl_congr (wSt_O_BellTouches_f_fewest cyB cyI cyJ cyZ cyO51cc9 S h v))
theorem wSt_O_BellTouches_f_text (cyB : ClassId) (cyI : ClassId) (cyJ : ClassId) (cyZ : ClassId) (cyO51cc9 : ClassId) (S : wPS) {a : Nat} (h : S.K a = 7) (v : Option Nat) (b : Nat) : va_up (wPF cyB cyI cyJ cyZ cyO51cc9 S) a (.inr (7, [va_rf (S.O_BellTouches.f_setup a), va_rf (S.O_BellTouches.f_kept a), va_rf (S.O_BellTouches.f_trialSetup a), va_rf (S.O_BellTouches.f_touch a), va_rf (S.O_BellTouches.f_trial a), va_rf (S.O_BellTouches.f_fewest a), va_rf v, va_rf (S.O_BellTouches.f_tapes a), .int (S.O_BellTouches.f_hasImage a), .int (S.O_BellTouches.f_stale a)])) b = wPF cyB cyI cyJ cyZ cyO51cc9 { S with O_BellTouches := { S.O_BellTouches with f_text := va_up S.O_BellTouches.f_text a v } } b := by by_cases hb : b = a <;> first | (simp only [wPF, va_up_ne _ _ hb]; done) | (simp only [wPF, va_up, if_neg hb]; done) | simp [wPF, va_re, va_up, va_rf, hb, h]
theorem wPu_O_BellTouches_f_text (cyB : ClassId) (cyI : ClassId) (cyJ : ClassId) (cyZ : ClassId) (cyO51cc9 : ClassId) (X : va_W) (S : wPS) {A : Nat → Prop} {a k : Nat} (hD : va_D A (X ++ va_pl S.L (wPF cyB cyI cyJ cyZ cyO51cc9 S))) (hL : a ∈ S.L) (h : S.K a = 7) (hk : (X ++ va_pl S.L (wPF cyB cyI cyJ cyZ cyO51cc9 S))[k]? = some (a, wPF cyB cyI cyJ cyZ cyO51cc9 S a)) (v : Option Nat) : (X ++ va_pl S.L (wPF cyB cyI cyJ cyZ cyO51cc9 S)).set k (a, .inr (7, [va_rf (S.O_BellTouches.f_setup a), va_rf (S.O_BellTouches.f_kept a), va_rf (S.O_BellTouches.f_trialSetup a), va_rf (S.O_BellTouches.f_touch a), va_rf (S.O_BellTouches.f_trial a), va_rf (S.O_BellTouches.f_fewest a), va_rf v, va_rf (S.O_BellTouches.f_tapes a), .int (S.O_BellTouches.f_hasImage a), .int (S.O_BellTouches.f_stale a)])) = X ++ va_pl S.L (wPF cyB cyI cyJ cyZ cyO51cc9 { S with O_BellTouches := { S.O_BellTouches with f_text := va_up S.O_BellTouches.f_text a v } }) := by
  rw [va_pl_set hD hL hk]
  exact congrArg (fun l => X ++ l) (va_pl_congr (wSt_O_BellTouches_f_text cyB cyI cyJ cyZ cyO51cc9 S h v))
theorem wSt_O_BellTouches_f_tapes (cyB : ClassId) (cyI : ClassId) (cyJ : ClassId) (cyZ : ClassId) (cyO51cc9 : ClassId) (S : wPS) {a : Nat} (h : S.K a = 7) (v : Option Nat) (b : Nat) : va_up (wPF cyB cyI cyJ cyZ cyO51cc9 S) a (.inr (7, [va_rf (S.O_BellTouches.f_setup a), va_rf (S.O_BellTouches.f_kept a), va_rf (S.O_BellTouches.f_trialSetup a), va_rf (S.O_BellTouches.f_touch a), va_rf (S.O_BellTouches.f_trial a), va_rf (S.O_BellTouches.f_fewest a), va_rf (S.O_BellTouches.f_text a), va_rf v, .int (S.O_BellTouches.f_hasImage a), .int (S.O_BellTouches.f_stale a)])) b = wPF cyB cyI cyJ cyZ cyO51cc9 { S with O_BellTouches := { S.O_BellTouches with f_tapes := va_up S.O_BellTouches.f_tapes a v } } b := by by_cases hb : b = a <;> first | (simp only [wPF, va_up_ne _ _ hb]; done) | (simp only [wPF, va_up, if_neg hb]; done) | simp [wPF, va_re, va_up, va_rf, hb, h]
theorem wPu_O_BellTouches_f_tapes (cyB : ClassId) (cyI : ClassId) (cyJ : ClassId) (cyZ : ClassId) (cyO51cc9 : ClassId) (X : va_W) (S : wPS) {A : Nat → Prop} {a k : Nat} (hD : va_D A (X ++ va_pl S.L (wPF cyB cyI cyJ cyZ cyO51cc9 S))) (hL : a ∈ S.L) (h : S.K a = 7) (hk : (X ++ va_pl S.L (wPF cyB cyI cyJ cyZ cyO51cc9 S))[k]? = some (a, wPF cyB cyI cyJ cyZ cyO51cc9 S a)) (v : Option Nat) : (X ++ va_pl S.L (wPF cyB cyI cyJ cyZ cyO51cc9 S)).set k (a, .inr (7, [va_rf (S.O_BellTouches.f_setup a), va_rf (S.O_BellTouches.f_kept a), va_rf (S.O_BellTouches.f_trialSetup a), va_rf (S.O_BellTouches.f_touch a), va_rf (S.O_BellTouches.f_trial a), va_rf (S.O_BellTouches.f_fewest a), va_rf (S.O_BellTouches.f_text a), va_rf v, .int (S.O_BellTouches.f_hasImage a), .int (S.O_BellTouches.f_stale a)])) = X ++ va_pl S.L (wPF cyB cyI cyJ cyZ cyO51cc9 { S with O_BellTouches := { S.O_BellTouches with f_tapes := va_up S.O_BellTouches.f_tapes a v } }) := by
  rw [va_pl_set hD hL hk]
  exact congrArg (fun l => X ++ l) (va_pl_congr (wSt_O_BellTouches_f_tapes cyB cyI cyJ cyZ cyO51cc9 S h v))
theorem wSt_O_BellTouches_f_hasImage (cyB : ClassId) (cyI : ClassId) (cyJ : ClassId) (cyZ : ClassId) (cyO51cc9 : ClassId) (S : wPS) {a : Nat} (h : S.K a = 7) (v : Int32) (b : Nat) : va_up (wPF cyB cyI cyJ cyZ cyO51cc9 S) a (.inr (7, [va_rf (S.O_BellTouches.f_setup a), va_rf (S.O_BellTouches.f_kept a), va_rf (S.O_BellTouches.f_trialSetup a), va_rf (S.O_BellTouches.f_touch a), va_rf (S.O_BellTouches.f_trial a), va_rf (S.O_BellTouches.f_fewest a), va_rf (S.O_BellTouches.f_text a), va_rf (S.O_BellTouches.f_tapes a), .int v, .int (S.O_BellTouches.f_stale a)])) b = wPF cyB cyI cyJ cyZ cyO51cc9 { S with O_BellTouches := { S.O_BellTouches with f_hasImage := va_up S.O_BellTouches.f_hasImage a v } } b := by by_cases hb : b = a <;> first | (simp only [wPF, va_up_ne _ _ hb]; done) | (simp only [wPF, va_up, if_neg hb]; done) | simp [wPF, va_re, va_up, va_rf, hb, h]
theorem wPu_O_BellTouches_f_hasImage (cyB : ClassId) (cyI : ClassId) (cyJ : ClassId) (cyZ : ClassId) (cyO51cc9 : ClassId) (X : va_W) (S : wPS) {A : Nat → Prop} {a k : Nat} (hD : va_D A (X ++ va_pl S.L (wPF cyB cyI cyJ cyZ cyO51cc9 S))) (hL : a ∈ S.L) (h : S.K a = 7) (hk : (X ++ va_pl S.L (wPF cyB cyI cyJ cyZ cyO51cc9 S))[k]? = some (a, wPF cyB cyI cyJ cyZ cyO51cc9 S a)) (v : Int32) : (X ++ va_pl S.L (wPF cyB cyI cyJ cyZ cyO51cc9 S)).set k (a, .inr (7, [va_rf (S.O_BellTouches.f_setup a), va_rf (S.O_BellTouches.f_kept a), va_rf (S.O_BellTouches.f_trialSetup a), va_rf (S.O_BellTouches.f_touch a), va_rf (S.O_BellTouches.f_trial a), va_rf (S.O_BellTouches.f_fewest a), va_rf (S.O_BellTouches.f_text a), va_rf (S.O_BellTouches.f_tapes a), .int v, .int (S.O_BellTouches.f_stale a)])) = X ++ va_pl S.L (wPF cyB cyI cyJ cyZ cyO51cc9 { S with O_BellTouches := { S.O_BellTouches with f_hasImage := va_up S.O_BellTouches.f_hasImage a v } }) := by
  rw [va_pl_set hD hL hk]
  exact congrArg (fun l => X ++ l) (va_pl_congr (wSt_O_BellTouches_f_hasImage cyB cyI cyJ cyZ cyO51cc9 S h v))
theorem wSt_O_BellTouches_f_stale (cyB : ClassId) (cyI : ClassId) (cyJ : ClassId) (cyZ : ClassId) (cyO51cc9 : ClassId) (S : wPS) {a : Nat} (h : S.K a = 7) (v : Int32) (b : Nat) : va_up (wPF cyB cyI cyJ cyZ cyO51cc9 S) a (.inr (7, [va_rf (S.O_BellTouches.f_setup a), va_rf (S.O_BellTouches.f_kept a), va_rf (S.O_BellTouches.f_trialSetup a), va_rf (S.O_BellTouches.f_touch a), va_rf (S.O_BellTouches.f_trial a), va_rf (S.O_BellTouches.f_fewest a), va_rf (S.O_BellTouches.f_text a), va_rf (S.O_BellTouches.f_tapes a), .int (S.O_BellTouches.f_hasImage a), .int v])) b = wPF cyB cyI cyJ cyZ cyO51cc9 { S with O_BellTouches := { S.O_BellTouches with f_stale := va_up S.O_BellTouches.f_stale a v } } b := by by_cases hb : b = a <;> first | (simp only [wPF, va_up_ne _ _ hb]; done) | (simp only [wPF, va_up, if_neg hb]; done) | simp [wPF, va_re, va_up, va_rf, hb, h]
theorem wPu_O_BellTouches_f_stale (cyB : ClassId) (cyI : ClassId) (cyJ : ClassId) (cyZ : ClassId) (cyO51cc9 : ClassId) (X : va_W) (S : wPS) {A : Nat → Prop} {a k : Nat} (hD : va_D A (X ++ va_pl S.L (wPF cyB cyI cyJ cyZ cyO51cc9 S))) (hL : a ∈ S.L) (h : S.K a = 7) (hk : (X ++ va_pl S.L (wPF cyB cyI cyJ cyZ cyO51cc9 S))[k]? = some (a, wPF cyB cyI cyJ cyZ cyO51cc9 S a)) (v : Int32) : (X ++ va_pl S.L (wPF cyB cyI cyJ cyZ cyO51cc9 S)).set k (a, .inr (7, [va_rf (S.O_BellTouches.f_setup a), va_rf (S.O_BellTouches.f_kept a), va_rf (S.O_BellTouches.f_trialSetup a), va_rf (S.O_BellTouches.f_touch a), va_rf (S.O_BellTouches.f_trial a), va_rf (S.O_BellTouches.f_fewest a), va_rf (S.O_BellTouches.f_text a), va_rf (S.O_BellTouches.f_tapes a), .int (S.O_BellTouches.f_hasImage a), .int v])) = X ++ va_pl S.L (wPF cyB cyI cyJ cyZ cyO51cc9 { S with O_BellTouches := { S.O_BellTouches with f_stale := va_up S.O_BellTouches.f_stale a v } }) := by
  rw [va_pl_set hD hL hk]
  exact congrArg (fun l => X ++ l) (va_pl_congr (wSt_O_BellTouches_f_stale cyB cyI cyJ cyZ cyO51cc9 S h v))
theorem wNw_O_BellTouches (cyB : ClassId) (cyI : ClassId) (cyJ : ClassId) (cyZ : ClassId) (cyO51cc9 : ClassId) (S : wPS) (a b : Nat) : va_up (wPF cyB cyI cyJ cyZ cyO51cc9 S) a (.inr (7, [.null, .null, .null, .null, .null, .null, .null, .null, .int 0, .int 0])) b = wPF cyB cyI cyJ cyZ cyO51cc9 { S with L := S.L ++ [a], K := va_up S.K a 7, O_BellTouches := { f_setup := va_up S.O_BellTouches.f_setup a none, f_kept := va_up S.O_BellTouches.f_kept a none, f_trialSetup := va_up S.O_BellTouches.f_trialSetup a none, f_touch := va_up S.O_BellTouches.f_touch a none, f_trial := va_up S.O_BellTouches.f_trial a none, f_fewest := va_up S.O_BellTouches.f_fewest a none, f_text := va_up S.O_BellTouches.f_text a none, f_tapes := va_up S.O_BellTouches.f_tapes a none, f_hasImage := va_up S.O_BellTouches.f_hasImage a 0, f_stale := va_up S.O_BellTouches.f_stale a 0 } } b := by by_cases hb : b = a <;> first | (simp only [wPF, va_up_ne _ _ hb]; done) | (simp only [wPF, va_up, if_neg hb]; done) | simp [wPF, va_re, va_up, va_rf, hb]
theorem wPn_O_BellTouches (cyB : ClassId) (cyI : ClassId) (cyJ : ClassId) (cyZ : ClassId) (cyO51cc9 : ClassId) (X : va_W) (S : wPS) {a : Nat} (ha : a ∉ S.L) : (X ++ va_pl S.L (wPF cyB cyI cyJ cyZ cyO51cc9 S)) ++ [(a, .inr (7, [.null, .null, .null, .null, .null, .null, .null, .null, .int 0, .int 0]))] = X ++ va_pl (S.L ++ [a]) (wPF cyB cyI cyJ cyZ cyO51cc9 { S with L := S.L ++ [a], K := va_up S.K a 7, O_BellTouches := { f_setup := va_up S.O_BellTouches.f_setup a none, f_kept := va_up S.O_BellTouches.f_kept a none, f_trialSetup := va_up S.O_BellTouches.f_trialSetup a none, f_touch := va_up S.O_BellTouches.f_touch a none, f_trial := va_up S.O_BellTouches.f_trial a none, f_fewest := va_up S.O_BellTouches.f_fewest a none, f_text := va_up S.O_BellTouches.f_text a none, f_tapes := va_up S.O_BellTouches.f_tapes a none, f_hasImage := va_up S.O_BellTouches.f_hasImage a 0, f_stale := va_up S.O_BellTouches.f_stale a 0 } }) := by
  rw [List.append_assoc, va_pl_push ha]
  exact congrArg (fun l => X ++ l) (va_pl_congr (wNw_O_BellTouches cyB cyI cyJ cyZ cyO51cc9 S a))
theorem wAt_O_BellTouchesModel (cyB : ClassId) (cyI : ClassId) (cyJ : ClassId) (cyZ : ClassId) (cyO51cc9 : ClassId) (S : wPS) {a : Nat} (h : S.K a = 8) : wPF cyB cyI cyJ cyZ cyO51cc9 S a = .inr (8, [va_rf (S.O_BellTouchesModel.f_now a), va_rf (S.O_BellTouchesModel.f_old a), .int (S.O_BellTouchesModel.f_imaged a), .int (S.O_BellTouchesModel.f_last a), va_rf (S.O_BellTouchesModel.f_bell a), va_rf (S.O_BellTouchesModel.f_key a), .int (S.O_BellTouchesModel.f_texts a), va_rf (S.O_BellTouchesModel.f_text a), .int (S.O_BellTouchesModel.f_at a), .int (S.O_BellTouchesModel.f_fault a), .int (S.O_BellTouchesModel.f_clauses a), va_rf (S.O_BellTouchesModel.f_clause a), va_rf (S.O_BellTouchesModel.f_from a), va_rf (S.O_BellTouchesModel.f_many a), .int (S.O_BellTouchesModel.f_numbers a), va_rf (S.O_BellTouchesModel.f_number a), va_rf (S.O_BellTouchesModel.f_sort a), va_rf (S.O_BellTouchesModel.f_long1 a), va_rf (S.O_BellTouchesModel.f_items a), va_rf (S.O_BellTouchesModel.f_moved a)]) := by simp [wPF, h]
theorem wGt_O_BellTouchesModel (cyB : ClassId) (cyI : ClassId) (cyJ : ClassId) (cyZ : ClassId) (cyO51cc9 : ClassId) (X : va_W) (S : wPS) {a : Nat} (hL : a ∈ S.L) (h : S.K a = 8) : ∃ k : Nat, (X ++ va_pl S.L (wPF cyB cyI cyJ cyZ cyO51cc9 S))[k]? = some (a, wPF cyB cyI cyJ cyZ cyO51cc9 S a) ∧ (X ++ va_pl S.L (wPF cyB cyI cyJ cyZ cyO51cc9 S))[k]? = some (a, .inr (8, [va_rf (S.O_BellTouchesModel.f_now a), va_rf (S.O_BellTouchesModel.f_old a), .int (S.O_BellTouchesModel.f_imaged a), .int (S.O_BellTouchesModel.f_last a), va_rf (S.O_BellTouchesModel.f_bell a), va_rf (S.O_BellTouchesModel.f_key a), .int (S.O_BellTouchesModel.f_texts a), va_rf (S.O_BellTouchesModel.f_text a), .int (S.O_BellTouchesModel.f_at a), .int (S.O_BellTouchesModel.f_fault a), .int (S.O_BellTouchesModel.f_clauses a), va_rf (S.O_BellTouchesModel.f_clause a), va_rf (S.O_BellTouchesModel.f_from a), va_rf (S.O_BellTouchesModel.f_many a), .int (S.O_BellTouchesModel.f_numbers a), va_rf (S.O_BellTouchesModel.f_number a), va_rf (S.O_BellTouchesModel.f_sort a), va_rf (S.O_BellTouchesModel.f_long1 a), va_rf (S.O_BellTouchesModel.f_items a), va_rf (S.O_BellTouchesModel.f_moved a)])) := by
  obtain ⟨k, hk⟩ := va_pl_get (X := X) (f := wPF cyB cyI cyJ cyZ cyO51cc9 S) hL
  exact ⟨k, hk, hk.trans (congrArg (fun e => some (a, e)) (wAt_O_BellTouchesModel cyB cyI cyJ cyZ cyO51cc9 S h))⟩
theorem wSt_O_BellTouchesModel_f_now (cyB : ClassId) (cyI : ClassId) (cyJ : ClassId) (cyZ : ClassId) (cyO51cc9 : ClassId) (S : wPS) {a : Nat} (h : S.K a = 8) (v : Option Nat) (b : Nat) : va_up (wPF cyB cyI cyJ cyZ cyO51cc9 S) a (.inr (8, [va_rf v, va_rf (S.O_BellTouchesModel.f_old a), .int (S.O_BellTouchesModel.f_imaged a), .int (S.O_BellTouchesModel.f_last a), va_rf (S.O_BellTouchesModel.f_bell a), va_rf (S.O_BellTouchesModel.f_key a), .int (S.O_BellTouchesModel.f_texts a), va_rf (S.O_BellTouchesModel.f_text a), .int (S.O_BellTouchesModel.f_at a), .int (S.O_BellTouchesModel.f_fault a), .int (S.O_BellTouchesModel.f_clauses a), va_rf (S.O_BellTouchesModel.f_clause a), va_rf (S.O_BellTouchesModel.f_from a), va_rf (S.O_BellTouchesModel.f_many a), .int (S.O_BellTouchesModel.f_numbers a), va_rf (S.O_BellTouchesModel.f_number a), va_rf (S.O_BellTouchesModel.f_sort a), va_rf (S.O_BellTouchesModel.f_long1 a), va_rf (S.O_BellTouchesModel.f_items a), va_rf (S.O_BellTouchesModel.f_moved a)])) b = wPF cyB cyI cyJ cyZ cyO51cc9 { S with O_BellTouchesModel := { S.O_BellTouchesModel with f_now := va_up S.O_BellTouchesModel.f_now a v } } b := by by_cases hb : b = a <;> first | (simp only [wPF, va_up_ne _ _ hb]; done) | (simp only [wPF, va_up, if_neg hb]; done) | simp [wPF, va_re, va_up, va_rf, hb, h]
theorem wPu_O_BellTouchesModel_f_now (cyB : ClassId) (cyI : ClassId) (cyJ : ClassId) (cyZ : ClassId) (cyO51cc9 : ClassId) (X : va_W) (S : wPS) {A : Nat → Prop} {a k : Nat} (hD : va_D A (X ++ va_pl S.L (wPF cyB cyI cyJ cyZ cyO51cc9 S))) (hL : a ∈ S.L) (h : S.K a = 8) (hk : (X ++ va_pl S.L (wPF cyB cyI cyJ cyZ cyO51cc9 S))[k]? = some (a, wPF cyB cyI cyJ cyZ cyO51cc9 S a)) (v : Option Nat) : (X ++ va_pl S.L (wPF cyB cyI cyJ cyZ cyO51cc9 S)).set k (a, .inr (8, [va_rf v, va_rf (S.O_BellTouchesModel.f_old a), .int (S.O_BellTouchesModel.f_imaged a), .int (S.O_BellTouchesModel.f_last a), va_rf (S.O_BellTouchesModel.f_bell a), va_rf (S.O_BellTouchesModel.f_key a), .int (S.O_BellTouchesModel.f_texts a), va_rf (S.O_BellTouchesModel.f_text a), .int (S.O_BellTouchesModel.f_at a), .int (S.O_BellTouchesModel.f_fault a), .int (S.O_BellTouchesModel.f_clauses a), va_rf (S.O_BellTouchesModel.f_clause a), va_rf (S.O_BellTouchesModel.f_from a), va_rf (S.O_BellTouchesModel.f_many a), .int (S.O_BellTouchesModel.f_numbers a), va_rf (S.O_BellTouchesModel.f_number a), va_rf (S.O_BellTouchesModel.f_sort a), va_rf (S.O_BellTouchesModel.f_long1 a), va_rf (S.O_BellTouchesModel.f_items a), va_rf (S.O_BellTouchesModel.f_moved a)])) = X ++ va_pl S.L (wPF cyB cyI cyJ cyZ cyO51cc9 { S with O_BellTouchesModel := { S.O_BellTouchesModel with f_now := va_up S.O_BellTouchesModel.f_now a v } }) := by
  rw [va_pl_set hD hL hk]
  exact congrArg (fun l => X ++ l) (va_pl_congr (wSt_O_BellTouchesModel_f_now cyB cyI cyJ cyZ cyO51cc9 S h v))
theorem wSt_O_BellTouchesModel_f_old (cyB : ClassId) (cyI : ClassId) (cyJ : ClassId) (cyZ : ClassId) (cyO51cc9 : ClassId) (S : wPS) {a : Nat} (h : S.K a = 8) (v : Option Nat) (b : Nat) : va_up (wPF cyB cyI cyJ cyZ cyO51cc9 S) a (.inr (8, [va_rf (S.O_BellTouchesModel.f_now a), va_rf v, .int (S.O_BellTouchesModel.f_imaged a), .int (S.O_BellTouchesModel.f_last a), va_rf (S.O_BellTouchesModel.f_bell a), va_rf (S.O_BellTouchesModel.f_key a), .int (S.O_BellTouchesModel.f_texts a), va_rf (S.O_BellTouchesModel.f_text a), .int (S.O_BellTouchesModel.f_at a), .int (S.O_BellTouchesModel.f_fault a), .int (S.O_BellTouchesModel.f_clauses a), va_rf (S.O_BellTouchesModel.f_clause a), va_rf (S.O_BellTouchesModel.f_from a), va_rf (S.O_BellTouchesModel.f_many a), .int (S.O_BellTouchesModel.f_numbers a), va_rf (S.O_BellTouchesModel.f_number a), va_rf (S.O_BellTouchesModel.f_sort a), va_rf (S.O_BellTouchesModel.f_long1 a), va_rf (S.O_BellTouchesModel.f_items a), va_rf (S.O_BellTouchesModel.f_moved a)])) b = wPF cyB cyI cyJ cyZ cyO51cc9 { S with O_BellTouchesModel := { S.O_BellTouchesModel with f_old := va_up S.O_BellTouchesModel.f_old a v } } b := by by_cases hb : b = a <;> first | (simp only [wPF, va_up_ne _ _ hb]; done) | (simp only [wPF, va_up, if_neg hb]; done) | simp [wPF, va_re, va_up, va_rf, hb, h]
theorem wPu_O_BellTouchesModel_f_old (cyB : ClassId) (cyI : ClassId) (cyJ : ClassId) (cyZ : ClassId) (cyO51cc9 : ClassId) (X : va_W) (S : wPS) {A : Nat → Prop} {a k : Nat} (hD : va_D A (X ++ va_pl S.L (wPF cyB cyI cyJ cyZ cyO51cc9 S))) (hL : a ∈ S.L) (h : S.K a = 8) (hk : (X ++ va_pl S.L (wPF cyB cyI cyJ cyZ cyO51cc9 S))[k]? = some (a, wPF cyB cyI cyJ cyZ cyO51cc9 S a)) (v : Option Nat) : (X ++ va_pl S.L (wPF cyB cyI cyJ cyZ cyO51cc9 S)).set k (a, .inr (8, [va_rf (S.O_BellTouchesModel.f_now a), va_rf v, .int (S.O_BellTouchesModel.f_imaged a), .int (S.O_BellTouchesModel.f_last a), va_rf (S.O_BellTouchesModel.f_bell a), va_rf (S.O_BellTouchesModel.f_key a), .int (S.O_BellTouchesModel.f_texts a), va_rf (S.O_BellTouchesModel.f_text a), .int (S.O_BellTouchesModel.f_at a), .int (S.O_BellTouchesModel.f_fault a), .int (S.O_BellTouchesModel.f_clauses a), va_rf (S.O_BellTouchesModel.f_clause a), va_rf (S.O_BellTouchesModel.f_from a), va_rf (S.O_BellTouchesModel.f_many a), .int (S.O_BellTouchesModel.f_numbers a), va_rf (S.O_BellTouchesModel.f_number a), va_rf (S.O_BellTouchesModel.f_sort a), va_rf (S.O_BellTouchesModel.f_long1 a), va_rf (S.O_BellTouchesModel.f_items a), va_rf (S.O_BellTouchesModel.f_moved a)])) = X ++ va_pl S.L (wPF cyB cyI cyJ cyZ cyO51cc9 { S with O_BellTouchesModel := { S.O_BellTouchesModel with f_old := va_up S.O_BellTouchesModel.f_old a v } }) := by
  rw [va_pl_set hD hL hk]
  exact congrArg (fun l => X ++ l) (va_pl_congr (wSt_O_BellTouchesModel_f_old cyB cyI cyJ cyZ cyO51cc9 S h v))
theorem wSt_O_BellTouchesModel_f_imaged (cyB : ClassId) (cyI : ClassId) (cyJ : ClassId) (cyZ : ClassId) (cyO51cc9 : ClassId) (S : wPS) {a : Nat} (h : S.K a = 8) (v : Int32) (b : Nat) : va_up (wPF cyB cyI cyJ cyZ cyO51cc9 S) a (.inr (8, [va_rf (S.O_BellTouchesModel.f_now a), va_rf (S.O_BellTouchesModel.f_old a), .int v, .int (S.O_BellTouchesModel.f_last a), va_rf (S.O_BellTouchesModel.f_bell a), va_rf (S.O_BellTouchesModel.f_key a), .int (S.O_BellTouchesModel.f_texts a), va_rf (S.O_BellTouchesModel.f_text a), .int (S.O_BellTouchesModel.f_at a), .int (S.O_BellTouchesModel.f_fault a), .int (S.O_BellTouchesModel.f_clauses a), va_rf (S.O_BellTouchesModel.f_clause a), va_rf (S.O_BellTouchesModel.f_from a), va_rf (S.O_BellTouchesModel.f_many a), .int (S.O_BellTouchesModel.f_numbers a), va_rf (S.O_BellTouchesModel.f_number a), va_rf (S.O_BellTouchesModel.f_sort a), va_rf (S.O_BellTouchesModel.f_long1 a), va_rf (S.O_BellTouchesModel.f_items a), va_rf (S.O_BellTouchesModel.f_moved a)])) b = wPF cyB cyI cyJ cyZ cyO51cc9 { S with O_BellTouchesModel := { S.O_BellTouchesModel with f_imaged := va_up S.O_BellTouchesModel.f_imaged a v } } b := by by_cases hb : b = a <;> first | (simp only [wPF, va_up_ne _ _ hb]; done) | (simp only [wPF, va_up, if_neg hb]; done) | simp [wPF, va_re, va_up, va_rf, hb, h]
theorem wPu_O_BellTouchesModel_f_imaged (cyB : ClassId) (cyI : ClassId) (cyJ : ClassId) (cyZ : ClassId) (cyO51cc9 : ClassId) (X : va_W) (S : wPS) {A : Nat → Prop} {a k : Nat} (hD : va_D A (X ++ va_pl S.L (wPF cyB cyI cyJ cyZ cyO51cc9 S))) (hL : a ∈ S.L) (h : S.K a = 8) (hk : (X ++ va_pl S.L (wPF cyB cyI cyJ cyZ cyO51cc9 S))[k]? = some (a, wPF cyB cyI cyJ cyZ cyO51cc9 S a)) (v : Int32) : (X ++ va_pl S.L (wPF cyB cyI cyJ cyZ cyO51cc9 S)).set k (a, .inr (8, [va_rf (S.O_BellTouchesModel.f_now a), va_rf (S.O_BellTouchesModel.f_old a), .int v, .int (S.O_BellTouchesModel.f_last a), va_rf (S.O_BellTouchesModel.f_bell a), va_rf (S.O_BellTouchesModel.f_key a), .int (S.O_BellTouchesModel.f_texts a), va_rf (S.O_BellTouchesModel.f_text a), .int (S.O_BellTouchesModel.f_at a), .int (S.O_BellTouchesModel.f_fault a), .int (S.O_BellTouchesModel.f_clauses a), va_rf (S.O_BellTouchesModel.f_clause a), va_rf (S.O_BellTouchesModel.f_from a), va_rf (S.O_BellTouchesModel.f_many a), .int (S.O_BellTouchesModel.f_numbers a), va_rf (S.O_BellTouchesModel.f_number a), va_rf (S.O_BellTouchesModel.f_sort a), va_rf (S.O_BellTouchesModel.f_long1 a), va_rf (S.O_BellTouchesModel.f_items a), va_rf (S.O_BellTouchesModel.f_moved a)])) = X ++ va_pl S.L (wPF cyB cyI cyJ cyZ cyO51cc9 { S with O_BellTouchesModel := { S.O_BellTouchesModel with f_imaged := va_up S.O_BellTouchesModel.f_imaged a v } }) := by
  rw [va_pl_set hD hL hk]
  exact congrArg (fun l => X ++ l) (va_pl_congr (wSt_O_BellTouchesModel_f_imaged cyB cyI cyJ cyZ cyO51cc9 S h v))
theorem wSt_O_BellTouchesModel_f_last (cyB : ClassId) (cyI : ClassId) (cyJ : ClassId) (cyZ : ClassId) (cyO51cc9 : ClassId) (S : wPS) {a : Nat} (h : S.K a = 8) (v : Int32) (b : Nat) : va_up (wPF cyB cyI cyJ cyZ cyO51cc9 S) a (.inr (8, [va_rf (S.O_BellTouchesModel.f_now a), va_rf (S.O_BellTouchesModel.f_old a), .int (S.O_BellTouchesModel.f_imaged a), .int v, va_rf (S.O_BellTouchesModel.f_bell a), va_rf (S.O_BellTouchesModel.f_key a), .int (S.O_BellTouchesModel.f_texts a), va_rf (S.O_BellTouchesModel.f_text a), .int (S.O_BellTouchesModel.f_at a), .int (S.O_BellTouchesModel.f_fault a), .int (S.O_BellTouchesModel.f_clauses a), va_rf (S.O_BellTouchesModel.f_clause a), va_rf (S.O_BellTouchesModel.f_from a), va_rf (S.O_BellTouchesModel.f_many a), .int (S.O_BellTouchesModel.f_numbers a), va_rf (S.O_BellTouchesModel.f_number a), va_rf (S.O_BellTouchesModel.f_sort a), va_rf (S.O_BellTouchesModel.f_long1 a), va_rf (S.O_BellTouchesModel.f_items a), va_rf (S.O_BellTouchesModel.f_moved a)])) b = wPF cyB cyI cyJ cyZ cyO51cc9 { S with O_BellTouchesModel := { S.O_BellTouchesModel with f_last := va_up S.O_BellTouchesModel.f_last a v } } b := by by_cases hb : b = a <;> first | (simp only [wPF, va_up_ne _ _ hb]; done) | (simp only [wPF, va_up, if_neg hb]; done) | simp [wPF, va_re, va_up, va_rf, hb, h]
theorem wPu_O_BellTouchesModel_f_last (cyB : ClassId) (cyI : ClassId) (cyJ : ClassId) (cyZ : ClassId) (cyO51cc9 : ClassId) (X : va_W) (S : wPS) {A : Nat → Prop} {a k : Nat} (hD : va_D A (X ++ va_pl S.L (wPF cyB cyI cyJ cyZ cyO51cc9 S))) (hL : a ∈ S.L) (h : S.K a = 8) (hk : (X ++ va_pl S.L (wPF cyB cyI cyJ cyZ cyO51cc9 S))[k]? = some (a, wPF cyB cyI cyJ cyZ cyO51cc9 S a)) (v : Int32) : (X ++ va_pl S.L (wPF cyB cyI cyJ cyZ cyO51cc9 S)).set k (a, .inr (8, [va_rf (S.O_BellTouchesModel.f_now a), va_rf (S.O_BellTouchesModel.f_old a), .int (S.O_BellTouchesModel.f_imaged a), .int v, va_rf (S.O_BellTouchesModel.f_bell a), va_rf (S.O_BellTouchesModel.f_key a), .int (S.O_BellTouchesModel.f_texts a), va_rf (S.O_BellTouchesModel.f_text a), .int (S.O_BellTouchesModel.f_at a), .int (S.O_BellTouchesModel.f_fault a), .int (S.O_BellTouchesModel.f_clauses a), va_rf (S.O_BellTouchesModel.f_clause a), va_rf (S.O_BellTouchesModel.f_from a), va_rf (S.O_BellTouchesModel.f_many a), .int (S.O_BellTouchesModel.f_numbers a), va_rf (S.O_BellTouchesModel.f_number a), va_rf (S.O_BellTouchesModel.f_sort a), va_rf (S.O_BellTouchesModel.f_long1 a), va_rf (S.O_BellTouchesModel.f_items a), va_rf (S.O_BellTouchesModel.f_moved a)])) = X ++ va_pl S.L (wPF cyB cyI cyJ cyZ cyO51cc9 { S with O_BellTouchesModel := { S.O_BellTouchesModel with f_last := va_up S.O_BellTouchesModel.f_last a v } }) := by
  rw [va_pl_set hD hL hk]
  exact congrArg (fun l => X ++ l) (va_pl_congr (wSt_O_BellTouchesModel_f_last cyB cyI cyJ cyZ cyO51cc9 S h v))
theorem wSt_O_BellTouchesModel_f_bell (cyB : ClassId) (cyI : ClassId) (cyJ : ClassId) (cyZ : ClassId) (cyO51cc9 : ClassId) (S : wPS) {a : Nat} (h : S.K a = 8) (v : Option Nat) (b : Nat) : va_up (wPF cyB cyI cyJ cyZ cyO51cc9 S) a (.inr (8, [va_rf (S.O_BellTouchesModel.f_now a), va_rf (S.O_BellTouchesModel.f_old a), .int (S.O_BellTouchesModel.f_imaged a), .int (S.O_BellTouchesModel.f_last a), va_rf v, va_rf (S.O_BellTouchesModel.f_key a), .int (S.O_BellTouchesModel.f_texts a), va_rf (S.O_BellTouchesModel.f_text a), .int (S.O_BellTouchesModel.f_at a), .int (S.O_BellTouchesModel.f_fault a), .int (S.O_BellTouchesModel.f_clauses a), va_rf (S.O_BellTouchesModel.f_clause a), va_rf (S.O_BellTouchesModel.f_from a), va_rf (S.O_BellTouchesModel.f_many a), .int (S.O_BellTouchesModel.f_numbers a), va_rf (S.O_BellTouchesModel.f_number a), va_rf (S.O_BellTouchesModel.f_sort a), va_rf (S.O_BellTouchesModel.f_long1 a), va_rf (S.O_BellTouchesModel.f_items a), va_rf (S.O_BellTouchesModel.f_moved a)])) b = wPF cyB cyI cyJ cyZ cyO51cc9 { S with O_BellTouchesModel := { S.O_BellTouchesModel with f_bell := va_up S.O_BellTouchesModel.f_bell a v } } b := by by_cases hb : b = a <;> first | (simp only [wPF, va_up_ne _ _ hb]; done) | (simp only [wPF, va_up, if_neg hb]; done) | simp [wPF, va_re, va_up, va_rf, hb, h]
theorem wPu_O_BellTouchesModel_f_bell (cyB : ClassId) (cyI : ClassId) (cyJ : ClassId) (cyZ : ClassId) (cyO51cc9 : ClassId) (X : va_W) (S : wPS) {A : Nat → Prop} {a k : Nat} (hD : va_D A (X ++ va_pl S.L (wPF cyB cyI cyJ cyZ cyO51cc9 S))) (hL : a ∈ S.L) (h : S.K a = 8) (hk : (X ++ va_pl S.L (wPF cyB cyI cyJ cyZ cyO51cc9 S))[k]? = some (a, wPF cyB cyI cyJ cyZ cyO51cc9 S a)) (v : Option Nat) : (X ++ va_pl S.L (wPF cyB cyI cyJ cyZ cyO51cc9 S)).set k (a, .inr (8, [va_rf (S.O_BellTouchesModel.f_now a), va_rf (S.O_BellTouchesModel.f_old a), .int (S.O_BellTouchesModel.f_imaged a), .int (S.O_BellTouchesModel.f_last a), va_rf v, va_rf (S.O_BellTouchesModel.f_key a), .int (S.O_BellTouchesModel.f_texts a), va_rf (S.O_BellTouchesModel.f_text a), .int (S.O_BellTouchesModel.f_at a), .int (S.O_BellTouchesModel.f_fault a), .int (S.O_BellTouchesModel.f_clauses a), va_rf (S.O_BellTouchesModel.f_clause a), va_rf (S.O_BellTouchesModel.f_from a), va_rf (S.O_BellTouchesModel.f_many a), .int (S.O_BellTouchesModel.f_numbers a), va_rf (S.O_BellTouchesModel.f_number a), va_rf (S.O_BellTouchesModel.f_sort a), va_rf (S.O_BellTouchesModel.f_long1 a), va_rf (S.O_BellTouchesModel.f_items a), va_rf (S.O_BellTouchesModel.f_moved a)])) = X ++ va_pl S.L (wPF cyB cyI cyJ cyZ cyO51cc9 { S with O_BellTouchesModel := { S.O_BellTouchesModel with f_bell := va_up S.O_BellTouchesModel.f_bell a v } }) := by
  rw [va_pl_set hD hL hk]
  exact congrArg (fun l => X ++ l) (va_pl_congr (wSt_O_BellTouchesModel_f_bell cyB cyI cyJ cyZ cyO51cc9 S h v))
theorem wSt_O_BellTouchesModel_f_key (cyB : ClassId) (cyI : ClassId) (cyJ : ClassId) (cyZ : ClassId) (cyO51cc9 : ClassId) (S : wPS) {a : Nat} (h : S.K a = 8) (v : Option Nat) (b : Nat) : va_up (wPF cyB cyI cyJ cyZ cyO51cc9 S) a (.inr (8, [va_rf (S.O_BellTouchesModel.f_now a), va_rf (S.O_BellTouchesModel.f_old a), .int (S.O_BellTouchesModel.f_imaged a), .int (S.O_BellTouchesModel.f_last a), va_rf (S.O_BellTouchesModel.f_bell a), va_rf v, .int (S.O_BellTouchesModel.f_texts a), va_rf (S.O_BellTouchesModel.f_text a), .int (S.O_BellTouchesModel.f_at a), .int (S.O_BellTouchesModel.f_fault a), .int (S.O_BellTouchesModel.f_clauses a), va_rf (S.O_BellTouchesModel.f_clause a), va_rf (S.O_BellTouchesModel.f_from a), va_rf (S.O_BellTouchesModel.f_many a), .int (S.O_BellTouchesModel.f_numbers a), va_rf (S.O_BellTouchesModel.f_number a), va_rf (S.O_BellTouchesModel.f_sort a), va_rf (S.O_BellTouchesModel.f_long1 a), va_rf (S.O_BellTouchesModel.f_items a), va_rf (S.O_BellTouchesModel.f_moved a)])) b = wPF cyB cyI cyJ cyZ cyO51cc9 { S with O_BellTouchesModel := { S.O_BellTouchesModel with f_key := va_up S.O_BellTouchesModel.f_key a v } } b := by by_cases hb : b = a <;> first | (simp only [wPF, va_up_ne _ _ hb]; done) | (simp only [wPF, va_up, if_neg hb]; done) | simp [wPF, va_re, va_up, va_rf, hb, h]
theorem wPu_O_BellTouchesModel_f_key (cyB : ClassId) (cyI : ClassId) (cyJ : ClassId) (cyZ : ClassId) (cyO51cc9 : ClassId) (X : va_W) (S : wPS) {A : Nat → Prop} {a k : Nat} (hD : va_D A (X ++ va_pl S.L (wPF cyB cyI cyJ cyZ cyO51cc9 S))) (hL : a ∈ S.L) (h : S.K a = 8) (hk : (X ++ va_pl S.L (wPF cyB cyI cyJ cyZ cyO51cc9 S))[k]? = some (a, wPF cyB cyI cyJ cyZ cyO51cc9 S a)) (v : Option Nat) : (X ++ va_pl S.L (wPF cyB cyI cyJ cyZ cyO51cc9 S)).set k (a, .inr (8, [va_rf (S.O_BellTouchesModel.f_now a), va_rf (S.O_BellTouchesModel.f_old a), .int (S.O_BellTouchesModel.f_imaged a), .int (S.O_BellTouchesModel.f_last a), va_rf (S.O_BellTouchesModel.f_bell a), va_rf v, .int (S.O_BellTouchesModel.f_texts a), va_rf (S.O_BellTouchesModel.f_text a), .int (S.O_BellTouchesModel.f_at a), .int (S.O_BellTouchesModel.f_fault a), .int (S.O_BellTouchesModel.f_clauses a), va_rf (S.O_BellTouchesModel.f_clause a), va_rf (S.O_BellTouchesModel.f_from a), va_rf (S.O_BellTouchesModel.f_many a), .int (S.O_BellTouchesModel.f_numbers a), va_rf (S.O_BellTouchesModel.f_number a), va_rf (S.O_BellTouchesModel.f_sort a), va_rf (S.O_BellTouchesModel.f_long1 a), va_rf (S.O_BellTouchesModel.f_items a), va_rf (S.O_BellTouchesModel.f_moved a)])) = X ++ va_pl S.L (wPF cyB cyI cyJ cyZ cyO51cc9 { S with O_BellTouchesModel := { S.O_BellTouchesModel with f_key := va_up S.O_BellTouchesModel.f_key a v } }) := by
  rw [va_pl_set hD hL hk]
  exact congrArg (fun l => X ++ l) (va_pl_congr (wSt_O_BellTouchesModel_f_key cyB cyI cyJ cyZ cyO51cc9 S h v))
theorem wSt_O_BellTouchesModel_f_texts (cyB : ClassId) (cyI : ClassId) (cyJ : ClassId) (cyZ : ClassId) (cyO51cc9 : ClassId) (S : wPS) {a : Nat} (h : S.K a = 8) (v : Int32) (b : Nat) : va_up (wPF cyB cyI cyJ cyZ cyO51cc9 S) a (.inr (8, [va_rf (S.O_BellTouchesModel.f_now a), va_rf (S.O_BellTouchesModel.f_old a), .int (S.O_BellTouchesModel.f_imaged a), .int (S.O_BellTouchesModel.f_last a), va_rf (S.O_BellTouchesModel.f_bell a), va_rf (S.O_BellTouchesModel.f_key a), .int v, va_rf (S.O_BellTouchesModel.f_text a), .int (S.O_BellTouchesModel.f_at a), .int (S.O_BellTouchesModel.f_fault a), .int (S.O_BellTouchesModel.f_clauses a), va_rf (S.O_BellTouchesModel.f_clause a), va_rf (S.O_BellTouchesModel.f_from a), va_rf (S.O_BellTouchesModel.f_many a), .int (S.O_BellTouchesModel.f_numbers a), va_rf (S.O_BellTouchesModel.f_number a), va_rf (S.O_BellTouchesModel.f_sort a), va_rf (S.O_BellTouchesModel.f_long1 a), va_rf (S.O_BellTouchesModel.f_items a), va_rf (S.O_BellTouchesModel.f_moved a)])) b = wPF cyB cyI cyJ cyZ cyO51cc9 { S with O_BellTouchesModel := { S.O_BellTouchesModel with f_texts := va_up S.O_BellTouchesModel.f_texts a v } } b := by by_cases hb : b = a <;> first | (simp only [wPF, va_up_ne _ _ hb]; done) | (simp only [wPF, va_up, if_neg hb]; done) | simp [wPF, va_re, va_up, va_rf, hb, h]
theorem wPu_O_BellTouchesModel_f_texts (cyB : ClassId) (cyI : ClassId) (cyJ : ClassId) (cyZ : ClassId) (cyO51cc9 : ClassId) (X : va_W) (S : wPS) {A : Nat → Prop} {a k : Nat} (hD : va_D A (X ++ va_pl S.L (wPF cyB cyI cyJ cyZ cyO51cc9 S))) (hL : a ∈ S.L) (h : S.K a = 8) (hk : (X ++ va_pl S.L (wPF cyB cyI cyJ cyZ cyO51cc9 S))[k]? = some (a, wPF cyB cyI cyJ cyZ cyO51cc9 S a)) (v : Int32) : (X ++ va_pl S.L (wPF cyB cyI cyJ cyZ cyO51cc9 S)).set k (a, .inr (8, [va_rf (S.O_BellTouchesModel.f_now a), va_rf (S.O_BellTouchesModel.f_old a), .int (S.O_BellTouchesModel.f_imaged a), .int (S.O_BellTouchesModel.f_last a), va_rf (S.O_BellTouchesModel.f_bell a), va_rf (S.O_BellTouchesModel.f_key a), .int v, va_rf (S.O_BellTouchesModel.f_text a), .int (S.O_BellTouchesModel.f_at a), .int (S.O_BellTouchesModel.f_fault a), .int (S.O_BellTouchesModel.f_clauses a), va_rf (S.O_BellTouchesModel.f_clause a), va_rf (S.O_BellTouchesModel.f_from a), va_rf (S.O_BellTouchesModel.f_many a), .int (S.O_BellTouchesModel.f_numbers a), va_rf (S.O_BellTouchesModel.f_number a), va_rf (S.O_BellTouchesModel.f_sort a), va_rf (S.O_BellTouchesModel.f_long1 a), va_rf (S.O_BellTouchesModel.f_items a), va_rf (S.O_BellTouchesModel.f_moved a)])) = X ++ va_pl S.L (wPF cyB cyI cyJ cyZ cyO51cc9 { S with O_BellTouchesModel := { S.O_BellTouchesModel with f_texts := va_up S.O_BellTouchesModel.f_texts a v } }) := by
  rw [va_pl_set hD hL hk]
  exact congrArg (fun l => X ++ l) (va_pl_congr (wSt_O_BellTouchesModel_f_texts cyB cyI cyJ cyZ cyO51cc9 S h v))
theorem wSt_O_BellTouchesModel_f_text (cyB : ClassId) (cyI : ClassId) (cyJ : ClassId) (cyZ : ClassId) (cyO51cc9 : ClassId) (S : wPS) {a : Nat} (h : S.K a = 8) (v : Option Nat) (b : Nat) : va_up (wPF cyB cyI cyJ cyZ cyO51cc9 S) a (.inr (8, [va_rf (S.O_BellTouchesModel.f_now a), va_rf (S.O_BellTouchesModel.f_old a), .int (S.O_BellTouchesModel.f_imaged a), .int (S.O_BellTouchesModel.f_last a), va_rf (S.O_BellTouchesModel.f_bell a), va_rf (S.O_BellTouchesModel.f_key a), .int (S.O_BellTouchesModel.f_texts a), va_rf v, .int (S.O_BellTouchesModel.f_at a), .int (S.O_BellTouchesModel.f_fault a), .int (S.O_BellTouchesModel.f_clauses a), va_rf (S.O_BellTouchesModel.f_clause a), va_rf (S.O_BellTouchesModel.f_from a), va_rf (S.O_BellTouchesModel.f_many a), .int (S.O_BellTouchesModel.f_numbers a), va_rf (S.O_BellTouchesModel.f_number a), va_rf (S.O_BellTouchesModel.f_sort a), va_rf (S.O_BellTouchesModel.f_long1 a), va_rf (S.O_BellTouchesModel.f_items a), va_rf (S.O_BellTouchesModel.f_moved a)])) b = wPF cyB cyI cyJ cyZ cyO51cc9 { S with O_BellTouchesModel := { S.O_BellTouchesModel with f_text := va_up S.O_BellTouchesModel.f_text a v } } b := by by_cases hb : b = a <;> first | (simp only [wPF, va_up_ne _ _ hb]; done) | (simp only [wPF, va_up, if_neg hb]; done) | simp [wPF, va_re, va_up, va_rf, hb, h]
theorem wPu_O_BellTouchesModel_f_text (cyB : ClassId) (cyI : ClassId) (cyJ : ClassId) (cyZ : ClassId) (cyO51cc9 : ClassId) (X : va_W) (S : wPS) {A : Nat → Prop} {a k : Nat} (hD : va_D A (X ++ va_pl S.L (wPF cyB cyI cyJ cyZ cyO51cc9 S))) (hL : a ∈ S.L) (h : S.K a = 8) (hk : (X ++ va_pl S.L (wPF cyB cyI cyJ cyZ cyO51cc9 S))[k]? = some (a, wPF cyB cyI cyJ cyZ cyO51cc9 S a)) (v : Option Nat) : (X ++ va_pl S.L (wPF cyB cyI cyJ cyZ cyO51cc9 S)).set k (a, .inr (8, [va_rf (S.O_BellTouchesModel.f_now a), va_rf (S.O_BellTouchesModel.f_old a), .int (S.O_BellTouchesModel.f_imaged a), .int (S.O_BellTouchesModel.f_last a), va_rf (S.O_BellTouchesModel.f_bell a), va_rf (S.O_BellTouchesModel.f_key a), .int (S.O_BellTouchesModel.f_texts a), va_rf v, .int (S.O_BellTouchesModel.f_at a), .int (S.O_BellTouchesModel.f_fault a), .int (S.O_BellTouchesModel.f_clauses a), va_rf (S.O_BellTouchesModel.f_clause a), va_rf (S.O_BellTouchesModel.f_from a), va_rf (S.O_BellTouchesModel.f_many a), .int (S.O_BellTouchesModel.f_numbers a), va_rf (S.O_BellTouchesModel.f_number a), va_rf (S.O_BellTouchesModel.f_sort a), va_rf (S.O_BellTouchesModel.f_long1 a), va_rf (S.O_BellTouchesModel.f_items a), va_rf (S.O_BellTouchesModel.f_moved a)])) = X ++ va_pl S.L (wPF cyB cyI cyJ cyZ cyO51cc9 { S with O_BellTouchesModel := { S.O_BellTouchesModel with f_text := va_up S.O_BellTouchesModel.f_text a v } }) := by
  rw [va_pl_set hD hL hk]
  exact congrArg (fun l => X ++ l) (va_pl_congr (wSt_O_BellTouchesModel_f_text cyB cyI cyJ cyZ cyO51cc9 S h v))
theorem wSt_O_BellTouchesModel_f_at (cyB : ClassId) (cyI : ClassId) (cyJ : ClassId) (cyZ : ClassId) (cyO51cc9 : ClassId) (S : wPS) {a : Nat} (h : S.K a = 8) (v : Int32) (b : Nat) : va_up (wPF cyB cyI cyJ cyZ cyO51cc9 S) a (.inr (8, [va_rf (S.O_BellTouchesModel.f_now a), va_rf (S.O_BellTouchesModel.f_old a), .int (S.O_BellTouchesModel.f_imaged a), .int (S.O_BellTouchesModel.f_last a), va_rf (S.O_BellTouchesModel.f_bell a), va_rf (S.O_BellTouchesModel.f_key a), .int (S.O_BellTouchesModel.f_texts a), va_rf (S.O_BellTouchesModel.f_text a), .int v, .int (S.O_BellTouchesModel.f_fault a), .int (S.O_BellTouchesModel.f_clauses a), va_rf (S.O_BellTouchesModel.f_clause a), va_rf (S.O_BellTouchesModel.f_from a), va_rf (S.O_BellTouchesModel.f_many a), .int (S.O_BellTouchesModel.f_numbers a), va_rf (S.O_BellTouchesModel.f_number a), va_rf (S.O_BellTouchesModel.f_sort a), va_rf (S.O_BellTouchesModel.f_long1 a), va_rf (S.O_BellTouchesModel.f_items a), va_rf (S.O_BellTouchesModel.f_moved a)])) b = wPF cyB cyI cyJ cyZ cyO51cc9 { S with O_BellTouchesModel := { S.O_BellTouchesModel with f_at := va_up S.O_BellTouchesModel.f_at a v } } b := by by_cases hb : b = a <;> first | (simp only [wPF, va_up_ne _ _ hb]; done) | (simp only [wPF, va_up, if_neg hb]; done) | simp [wPF, va_re, va_up, va_rf, hb, h]
theorem wPu_O_BellTouchesModel_f_at (cyB : ClassId) (cyI : ClassId) (cyJ : ClassId) (cyZ : ClassId) (cyO51cc9 : ClassId) (X : va_W) (S : wPS) {A : Nat → Prop} {a k : Nat} (hD : va_D A (X ++ va_pl S.L (wPF cyB cyI cyJ cyZ cyO51cc9 S))) (hL : a ∈ S.L) (h : S.K a = 8) (hk : (X ++ va_pl S.L (wPF cyB cyI cyJ cyZ cyO51cc9 S))[k]? = some (a, wPF cyB cyI cyJ cyZ cyO51cc9 S a)) (v : Int32) : (X ++ va_pl S.L (wPF cyB cyI cyJ cyZ cyO51cc9 S)).set k (a, .inr (8, [va_rf (S.O_BellTouchesModel.f_now a), va_rf (S.O_BellTouchesModel.f_old a), .int (S.O_BellTouchesModel.f_imaged a), .int (S.O_BellTouchesModel.f_last a), va_rf (S.O_BellTouchesModel.f_bell a), va_rf (S.O_BellTouchesModel.f_key a), .int (S.O_BellTouchesModel.f_texts a), va_rf (S.O_BellTouchesModel.f_text a), .int v, .int (S.O_BellTouchesModel.f_fault a), .int (S.O_BellTouchesModel.f_clauses a), va_rf (S.O_BellTouchesModel.f_clause a), va_rf (S.O_BellTouchesModel.f_from a), va_rf (S.O_BellTouchesModel.f_many a), .int (S.O_BellTouchesModel.f_numbers a), va_rf (S.O_BellTouchesModel.f_number a), va_rf (S.O_BellTouchesModel.f_sort a), va_rf (S.O_BellTouchesModel.f_long1 a), va_rf (S.O_BellTouchesModel.f_items a), va_rf (S.O_BellTouchesModel.f_moved a)])) = X ++ va_pl S.L (wPF cyB cyI cyJ cyZ cyO51cc9 { S with O_BellTouchesModel := { S.O_BellTouchesModel with f_at := va_up S.O_BellTouchesModel.f_at a v } }) := by
  rw [va_pl_set hD hL hk]
  exact congrArg (fun l => X ++ l) (va_pl_congr (wSt_O_BellTouchesModel_f_at cyB cyI cyJ cyZ cyO51cc9 S h v))
theorem wSt_O_BellTouchesModel_f_fault (cyB : ClassId) (cyI : ClassId) (cyJ : ClassId) (cyZ : ClassId) (cyO51cc9 : ClassId) (S : wPS) {a : Nat} (h : S.K a = 8) (v : Int32) (b : Nat) : va_up (wPF cyB cyI cyJ cyZ cyO51cc9 S) a (.inr (8, [va_rf (S.O_BellTouchesModel.f_now a), va_rf (S.O_BellTouchesModel.f_old a), .int (S.O_BellTouchesModel.f_imaged a), .int (S.O_BellTouchesModel.f_last a), va_rf (S.O_BellTouchesModel.f_bell a), va_rf (S.O_BellTouchesModel.f_key a), .int (S.O_BellTouchesModel.f_texts a), va_rf (S.O_BellTouchesModel.f_text a), .int (S.O_BellTouchesModel.f_at a), .int v, .int (S.O_BellTouchesModel.f_clauses a), va_rf (S.O_BellTouchesModel.f_clause a), va_rf (S.O_BellTouchesModel.f_from a), va_rf (S.O_BellTouchesModel.f_many a), .int (S.O_BellTouchesModel.f_numbers a), va_rf (S.O_BellTouchesModel.f_number a), va_rf (S.O_BellTouchesModel.f_sort a), va_rf (S.O_BellTouchesModel.f_long1 a), va_rf (S.O_BellTouchesModel.f_items a), va_rf (S.O_BellTouchesModel.f_moved a)])) b = wPF cyB cyI cyJ cyZ cyO51cc9 { S with O_BellTouchesModel := { S.O_BellTouchesModel with f_fault := va_up S.O_BellTouchesModel.f_fault a v } } b := by by_cases hb : b = a <;> first | (simp only [wPF, va_up_ne _ _ hb]; done) | (simp only [wPF, va_up, if_neg hb]; done) | simp [wPF, va_re, va_up, va_rf, hb, h]
theorem wPu_O_BellTouchesModel_f_fault (cyB : ClassId) (cyI : ClassId) (cyJ : ClassId) (cyZ : ClassId) (cyO51cc9 : ClassId) (X : va_W) (S : wPS) {A : Nat → Prop} {a k : Nat} (hD : va_D A (X ++ va_pl S.L (wPF cyB cyI cyJ cyZ cyO51cc9 S))) (hL : a ∈ S.L) (h : S.K a = 8) (hk : (X ++ va_pl S.L (wPF cyB cyI cyJ cyZ cyO51cc9 S))[k]? = some (a, wPF cyB cyI cyJ cyZ cyO51cc9 S a)) (v : Int32) : (X ++ va_pl S.L (wPF cyB cyI cyJ cyZ cyO51cc9 S)).set k (a, .inr (8, [va_rf (S.O_BellTouchesModel.f_now a), va_rf (S.O_BellTouchesModel.f_old a), .int (S.O_BellTouchesModel.f_imaged a), .int (S.O_BellTouchesModel.f_last a), va_rf (S.O_BellTouchesModel.f_bell a), va_rf (S.O_BellTouchesModel.f_key a), .int (S.O_BellTouchesModel.f_texts a), va_rf (S.O_BellTouchesModel.f_text a), .int (S.O_BellTouchesModel.f_at a), .int v, .int (S.O_BellTouchesModel.f_clauses a), va_rf (S.O_BellTouchesModel.f_clause a), va_rf (S.O_BellTouchesModel.f_from a), va_rf (S.O_BellTouchesModel.f_many a), .int (S.O_BellTouchesModel.f_numbers a), va_rf (S.O_BellTouchesModel.f_number a), va_rf (S.O_BellTouchesModel.f_sort a), va_rf (S.O_BellTouchesModel.f_long1 a), va_rf (S.O_BellTouchesModel.f_items a), va_rf (S.O_BellTouchesModel.f_moved a)])) = X ++ va_pl S.L (wPF cyB cyI cyJ cyZ cyO51cc9 { S with O_BellTouchesModel := { S.O_BellTouchesModel with f_fault := va_up S.O_BellTouchesModel.f_fault a v } }) := by
  rw [va_pl_set hD hL hk]
  exact congrArg (fun l => X ++ l) (va_pl_congr (wSt_O_BellTouchesModel_f_fault cyB cyI cyJ cyZ cyO51cc9 S h v))
theorem wSt_O_BellTouchesModel_f_clauses (cyB : ClassId) (cyI : ClassId) (cyJ : ClassId) (cyZ : ClassId) (cyO51cc9 : ClassId) (S : wPS) {a : Nat} (h : S.K a = 8) (v : Int32) (b : Nat) : va_up (wPF cyB cyI cyJ cyZ cyO51cc9 S) a (.inr (8, [va_rf (S.O_BellTouchesModel.f_now a), va_rf (S.O_BellTouchesModel.f_old a), .int (S.O_BellTouchesModel.f_imaged a), .int (S.O_BellTouchesModel.f_last a), va_rf (S.O_BellTouchesModel.f_bell a), va_rf (S.O_BellTouchesModel.f_key a), .int (S.O_BellTouchesModel.f_texts a), va_rf (S.O_BellTouchesModel.f_text a), .int (S.O_BellTouchesModel.f_at a), .int (S.O_BellTouchesModel.f_fault a), .int v, va_rf (S.O_BellTouchesModel.f_clause a), va_rf (S.O_BellTouchesModel.f_from a), va_rf (S.O_BellTouchesModel.f_many a), .int (S.O_BellTouchesModel.f_numbers a), va_rf (S.O_BellTouchesModel.f_number a), va_rf (S.O_BellTouchesModel.f_sort a), va_rf (S.O_BellTouchesModel.f_long1 a), va_rf (S.O_BellTouchesModel.f_items a), va_rf (S.O_BellTouchesModel.f_moved a)])) b = wPF cyB cyI cyJ cyZ cyO51cc9 { S with O_BellTouchesModel := { S.O_BellTouchesModel with f_clauses := va_up S.O_BellTouchesModel.f_clauses a v } } b := by by_cases hb : b = a <;> first | (simp only [wPF, va_up_ne _ _ hb]; done) | (simp only [wPF, va_up, if_neg hb]; done) | simp [wPF, va_re, va_up, va_rf, hb, h]
theorem wPu_O_BellTouchesModel_f_clauses (cyB : ClassId) (cyI : ClassId) (cyJ : ClassId) (cyZ : ClassId) (cyO51cc9 : ClassId) (X : va_W) (S : wPS) {A : Nat → Prop} {a k : Nat} (hD : va_D A (X ++ va_pl S.L (wPF cyB cyI cyJ cyZ cyO51cc9 S))) (hL : a ∈ S.L) (h : S.K a = 8) (hk : (X ++ va_pl S.L (wPF cyB cyI cyJ cyZ cyO51cc9 S))[k]? = some (a, wPF cyB cyI cyJ cyZ cyO51cc9 S a)) (v : Int32) : (X ++ va_pl S.L (wPF cyB cyI cyJ cyZ cyO51cc9 S)).set k (a, .inr (8, [va_rf (S.O_BellTouchesModel.f_now a), va_rf (S.O_BellTouchesModel.f_old a), .int (S.O_BellTouchesModel.f_imaged a), .int (S.O_BellTouchesModel.f_last a), va_rf (S.O_BellTouchesModel.f_bell a), va_rf (S.O_BellTouchesModel.f_key a), .int (S.O_BellTouchesModel.f_texts a), va_rf (S.O_BellTouchesModel.f_text a), .int (S.O_BellTouchesModel.f_at a), .int (S.O_BellTouchesModel.f_fault a), .int v, va_rf (S.O_BellTouchesModel.f_clause a), va_rf (S.O_BellTouchesModel.f_from a), va_rf (S.O_BellTouchesModel.f_many a), .int (S.O_BellTouchesModel.f_numbers a), va_rf (S.O_BellTouchesModel.f_number a), va_rf (S.O_BellTouchesModel.f_sort a), va_rf (S.O_BellTouchesModel.f_long1 a), va_rf (S.O_BellTouchesModel.f_items a), va_rf (S.O_BellTouchesModel.f_moved a)])) = X ++ va_pl S.L (wPF cyB cyI cyJ cyZ cyO51cc9 { S with O_BellTouchesModel := { S.O_BellTouchesModel with f_clauses := va_up S.O_BellTouchesModel.f_clauses a v } }) := by
  rw [va_pl_set hD hL hk]
  exact congrArg (fun l => X ++ l) (va_pl_congr (wSt_O_BellTouchesModel_f_clauses cyB cyI cyJ cyZ cyO51cc9 S h v))
theorem wSt_O_BellTouchesModel_f_clause (cyB : ClassId) (cyI : ClassId) (cyJ : ClassId) (cyZ : ClassId) (cyO51cc9 : ClassId) (S : wPS) {a : Nat} (h : S.K a = 8) (v : Option Nat) (b : Nat) : va_up (wPF cyB cyI cyJ cyZ cyO51cc9 S) a (.inr (8, [va_rf (S.O_BellTouchesModel.f_now a), va_rf (S.O_BellTouchesModel.f_old a), .int (S.O_BellTouchesModel.f_imaged a), .int (S.O_BellTouchesModel.f_last a), va_rf (S.O_BellTouchesModel.f_bell a), va_rf (S.O_BellTouchesModel.f_key a), .int (S.O_BellTouchesModel.f_texts a), va_rf (S.O_BellTouchesModel.f_text a), .int (S.O_BellTouchesModel.f_at a), .int (S.O_BellTouchesModel.f_fault a), .int (S.O_BellTouchesModel.f_clauses a), va_rf v, va_rf (S.O_BellTouchesModel.f_from a), va_rf (S.O_BellTouchesModel.f_many a), .int (S.O_BellTouchesModel.f_numbers a), va_rf (S.O_BellTouchesModel.f_number a), va_rf (S.O_BellTouchesModel.f_sort a), va_rf (S.O_BellTouchesModel.f_long1 a), va_rf (S.O_BellTouchesModel.f_items a), va_rf (S.O_BellTouchesModel.f_moved a)])) b = wPF cyB cyI cyJ cyZ cyO51cc9 { S with O_BellTouchesModel := { S.O_BellTouchesModel with f_clause := va_up S.O_BellTouchesModel.f_clause a v } } b := by by_cases hb : b = a <;> first | (simp only [wPF, va_up_ne _ _ hb]; done) | (simp only [wPF, va_up, if_neg hb]; done) | simp [wPF, va_re, va_up, va_rf, hb, h]
theorem wPu_O_BellTouchesModel_f_clause (cyB : ClassId) (cyI : ClassId) (cyJ : ClassId) (cyZ : ClassId) (cyO51cc9 : ClassId) (X : va_W) (S : wPS) {A : Nat → Prop} {a k : Nat} (hD : va_D A (X ++ va_pl S.L (wPF cyB cyI cyJ cyZ cyO51cc9 S))) (hL : a ∈ S.L) (h : S.K a = 8) (hk : (X ++ va_pl S.L (wPF cyB cyI cyJ cyZ cyO51cc9 S))[k]? = some (a, wPF cyB cyI cyJ cyZ cyO51cc9 S a)) (v : Option Nat) : (X ++ va_pl S.L (wPF cyB cyI cyJ cyZ cyO51cc9 S)).set k (a, .inr (8, [va_rf (S.O_BellTouchesModel.f_now a), va_rf (S.O_BellTouchesModel.f_old a), .int (S.O_BellTouchesModel.f_imaged a), .int (S.O_BellTouchesModel.f_last a), va_rf (S.O_BellTouchesModel.f_bell a), va_rf (S.O_BellTouchesModel.f_key a), .int (S.O_BellTouchesModel.f_texts a), va_rf (S.O_BellTouchesModel.f_text a), .int (S.O_BellTouchesModel.f_at a), .int (S.O_BellTouchesModel.f_fault a), .int (S.O_BellTouchesModel.f_clauses a), va_rf v, va_rf (S.O_BellTouchesModel.f_from a), va_rf (S.O_BellTouchesModel.f_many a), .int (S.O_BellTouchesModel.f_numbers a), va_rf (S.O_BellTouchesModel.f_number a), va_rf (S.O_BellTouchesModel.f_sort a), va_rf (S.O_BellTouchesModel.f_long1 a), va_rf (S.O_BellTouchesModel.f_items a), va_rf (S.O_BellTouchesModel.f_moved a)])) = X ++ va_pl S.L (wPF cyB cyI cyJ cyZ cyO51cc9 { S with O_BellTouchesModel := { S.O_BellTouchesModel with f_clause := va_up S.O_BellTouchesModel.f_clause a v } }) := by
  rw [va_pl_set hD hL hk]
  exact congrArg (fun l => X ++ l) (va_pl_congr (wSt_O_BellTouchesModel_f_clause cyB cyI cyJ cyZ cyO51cc9 S h v))
theorem wSt_O_BellTouchesModel_f_from (cyB : ClassId) (cyI : ClassId) (cyJ : ClassId) (cyZ : ClassId) (cyO51cc9 : ClassId) (S : wPS) {a : Nat} (h : S.K a = 8) (v : Option Nat) (b : Nat) : va_up (wPF cyB cyI cyJ cyZ cyO51cc9 S) a (.inr (8, [va_rf (S.O_BellTouchesModel.f_now a), va_rf (S.O_BellTouchesModel.f_old a), .int (S.O_BellTouchesModel.f_imaged a), .int (S.O_BellTouchesModel.f_last a), va_rf (S.O_BellTouchesModel.f_bell a), va_rf (S.O_BellTouchesModel.f_key a), .int (S.O_BellTouchesModel.f_texts a), va_rf (S.O_BellTouchesModel.f_text a), .int (S.O_BellTouchesModel.f_at a), .int (S.O_BellTouchesModel.f_fault a), .int (S.O_BellTouchesModel.f_clauses a), va_rf (S.O_BellTouchesModel.f_clause a), va_rf v, va_rf (S.O_BellTouchesModel.f_many a), .int (S.O_BellTouchesModel.f_numbers a), va_rf (S.O_BellTouchesModel.f_number a), va_rf (S.O_BellTouchesModel.f_sort a), va_rf (S.O_BellTouchesModel.f_long1 a), va_rf (S.O_BellTouchesModel.f_items a), va_rf (S.O_BellTouchesModel.f_moved a)])) b = wPF cyB cyI cyJ cyZ cyO51cc9 { S with O_BellTouchesModel := { S.O_BellTouchesModel with f_from := va_up S.O_BellTouchesModel.f_from a v } } b := by by_cases hb : b = a <;> first | (simp only [wPF, va_up_ne _ _ hb]; done) | (simp only [wPF, va_up, if_neg hb]; done) | simp [wPF, va_re, va_up, va_rf, hb, h]
theorem wPu_O_BellTouchesModel_f_from (cyB : ClassId) (cyI : ClassId) (cyJ : ClassId) (cyZ : ClassId) (cyO51cc9 : ClassId) (X : va_W) (S : wPS) {A : Nat → Prop} {a k : Nat} (hD : va_D A (X ++ va_pl S.L (wPF cyB cyI cyJ cyZ cyO51cc9 S))) (hL : a ∈ S.L) (h : S.K a = 8) (hk : (X ++ va_pl S.L (wPF cyB cyI cyJ cyZ cyO51cc9 S))[k]? = some (a, wPF cyB cyI cyJ cyZ cyO51cc9 S a)) (v : Option Nat) : (X ++ va_pl S.L (wPF cyB cyI cyJ cyZ cyO51cc9 S)).set k (a, .inr (8, [va_rf (S.O_BellTouchesModel.f_now a), va_rf (S.O_BellTouchesModel.f_old a), .int (S.O_BellTouchesModel.f_imaged a), .int (S.O_BellTouchesModel.f_last a), va_rf (S.O_BellTouchesModel.f_bell a), va_rf (S.O_BellTouchesModel.f_key a), .int (S.O_BellTouchesModel.f_texts a), va_rf (S.O_BellTouchesModel.f_text a), .int (S.O_BellTouchesModel.f_at a), .int (S.O_BellTouchesModel.f_fault a), .int (S.O_BellTouchesModel.f_clauses a), va_rf (S.O_BellTouchesModel.f_clause a), va_rf v, va_rf (S.O_BellTouchesModel.f_many a), .int (S.O_BellTouchesModel.f_numbers a), va_rf (S.O_BellTouchesModel.f_number a), va_rf (S.O_BellTouchesModel.f_sort a), va_rf (S.O_BellTouchesModel.f_long1 a), va_rf (S.O_BellTouchesModel.f_items a), va_rf (S.O_BellTouchesModel.f_moved a)])) = X ++ va_pl S.L (wPF cyB cyI cyJ cyZ cyO51cc9 { S with O_BellTouchesModel := { S.O_BellTouchesModel with f_from := va_up S.O_BellTouchesModel.f_from a v } }) := by
  rw [va_pl_set hD hL hk]
  exact congrArg (fun l => X ++ l) (va_pl_congr (wSt_O_BellTouchesModel_f_from cyB cyI cyJ cyZ cyO51cc9 S h v))
theorem wSt_O_BellTouchesModel_f_many (cyB : ClassId) (cyI : ClassId) (cyJ : ClassId) (cyZ : ClassId) (cyO51cc9 : ClassId) (S : wPS) {a : Nat} (h : S.K a = 8) (v : Option Nat) (b : Nat) : va_up (wPF cyB cyI cyJ cyZ cyO51cc9 S) a (.inr (8, [va_rf (S.O_BellTouchesModel.f_now a), va_rf (S.O_BellTouchesModel.f_old a), .int (S.O_BellTouchesModel.f_imaged a), .int (S.O_BellTouchesModel.f_last a), va_rf (S.O_BellTouchesModel.f_bell a), va_rf (S.O_BellTouchesModel.f_key a), .int (S.O_BellTouchesModel.f_texts a), va_rf (S.O_BellTouchesModel.f_text a), .int (S.O_BellTouchesModel.f_at a), .int (S.O_BellTouchesModel.f_fault a), .int (S.O_BellTouchesModel.f_clauses a), va_rf (S.O_BellTouchesModel.f_clause a), va_rf (S.O_BellTouchesModel.f_from a), va_rf v, .int (S.O_BellTouchesModel.f_numbers a), va_rf (S.O_BellTouchesModel.f_number a), va_rf (S.O_BellTouchesModel.f_sort a), va_rf (S.O_BellTouchesModel.f_long1 a), va_rf (S.O_BellTouchesModel.f_items a), va_rf (S.O_BellTouchesModel.f_moved a)])) b = wPF cyB cyI cyJ cyZ cyO51cc9 { S with O_BellTouchesModel := { S.O_BellTouchesModel with f_many := va_up S.O_BellTouchesModel.f_many a v } } b := by by_cases hb : b = a <;> first | (simp only [wPF, va_up_ne _ _ hb]; done) | (simp only [wPF, va_up, if_neg hb]; done) | simp [wPF, va_re, va_up, va_rf, hb, h]
theorem wPu_O_BellTouchesModel_f_many (cyB : ClassId) (cyI : ClassId) (cyJ : ClassId) (cyZ : ClassId) (cyO51cc9 : ClassId) (X : va_W) (S : wPS) {A : Nat → Prop} {a k : Nat} (hD : va_D A (X ++ va_pl S.L (wPF cyB cyI cyJ cyZ cyO51cc9 S))) (hL : a ∈ S.L) (h : S.K a = 8) (hk : (X ++ va_pl S.L (wPF cyB cyI cyJ cyZ cyO51cc9 S))[k]? = some (a, wPF cyB cyI cyJ cyZ cyO51cc9 S a)) (v : Option Nat) : (X ++ va_pl S.L (wPF cyB cyI cyJ cyZ cyO51cc9 S)).set k (a, .inr (8, [va_rf (S.O_BellTouchesModel.f_now a), va_rf (S.O_BellTouchesModel.f_old a), .int (S.O_BellTouchesModel.f_imaged a), .int (S.O_BellTouchesModel.f_last a), va_rf (S.O_BellTouchesModel.f_bell a), va_rf (S.O_BellTouchesModel.f_key a), .int (S.O_BellTouchesModel.f_texts a), va_rf (S.O_BellTouchesModel.f_text a), .int (S.O_BellTouchesModel.f_at a), .int (S.O_BellTouchesModel.f_fault a), .int (S.O_BellTouchesModel.f_clauses a), va_rf (S.O_BellTouchesModel.f_clause a), va_rf (S.O_BellTouchesModel.f_from a), va_rf v, .int (S.O_BellTouchesModel.f_numbers a), va_rf (S.O_BellTouchesModel.f_number a), va_rf (S.O_BellTouchesModel.f_sort a), va_rf (S.O_BellTouchesModel.f_long1 a), va_rf (S.O_BellTouchesModel.f_items a), va_rf (S.O_BellTouchesModel.f_moved a)])) = X ++ va_pl S.L (wPF cyB cyI cyJ cyZ cyO51cc9 { S with O_BellTouchesModel := { S.O_BellTouchesModel with f_many := va_up S.O_BellTouchesModel.f_many a v } }) := by
  rw [va_pl_set hD hL hk]
  exact congrArg (fun l => X ++ l) (va_pl_congr (wSt_O_BellTouchesModel_f_many cyB cyI cyJ cyZ cyO51cc9 S h v))
theorem wSt_O_BellTouchesModel_f_numbers (cyB : ClassId) (cyI : ClassId) (cyJ : ClassId) (cyZ : ClassId) (cyO51cc9 : ClassId) (S : wPS) {a : Nat} (h : S.K a = 8) (v : Int32) (b : Nat) : va_up (wPF cyB cyI cyJ cyZ cyO51cc9 S) a (.inr (8, [va_rf (S.O_BellTouchesModel.f_now a), va_rf (S.O_BellTouchesModel.f_old a), .int (S.O_BellTouchesModel.f_imaged a), .int (S.O_BellTouchesModel.f_last a), va_rf (S.O_BellTouchesModel.f_bell a), va_rf (S.O_BellTouchesModel.f_key a), .int (S.O_BellTouchesModel.f_texts a), va_rf (S.O_BellTouchesModel.f_text a), .int (S.O_BellTouchesModel.f_at a), .int (S.O_BellTouchesModel.f_fault a), .int (S.O_BellTouchesModel.f_clauses a), va_rf (S.O_BellTouchesModel.f_clause a), va_rf (S.O_BellTouchesModel.f_from a), va_rf (S.O_BellTouchesModel.f_many a), .int v, va_rf (S.O_BellTouchesModel.f_number a), va_rf (S.O_BellTouchesModel.f_sort a), va_rf (S.O_BellTouchesModel.f_long1 a), va_rf (S.O_BellTouchesModel.f_items a), va_rf (S.O_BellTouchesModel.f_moved a)])) b = wPF cyB cyI cyJ cyZ cyO51cc9 { S with O_BellTouchesModel := { S.O_BellTouchesModel with f_numbers := va_up S.O_BellTouchesModel.f_numbers a v } } b := by by_cases hb : b = a <;> first | (simp only [wPF, va_up_ne _ _ hb]; done) | (simp only [wPF, va_up, if_neg hb]; done) | simp [wPF, va_re, va_up, va_rf, hb, h]
theorem wPu_O_BellTouchesModel_f_numbers (cyB : ClassId) (cyI : ClassId) (cyJ : ClassId) (cyZ : ClassId) (cyO51cc9 : ClassId) (X : va_W) (S : wPS) {A : Nat → Prop} {a k : Nat} (hD : va_D A (X ++ va_pl S.L (wPF cyB cyI cyJ cyZ cyO51cc9 S))) (hL : a ∈ S.L) (h : S.K a = 8) (hk : (X ++ va_pl S.L (wPF cyB cyI cyJ cyZ cyO51cc9 S))[k]? = some (a, wPF cyB cyI cyJ cyZ cyO51cc9 S a)) (v : Int32) : (X ++ va_pl S.L (wPF cyB cyI cyJ cyZ cyO51cc9 S)).set k (a, .inr (8, [va_rf (S.O_BellTouchesModel.f_now a), va_rf (S.O_BellTouchesModel.f_old a), .int (S.O_BellTouchesModel.f_imaged a), .int (S.O_BellTouchesModel.f_last a), va_rf (S.O_BellTouchesModel.f_bell a), va_rf (S.O_BellTouchesModel.f_key a), .int (S.O_BellTouchesModel.f_texts a), va_rf (S.O_BellTouchesModel.f_text a), .int (S.O_BellTouchesModel.f_at a), .int (S.O_BellTouchesModel.f_fault a), .int (S.O_BellTouchesModel.f_clauses a), va_rf (S.O_BellTouchesModel.f_clause a), va_rf (S.O_BellTouchesModel.f_from a), va_rf (S.O_BellTouchesModel.f_many a), .int v, va_rf (S.O_BellTouchesModel.f_number a), va_rf (S.O_BellTouchesModel.f_sort a), va_rf (S.O_BellTouchesModel.f_long1 a), va_rf (S.O_BellTouchesModel.f_items a), va_rf (S.O_BellTouchesModel.f_moved a)])) = X ++ va_pl S.L (wPF cyB cyI cyJ cyZ cyO51cc9 { S with O_BellTouchesModel := { S.O_BellTouchesModel with f_numbers := va_up S.O_BellTouchesModel.f_numbers a v } }) := by
  rw [va_pl_set hD hL hk]
  exact congrArg (fun l => X ++ l) (va_pl_congr (wSt_O_BellTouchesModel_f_numbers cyB cyI cyJ cyZ cyO51cc9 S h v))
theorem wSt_O_BellTouchesModel_f_number (cyB : ClassId) (cyI : ClassId) (cyJ : ClassId) (cyZ : ClassId) (cyO51cc9 : ClassId) (S : wPS) {a : Nat} (h : S.K a = 8) (v : Option Nat) (b : Nat) : va_up (wPF cyB cyI cyJ cyZ cyO51cc9 S) a (.inr (8, [va_rf (S.O_BellTouchesModel.f_now a), va_rf (S.O_BellTouchesModel.f_old a), .int (S.O_BellTouchesModel.f_imaged a), .int (S.O_BellTouchesModel.f_last a), va_rf (S.O_BellTouchesModel.f_bell a), va_rf (S.O_BellTouchesModel.f_key a), .int (S.O_BellTouchesModel.f_texts a), va_rf (S.O_BellTouchesModel.f_text a), .int (S.O_BellTouchesModel.f_at a), .int (S.O_BellTouchesModel.f_fault a), .int (S.O_BellTouchesModel.f_clauses a), va_rf (S.O_BellTouchesModel.f_clause a), va_rf (S.O_BellTouchesModel.f_from a), va_rf (S.O_BellTouchesModel.f_many a), .int (S.O_BellTouchesModel.f_numbers a), va_rf v, va_rf (S.O_BellTouchesModel.f_sort a), va_rf (S.O_BellTouchesModel.f_long1 a), va_rf (S.O_BellTouchesModel.f_items a), va_rf (S.O_BellTouchesModel.f_moved a)])) b = wPF cyB cyI cyJ cyZ cyO51cc9 { S with O_BellTouchesModel := { S.O_BellTouchesModel with f_number := va_up S.O_BellTouchesModel.f_number a v } } b := by by_cases hb : b = a <;> first | (simp only [wPF, va_up_ne _ _ hb]; done) | (simp only [wPF, va_up, if_neg hb]; done) | simp [wPF, va_re, va_up, va_rf, hb, h]
theorem wPu_O_BellTouchesModel_f_number (cyB : ClassId) (cyI : ClassId) (cyJ : ClassId) (cyZ : ClassId) (cyO51cc9 : ClassId) (X : va_W) (S : wPS) {A : Nat → Prop} {a k : Nat} (hD : va_D A (X ++ va_pl S.L (wPF cyB cyI cyJ cyZ cyO51cc9 S))) (hL : a ∈ S.L) (h : S.K a = 8) (hk : (X ++ va_pl S.L (wPF cyB cyI cyJ cyZ cyO51cc9 S))[k]? = some (a, wPF cyB cyI cyJ cyZ cyO51cc9 S a)) (v : Option Nat) : (X ++ va_pl S.L (wPF cyB cyI cyJ cyZ cyO51cc9 S)).set k (a, .inr (8, [va_rf (S.O_BellTouchesModel.f_now a), va_rf (S.O_BellTouchesModel.f_old a), .int (S.O_BellTouchesModel.f_imaged a), .int (S.O_BellTouchesModel.f_last a), va_rf (S.O_BellTouchesModel.f_bell a), va_rf (S.O_BellTouchesModel.f_key a), .int (S.O_BellTouchesModel.f_texts a), va_rf (S.O_BellTouchesModel.f_text a), .int (S.O_BellTouchesModel.f_at a), .int (S.O_BellTouchesModel.f_fault a), .int (S.O_BellTouchesModel.f_clauses a), va_rf (S.O_BellTouchesModel.f_clause a), va_rf (S.O_BellTouchesModel.f_from a), va_rf (S.O_BellTouchesModel.f_many a), .int (S.O_BellTouchesModel.f_numbers a), va_rf v, va_rf (S.O_BellTouchesModel.f_sort a), va_rf (S.O_BellTouchesModel.f_long1 a), va_rf (S.O_BellTouchesModel.f_items a), va_rf (S.O_BellTouchesModel.f_moved a)])) = X ++ va_pl S.L (wPF cyB cyI cyJ cyZ cyO51cc9 { S with O_BellTouchesModel := { S.O_BellTouchesModel with f_number := va_up S.O_BellTouchesModel.f_number a v } }) := by
  rw [va_pl_set hD hL hk]
  exact congrArg (fun l => X ++ l) (va_pl_congr (wSt_O_BellTouchesModel_f_number cyB cyI cyJ cyZ cyO51cc9 S h v))
theorem wSt_O_BellTouchesModel_f_sort (cyB : ClassId) (cyI : ClassId) (cyJ : ClassId) (cyZ : ClassId) (cyO51cc9 : ClassId) (S : wPS) {a : Nat} (h : S.K a = 8) (v : Option Nat) (b : Nat) : va_up (wPF cyB cyI cyJ cyZ cyO51cc9 S) a (.inr (8, [va_rf (S.O_BellTouchesModel.f_now a), va_rf (S.O_BellTouchesModel.f_old a), .int (S.O_BellTouchesModel.f_imaged a), .int (S.O_BellTouchesModel.f_last a), va_rf (S.O_BellTouchesModel.f_bell a), va_rf (S.O_BellTouchesModel.f_key a), .int (S.O_BellTouchesModel.f_texts a), va_rf (S.O_BellTouchesModel.f_text a), .int (S.O_BellTouchesModel.f_at a), .int (S.O_BellTouchesModel.f_fault a), .int (S.O_BellTouchesModel.f_clauses a), va_rf (S.O_BellTouchesModel.f_clause a), va_rf (S.O_BellTouchesModel.f_from a), va_rf (S.O_BellTouchesModel.f_many a), .int (S.O_BellTouchesModel.f_numbers a), va_rf (S.O_BellTouchesModel.f_number a), va_rf v, va_rf (S.O_BellTouchesModel.f_long1 a), va_rf (S.O_BellTouchesModel.f_items a), va_rf (S.O_BellTouchesModel.f_moved a)])) b = wPF cyB cyI cyJ cyZ cyO51cc9 { S with O_BellTouchesModel := { S.O_BellTouchesModel with f_sort := va_up S.O_BellTouchesModel.f_sort a v } } b := by by_cases hb : b = a <;> first | (simp only [wPF, va_up_ne _ _ hb]; done) | (simp only [wPF, va_up, if_neg hb]; done) | simp [wPF, va_re, va_up, va_rf, hb, h]
theorem wPu_O_BellTouchesModel_f_sort (cyB : ClassId) (cyI : ClassId) (cyJ : ClassId) (cyZ : ClassId) (cyO51cc9 : ClassId) (X : va_W) (S : wPS) {A : Nat → Prop} {a k : Nat} (hD : va_D A (X ++ va_pl S.L (wPF cyB cyI cyJ cyZ cyO51cc9 S))) (hL : a ∈ S.L) (h : S.K a = 8) (hk : (X ++ va_pl S.L (wPF cyB cyI cyJ cyZ cyO51cc9 S))[k]? = some (a, wPF cyB cyI cyJ cyZ cyO51cc9 S a)) (v : Option Nat) : (X ++ va_pl S.L (wPF cyB cyI cyJ cyZ cyO51cc9 S)).set k (a, .inr (8, [va_rf (S.O_BellTouchesModel.f_now a), va_rf (S.O_BellTouchesModel.f_old a), .int (S.O_BellTouchesModel.f_imaged a), .int (S.O_BellTouchesModel.f_last a), va_rf (S.O_BellTouchesModel.f_bell a), va_rf (S.O_BellTouchesModel.f_key a), .int (S.O_BellTouchesModel.f_texts a), va_rf (S.O_BellTouchesModel.f_text a), .int (S.O_BellTouchesModel.f_at a), .int (S.O_BellTouchesModel.f_fault a), .int (S.O_BellTouchesModel.f_clauses a), va_rf (S.O_BellTouchesModel.f_clause a), va_rf (S.O_BellTouchesModel.f_from a), va_rf (S.O_BellTouchesModel.f_many a), .int (S.O_BellTouchesModel.f_numbers a), va_rf (S.O_BellTouchesModel.f_number a), va_rf v, va_rf (S.O_BellTouchesModel.f_long1 a), va_rf (S.O_BellTouchesModel.f_items a), va_rf (S.O_BellTouchesModel.f_moved a)])) = X ++ va_pl S.L (wPF cyB cyI cyJ cyZ cyO51cc9 { S with O_BellTouchesModel := { S.O_BellTouchesModel with f_sort := va_up S.O_BellTouchesModel.f_sort a v } }) := by
  rw [va_pl_set hD hL hk]
  exact congrArg (fun l => X ++ l) (va_pl_congr (wSt_O_BellTouchesModel_f_sort cyB cyI cyJ cyZ cyO51cc9 S h v))
theorem wSt_O_BellTouchesModel_f_long1 (cyB : ClassId) (cyI : ClassId) (cyJ : ClassId) (cyZ : ClassId) (cyO51cc9 : ClassId) (S : wPS) {a : Nat} (h : S.K a = 8) (v : Option Nat) (b : Nat) : va_up (wPF cyB cyI cyJ cyZ cyO51cc9 S) a (.inr (8, [va_rf (S.O_BellTouchesModel.f_now a), va_rf (S.O_BellTouchesModel.f_old a), .int (S.O_BellTouchesModel.f_imaged a), .int (S.O_BellTouchesModel.f_last a), va_rf (S.O_BellTouchesModel.f_bell a), va_rf (S.O_BellTouchesModel.f_key a), .int (S.O_BellTouchesModel.f_texts a), va_rf (S.O_BellTouchesModel.f_text a), .int (S.O_BellTouchesModel.f_at a), .int (S.O_BellTouchesModel.f_fault a), .int (S.O_BellTouchesModel.f_clauses a), va_rf (S.O_BellTouchesModel.f_clause a), va_rf (S.O_BellTouchesModel.f_from a), va_rf (S.O_BellTouchesModel.f_many a), .int (S.O_BellTouchesModel.f_numbers a), va_rf (S.O_BellTouchesModel.f_number a), va_rf (S.O_BellTouchesModel.f_sort a), va_rf v, va_rf (S.O_BellTouchesModel.f_items a), va_rf (S.O_BellTouchesModel.f_moved a)])) b = wPF cyB cyI cyJ cyZ cyO51cc9 { S with O_BellTouchesModel := { S.O_BellTouchesModel with f_long1 := va_up S.O_BellTouchesModel.f_long1 a v } } b := by by_cases hb : b = a <;> first | (simp only [wPF, va_up_ne _ _ hb]; done) | (simp only [wPF, va_up, if_neg hb]; done) | simp [wPF, va_re, va_up, va_rf, hb, h]
theorem wPu_O_BellTouchesModel_f_long1 (cyB : ClassId) (cyI : ClassId) (cyJ : ClassId) (cyZ : ClassId) (cyO51cc9 : ClassId) (X : va_W) (S : wPS) {A : Nat → Prop} {a k : Nat} (hD : va_D A (X ++ va_pl S.L (wPF cyB cyI cyJ cyZ cyO51cc9 S))) (hL : a ∈ S.L) (h : S.K a = 8) (hk : (X ++ va_pl S.L (wPF cyB cyI cyJ cyZ cyO51cc9 S))[k]? = some (a, wPF cyB cyI cyJ cyZ cyO51cc9 S a)) (v : Option Nat) : (X ++ va_pl S.L (wPF cyB cyI cyJ cyZ cyO51cc9 S)).set k (a, .inr (8, [va_rf (S.O_BellTouchesModel.f_now a), va_rf (S.O_BellTouchesModel.f_old a), .int (S.O_BellTouchesModel.f_imaged a), .int (S.O_BellTouchesModel.f_last a), va_rf (S.O_BellTouchesModel.f_bell a), va_rf (S.O_BellTouchesModel.f_key a), .int (S.O_BellTouchesModel.f_texts a), va_rf (S.O_BellTouchesModel.f_text a), .int (S.O_BellTouchesModel.f_at a), .int (S.O_BellTouchesModel.f_fault a), .int (S.O_BellTouchesModel.f_clauses a), va_rf (S.O_BellTouchesModel.f_clause a), va_rf (S.O_BellTouchesModel.f_from a), va_rf (S.O_BellTouchesModel.f_many a), .int (S.O_BellTouchesModel.f_numbers a), va_rf (S.O_BellTouchesModel.f_number a), va_rf (S.O_BellTouchesModel.f_sort a), va_rf v, va_rf (S.O_BellTouchesModel.f_items a), va_rf (S.O_BellTouchesModel.f_moved a)])) = X ++ va_pl S.L (wPF cyB cyI cyJ cyZ cyO51cc9 { S with O_BellTouchesModel := { S.O_BellTouchesModel with f_long1 := va_up S.O_BellTouchesModel.f_long1 a v } }) := by
  rw [va_pl_set hD hL hk]
  exact congrArg (fun l => X ++ l) (va_pl_congr (wSt_O_BellTouchesModel_f_long1 cyB cyI cyJ cyZ cyO51cc9 S h v))
theorem wSt_O_BellTouchesModel_f_items (cyB : ClassId) (cyI : ClassId) (cyJ : ClassId) (cyZ : ClassId) (cyO51cc9 : ClassId) (S : wPS) {a : Nat} (h : S.K a = 8) (v : Option Nat) (b : Nat) : va_up (wPF cyB cyI cyJ cyZ cyO51cc9 S) a (.inr (8, [va_rf (S.O_BellTouchesModel.f_now a), va_rf (S.O_BellTouchesModel.f_old a), .int (S.O_BellTouchesModel.f_imaged a), .int (S.O_BellTouchesModel.f_last a), va_rf (S.O_BellTouchesModel.f_bell a), va_rf (S.O_BellTouchesModel.f_key a), .int (S.O_BellTouchesModel.f_texts a), va_rf (S.O_BellTouchesModel.f_text a), .int (S.O_BellTouchesModel.f_at a), .int (S.O_BellTouchesModel.f_fault a), .int (S.O_BellTouchesModel.f_clauses a), va_rf (S.O_BellTouchesModel.f_clause a), va_rf (S.O_BellTouchesModel.f_from a), va_rf (S.O_BellTouchesModel.f_many a), .int (S.O_BellTouchesModel.f_numbers a), va_rf (S.O_BellTouchesModel.f_number a), va_rf (S.O_BellTouchesModel.f_sort a), va_rf (S.O_BellTouchesModel.f_long1 a), va_rf v, va_rf (S.O_BellTouchesModel.f_moved a)])) b = wPF cyB cyI cyJ cyZ cyO51cc9 { S with O_BellTouchesModel := { S.O_BellTouchesModel with f_items := va_up S.O_BellTouchesModel.f_items a v } } b := by by_cases hb : b = a <;> first | (simp only [wPF, va_up_ne _ _ hb]; done) | (simp only [wPF, va_up, if_neg hb]; done) | simp [wPF, va_re, va_up, va_rf, hb, h]
theorem wPu_O_BellTouchesModel_f_items (cyB : ClassId) (cyI : ClassId) (cyJ : ClassId) (cyZ : ClassId) (cyO51cc9 : ClassId) (X : va_W) (S : wPS) {A : Nat → Prop} {a k : Nat} (hD : va_D A (X ++ va_pl S.L (wPF cyB cyI cyJ cyZ cyO51cc9 S))) (hL : a ∈ S.L) (h : S.K a = 8) (hk : (X ++ va_pl S.L (wPF cyB cyI cyJ cyZ cyO51cc9 S))[k]? = some (a, wPF cyB cyI cyJ cyZ cyO51cc9 S a)) (v : Option Nat) : (X ++ va_pl S.L (wPF cyB cyI cyJ cyZ cyO51cc9 S)).set k (a, .inr (8, [va_rf (S.O_BellTouchesModel.f_now a), va_rf (S.O_BellTouchesModel.f_old a), .int (S.O_BellTouchesModel.f_imaged a), .int (S.O_BellTouchesModel.f_last a), va_rf (S.O_BellTouchesModel.f_bell a), va_rf (S.O_BellTouchesModel.f_key a), .int (S.O_BellTouchesModel.f_texts a), va_rf (S.O_BellTouchesModel.f_text a), .int (S.O_BellTouchesModel.f_at a), .int (S.O_BellTouchesModel.f_fault a), .int (S.O_BellTouchesModel.f_clauses a), va_rf (S.O_BellTouchesModel.f_clause a), va_rf (S.O_BellTouchesModel.f_from a), va_rf (S.O_BellTouchesModel.f_many a), .int (S.O_BellTouchesModel.f_numbers a), va_rf (S.O_BellTouchesModel.f_number a), va_rf (S.O_BellTouchesModel.f_sort a), va_rf (S.O_BellTouchesModel.f_long1 a), va_rf v, va_rf (S.O_BellTouchesModel.f_moved a)])) = X ++ va_pl S.L (wPF cyB cyI cyJ cyZ cyO51cc9 { S with O_BellTouchesModel := { S.O_BellTouchesModel with f_items := va_up S.O_BellTouchesModel.f_items a v } }) := by
  rw [va_pl_set hD hL hk]
  exact congrArg (fun l => X ++ l) (va_pl_congr (wSt_O_BellTouchesModel_f_items cyB cyI cyJ cyZ cyO51cc9 S h v))
theorem wSt_O_BellTouchesModel_f_moved (cyB : ClassId) (cyI : ClassId) (cyJ : ClassId) (cyZ : ClassId) (cyO51cc9 : ClassId) (S : wPS) {a : Nat} (h : S.K a = 8) (v : Option Nat) (b : Nat) : va_up (wPF cyB cyI cyJ cyZ cyO51cc9 S) a (.inr (8, [va_rf (S.O_BellTouchesModel.f_now a), va_rf (S.O_BellTouchesModel.f_old a), .int (S.O_BellTouchesModel.f_imaged a), .int (S.O_BellTouchesModel.f_last a), va_rf (S.O_BellTouchesModel.f_bell a), va_rf (S.O_BellTouchesModel.f_key a), .int (S.O_BellTouchesModel.f_texts a), va_rf (S.O_BellTouchesModel.f_text a), .int (S.O_BellTouchesModel.f_at a), .int (S.O_BellTouchesModel.f_fault a), .int (S.O_BellTouchesModel.f_clauses a), va_rf (S.O_BellTouchesModel.f_clause a), va_rf (S.O_BellTouchesModel.f_from a), va_rf (S.O_BellTouchesModel.f_many a), .int (S.O_BellTouchesModel.f_numbers a), va_rf (S.O_BellTouchesModel.f_number a), va_rf (S.O_BellTouchesModel.f_sort a), va_rf (S.O_BellTouchesModel.f_long1 a), va_rf (S.O_BellTouchesModel.f_items a), va_rf v])) b = wPF cyB cyI cyJ cyZ cyO51cc9 { S with O_BellTouchesModel := { S.O_BellTouchesModel with f_moved := va_up S.O_BellTouchesModel.f_moved a v } } b := by by_cases hb : b = a <;> first | (simp only [wPF, va_up_ne _ _ hb]; done) | (simp only [wPF, va_up, if_neg hb]; done) | simp [wPF, va_re, va_up, va_rf, hb, h]
theorem wPu_O_BellTouchesModel_f_moved (cyB : ClassId) (cyI : ClassId) (cyJ : ClassId) (cyZ : ClassId) (cyO51cc9 : ClassId) (X : va_W) (S : wPS) {A : Nat → Prop} {a k : Nat} (hD : va_D A (X ++ va_pl S.L (wPF cyB cyI cyJ cyZ cyO51cc9 S))) (hL : a ∈ S.L) (h : S.K a = 8) (hk : (X ++ va_pl S.L (wPF cyB cyI cyJ cyZ cyO51cc9 S))[k]? = some (a, wPF cyB cyI cyJ cyZ cyO51cc9 S a)) (v : Option Nat) : (X ++ va_pl S.L (wPF cyB cyI cyJ cyZ cyO51cc9 S)).set k (a, .inr (8, [va_rf (S.O_BellTouchesModel.f_now a), va_rf (S.O_BellTouchesModel.f_old a), .int (S.O_BellTouchesModel.f_imaged a), .int (S.O_BellTouchesModel.f_last a), va_rf (S.O_BellTouchesModel.f_bell a), va_rf (S.O_BellTouchesModel.f_key a), .int (S.O_BellTouchesModel.f_texts a), va_rf (S.O_BellTouchesModel.f_text a), .int (S.O_BellTouchesModel.f_at a), .int (S.O_BellTouchesModel.f_fault a), .int (S.O_BellTouchesModel.f_clauses a), va_rf (S.O_BellTouchesModel.f_clause a), va_rf (S.O_BellTouchesModel.f_from a), va_rf (S.O_BellTouchesModel.f_many a), .int (S.O_BellTouchesModel.f_numbers a), va_rf (S.O_BellTouchesModel.f_number a), va_rf (S.O_BellTouchesModel.f_sort a), va_rf (S.O_BellTouchesModel.f_long1 a), va_rf (S.O_BellTouchesModel.f_items a), va_rf v])) = X ++ va_pl S.L (wPF cyB cyI cyJ cyZ cyO51cc9 { S with O_BellTouchesModel := { S.O_BellTouchesModel with f_moved := va_up S.O_BellTouchesModel.f_moved a v } }) := by
  rw [va_pl_set hD hL hk]
  exact congrArg (fun l => X ++ l) (va_pl_congr (wSt_O_BellTouchesModel_f_moved cyB cyI cyJ cyZ cyO51cc9 S h v))
theorem wNw_O_BellTouchesModel (cyB : ClassId) (cyI : ClassId) (cyJ : ClassId) (cyZ : ClassId) (cyO51cc9 : ClassId) (S : wPS) (a b : Nat) : va_up (wPF cyB cyI cyJ cyZ cyO51cc9 S) a (.inr (8, [.null, .null, .int 0, .int 0, .null, .null, .int 0, .null, .int 0, .int 0, .int 0, .null, .null, .null, .int 0, .null, .null, .null, .null, .null])) b = wPF cyB cyI cyJ cyZ cyO51cc9 { S with L := S.L ++ [a], K := va_up S.K a 8, O_BellTouchesModel := { f_now := va_up S.O_BellTouchesModel.f_now a none, f_old := va_up S.O_BellTouchesModel.f_old a none, f_imaged := va_up S.O_BellTouchesModel.f_imaged a 0, f_last := va_up S.O_BellTouchesModel.f_last a 0, f_bell := va_up S.O_BellTouchesModel.f_bell a none, f_key := va_up S.O_BellTouchesModel.f_key a none, f_texts := va_up S.O_BellTouchesModel.f_texts a 0, f_text := va_up S.O_BellTouchesModel.f_text a none, f_at := va_up S.O_BellTouchesModel.f_at a 0, f_fault := va_up S.O_BellTouchesModel.f_fault a 0, f_clauses := va_up S.O_BellTouchesModel.f_clauses a 0, f_clause := va_up S.O_BellTouchesModel.f_clause a none, f_from := va_up S.O_BellTouchesModel.f_from a none, f_many := va_up S.O_BellTouchesModel.f_many a none, f_numbers := va_up S.O_BellTouchesModel.f_numbers a 0, f_number := va_up S.O_BellTouchesModel.f_number a none, f_sort := va_up S.O_BellTouchesModel.f_sort a none, f_long1 := va_up S.O_BellTouchesModel.f_long1 a none, f_items := va_up S.O_BellTouchesModel.f_items a none, f_moved := va_up S.O_BellTouchesModel.f_moved a none } } b := by by_cases hb : b = a <;> first | (simp only [wPF, va_up_ne _ _ hb]; done) | (simp only [wPF, va_up, if_neg hb]; done) | simp [wPF, va_re, va_up, va_rf, hb]
theorem wPn_O_BellTouchesModel (cyB : ClassId) (cyI : ClassId) (cyJ : ClassId) (cyZ : ClassId) (cyO51cc9 : ClassId) (X : va_W) (S : wPS) {a : Nat} (ha : a ∉ S.L) : (X ++ va_pl S.L (wPF cyB cyI cyJ cyZ cyO51cc9 S)) ++ [(a, .inr (8, [.null, .null, .int 0, .int 0, .null, .null, .int 0, .null, .int 0, .int 0, .int 0, .null, .null, .null, .int 0, .null, .null, .null, .null, .null]))] = X ++ va_pl (S.L ++ [a]) (wPF cyB cyI cyJ cyZ cyO51cc9 { S with L := S.L ++ [a], K := va_up S.K a 8, O_BellTouchesModel := { f_now := va_up S.O_BellTouchesModel.f_now a none, f_old := va_up S.O_BellTouchesModel.f_old a none, f_imaged := va_up S.O_BellTouchesModel.f_imaged a 0, f_last := va_up S.O_BellTouchesModel.f_last a 0, f_bell := va_up S.O_BellTouchesModel.f_bell a none, f_key := va_up S.O_BellTouchesModel.f_key a none, f_texts := va_up S.O_BellTouchesModel.f_texts a 0, f_text := va_up S.O_BellTouchesModel.f_text a none, f_at := va_up S.O_BellTouchesModel.f_at a 0, f_fault := va_up S.O_BellTouchesModel.f_fault a 0, f_clauses := va_up S.O_BellTouchesModel.f_clauses a 0, f_clause := va_up S.O_BellTouchesModel.f_clause a none, f_from := va_up S.O_BellTouchesModel.f_from a none, f_many := va_up S.O_BellTouchesModel.f_many a none, f_numbers := va_up S.O_BellTouchesModel.f_numbers a 0, f_number := va_up S.O_BellTouchesModel.f_number a none, f_sort := va_up S.O_BellTouchesModel.f_sort a none, f_long1 := va_up S.O_BellTouchesModel.f_long1 a none, f_items := va_up S.O_BellTouchesModel.f_items a none, f_moved := va_up S.O_BellTouchesModel.f_moved a none } }) := by
  rw [List.append_assoc, va_pl_push ha]
  exact congrArg (fun l => X ++ l) (va_pl_congr (wNw_O_BellTouchesModel cyB cyI cyJ cyZ cyO51cc9 S a))
theorem wAt_R_B (cyB : ClassId) (cyI : ClassId) (cyJ : ClassId) (cyZ : ClassId) (cyO51cc9 : ClassId) (S : wPS) {a : Nat} (h : S.K a = 9) : wPF cyB cyI cyJ cyZ cyO51cc9 S a = .inl (cyB, S.R_B.len a, .inl (S.R_B.row a)) := by simp [wPF, h]
theorem wGt_R_B (cyB : ClassId) (cyI : ClassId) (cyJ : ClassId) (cyZ : ClassId) (cyO51cc9 : ClassId) (X : va_W) (S : wPS) {a : Nat} (hL : a ∈ S.L) (h : S.K a = 9) : ∃ k : Nat, (X ++ va_pl S.L (wPF cyB cyI cyJ cyZ cyO51cc9 S))[k]? = some (a, wPF cyB cyI cyJ cyZ cyO51cc9 S a) ∧ (X ++ va_pl S.L (wPF cyB cyI cyJ cyZ cyO51cc9 S))[k]? = some (a, .inl (cyB, S.R_B.len a, .inl (S.R_B.row a))) := by
  obtain ⟨k, hk⟩ := va_pl_get (X := X) (f := wPF cyB cyI cyJ cyZ cyO51cc9 S) hL
  exact ⟨k, hk, hk.trans (congrArg (fun e => some (a, e)) (wAt_R_B cyB cyI cyJ cyZ cyO51cc9 S h))⟩
theorem wSt_R_B_row (cyB : ClassId) (cyI : ClassId) (cyJ : ClassId) (cyZ : ClassId) (cyO51cc9 : ClassId) (S : wPS) {a : Nat} (h : S.K a = 9) (v : Nat → Int32) (b : Nat) : va_up (wPF cyB cyI cyJ cyZ cyO51cc9 S) a (.inl (cyB, S.R_B.len a, .inl v)) b = wPF cyB cyI cyJ cyZ cyO51cc9 { S with R_B := { S.R_B with row := va_up S.R_B.row a v } } b := by by_cases hb : b = a <;> first | (simp only [wPF, va_up_ne _ _ hb]; done) | (simp only [wPF, va_up, if_neg hb]; done) | simp [wPF, va_re, va_up, va_rf, hb, h]
theorem wPu_R_B_row (cyB : ClassId) (cyI : ClassId) (cyJ : ClassId) (cyZ : ClassId) (cyO51cc9 : ClassId) (X : va_W) (S : wPS) {A : Nat → Prop} {a k : Nat} (hD : va_D A (X ++ va_pl S.L (wPF cyB cyI cyJ cyZ cyO51cc9 S))) (hL : a ∈ S.L) (h : S.K a = 9) (hk : (X ++ va_pl S.L (wPF cyB cyI cyJ cyZ cyO51cc9 S))[k]? = some (a, wPF cyB cyI cyJ cyZ cyO51cc9 S a)) (v : Nat → Int32) : (X ++ va_pl S.L (wPF cyB cyI cyJ cyZ cyO51cc9 S)).set k (a, .inl (cyB, S.R_B.len a, .inl v)) = X ++ va_pl S.L (wPF cyB cyI cyJ cyZ cyO51cc9 { S with R_B := { S.R_B with row := va_up S.R_B.row a v } }) := by
  rw [va_pl_set hD hL hk]
  exact congrArg (fun l => X ++ l) (va_pl_congr (wSt_R_B_row cyB cyI cyJ cyZ cyO51cc9 S h v))
theorem wNw_R_B (cyB : ClassId) (cyI : ClassId) (cyJ : ClassId) (cyZ : ClassId) (cyO51cc9 : ClassId) (S : wPS) (a : Nat) (z : Nat) (f : Nat → Int32) (b : Nat) : va_up (wPF cyB cyI cyJ cyZ cyO51cc9 S) a (.inl (cyB, z, .inl f)) b = wPF cyB cyI cyJ cyZ cyO51cc9 { S with L := S.L ++ [a], K := va_up S.K a 9, R_B := { len := va_up S.R_B.len a z, row := va_up S.R_B.row a f } } b := by by_cases hb : b = a <;> first | (simp only [wPF, va_up_ne _ _ hb]; done) | (simp only [wPF, va_up, if_neg hb]; done) | simp [wPF, va_re, va_up, va_rf, hb]
theorem wAt_R_I (cyB : ClassId) (cyI : ClassId) (cyJ : ClassId) (cyZ : ClassId) (cyO51cc9 : ClassId) (S : wPS) {a : Nat} (h : S.K a = 10) : wPF cyB cyI cyJ cyZ cyO51cc9 S a = .inl (cyI, S.R_I.len a, .inl (S.R_I.row a)) := by simp [wPF, h]
theorem wGt_R_I (cyB : ClassId) (cyI : ClassId) (cyJ : ClassId) (cyZ : ClassId) (cyO51cc9 : ClassId) (X : va_W) (S : wPS) {a : Nat} (hL : a ∈ S.L) (h : S.K a = 10) : ∃ k : Nat, (X ++ va_pl S.L (wPF cyB cyI cyJ cyZ cyO51cc9 S))[k]? = some (a, wPF cyB cyI cyJ cyZ cyO51cc9 S a) ∧ (X ++ va_pl S.L (wPF cyB cyI cyJ cyZ cyO51cc9 S))[k]? = some (a, .inl (cyI, S.R_I.len a, .inl (S.R_I.row a))) := by
  obtain ⟨k, hk⟩ := va_pl_get (X := X) (f := wPF cyB cyI cyJ cyZ cyO51cc9 S) hL
  exact ⟨k, hk, hk.trans (congrArg (fun e => some (a, e)) (wAt_R_I cyB cyI cyJ cyZ cyO51cc9 S h))⟩
theorem wSt_R_I_row (cyB : ClassId) (cyI : ClassId) (cyJ : ClassId) (cyZ : ClassId) (cyO51cc9 : ClassId) (S : wPS) {a : Nat} (h : S.K a = 10) (v : Nat → Int32) (b : Nat) : va_up (wPF cyB cyI cyJ cyZ cyO51cc9 S) a (.inl (cyI, S.R_I.len a, .inl v)) b = wPF cyB cyI cyJ cyZ cyO51cc9 { S with R_I := { S.R_I with row := va_up S.R_I.row a v } } b := by by_cases hb : b = a <;> first | (simp only [wPF, va_up_ne _ _ hb]; done) | (simp only [wPF, va_up, if_neg hb]; done) | simp [wPF, va_re, va_up, va_rf, hb, h]
theorem wPu_R_I_row (cyB : ClassId) (cyI : ClassId) (cyJ : ClassId) (cyZ : ClassId) (cyO51cc9 : ClassId) (X : va_W) (S : wPS) {A : Nat → Prop} {a k : Nat} (hD : va_D A (X ++ va_pl S.L (wPF cyB cyI cyJ cyZ cyO51cc9 S))) (hL : a ∈ S.L) (h : S.K a = 10) (hk : (X ++ va_pl S.L (wPF cyB cyI cyJ cyZ cyO51cc9 S))[k]? = some (a, wPF cyB cyI cyJ cyZ cyO51cc9 S a)) (v : Nat → Int32) : (X ++ va_pl S.L (wPF cyB cyI cyJ cyZ cyO51cc9 S)).set k (a, .inl (cyI, S.R_I.len a, .inl v)) = X ++ va_pl S.L (wPF cyB cyI cyJ cyZ cyO51cc9 { S with R_I := { S.R_I with row := va_up S.R_I.row a v } }) := by
  rw [va_pl_set hD hL hk]
  exact congrArg (fun l => X ++ l) (va_pl_congr (wSt_R_I_row cyB cyI cyJ cyZ cyO51cc9 S h v))
theorem wNw_R_I (cyB : ClassId) (cyI : ClassId) (cyJ : ClassId) (cyZ : ClassId) (cyO51cc9 : ClassId) (S : wPS) (a : Nat) (z : Nat) (f : Nat → Int32) (b : Nat) : va_up (wPF cyB cyI cyJ cyZ cyO51cc9 S) a (.inl (cyI, z, .inl f)) b = wPF cyB cyI cyJ cyZ cyO51cc9 { S with L := S.L ++ [a], K := va_up S.K a 10, R_I := { len := va_up S.R_I.len a z, row := va_up S.R_I.row a f } } b := by by_cases hb : b = a <;> first | (simp only [wPF, va_up_ne _ _ hb]; done) | (simp only [wPF, va_up, if_neg hb]; done) | simp [wPF, va_re, va_up, va_rf, hb]
theorem wAt_R_J (cyB : ClassId) (cyI : ClassId) (cyJ : ClassId) (cyZ : ClassId) (cyO51cc9 : ClassId) (S : wPS) {a : Nat} (h : S.K a = 11) : wPF cyB cyI cyJ cyZ cyO51cc9 S a = .inl (cyJ, S.R_J.len a, .inr (.inl (S.R_J.row a))) := by simp [wPF, h]
theorem wGt_R_J (cyB : ClassId) (cyI : ClassId) (cyJ : ClassId) (cyZ : ClassId) (cyO51cc9 : ClassId) (X : va_W) (S : wPS) {a : Nat} (hL : a ∈ S.L) (h : S.K a = 11) : ∃ k : Nat, (X ++ va_pl S.L (wPF cyB cyI cyJ cyZ cyO51cc9 S))[k]? = some (a, wPF cyB cyI cyJ cyZ cyO51cc9 S a) ∧ (X ++ va_pl S.L (wPF cyB cyI cyJ cyZ cyO51cc9 S))[k]? = some (a, .inl (cyJ, S.R_J.len a, .inr (.inl (S.R_J.row a)))) := by
  obtain ⟨k, hk⟩ := va_pl_get (X := X) (f := wPF cyB cyI cyJ cyZ cyO51cc9 S) hL
  exact ⟨k, hk, hk.trans (congrArg (fun e => some (a, e)) (wAt_R_J cyB cyI cyJ cyZ cyO51cc9 S h))⟩
theorem wSt_R_J_row (cyB : ClassId) (cyI : ClassId) (cyJ : ClassId) (cyZ : ClassId) (cyO51cc9 : ClassId) (S : wPS) {a : Nat} (h : S.K a = 11) (v : Nat → Int64) (b : Nat) : va_up (wPF cyB cyI cyJ cyZ cyO51cc9 S) a (.inl (cyJ, S.R_J.len a, .inr (.inl v))) b = wPF cyB cyI cyJ cyZ cyO51cc9 { S with R_J := { S.R_J with row := va_up S.R_J.row a v } } b := by by_cases hb : b = a <;> first | (simp only [wPF, va_up_ne _ _ hb]; done) | (simp only [wPF, va_up, if_neg hb]; done) | simp [wPF, va_re, va_up, va_rf, hb, h]
theorem wPu_R_J_row (cyB : ClassId) (cyI : ClassId) (cyJ : ClassId) (cyZ : ClassId) (cyO51cc9 : ClassId) (X : va_W) (S : wPS) {A : Nat → Prop} {a k : Nat} (hD : va_D A (X ++ va_pl S.L (wPF cyB cyI cyJ cyZ cyO51cc9 S))) (hL : a ∈ S.L) (h : S.K a = 11) (hk : (X ++ va_pl S.L (wPF cyB cyI cyJ cyZ cyO51cc9 S))[k]? = some (a, wPF cyB cyI cyJ cyZ cyO51cc9 S a)) (v : Nat → Int64) : (X ++ va_pl S.L (wPF cyB cyI cyJ cyZ cyO51cc9 S)).set k (a, .inl (cyJ, S.R_J.len a, .inr (.inl v))) = X ++ va_pl S.L (wPF cyB cyI cyJ cyZ cyO51cc9 { S with R_J := { S.R_J with row := va_up S.R_J.row a v } }) := by
  rw [va_pl_set hD hL hk]
  exact congrArg (fun l => X ++ l) (va_pl_congr (wSt_R_J_row cyB cyI cyJ cyZ cyO51cc9 S h v))
theorem wNw_R_J (cyB : ClassId) (cyI : ClassId) (cyJ : ClassId) (cyZ : ClassId) (cyO51cc9 : ClassId) (S : wPS) (a : Nat) (z : Nat) (f : Nat → Int64) (b : Nat) : va_up (wPF cyB cyI cyJ cyZ cyO51cc9 S) a (.inl (cyJ, z, .inr (.inl f))) b = wPF cyB cyI cyJ cyZ cyO51cc9 { S with L := S.L ++ [a], K := va_up S.K a 11, R_J := { len := va_up S.R_J.len a z, row := va_up S.R_J.row a f } } b := by by_cases hb : b = a <;> first | (simp only [wPF, va_up_ne _ _ hb]; done) | (simp only [wPF, va_up, if_neg hb]; done) | simp [wPF, va_re, va_up, va_rf, hb]
theorem wAt_R_Z (cyB : ClassId) (cyI : ClassId) (cyJ : ClassId) (cyZ : ClassId) (cyO51cc9 : ClassId) (S : wPS) {a : Nat} (h : S.K a = 12) : wPF cyB cyI cyJ cyZ cyO51cc9 S a = .inl (cyZ, S.R_Z.len a, .inl (S.R_Z.row a)) := by simp [wPF, h]
theorem wGt_R_Z (cyB : ClassId) (cyI : ClassId) (cyJ : ClassId) (cyZ : ClassId) (cyO51cc9 : ClassId) (X : va_W) (S : wPS) {a : Nat} (hL : a ∈ S.L) (h : S.K a = 12) : ∃ k : Nat, (X ++ va_pl S.L (wPF cyB cyI cyJ cyZ cyO51cc9 S))[k]? = some (a, wPF cyB cyI cyJ cyZ cyO51cc9 S a) ∧ (X ++ va_pl S.L (wPF cyB cyI cyJ cyZ cyO51cc9 S))[k]? = some (a, .inl (cyZ, S.R_Z.len a, .inl (S.R_Z.row a))) := by
  obtain ⟨k, hk⟩ := va_pl_get (X := X) (f := wPF cyB cyI cyJ cyZ cyO51cc9 S) hL
  exact ⟨k, hk, hk.trans (congrArg (fun e => some (a, e)) (wAt_R_Z cyB cyI cyJ cyZ cyO51cc9 S h))⟩
theorem wSt_R_Z_row (cyB : ClassId) (cyI : ClassId) (cyJ : ClassId) (cyZ : ClassId) (cyO51cc9 : ClassId) (S : wPS) {a : Nat} (h : S.K a = 12) (v : Nat → Int32) (b : Nat) : va_up (wPF cyB cyI cyJ cyZ cyO51cc9 S) a (.inl (cyZ, S.R_Z.len a, .inl v)) b = wPF cyB cyI cyJ cyZ cyO51cc9 { S with R_Z := { S.R_Z with row := va_up S.R_Z.row a v } } b := by by_cases hb : b = a <;> first | (simp only [wPF, va_up_ne _ _ hb]; done) | (simp only [wPF, va_up, if_neg hb]; done) | simp [wPF, va_re, va_up, va_rf, hb, h]
theorem wPu_R_Z_row (cyB : ClassId) (cyI : ClassId) (cyJ : ClassId) (cyZ : ClassId) (cyO51cc9 : ClassId) (X : va_W) (S : wPS) {A : Nat → Prop} {a k : Nat} (hD : va_D A (X ++ va_pl S.L (wPF cyB cyI cyJ cyZ cyO51cc9 S))) (hL : a ∈ S.L) (h : S.K a = 12) (hk : (X ++ va_pl S.L (wPF cyB cyI cyJ cyZ cyO51cc9 S))[k]? = some (a, wPF cyB cyI cyJ cyZ cyO51cc9 S a)) (v : Nat → Int32) : (X ++ va_pl S.L (wPF cyB cyI cyJ cyZ cyO51cc9 S)).set k (a, .inl (cyZ, S.R_Z.len a, .inl v)) = X ++ va_pl S.L (wPF cyB cyI cyJ cyZ cyO51cc9 { S with R_Z := { S.R_Z with row := va_up S.R_Z.row a v } }) := by
  rw [va_pl_set hD hL hk]
  exact congrArg (fun l => X ++ l) (va_pl_congr (wSt_R_Z_row cyB cyI cyJ cyZ cyO51cc9 S h v))
theorem wNw_R_Z (cyB : ClassId) (cyI : ClassId) (cyJ : ClassId) (cyZ : ClassId) (cyO51cc9 : ClassId) (S : wPS) (a : Nat) (z : Nat) (f : Nat → Int32) (b : Nat) : va_up (wPF cyB cyI cyJ cyZ cyO51cc9 S) a (.inl (cyZ, z, .inl f)) b = wPF cyB cyI cyJ cyZ cyO51cc9 { S with L := S.L ++ [a], K := va_up S.K a 12, R_Z := { len := va_up S.R_Z.len a z, row := va_up S.R_Z.row a f } } b := by by_cases hb : b = a <;> first | (simp only [wPF, va_up_ne _ _ hb]; done) | (simp only [wPF, va_up, if_neg hb]; done) | simp [wPF, va_re, va_up, va_rf, hb]
theorem wAt_R_Tape (cyB : ClassId) (cyI : ClassId) (cyJ : ClassId) (cyZ : ClassId) (cyO51cc9 : ClassId) (S : wPS) {a : Nat} (h : S.K a = 13) : wPF cyB cyI cyJ cyZ cyO51cc9 S a = .inl (cyO51cc9, S.R_Tape.len a, .inr (.inr (.inr (.inr (S.R_Tape.row a))))) := by simp [wPF, h]
theorem wGt_R_Tape (cyB : ClassId) (cyI : ClassId) (cyJ : ClassId) (cyZ : ClassId) (cyO51cc9 : ClassId) (X : va_W) (S : wPS) {a : Nat} (hL : a ∈ S.L) (h : S.K a = 13) : ∃ k : Nat, (X ++ va_pl S.L (wPF cyB cyI cyJ cyZ cyO51cc9 S))[k]? = some (a, wPF cyB cyI cyJ cyZ cyO51cc9 S a) ∧ (X ++ va_pl S.L (wPF cyB cyI cyJ cyZ cyO51cc9 S))[k]? = some (a, .inl (cyO51cc9, S.R_Tape.len a, .inr (.inr (.inr (.inr (S.R_Tape.row a)))))) := by
  obtain ⟨k, hk⟩ := va_pl_get (X := X) (f := wPF cyB cyI cyJ cyZ cyO51cc9 S) hL
  exact ⟨k, hk, hk.trans (congrArg (fun e => some (a, e)) (wAt_R_Tape cyB cyI cyJ cyZ cyO51cc9 S h))⟩
theorem wSt_R_Tape_row (cyB : ClassId) (cyI : ClassId) (cyJ : ClassId) (cyZ : ClassId) (cyO51cc9 : ClassId) (S : wPS) {a : Nat} (h : S.K a = 13) (v : Nat → Option Nat) (b : Nat) : va_up (wPF cyB cyI cyJ cyZ cyO51cc9 S) a (.inl (cyO51cc9, S.R_Tape.len a, .inr (.inr (.inr (.inr v))))) b = wPF cyB cyI cyJ cyZ cyO51cc9 { S with R_Tape := { S.R_Tape with row := va_up S.R_Tape.row a v } } b := by by_cases hb : b = a <;> first | (simp only [wPF, va_up_ne _ _ hb]; done) | (simp only [wPF, va_up, if_neg hb]; done) | simp [wPF, va_re, va_up, va_rf, hb, h]
theorem wPu_R_Tape_row (cyB : ClassId) (cyI : ClassId) (cyJ : ClassId) (cyZ : ClassId) (cyO51cc9 : ClassId) (X : va_W) (S : wPS) {A : Nat → Prop} {a k : Nat} (hD : va_D A (X ++ va_pl S.L (wPF cyB cyI cyJ cyZ cyO51cc9 S))) (hL : a ∈ S.L) (h : S.K a = 13) (hk : (X ++ va_pl S.L (wPF cyB cyI cyJ cyZ cyO51cc9 S))[k]? = some (a, wPF cyB cyI cyJ cyZ cyO51cc9 S a)) (v : Nat → Option Nat) : (X ++ va_pl S.L (wPF cyB cyI cyJ cyZ cyO51cc9 S)).set k (a, .inl (cyO51cc9, S.R_Tape.len a, .inr (.inr (.inr (.inr v))))) = X ++ va_pl S.L (wPF cyB cyI cyJ cyZ cyO51cc9 { S with R_Tape := { S.R_Tape with row := va_up S.R_Tape.row a v } }) := by
  rw [va_pl_set hD hL hk]
  exact congrArg (fun l => X ++ l) (va_pl_congr (wSt_R_Tape_row cyB cyI cyJ cyZ cyO51cc9 S h v))
theorem wNw_R_Tape (cyB : ClassId) (cyI : ClassId) (cyJ : ClassId) (cyZ : ClassId) (cyO51cc9 : ClassId) (S : wPS) (a : Nat) (z : Nat) (f : Nat → Option Nat) (b : Nat) : va_up (wPF cyB cyI cyJ cyZ cyO51cc9 S) a (.inl (cyO51cc9, z, .inr (.inr (.inr (.inr f))))) b = wPF cyB cyI cyJ cyZ cyO51cc9 { S with L := S.L ++ [a], K := va_up S.K a 13, R_Tape := { len := va_up S.R_Tape.len a z, row := va_up S.R_Tape.row a f } } b := by by_cases hb : b = a <;> first | (simp only [wPF, va_up_ne _ _ hb]; done) | (simp only [wPF, va_up, if_neg hb]; done) | simp [wPF, va_re, va_up, va_rf, hb]
/-! ===== END printed: names ===== -/

