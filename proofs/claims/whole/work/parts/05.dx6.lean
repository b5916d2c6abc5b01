theorem dX6_init_0 : decode cX6_init 0 = .ok (.aload_n 0, 1) := by decide +kernel
theorem dX6_init_1 : decode cX6_init 1 = .ok (.invokespecial 1, 3) := by decide +kernel
theorem dX6_init_4 : decode cX6_init 4 = .ok (.aload_n 0, 1) := by decide +kernel
theorem dX6_init_5 : decode cX6_init 5 = .ok (.bipush 60, 2) := by decide +kernel
theorem dX6_init_7 : decode cX6_init 7 = .ok (.newarray .int, 2) := by decide +kernel
theorem dX6_init_9 : decode cX6_init 9 = .ok (.putfield 7, 3) := by decide +kernel
theorem dX6_init_12 : decode cX6_init 12 = .ok (.aload_n 0, 1) := by decide +kernel
theorem dX6_init_13 : decode cX6_init 13 = .ok (.bipush 60, 2) := by decide +kernel
theorem dX6_init_15 : decode cX6_init 15 = .ok (.newarray .int, 2) := by decide +kernel
theorem dX6_init_17 : decode cX6_init 17 = .ok (.putfield 13, 3) := by decide +kernel
theorem dX6_init_20 : decode cX6_init 20 = .ok (.aload_n 0, 1) := by decide +kernel
theorem dX6_init_21 : decode cX6_init 21 = .ok (.iconst 1, 1) := by decide +kernel
theorem dX6_init_22 : decode cX6_init 22 = .ok (.putfield 16, 3) := by decide +kernel
theorem dX6_init_25 : decode cX6_init 25 = .ok (.aload_n 0, 1) := by decide +kernel
theorem dX6_init_26 : decode cX6_init 26 = .ok (.bipush 60, 2) := by decide +kernel
theorem dX6_init_28 : decode cX6_init 28 = .ok (.newarray .int, 2) := by decide +kernel
theorem dX6_init_30 : decode cX6_init 30 = .ok (.putfield 20, 3) := by decide +kernel
theorem dX6_init_33 : decode cX6_init 33 = .ok (.aload_n 0, 1) := by decide +kernel
theorem dX6_init_34 : decode cX6_init 34 = .ok (.sipush 720, 3) := by decide +kernel
theorem dX6_init_37 : decode cX6_init 37 = .ok (.newarray .int, 2) := by decide +kernel
theorem dX6_init_39 : decode cX6_init 39 = .ok (.putfield 23, 3) := by decide +kernel
theorem dX6_init_42 : decode cX6_init 42 = .ok (.aload_n 0, 1) := by decide +kernel
theorem dX6_init_43 : decode cX6_init 43 = .ok (.bipush 8, 2) := by decide +kernel
theorem dX6_init_45 : decode cX6_init 45 = .ok (.newarray .int, 2) := by decide +kernel
theorem dX6_init_47 : decode cX6_init 47 = .ok (.putfield 26, 3) := by decide +kernel
theorem dX6_init_50 : decode cX6_init 50 = .ok (.aload_n 0, 1) := by decide +kernel
theorem dX6_init_51 : decode cX6_init 51 = .ok (.bipush 8, 2) := by decide +kernel
theorem dX6_init_53 : decode cX6_init 53 = .ok (.newarray .int, 2) := by decide +kernel
theorem dX6_init_55 : decode cX6_init 55 = .ok (.putfield 29, 3) := by decide +kernel
theorem dX6_init_58 : decode cX6_init 58 = .ok (.aload_n 0, 1) := by decide +kernel
theorem dX6_init_59 : decode cX6_init 59 = .ok (.bipush 8, 2) := by decide +kernel
theorem dX6_init_61 : decode cX6_init 61 = .ok (.newarray .int, 2) := by decide +kernel
theorem dX6_init_63 : decode cX6_init 63 = .ok (.putfield 32, 3) := by decide +kernel
theorem dX6_init_66 : decode cX6_init 66 = .ok (.aload_n 0, 1) := by decide +kernel
theorem dX6_init_67 : decode cX6_init 67 = .ok (.bipush 8, 2) := by decide +kernel
theorem dX6_init_69 : decode cX6_init 69 = .ok (.newarray .int, 2) := by decide +kernel
theorem dX6_init_71 : decode cX6_init 71 = .ok (.putfield 35, 3) := by decide +kernel
theorem dX6_init_74 : decode cX6_init 74 = .ok (.aload_n 0, 1) := by decide +kernel
theorem dX6_init_75 : decode cX6_init 75 = .ok (.bipush 8, 2) := by decide +kernel
theorem dX6_init_77 : decode cX6_init 77 = .ok (.newarray .int, 2) := by decide +kernel
theorem dX6_init_79 : decode cX6_init 79 = .ok (.putfield 38, 3) := by decide +kernel
theorem dX6_init_82 : decode cX6_init 82 = .ok (.aload_n 0, 1) := by decide +kernel
theorem dX6_init_83 : decode cX6_init 83 = .ok (.bipush 8, 2) := by decide +kernel
theorem dX6_init_85 : decode cX6_init 85 = .ok (.newarray .int, 2) := by decide +kernel
theorem dX6_init_87 : decode cX6_init 87 = .ok (.putfield 41, 3) := by decide +kernel
theorem dX6_init_90 : decode cX6_init 90 = .ok (.aload_n 0, 1) := by decide +kernel
theorem dX6_init_91 : decode cX6_init 91 = .ok (.bipush 8, 2) := by decide +kernel
theorem dX6_init_93 : decode cX6_init 93 = .ok (.newarray .int, 2) := by decide +kernel
theorem dX6_init_95 : decode cX6_init 95 = .ok (.putfield 44, 3) := by decide +kernel
theorem dX6_init_98 : decode cX6_init 98 = .ok (.aload_n 0, 1) := by decide +kernel
theorem dX6_init_99 : decode cX6_init 99 = .ok (.bipush 8, 2) := by decide +kernel
theorem dX6_init_101 : decode cX6_init 101 = .ok (.newarray .boolean, 2) := by decide +kernel
theorem dX6_init_103 : decode cX6_init 103 = .ok (.putfield 47, 3) := by decide +kernel
theorem dX6_init_106 : decode cX6_init 106 = .ok (.aload_n 0, 1) := by decide +kernel
theorem dX6_init_107 : decode cX6_init 107 = .ok (.sipush 480, 3) := by decide +kernel
theorem dX6_init_110 : decode cX6_init 110 = .ok (.newarray .boolean, 2) := by decide +kernel
theorem dX6_init_112 : decode cX6_init 112 = .ok (.putfield 51, 3) := by decide +kernel
theorem dX6_init_115 : decode cX6_init 115 = .ok (.aload_n 0, 1) := by decide +kernel
theorem dX6_init_116 : decode cX6_init 116 = .ok (.bipush 24, 2) := by decide +kernel
theorem dX6_init_118 : decode cX6_init 118 = .ok (.newarray .int, 2) := by decide +kernel
theorem dX6_init_120 : decode cX6_init 120 = .ok (.putfield 54, 3) := by decide +kernel
theorem dX6_init_123 : decode cX6_init 123 = .ok (.aload_n 0, 1) := by decide +kernel
theorem dX6_init_124 : decode cX6_init 124 = .ok (.bipush 8, 2) := by decide +kernel
theorem dX6_init_126 : decode cX6_init 126 = .ok (.newarray .int, 2) := by decide +kernel
theorem dX6_init_128 : decode cX6_init 128 = .ok (.putfield 57, 3) := by decide +kernel
theorem dX6_init_131 : decode cX6_init 131 = .ok (.aload_n 0, 1) := by decide +kernel
theorem dX6_init_132 : decode cX6_init 132 = .ok (.bipush 40, 2) := by decide +kernel
theorem dX6_init_134 : decode cX6_init 134 = .ok (.newarray .int, 2) := by decide +kernel
theorem dX6_init_136 : decode cX6_init 136 = .ok (.putfield 60, 3) := by decide +kernel
theorem dX6_init_139 : decode cX6_init 139 = .ok (.aload_n 0, 1) := by decide +kernel
theorem dX6_init_140 : decode cX6_init 140 = .ok (.bipush 40, 2) := by decide +kernel
theorem dX6_init_142 : decode cX6_init 142 = .ok (.newarray .int, 2) := by decide +kernel
theorem dX6_init_144 : decode cX6_init 144 = .ok (.putfield 63, 3) := by decide +kernel
theorem dX6_init_147 : decode cX6_init 147 = .ok (.aload_n 0, 1) := by decide +kernel
theorem dX6_init_148 : decode cX6_init 148 = .ok (.bipush 40, 2) := by decide +kernel
theorem dX6_init_150 : decode cX6_init 150 = .ok (.newarray .int, 2) := by decide +kernel
theorem dX6_init_152 : decode cX6_init 152 = .ok (.putfield 66, 3) := by decide +kernel
theorem dX6_init_155 : decode cX6_init 155 = .ok (.aload_n 0, 1) := by decide +kernel
theorem dX6_init_156 : decode cX6_init 156 = .ok (.sipush 9999, 3) := by decide +kernel
theorem dX6_init_159 : decode cX6_init 159 = .ok (.putfield 69, 3) := by decide +kernel
theorem dX6_init_162 : decode cX6_init 162 = .ok (.aload_n 0, 1) := by decide +kernel
theorem dX6_init_163 : decode cX6_init 163 = .ok (.bipush 48, 2) := by decide +kernel
theorem dX6_init_165 : decode cX6_init 165 = .ok (.newarray .int, 2) := by decide +kernel
theorem dX6_init_167 : decode cX6_init 167 = .ok (.putfield 72, 3) := by decide +kernel
theorem dX6_init_170 : decode cX6_init 170 = .ok (.aload_n 0, 1) := by decide +kernel
theorem dX6_init_171 : decode cX6_init 171 = .ok (.bipush 6, 2) := by decide +kernel
theorem dX6_init_173 : decode cX6_init 173 = .ok (.newarray .int, 2) := by decide +kernel
theorem dX6_init_175 : decode cX6_init 175 = .ok (.putfield 75, 3) := by decide +kernel
theorem dX6_init_178 : decode cX6_init 178 = .ok (.aload_n 0, 1) := by decide +kernel
theorem dX6_init_179 : decode cX6_init 179 = .ok (.bipush 6, 2) := by decide +kernel
theorem dX6_init_181 : decode cX6_init 181 = .ok (.newarray .int, 2) := by decide +kernel
theorem dX6_init_183 : decode cX6_init 183 = .ok (.putfield 78, 3) := by decide +kernel
theorem dX6_init_186 : decode cX6_init 186 = .ok (.aload_n 0, 1) := by decide +kernel
theorem dX6_init_187 : decode cX6_init 187 = .ok (.bipush 6, 2) := by decide +kernel
theorem dX6_init_189 : decode cX6_init 189 = .ok (.newarray .int, 2) := by decide +kernel
theorem dX6_init_191 : decode cX6_init 191 = .ok (.putfield 81, 3) := by decide +kernel
theorem dX6_init_194 : decode cX6_init 194 = .ok (.aload_n 0, 1) := by decide +kernel
theorem dX6_init_195 : decode cX6_init 195 = .ok (.bipush 8, 2) := by decide +kernel
theorem dX6_init_197 : decode cX6_init 197 = .ok (.newarray .int, 2) := by decide +kernel
theorem dX6_init_199 : decode cX6_init 199 = .ok (.putfield 84, 3) := by decide +kernel
theorem dX6_init_202 : decode cX6_init 202 = .ok (.aload_n 0, 1) := by decide +kernel
theorem dX6_init_203 : decode cX6_init 203 = .ok (.bipush 12, 2) := by decide +kernel
theorem dX6_init_205 : decode cX6_init 205 = .ok (.newarray .int, 2) := by decide +kernel
theorem dX6_init_207 : decode cX6_init 207 = .ok (.putfield 87, 3) := by decide +kernel
theorem dX6_init_210 : decode cX6_init 210 = .ok (.aload_n 0, 1) := by decide +kernel
theorem dX6_init_211 : decode cX6_init 211 = .ok (.bipush 12, 2) := by decide +kernel
theorem dX6_init_213 : decode cX6_init 213 = .ok (.newarray .int, 2) := by decide +kernel
theorem dX6_init_215 : decode cX6_init 215 = .ok (.putfield 90, 3) := by decide +kernel
theorem dX6_init_218 : decode cX6_init 218 = .ok (.aload_n 0, 1) := by decide +kernel
theorem dX6_init_219 : decode cX6_init 219 = .ok (.bipush 12, 2) := by decide +kernel
theorem dX6_init_221 : decode cX6_init 221 = .ok (.newarray .int, 2) := by decide +kernel
theorem dX6_init_223 : decode cX6_init 223 = .ok (.putfield 93, 3) := by decide +kernel
theorem dX6_init_226 : decode cX6_init 226 = .ok (.iconst 0, 1) := by decide +kernel
theorem dX6_init_227 : decode cX6_init 227 = .ok (.istore_n 1, 1) := by decide +kernel
theorem dX6_init_228 : decode cX6_init 228 = .ok (.iload_n 1, 1) := by decide +kernel
theorem dX6_init_229 : decode cX6_init 229 = .ok (.bipush 12, 2) := by decide +kernel
theorem dX6_init_231 : decode cX6_init 231 = .ok (.if_icmp .ge 16, 3) := by decide +kernel
theorem dX6_init_234 : decode cX6_init 234 = .ok (.aload_n 0, 1) := by decide +kernel
theorem dX6_init_235 : decode cX6_init 235 = .ok (.getfield 23, 3) := by decide +kernel
theorem dX6_init_238 : decode cX6_init 238 = .ok (.iload_n 1, 1) := by decide +kernel
theorem dX6_init_239 : decode cX6_init 239 = .ok (.iconst (-1), 1) := by decide +kernel
theorem dX6_init_240 : decode cX6_init 240 = .ok (.iastore, 1) := by decide +kernel
theorem dX6_init_241 : decode cX6_init 241 = .ok (.iinc 1 1, 3) := by decide +kernel
theorem dX6_init_244 : decode cX6_init 244 = .ok (.goto (-16), 3) := by decide +kernel
theorem dX6_init_247 : decode cX6_init 247 = .ok (.iconst 0, 1) := by decide +kernel
theorem dX6_init_248 : decode cX6_init 248 = .ok (.istore_n 1, 1) := by decide +kernel
theorem dX6_init_249 : decode cX6_init 249 = .ok (.iload_n 1, 1) := by decide +kernel
theorem dX6_init_250 : decode cX6_init 250 = .ok (.bipush 48, 2) := by decide +kernel
theorem dX6_init_252 : decode cX6_init 252 = .ok (.if_icmp .ge 16, 3) := by decide +kernel
theorem dX6_init_255 : decode cX6_init 255 = .ok (.aload_n 0, 1) := by decide +kernel
theorem dX6_init_256 : decode cX6_init 256 = .ok (.getfield 72, 3) := by decide +kernel
theorem dX6_init_259 : decode cX6_init 259 = .ok (.iload_n 1, 1) := by decide +kernel
theorem dX6_init_260 : decode cX6_init 260 = .ok (.iconst (-1), 1) := by decide +kernel
theorem dX6_init_261 : decode cX6_init 261 = .ok (.iastore, 1) := by decide +kernel
theorem dX6_init_262 : decode cX6_init 262 = .ok (.iinc 1 1, 3) := by decide +kernel
theorem dX6_init_265 : decode cX6_init 265 = .ok (.goto (-16), 3) := by decide +kernel
theorem dX6_init_268 : decode cX6_init 268 = .ok (.iconst 0, 1) := by decide +kernel
theorem dX6_init_269 : decode cX6_init 269 = .ok (.istore_n 1, 1) := by decide +kernel
theorem dX6_init_270 : decode cX6_init 270 = .ok (.iload_n 1, 1) := by decide +kernel
theorem dX6_init_271 : decode cX6_init 271 = .ok (.bipush 6, 2) := by decide +kernel
theorem dX6_init_273 : decode cX6_init 273 = .ok (.if_icmp .ge 25, 3) := by decide +kernel
theorem dX6_init_276 : decode cX6_init 276 = .ok (.aload_n 0, 1) := by decide +kernel
theorem dX6_init_277 : decode cX6_init 277 = .ok (.getfield 75, 3) := by decide +kernel
theorem dX6_init_280 : decode cX6_init 280 = .ok (.iload_n 1, 1) := by decide +kernel
theorem dX6_init_281 : decode cX6_init 281 = .ok (.sipush 9999, 3) := by decide +kernel
theorem dX6_init_284 : decode cX6_init 284 = .ok (.iastore, 1) := by decide +kernel
theorem dX6_init_285 : decode cX6_init 285 = .ok (.aload_n 0, 1) := by decide +kernel
theorem dX6_init_286 : decode cX6_init 286 = .ok (.getfield 78, 3) := by decide +kernel
theorem dX6_init_289 : decode cX6_init 289 = .ok (.iload_n 1, 1) := by decide +kernel
theorem dX6_init_290 : decode cX6_init 290 = .ok (.iconst (-1), 1) := by decide +kernel
theorem dX6_init_291 : decode cX6_init 291 = .ok (.iastore, 1) := by decide +kernel
theorem dX6_init_292 : decode cX6_init 292 = .ok (.iinc 1 1, 3) := by decide +kernel
theorem dX6_init_295 : decode cX6_init 295 = .ok (.goto (-25), 3) := by decide +kernel
theorem dX6_init_298 : decode cX6_init 298 = .ok (.return_, 1) := by decide +kernel
theorem dX6_in_0 : decode cX6_in 0 = .ok (.iload_n 0, 1) := by decide +kernel
theorem dX6_in_1 : decode cX6_in 1 = .ok (.iload_n 1, 1) := by decide +kernel
theorem dX6_in_2 : decode cX6_in 2 = .ok (.if_icmp .lt 12, 3) := by decide +kernel
theorem dX6_in_5 : decode cX6_in 5 = .ok (.iload_n 0, 1) := by decide +kernel
theorem dX6_in_6 : decode cX6_in 6 = .ok (.iload_n 2, 1) := by decide +kernel
theorem dX6_in_7 : decode cX6_in 7 = .ok (.if_icmp .gt 7, 3) := by decide +kernel
theorem dX6_in_10 : decode cX6_in 10 = .ok (.iconst 1, 1) := by decide +kernel
theorem dX6_in_11 : decode cX6_in 11 = .ok (.goto 4, 3) := by decide +kernel
theorem dX6_in_14 : decode cX6_in 14 = .ok (.iconst 0, 1) := by decide +kernel
theorem dX6_in_15 : decode cX6_in 15 = .ok (.ireturn, 1) := by decide +kernel
set_option maxRecDepth 20000 in
theorem ggX6_file_X6_in : GoodIn wsX6_file wsX6_in := goodIn_r _ [7] (by decide +kernel) (by decide +kernel)
set_option maxRecDepth 20000 in
theorem gX6_file_X6_in : GoodIn wsX6_file (va_wsS RX6 99 yX6_in wsX6_in) := goodIn_app (goodIn_of _ (by decide +kernel)) ggX6_file_X6_in
theorem dX6_file_0 : decode cX6_file 0 = .ok (.aload_n 0, 1) := by decide +kernel
theorem dX6_file_1 : decode cX6_file 1 = .ok (.getfield 96, 3) := by decide +kernel
theorem dX6_file_4 : decode cX6_file 4 = .ok (.bipush 60, 2) := by decide +kernel
theorem dX6_file_6 : decode cX6_file 6 = .ok (.if_icmp .eq 14, 3) := by decide +kernel
theorem dX6_file_9 : decode cX6_file 9 = .ok (.iload_n 1, 1) := by decide +kernel
theorem dX6_file_10 : decode cX6_file 10 = .ok (.iconst 1, 1) := by decide +kernel
theorem dX6_file_11 : decode cX6_file 11 = .ok (.sipush 500, 3) := by decide +kernel
theorem dX6_file_14 : decode cX6_file 14 = .ok (.invokestatic 99, 3) := by decide +kernel
theorem dX6_file_17 : decode cX6_file 17 = .ok (.ifCond .ne 5, 3) := by decide +kernel
theorem dX6_file_20 : decode cX6_file 20 = .ok (.iconst (-1), 1) := by decide +kernel
theorem dX6_file_21 : decode cX6_file 21 = .ok (.ireturn, 1) := by decide +kernel
theorem dX6_file_22 : decode cX6_file 22 = .ok (.aload_n 0, 1) := by decide +kernel
theorem dX6_file_23 : decode cX6_file 23 = .ok (.getfield 7, 3) := by decide +kernel
theorem dX6_file_26 : decode cX6_file 26 = .ok (.aload_n 0, 1) := by decide +kernel
theorem dX6_file_27 : decode cX6_file 27 = .ok (.getfield 96, 3) := by decide +kernel
theorem dX6_file_30 : decode cX6_file 30 = .ok (.iload_n 1, 1) := by decide +kernel
theorem dX6_file_31 : decode cX6_file 31 = .ok (.iastore, 1) := by decide +kernel
theorem dX6_file_32 : decode cX6_file 32 = .ok (.aload_n 0, 1) := by decide +kernel
theorem dX6_file_33 : decode cX6_file 33 = .ok (.getfield 13, 3) := by decide +kernel
theorem dX6_file_36 : decode cX6_file 36 = .ok (.aload_n 0, 1) := by decide +kernel
theorem dX6_file_37 : decode cX6_file 37 = .ok (.getfield 96, 3) := by decide +kernel
theorem dX6_file_40 : decode cX6_file 40 = .ok (.iconst (-1), 1) := by decide +kernel
theorem dX6_file_41 : decode cX6_file 41 = .ok (.iastore, 1) := by decide +kernel
theorem dX6_file_42 : decode cX6_file 42 = .ok (.aload_n 0, 1) := by decide +kernel
theorem dX6_file_43 : decode cX6_file 43 = .ok (.dup, 1) := by decide +kernel
theorem dX6_file_44 : decode cX6_file 44 = .ok (.getfield 96, 3) := by decide +kernel
theorem dX6_file_47 : decode cX6_file 47 = .ok (.iconst 1, 1) := by decide +kernel
theorem dX6_file_48 : decode cX6_file 48 = .ok (.iadd, 1) := by decide +kernel
theorem dX6_file_49 : decode cX6_file 49 = .ok (.putfield 96, 3) := by decide +kernel
theorem dX6_file_52 : decode cX6_file 52 = .ok (.aload_n 0, 1) := by decide +kernel
theorem dX6_file_53 : decode cX6_file 53 = .ok (.getfield 96, 3) := by decide +kernel
theorem dX6_file_56 : decode cX6_file 56 = .ok (.iconst 1, 1) := by decide +kernel
theorem dX6_file_57 : decode cX6_file 57 = .ok (.isub, 1) := by decide +kernel
theorem dX6_file_58 : decode cX6_file 58 = .ok (.ireturn, 1) := by decide +kernel
set_option maxRecDepth 20000 in
theorem ggX6_isFile_X6_in : GoodIn wsX6_isFile wsX6_in := goodIn_r _ [5] (by decide +kernel) (by decide +kernel)
set_option maxRecDepth 20000 in
theorem gX6_isFile_X6_in : GoodIn wsX6_isFile (va_wsS RX6 99 yX6_in wsX6_in) := goodIn_app (goodIn_of _ (by decide +kernel)) ggX6_isFile_X6_in
theorem dX6_isFile_0 : decode cX6_isFile 0 = .ok (.iload_n 1, 1) := by decide +kernel
theorem dX6_isFile_1 : decode cX6_isFile 1 = .ok (.iconst 0, 1) := by decide +kernel
theorem dX6_isFile_2 : decode cX6_isFile 2 = .ok (.aload_n 0, 1) := by decide +kernel
theorem dX6_isFile_3 : decode cX6_isFile 3 = .ok (.getfield 96, 3) := by decide +kernel
theorem dX6_isFile_6 : decode cX6_isFile 6 = .ok (.iconst 1, 1) := by decide +kernel
theorem dX6_isFile_7 : decode cX6_isFile 7 = .ok (.isub, 1) := by decide +kernel
theorem dX6_isFile_8 : decode cX6_isFile 8 = .ok (.invokestatic 99, 3) := by decide +kernel
theorem dX6_isFile_11 : decode cX6_isFile 11 = .ok (.ireturn, 1) := by decide +kernel
theorem dX6_comes_0 : decode cX6_comes 0 = .ok (.iconst 0, 1) := by decide +kernel
theorem dX6_comes_1 : decode cX6_comes 1 = .ok (.istore_n 1, 1) := by decide +kernel
theorem dX6_comes_2 : decode cX6_comes 2 = .ok (.iload_n 1, 1) := by decide +kernel
theorem dX6_comes_3 : decode cX6_comes 3 = .ok (.bipush 12, 2) := by decide +kernel
theorem dX6_comes_5 : decode cX6_comes 5 = .ok (.if_icmp .ge 39, 3) := by decide +kernel
theorem dX6_comes_8 : decode cX6_comes 8 = .ok (.aload_n 0, 1) := by decide +kernel
theorem dX6_comes_9 : decode cX6_comes 9 = .ok (.getfield 23, 3) := by decide +kernel
theorem dX6_comes_12 : decode cX6_comes 12 = .ok (.bipush 12, 2) := by decide +kernel
theorem dX6_comes_14 : decode cX6_comes 14 = .ok (.aload_n 0, 1) := by decide +kernel
theorem dX6_comes_15 : decode cX6_comes 15 = .ok (.getfield 16, 3) := by decide +kernel
theorem dX6_comes_18 : decode cX6_comes 18 = .ok (.imul, 1) := by decide +kernel
theorem dX6_comes_19 : decode cX6_comes 19 = .ok (.iload_n 1, 1) := by decide +kernel
theorem dX6_comes_20 : decode cX6_comes 20 = .ok (.iadd, 1) := by decide +kernel
theorem dX6_comes_21 : decode cX6_comes 21 = .ok (.aload_n 0, 1) := by decide +kernel
theorem dX6_comes_22 : decode cX6_comes 22 = .ok (.getfield 23, 3) := by decide +kernel
theorem dX6_comes_25 : decode cX6_comes 25 = .ok (.bipush 12, 2) := by decide +kernel
theorem dX6_comes_27 : decode cX6_comes 27 = .ok (.aload_n 0, 1) := by decide +kernel
theorem dX6_comes_28 : decode cX6_comes 28 = .ok (.getfield 16, 3) := by decide +kernel
theorem dX6_comes_31 : decode cX6_comes 31 = .ok (.iconst 1, 1) := by decide +kernel
theorem dX6_comes_32 : decode cX6_comes 32 = .ok (.isub, 1) := by decide +kernel
theorem dX6_comes_33 : decode cX6_comes 33 = .ok (.imul, 1) := by decide +kernel
theorem dX6_comes_34 : decode cX6_comes 34 = .ok (.iload_n 1, 1) := by decide +kernel
theorem dX6_comes_35 : decode cX6_comes 35 = .ok (.iadd, 1) := by decide +kernel
theorem dX6_comes_36 : decode cX6_comes 36 = .ok (.iaload, 1) := by decide +kernel
theorem dX6_comes_37 : decode cX6_comes 37 = .ok (.iastore, 1) := by decide +kernel
theorem dX6_comes_38 : decode cX6_comes 38 = .ok (.iinc 1 1, 3) := by decide +kernel
theorem dX6_comes_41 : decode cX6_comes 41 = .ok (.goto (-39), 3) := by decide +kernel
theorem dX6_comes_44 : decode cX6_comes 44 = .ok (.aload_n 0, 1) := by decide +kernel
theorem dX6_comes_45 : decode cX6_comes 45 = .ok (.getfield 20, 3) := by decide +kernel
theorem dX6_comes_48 : decode cX6_comes 48 = .ok (.aload_n 0, 1) := by decide +kernel
theorem dX6_comes_49 : decode cX6_comes 49 = .ok (.getfield 16, 3) := by decide +kernel
theorem dX6_comes_52 : decode cX6_comes 52 = .ok (.aload_n 0, 1) := by decide +kernel
theorem dX6_comes_53 : decode cX6_comes 53 = .ok (.getfield 103, 3) := by decide +kernel
theorem dX6_comes_56 : decode cX6_comes 56 = .ok (.iastore, 1) := by decide +kernel
theorem dX6_comes_57 : decode cX6_comes 57 = .ok (.aload_n 0, 1) := by decide +kernel
theorem dX6_comes_58 : decode cX6_comes 58 = .ok (.dup, 1) := by decide +kernel
theorem dX6_comes_59 : decode cX6_comes 59 = .ok (.getfield 16, 3) := by decide +kernel
theorem dX6_comes_62 : decode cX6_comes 62 = .ok (.iconst 1, 1) := by decide +kernel
theorem dX6_comes_63 : decode cX6_comes 63 = .ok (.iadd, 1) := by decide +kernel
theorem dX6_comes_64 : decode cX6_comes 64 = .ok (.putfield 16, 3) := by decide +kernel
theorem dX6_comes_67 : decode cX6_comes 67 = .ok (.return_, 1) := by decide +kernel
set_option maxRecDepth 20000 in
theorem ggX6_put_X6_in : GoodIn wsX6_put wsX6_in := goodIn_r _ [7] (by decide +kernel) (by decide +kernel)
set_option maxRecDepth 20000 in
theorem gX6_put_X6_in : GoodIn wsX6_put (va_wsS RX6 99 yX6_in wsX6_in) := goodIn_app (goodIn_of _ (by decide +kernel)) ggX6_put_X6_in
set_option maxRecDepth 20000 in
theorem ggX6_put_X6_isFile : GoodIn wsX6_put wsX6_isFile := goodIn_r _ [11, 12, 4, 5, 6, 7, 19, 20, 21, 22, 23, 24, 25, 26, 27, 28, 29, 30, 31, 32, 33, 34, 35, 36, 37, 38, 39, 40, 41, 42, 43, 44, 45, 46, 47, 48, 49, 50, 51, 52, 53, 54, 55, 56, 57, 58] (by decide +kernel) (by decide +kernel)
set_option maxRecDepth 20000 in
theorem gX6_put_X6_isFile : GoodIn wsX6_put (wsV RX6 106 RX6 yX6_isFile wsX6_isFile) := goodIn_app (goodIn_of _ (by decide +kernel)) ggX6_put_X6_isFile
set_option maxRecDepth 20000 in
theorem ggX6_put_X6_comes : GoodIn wsX6_put wsX6_comes := goodIn_r _ [16, 3, 1, 17, 18, 19, 20, 21, 22, 23, 24, 25, 26, 27, 28, 29, 30, 31, 32, 33, 34, 35, 36, 37, 38, 39, 40, 41, 42, 43, 44, 45, 46, 47, 48, 49, 50, 51, 52, 53, 54, 55, 56, 57, 58] (by decide +kernel) (by decide +kernel)
set_option maxRecDepth 20000 in
theorem gX6_put_X6_comes : GoodIn wsX6_put (wsV RX6 110 RX6 yX6_comes wsX6_comes) := goodIn_app (goodIn_of _ (by decide +kernel)) ggX6_put_X6_comes
theorem dX6_put_0 : decode cX6_put 0 = .ok (.aload_n 0, 1) := by decide +kernel
theorem dX6_put_1 : decode cX6_put 1 = .ok (.getfield 16, 3) := by decide +kernel
theorem dX6_put_4 : decode cX6_put 4 = .ok (.bipush 60, 2) := by decide +kernel
theorem dX6_put_6 : decode cX6_put 6 = .ok (.if_icmp .eq 51, 3) := by decide +kernel
theorem dX6_put_9 : decode cX6_put 9 = .ok (.iload_n 1, 1) := by decide +kernel
theorem dX6_put_10 : decode cX6_put 10 = .ok (.iconst 0, 1) := by decide +kernel
theorem dX6_put_11 : decode cX6_put 11 = .ok (.bipush 11, 2) := by decide +kernel
theorem dX6_put_13 : decode cX6_put 13 = .ok (.invokestatic 99, 3) := by decide +kernel
theorem dX6_put_16 : decode cX6_put 16 = .ok (.ifCond .eq 41, 3) := by decide +kernel
theorem dX6_put_19 : decode cX6_put 19 = .ok (.aload_n 0, 1) := by decide +kernel
theorem dX6_put_20 : decode cX6_put 20 = .ok (.iload_n 2, 1) := by decide +kernel
theorem dX6_put_21 : decode cX6_put 21 = .ok (.invokevirtual 106, 3) := by decide +kernel
theorem dX6_put_24 : decode cX6_put 24 = .ok (.ifCond .eq 33, 3) := by decide +kernel
theorem dX6_put_27 : decode cX6_put 27 = .ok (.aload_n 0, 1) := by decide +kernel
theorem dX6_put_28 : decode cX6_put 28 = .ok (.getfield 13, 3) := by decide +kernel
theorem dX6_put_31 : decode cX6_put 31 = .ok (.iload_n 2, 1) := by decide +kernel
theorem dX6_put_32 : decode cX6_put 32 = .ok (.iaload, 1) := by decide +kernel
theorem dX6_put_33 : decode cX6_put 33 = .ok (.iconst (-1), 1) := by decide +kernel
theorem dX6_put_34 : decode cX6_put 34 = .ok (.if_icmp .ne 23, 3) := by decide +kernel
theorem dX6_put_37 : decode cX6_put 37 = .ok (.aload_n 0, 1) := by decide +kernel
theorem dX6_put_38 : decode cX6_put 38 = .ok (.getfield 23, 3) := by decide +kernel
theorem dX6_put_41 : decode cX6_put 41 = .ok (.bipush 12, 2) := by decide +kernel
theorem dX6_put_43 : decode cX6_put 43 = .ok (.aload_n 0, 1) := by decide +kernel
theorem dX6_put_44 : decode cX6_put 44 = .ok (.getfield 16, 3) := by decide +kernel
theorem dX6_put_47 : decode cX6_put 47 = .ok (.iconst 1, 1) := by decide +kernel
theorem dX6_put_48 : decode cX6_put 48 = .ok (.isub, 1) := by decide +kernel
theorem dX6_put_49 : decode cX6_put 49 = .ok (.imul, 1) := by decide +kernel
theorem dX6_put_50 : decode cX6_put 50 = .ok (.iload_n 1, 1) := by decide +kernel
theorem dX6_put_51 : decode cX6_put 51 = .ok (.iadd, 1) := by decide +kernel
theorem dX6_put_52 : decode cX6_put 52 = .ok (.iaload, 1) := by decide +kernel
theorem dX6_put_53 : decode cX6_put 53 = .ok (.iload_n 2, 1) := by decide +kernel
theorem dX6_put_54 : decode cX6_put 54 = .ok (.if_icmp .ne 5, 3) := by decide +kernel
theorem dX6_put_57 : decode cX6_put 57 = .ok (.iconst (-1), 1) := by decide +kernel
theorem dX6_put_58 : decode cX6_put 58 = .ok (.ireturn, 1) := by decide +kernel
theorem dX6_put_59 : decode cX6_put 59 = .ok (.aload_n 0, 1) := by decide +kernel
theorem dX6_put_60 : decode cX6_put 60 = .ok (.invokevirtual 110, 3) := by decide +kernel
theorem dX6_put_63 : decode cX6_put 63 = .ok (.aload_n 0, 1) := by decide +kernel
theorem dX6_put_64 : decode cX6_put 64 = .ok (.getfield 23, 3) := by decide +kernel
theorem dX6_put_67 : decode cX6_put 67 = .ok (.bipush 12, 2) := by decide +kernel
theorem dX6_put_69 : decode cX6_put 69 = .ok (.aload_n 0, 1) := by decide +kernel
theorem dX6_put_70 : decode cX6_put 70 = .ok (.getfield 16, 3) := by decide +kernel
theorem dX6_put_73 : decode cX6_put 73 = .ok (.iconst 1, 1) := by decide +kernel
theorem dX6_put_74 : decode cX6_put 74 = .ok (.isub, 1) := by decide +kernel
theorem dX6_put_75 : decode cX6_put 75 = .ok (.imul, 1) := by decide +kernel
theorem dX6_put_76 : decode cX6_put 76 = .ok (.iload_n 1, 1) := by decide +kernel
theorem dX6_put_77 : decode cX6_put 77 = .ok (.iadd, 1) := by decide +kernel
theorem dX6_put_78 : decode cX6_put 78 = .ok (.iload_n 2, 1) := by decide +kernel
theorem dX6_put_79 : decode cX6_put 79 = .ok (.iastore, 1) := by decide +kernel
theorem dX6_put_80 : decode cX6_put 80 = .ok (.aload_n 0, 1) := by decide +kernel
theorem dX6_put_81 : decode cX6_put 81 = .ok (.getfield 16, 3) := by decide +kernel
theorem dX6_put_84 : decode cX6_put 84 = .ok (.iconst 1, 1) := by decide +kernel
theorem dX6_put_85 : decode cX6_put 85 = .ok (.isub, 1) := by decide +kernel
theorem dX6_put_86 : decode cX6_put 86 = .ok (.ireturn, 1) := by decide +kernel
set_option maxRecDepth 20000 in
theorem ggX6_yank_X6_isFile : GoodIn wsX6_yank wsX6_isFile := goodIn_r _ [9, 10, 11, 12, 8, 13, 19, 20, 21, 22, 23, 24, 25, 26, 27, 28, 29, 30, 31, 32, 33, 34, 35, 36, 37, 38, 39, 40, 41, 42, 43, 44, 45, 46, 47, 48, 49, 50, 51, 52, 53, 54, 55, 56, 57, 58] (by decide +kernel) (by decide +kernel)
set_option maxRecDepth 20000 in
theorem gX6_yank_X6_isFile : GoodIn wsX6_yank (wsV RX6 106 RX6 yX6_isFile wsX6_isFile) := goodIn_app (goodIn_of _ (by decide +kernel)) ggX6_yank_X6_isFile
set_option maxRecDepth 20000 in
theorem ggX6_yank_X6_comes : GoodIn wsX6_yank wsX6_comes := goodIn_r _ [17, 4, 1, 18, 3, 19, 20, 21, 22, 23, 24, 25, 26, 27, 28, 29, 30, 31, 32, 33, 34, 35, 36, 37, 38, 39, 40, 41, 42, 43, 44, 45, 46, 47, 48, 49, 50, 51, 52, 53, 54, 55, 56, 57, 58] (by decide +kernel) (by decide +kernel)
set_option maxRecDepth 20000 in
theorem gX6_yank_X6_comes : GoodIn wsX6_yank (wsV RX6 110 RX6 yX6_comes wsX6_comes) := goodIn_app (goodIn_of _ (by decide +kernel)) ggX6_yank_X6_comes
theorem dX6_yank_0 : decode cX6_yank 0 = .ok (.aload_n 0, 1) := by decide +kernel
theorem dX6_yank_1 : decode cX6_yank 1 = .ok (.getfield 16, 3) := by decide +kernel
theorem dX6_yank_4 : decode cX6_yank 4 = .ok (.bipush 60, 2) := by decide +kernel
theorem dX6_yank_6 : decode cX6_yank 6 = .ok (.if_icmp .eq 21, 3) := by decide +kernel
theorem dX6_yank_9 : decode cX6_yank 9 = .ok (.aload_n 0, 1) := by decide +kernel
theorem dX6_yank_10 : decode cX6_yank 10 = .ok (.iload_n 1, 1) := by decide +kernel
theorem dX6_yank_11 : decode cX6_yank 11 = .ok (.invokevirtual 106, 3) := by decide +kernel
theorem dX6_yank_14 : decode cX6_yank 14 = .ok (.ifCond .eq 13, 3) := by decide +kernel
theorem dX6_yank_17 : decode cX6_yank 17 = .ok (.aload_n 0, 1) := by decide +kernel
theorem dX6_yank_18 : decode cX6_yank 18 = .ok (.getfield 13, 3) := by decide +kernel
theorem dX6_yank_21 : decode cX6_yank 21 = .ok (.iload_n 1, 1) := by decide +kernel
theorem dX6_yank_22 : decode cX6_yank 22 = .ok (.iaload, 1) := by decide +kernel
theorem dX6_yank_23 : decode cX6_yank 23 = .ok (.iconst (-1), 1) := by decide +kernel
theorem dX6_yank_24 : decode cX6_yank 24 = .ok (.if_icmp .eq 5, 3) := by decide +kernel
theorem dX6_yank_27 : decode cX6_yank 27 = .ok (.iconst (-1), 1) := by decide +kernel
theorem dX6_yank_28 : decode cX6_yank 28 = .ok (.ireturn, 1) := by decide +kernel
theorem dX6_yank_29 : decode cX6_yank 29 = .ok (.aload_n 0, 1) := by decide +kernel
theorem dX6_yank_30 : decode cX6_yank 30 = .ok (.invokevirtual 110, 3) := by decide +kernel
theorem dX6_yank_33 : decode cX6_yank 33 = .ok (.aload_n 0, 1) := by decide +kernel
theorem dX6_yank_34 : decode cX6_yank 34 = .ok (.getfield 13, 3) := by decide +kernel
theorem dX6_yank_37 : decode cX6_yank 37 = .ok (.iload_n 1, 1) := by decide +kernel
theorem dX6_yank_38 : decode cX6_yank 38 = .ok (.aload_n 0, 1) := by decide +kernel
theorem dX6_yank_39 : decode cX6_yank 39 = .ok (.getfield 103, 3) := by decide +kernel
theorem dX6_yank_42 : decode cX6_yank 42 = .ok (.iastore, 1) := by decide +kernel
theorem dX6_yank_43 : decode cX6_yank 43 = .ok (.iconst 0, 1) := by decide +kernel
theorem dX6_yank_44 : decode cX6_yank 44 = .ok (.istore_n 2, 1) := by decide +kernel
theorem dX6_yank_45 : decode cX6_yank 45 = .ok (.iload_n 2, 1) := by decide +kernel
theorem dX6_yank_46 : decode cX6_yank 46 = .ok (.bipush 12, 2) := by decide +kernel
theorem dX6_yank_48 : decode cX6_yank 48 = .ok (.if_icmp .ge 46, 3) := by decide +kernel
theorem dX6_yank_51 : decode cX6_yank 51 = .ok (.aload_n 0, 1) := by decide +kernel
theorem dX6_yank_52 : decode cX6_yank 52 = .ok (.getfield 23, 3) := by decide +kernel
theorem dX6_yank_55 : decode cX6_yank 55 = .ok (.bipush 12, 2) := by decide +kernel
theorem dX6_yank_57 : decode cX6_yank 57 = .ok (.aload_n 0, 1) := by decide +kernel
theorem dX6_yank_58 : decode cX6_yank 58 = .ok (.getfield 16, 3) := by decide +kernel
theorem dX6_yank_61 : decode cX6_yank 61 = .ok (.iconst 1, 1) := by decide +kernel
theorem dX6_yank_62 : decode cX6_yank 62 = .ok (.isub, 1) := by decide +kernel
theorem dX6_yank_63 : decode cX6_yank 63 = .ok (.imul, 1) := by decide +kernel
theorem dX6_yank_64 : decode cX6_yank 64 = .ok (.iload_n 2, 1) := by decide +kernel
theorem dX6_yank_65 : decode cX6_yank 65 = .ok (.iadd, 1) := by decide +kernel
theorem dX6_yank_66 : decode cX6_yank 66 = .ok (.iaload, 1) := by decide +kernel
theorem dX6_yank_67 : decode cX6_yank 67 = .ok (.iload_n 1, 1) := by decide +kernel
theorem dX6_yank_68 : decode cX6_yank 68 = .ok (.if_icmp .ne 20, 3) := by decide +kernel
theorem dX6_yank_71 : decode cX6_yank 71 = .ok (.aload_n 0, 1) := by decide +kernel
theorem dX6_yank_72 : decode cX6_yank 72 = .ok (.getfield 23, 3) := by decide +kernel
theorem dX6_yank_75 : decode cX6_yank 75 = .ok (.bipush 12, 2) := by decide +kernel
theorem dX6_yank_77 : decode cX6_yank 77 = .ok (.aload_n 0, 1) := by decide +kernel
theorem dX6_yank_78 : decode cX6_yank 78 = .ok (.getfield 16, 3) := by decide +kernel
theorem dX6_yank_81 : decode cX6_yank 81 = .ok (.iconst 1, 1) := by decide +kernel
theorem dX6_yank_82 : decode cX6_yank 82 = .ok (.isub, 1) := by decide +kernel
theorem dX6_yank_83 : decode cX6_yank 83 = .ok (.imul, 1) := by decide +kernel
theorem dX6_yank_84 : decode cX6_yank 84 = .ok (.iload_n 2, 1) := by decide +kernel
theorem dX6_yank_85 : decode cX6_yank 85 = .ok (.iadd, 1) := by decide +kernel
theorem dX6_yank_86 : decode cX6_yank 86 = .ok (.iconst (-1), 1) := by decide +kernel
theorem dX6_yank_87 : decode cX6_yank 87 = .ok (.iastore, 1) := by decide +kernel
theorem dX6_yank_88 : decode cX6_yank 88 = .ok (.iinc 2 1, 3) := by decide +kernel
theorem dX6_yank_91 : decode cX6_yank 91 = .ok (.goto (-46), 3) := by decide +kernel
theorem dX6_yank_94 : decode cX6_yank 94 = .ok (.aload_n 0, 1) := by decide +kernel
theorem dX6_yank_95 : decode cX6_yank 95 = .ok (.getfield 16, 3) := by decide +kernel
theorem dX6_yank_98 : decode cX6_yank 98 = .ok (.iconst 1, 1) := by decide +kernel
theorem dX6_yank_99 : decode cX6_yank 99 = .ok (.isub, 1) := by decide +kernel
theorem dX6_yank_100 : decode cX6_yank 100 = .ok (.ireturn, 1) := by decide +kernel
set_option maxRecDepth 20000 in
theorem ggX6_mirror_X6_in : GoodIn wsX6_mirror wsX6_in := goodIn_r _ [9] (by decide +kernel) (by decide +kernel)
set_option maxRecDepth 20000 in
theorem gX6_mirror_X6_in : GoodIn wsX6_mirror (va_wsS RX6 99 yX6_in wsX6_in) := goodIn_app (goodIn_of _ (by decide +kernel)) ggX6_mirror_X6_in
theorem dX6_mirror_0 : decode cX6_mirror 0 = .ok (.aload_n 0, 1) := by decide +kernel
theorem dX6_mirror_1 : decode cX6_mirror 1 = .ok (.getfield 113, 3) := by decide +kernel
theorem dX6_mirror_4 : decode cX6_mirror 4 = .ok (.bipush 8, 2) := by decide +kernel
theorem dX6_mirror_6 : decode cX6_mirror 6 = .ok (.if_icmp .eq 37, 3) := by decide +kernel
theorem dX6_mirror_9 : decode cX6_mirror 9 = .ok (.iload_n 1, 1) := by decide +kernel
theorem dX6_mirror_10 : decode cX6_mirror 10 = .ok (.iconst (-1), 1) := by decide +kernel
theorem dX6_mirror_11 : decode cX6_mirror 11 = .ok (.aload_n 0, 1) := by decide +kernel
theorem dX6_mirror_12 : decode cX6_mirror 12 = .ok (.getfield 113, 3) := by decide +kernel
theorem dX6_mirror_15 : decode cX6_mirror 15 = .ok (.iconst 1, 1) := by decide +kernel
theorem dX6_mirror_16 : decode cX6_mirror 16 = .ok (.isub, 1) := by decide +kernel
theorem dX6_mirror_17 : decode cX6_mirror 17 = .ok (.invokestatic 99, 3) := by decide +kernel
theorem dX6_mirror_20 : decode cX6_mirror 20 = .ok (.ifCond .eq 23, 3) := by decide +kernel
theorem dX6_mirror_23 : decode cX6_mirror 23 = .ok (.iload_n 2, 1) := by decide +kernel
theorem dX6_mirror_24 : decode cX6_mirror 24 = .ok (.iconst 1, 1) := by decide +kernel
theorem dX6_mirror_25 : decode cX6_mirror 25 = .ok (.sipush 1000, 3) := by decide +kernel
theorem dX6_mirror_28 : decode cX6_mirror 28 = .ok (.invokestatic 99, 3) := by decide +kernel
theorem dX6_mirror_31 : decode cX6_mirror 31 = .ok (.ifCond .eq 12, 3) := by decide +kernel
theorem dX6_mirror_34 : decode cX6_mirror 34 = .ok (.iload_n 3, 1) := by decide +kernel
theorem dX6_mirror_35 : decode cX6_mirror 35 = .ok (.iconst 0, 1) := by decide +kernel
theorem dX6_mirror_36 : decode cX6_mirror 36 = .ok (.iconst 3, 1) := by decide +kernel
theorem dX6_mirror_37 : decode cX6_mirror 37 = .ok (.invokestatic 99, 3) := by decide +kernel
theorem dX6_mirror_40 : decode cX6_mirror 40 = .ok (.ifCond .ne 5, 3) := by decide +kernel
theorem dX6_mirror_43 : decode cX6_mirror 43 = .ok (.iconst (-1), 1) := by decide +kernel
theorem dX6_mirror_44 : decode cX6_mirror 44 = .ok (.ireturn, 1) := by decide +kernel
theorem dX6_mirror_45 : decode cX6_mirror 45 = .ok (.aload_n 0, 1) := by decide +kernel
theorem dX6_mirror_46 : decode cX6_mirror 46 = .ok (.getfield 26, 3) := by decide +kernel
theorem dX6_mirror_49 : decode cX6_mirror 49 = .ok (.aload_n 0, 1) := by decide +kernel
theorem dX6_mirror_50 : decode cX6_mirror 50 = .ok (.getfield 113, 3) := by decide +kernel
theorem dX6_mirror_53 : decode cX6_mirror 53 = .ok (.iload_n 1, 1) := by decide +kernel
theorem dX6_mirror_54 : decode cX6_mirror 54 = .ok (.iastore, 1) := by decide +kernel
theorem dX6_mirror_55 : decode cX6_mirror 55 = .ok (.aload_n 0, 1) := by decide +kernel
theorem dX6_mirror_56 : decode cX6_mirror 56 = .ok (.getfield 29, 3) := by decide +kernel
theorem dX6_mirror_59 : decode cX6_mirror 59 = .ok (.aload_n 0, 1) := by decide +kernel
theorem dX6_mirror_60 : decode cX6_mirror 60 = .ok (.getfield 113, 3) := by decide +kernel
theorem dX6_mirror_63 : decode cX6_mirror 63 = .ok (.iload_n 2, 1) := by decide +kernel
theorem dX6_mirror_64 : decode cX6_mirror 64 = .ok (.iastore, 1) := by decide +kernel
theorem dX6_mirror_65 : decode cX6_mirror 65 = .ok (.aload_n 0, 1) := by decide +kernel
theorem dX6_mirror_66 : decode cX6_mirror 66 = .ok (.getfield 32, 3) := by decide +kernel
theorem dX6_mirror_69 : decode cX6_mirror 69 = .ok (.aload_n 0, 1) := by decide +kernel
theorem dX6_mirror_70 : decode cX6_mirror 70 = .ok (.getfield 113, 3) := by decide +kernel
theorem dX6_mirror_73 : decode cX6_mirror 73 = .ok (.iload_n 3, 1) := by decide +kernel
theorem dX6_mirror_74 : decode cX6_mirror 74 = .ok (.iastore, 1) := by decide +kernel
theorem dX6_mirror_75 : decode cX6_mirror 75 = .ok (.aload_n 0, 1) := by decide +kernel
theorem dX6_mirror_76 : decode cX6_mirror 76 = .ok (.getfield 38, 3) := by decide +kernel
theorem dX6_mirror_79 : decode cX6_mirror 79 = .ok (.aload_n 0, 1) := by decide +kernel
theorem dX6_mirror_80 : decode cX6_mirror 80 = .ok (.getfield 113, 3) := by decide +kernel
theorem dX6_mirror_83 : decode cX6_mirror 83 = .ok (.iconst (-1), 1) := by decide +kernel
theorem dX6_mirror_84 : decode cX6_mirror 84 = .ok (.iastore, 1) := by decide +kernel
theorem dX6_mirror_85 : decode cX6_mirror 85 = .ok (.aload_n 0, 1) := by decide +kernel
theorem dX6_mirror_86 : decode cX6_mirror 86 = .ok (.dup, 1) := by decide +kernel
theorem dX6_mirror_87 : decode cX6_mirror 87 = .ok (.getfield 113, 3) := by decide +kernel
theorem dX6_mirror_90 : decode cX6_mirror 90 = .ok (.iconst 1, 1) := by decide +kernel
theorem dX6_mirror_91 : decode cX6_mirror 91 = .ok (.iadd, 1) := by decide +kernel
theorem dX6_mirror_92 : decode cX6_mirror 92 = .ok (.putfield 113, 3) := by decide +kernel
theorem dX6_mirror_95 : decode cX6_mirror 95 = .ok (.aload_n 0, 1) := by decide +kernel
theorem dX6_mirror_96 : decode cX6_mirror 96 = .ok (.getfield 113, 3) := by decide +kernel
theorem dX6_mirror_99 : decode cX6_mirror 99 = .ok (.iconst 1, 1) := by decide +kernel
theorem dX6_mirror_100 : decode cX6_mirror 100 = .ok (.isub, 1) := by decide +kernel
theorem dX6_mirror_101 : decode cX6_mirror 101 = .ok (.ireturn, 1) := by decide +kernel
set_option maxRecDepth 20000 in
theorem ggX6_isMirror_X6_in : GoodIn wsX6_isMirror wsX6_in := goodIn_r _ [5] (by decide +kernel) (by decide +kernel)
set_option maxRecDepth 20000 in
theorem gX6_isMirror_X6_in : GoodIn wsX6_isMirror (va_wsS RX6 99 yX6_in wsX6_in) := goodIn_app (goodIn_of _ (by decide +kernel)) ggX6_isMirror_X6_in
theorem dX6_isMirror_0 : decode cX6_isMirror 0 = .ok (.iload_n 1, 1) := by decide +kernel
theorem dX6_isMirror_1 : decode cX6_isMirror 1 = .ok (.iconst 0, 1) := by decide +kernel
theorem dX6_isMirror_2 : decode cX6_isMirror 2 = .ok (.aload_n 0, 1) := by decide +kernel
theorem dX6_isMirror_3 : decode cX6_isMirror 3 = .ok (.getfield 113, 3) := by decide +kernel
theorem dX6_isMirror_6 : decode cX6_isMirror 6 = .ok (.iconst 1, 1) := by decide +kernel
theorem dX6_isMirror_7 : decode cX6_isMirror 7 = .ok (.isub, 1) := by decide +kernel
theorem dX6_isMirror_8 : decode cX6_isMirror 8 = .ok (.invokestatic 99, 3) := by decide +kernel
theorem dX6_isMirror_11 : decode cX6_isMirror 11 = .ok (.ireturn, 1) := by decide +kernel
set_option maxRecDepth 20000 in
theorem ggX6_speed_X6_isMirror : GoodIn wsX6_speed wsX6_isMirror := goodIn_r _ [6, 7, 8, 9, 5, 10, 11, 12, 13, 14, 15, 16, 17, 18, 19, 20, 21, 22, 23, 24, 25, 26, 27, 28, 29, 30, 31, 32, 33, 34, 35, 36, 37, 38, 39, 40, 41, 42, 43, 44, 45, 46, 47, 48, 49, 50] (by decide +kernel) (by decide +kernel)
set_option maxRecDepth 20000 in
theorem gX6_speed_X6_isMirror : GoodIn wsX6_speed (wsV RX6 116 RX6 yX6_isMirror wsX6_isMirror) := goodIn_app (goodIn_of _ (by decide +kernel)) ggX6_speed_X6_isMirror
set_option maxRecDepth 20000 in
theorem ggX6_speed_X6_in : GoodIn wsX6_speed wsX6_in := goodIn_r _ [10] (by decide +kernel) (by decide +kernel)
set_option maxRecDepth 20000 in
theorem gX6_speed_X6_in : GoodIn wsX6_speed (va_wsS RX6 99 yX6_in wsX6_in) := goodIn_app (goodIn_of _ (by decide +kernel)) ggX6_speed_X6_in
theorem dX6_speed_0 : decode cX6_speed 0 = .ok (.aload_n 0, 1) := by decide +kernel
theorem dX6_speed_1 : decode cX6_speed 1 = .ok (.iload_n 1, 1) := by decide +kernel
theorem dX6_speed_2 : decode cX6_speed 2 = .ok (.invokevirtual 116, 3) := by decide +kernel
theorem dX6_speed_5 : decode cX6_speed 5 = .ok (.ifCond .eq 14, 3) := by decide +kernel
theorem dX6_speed_8 : decode cX6_speed 8 = .ok (.iload_n 2, 1) := by decide +kernel
theorem dX6_speed_9 : decode cX6_speed 9 = .ok (.iconst 1, 1) := by decide +kernel
theorem dX6_speed_10 : decode cX6_speed 10 = .ok (.sipush 1000, 3) := by decide +kernel
theorem dX6_speed_13 : decode cX6_speed 13 = .ok (.invokestatic 99, 3) := by decide +kernel
theorem dX6_speed_16 : decode cX6_speed 16 = .ok (.ifCond .ne 5, 3) := by decide +kernel
theorem dX6_speed_19 : decode cX6_speed 19 = .ok (.iconst (-1), 1) := by decide +kernel
theorem dX6_speed_20 : decode cX6_speed 20 = .ok (.ireturn, 1) := by decide +kernel
theorem dX6_speed_21 : decode cX6_speed 21 = .ok (.aload_n 0, 1) := by decide +kernel
theorem dX6_speed_22 : decode cX6_speed 22 = .ok (.getfield 29, 3) := by decide +kernel
theorem dX6_speed_25 : decode cX6_speed 25 = .ok (.iload_n 1, 1) := by decide +kernel
theorem dX6_speed_26 : decode cX6_speed 26 = .ok (.iaload, 1) := by decide +kernel
theorem dX6_speed_27 : decode cX6_speed 27 = .ok (.istore_n 3, 1) := by decide +kernel
theorem dX6_speed_28 : decode cX6_speed 28 = .ok (.aload_n 0, 1) := by decide +kernel
theorem dX6_speed_29 : decode cX6_speed 29 = .ok (.getfield 29, 3) := by decide +kernel
theorem dX6_speed_32 : decode cX6_speed 32 = .ok (.iload_n 1, 1) := by decide +kernel
theorem dX6_speed_33 : decode cX6_speed 33 = .ok (.iload_n 2, 1) := by decide +kernel
theorem dX6_speed_34 : decode cX6_speed 34 = .ok (.iastore, 1) := by decide +kernel
theorem dX6_speed_35 : decode cX6_speed 35 = .ok (.iload_n 3, 1) := by decide +kernel
theorem dX6_speed_36 : decode cX6_speed 36 = .ok (.ireturn, 1) := by decide +kernel
set_option maxRecDepth 20000 in
theorem ggX6_fall_X6_isMirror : GoodIn wsX6_fall wsX6_isMirror := goodIn_r _ [10, 11, 12, 13, 9, 14, 15, 16, 17, 18, 19, 20, 21, 22, 23, 24, 25, 26, 27, 28, 29, 30, 31, 32, 33, 34, 35, 36, 37, 38, 39, 40, 41, 42, 43, 44, 45, 46, 47, 48, 49, 50, 51, 52, 53, 54] (by decide +kernel) (by decide +kernel)
set_option maxRecDepth 20000 in
theorem gX6_fall_X6_isMirror : GoodIn wsX6_fall (wsV RX6 116 RX6 yX6_isMirror wsX6_isMirror) := goodIn_app (goodIn_of _ (by decide +kernel)) ggX6_fall_X6_isMirror
set_option maxRecDepth 20000 in
theorem ggX6_fall_X6_in : GoodIn wsX6_fall wsX6_in := goodIn_r _ [14] (by decide +kernel) (by decide +kernel)
set_option maxRecDepth 20000 in
theorem gX6_fall_X6_in : GoodIn wsX6_fall (va_wsS RX6 99 yX6_in wsX6_in) := goodIn_app (goodIn_of _ (by decide +kernel)) ggX6_fall_X6_in
theorem dX6_fall_0 : decode cX6_fall 0 = .ok (.aload_n 0, 1) := by decide +kernel
theorem dX6_fall_1 : decode cX6_fall 1 = .ok (.getfield 119, 3) := by decide +kernel
theorem dX6_fall_4 : decode cX6_fall 4 = .ok (.bipush 40, 2) := by decide +kernel
theorem dX6_fall_6 : decode cX6_fall 6 = .ok (.if_icmp .eq 34, 3) := by decide +kernel
theorem dX6_fall_9 : decode cX6_fall 9 = .ok (.aload_n 0, 1) := by decide +kernel
theorem dX6_fall_10 : decode cX6_fall 10 = .ok (.iload_n 1, 1) := by decide +kernel
theorem dX6_fall_11 : decode cX6_fall 11 = .ok (.invokevirtual 116, 3) := by decide +kernel
theorem dX6_fall_14 : decode cX6_fall 14 = .ok (.ifCond .eq 26, 3) := by decide +kernel
theorem dX6_fall_17 : decode cX6_fall 17 = .ok (.iload_n 2, 1) := by decide +kernel
theorem dX6_fall_18 : decode cX6_fall 18 = .ok (.aload_n 0, 1) := by decide +kernel
theorem dX6_fall_19 : decode cX6_fall 19 = .ok (.getfield 103, 3) := by decide +kernel
theorem dX6_fall_22 : decode cX6_fall 22 = .ok (.iload_n 3, 1) := by decide +kernel
theorem dX6_fall_23 : decode cX6_fall 23 = .ok (.invokestatic 99, 3) := by decide +kernel
theorem dX6_fall_26 : decode cX6_fall 26 = .ok (.ifCond .eq 14, 3) := by decide +kernel
theorem dX6_fall_29 : decode cX6_fall 29 = .ok (.iload_n 3, 1) := by decide +kernel
theorem dX6_fall_30 : decode cX6_fall 30 = .ok (.iconst 0, 1) := by decide +kernel
theorem dX6_fall_31 : decode cX6_fall 31 = .ok (.sipush 9999, 3) := by decide +kernel
theorem dX6_fall_34 : decode cX6_fall 34 = .ok (.invokestatic 99, 3) := by decide +kernel
theorem dX6_fall_37 : decode cX6_fall 37 = .ok (.ifCond .ne 5, 3) := by decide +kernel
theorem dX6_fall_40 : decode cX6_fall 40 = .ok (.iconst (-1), 1) := by decide +kernel
theorem dX6_fall_41 : decode cX6_fall 41 = .ok (.ireturn, 1) := by decide +kernel
theorem dX6_fall_42 : decode cX6_fall 42 = .ok (.aload_n 0, 1) := by decide +kernel
theorem dX6_fall_43 : decode cX6_fall 43 = .ok (.getfield 60, 3) := by decide +kernel
theorem dX6_fall_46 : decode cX6_fall 46 = .ok (.aload_n 0, 1) := by decide +kernel
theorem dX6_fall_47 : decode cX6_fall 47 = .ok (.getfield 119, 3) := by decide +kernel
theorem dX6_fall_50 : decode cX6_fall 50 = .ok (.iload_n 1, 1) := by decide +kernel
theorem dX6_fall_51 : decode cX6_fall 51 = .ok (.iastore, 1) := by decide +kernel
theorem dX6_fall_52 : decode cX6_fall 52 = .ok (.aload_n 0, 1) := by decide +kernel
theorem dX6_fall_53 : decode cX6_fall 53 = .ok (.getfield 63, 3) := by decide +kernel
theorem dX6_fall_56 : decode cX6_fall 56 = .ok (.aload_n 0, 1) := by decide +kernel
theorem dX6_fall_57 : decode cX6_fall 57 = .ok (.getfield 119, 3) := by decide +kernel
theorem dX6_fall_60 : decode cX6_fall 60 = .ok (.iload_n 2, 1) := by decide +kernel
theorem dX6_fall_61 : decode cX6_fall 61 = .ok (.iastore, 1) := by decide +kernel
theorem dX6_fall_62 : decode cX6_fall 62 = .ok (.aload_n 0, 1) := by decide +kernel
theorem dX6_fall_63 : decode cX6_fall 63 = .ok (.getfield 66, 3) := by decide +kernel
theorem dX6_fall_66 : decode cX6_fall 66 = .ok (.aload_n 0, 1) := by decide +kernel
theorem dX6_fall_67 : decode cX6_fall 67 = .ok (.getfield 119, 3) := by decide +kernel
theorem dX6_fall_70 : decode cX6_fall 70 = .ok (.iload_n 3, 1) := by decide +kernel
theorem dX6_fall_71 : decode cX6_fall 71 = .ok (.iastore, 1) := by decide +kernel
theorem dX6_fall_72 : decode cX6_fall 72 = .ok (.aload_n 0, 1) := by decide +kernel
theorem dX6_fall_73 : decode cX6_fall 73 = .ok (.dup, 1) := by decide +kernel
theorem dX6_fall_74 : decode cX6_fall 74 = .ok (.getfield 119, 3) := by decide +kernel
theorem dX6_fall_77 : decode cX6_fall 77 = .ok (.iconst 1, 1) := by decide +kernel
theorem dX6_fall_78 : decode cX6_fall 78 = .ok (.iadd, 1) := by decide +kernel
theorem dX6_fall_79 : decode cX6_fall 79 = .ok (.putfield 119, 3) := by decide +kernel
theorem dX6_fall_82 : decode cX6_fall 82 = .ok (.aload_n 0, 1) := by decide +kernel
theorem dX6_fall_83 : decode cX6_fall 83 = .ok (.getfield 119, 3) := by decide +kernel
theorem dX6_fall_86 : decode cX6_fall 86 = .ok (.ireturn, 1) := by decide +kernel
set_option maxRecDepth 20000 in
theorem ggX6_lies_X6_isMirror : GoodIn wsX6_lies wsX6_isMirror := goodIn_r _ [6, 7, 8, 9, 5, 10, 11, 12, 13, 14, 15, 16, 17, 18, 19, 20, 21, 22, 23, 24, 25, 26, 27, 28, 29, 30, 31, 32, 33, 34, 35, 36, 37, 38, 39, 40, 41, 42, 43, 44, 45, 46, 47, 48, 49, 50] (by decide +kernel) (by decide +kernel)
set_option maxRecDepth 20000 in
theorem gX6_lies_X6_isMirror : GoodIn wsX6_lies (wsV RX6 116 RX6 yX6_isMirror wsX6_isMirror) := goodIn_app (goodIn_of _ (by decide +kernel)) ggX6_lies_X6_isMirror
theorem dX6_lies_0 : decode cX6_lies 0 = .ok (.aload_n 0, 1) := by decide +kernel
theorem dX6_lies_1 : decode cX6_lies 1 = .ok (.iload_n 1, 1) := by decide +kernel
theorem dX6_lies_2 : decode cX6_lies 2 = .ok (.invokevirtual 116, 3) := by decide +kernel
theorem dX6_lies_5 : decode cX6_lies 5 = .ok (.ifCond .eq 13, 3) := by decide +kernel
theorem dX6_lies_8 : decode cX6_lies 8 = .ok (.aload_n 0, 1) := by decide +kernel
theorem dX6_lies_9 : decode cX6_lies 9 = .ok (.getfield 47, 3) := by decide +kernel
theorem dX6_lies_12 : decode cX6_lies 12 = .ok (.iload_n 1, 1) := by decide +kernel
theorem dX6_lies_13 : decode cX6_lies 13 = .ok (.baload, 1) := by decide +kernel
theorem dX6_lies_14 : decode cX6_lies 14 = .ok (.iload_n 2, 1) := by decide +kernel
theorem dX6_lies_15 : decode cX6_lies 15 = .ok (.if_icmp .ne 5, 3) := by decide +kernel
theorem dX6_lies_18 : decode cX6_lies 18 = .ok (.iconst 0, 1) := by decide +kernel
theorem dX6_lies_19 : decode cX6_lies 19 = .ok (.ireturn, 1) := by decide +kernel
theorem dX6_lies_20 : decode cX6_lies 20 = .ok (.aload_n 0, 1) := by decide +kernel
theorem dX6_lies_21 : decode cX6_lies 21 = .ok (.getfield 47, 3) := by decide +kernel
theorem dX6_lies_24 : decode cX6_lies 24 = .ok (.iload_n 1, 1) := by decide +kernel
theorem dX6_lies_25 : decode cX6_lies 25 = .ok (.iload_n 2, 1) := by decide +kernel
theorem dX6_lies_26 : decode cX6_lies 26 = .ok (.bastore, 1) := by decide +kernel
theorem dX6_lies_27 : decode cX6_lies 27 = .ok (.iconst 1, 1) := by decide +kernel
theorem dX6_lies_28 : decode cX6_lies 28 = .ok (.ireturn, 1) := by decide +kernel
theorem dX6_isFallen_0 : decode cX6_isFallen 0 = .ok (.iconst 0, 1) := by decide +kernel
theorem dX6_isFallen_1 : decode cX6_isFallen 1 = .ok (.istore_n 2, 1) := by decide +kernel
theorem dX6_isFallen_2 : decode cX6_isFallen 2 = .ok (.iload_n 2, 1) := by decide +kernel
theorem dX6_isFallen_3 : decode cX6_isFallen 3 = .ok (.aload_n 0, 1) := by decide +kernel
theorem dX6_isFallen_4 : decode cX6_isFallen 4 = .ok (.getfield 119, 3) := by decide +kernel
theorem dX6_isFallen_7 : decode cX6_isFallen 7 = .ok (.if_icmp .ge 47, 3) := by decide +kernel
theorem dX6_isFallen_10 : decode cX6_isFallen 10 = .ok (.aload_n 0, 1) := by decide +kernel
theorem dX6_isFallen_11 : decode cX6_isFallen 11 = .ok (.getfield 60, 3) := by decide +kernel
theorem dX6_isFallen_14 : decode cX6_isFallen 14 = .ok (.iload_n 2, 1) := by decide +kernel
theorem dX6_isFallen_15 : decode cX6_isFallen 15 = .ok (.iaload, 1) := by decide +kernel
theorem dX6_isFallen_16 : decode cX6_isFallen 16 = .ok (.iload_n 1, 1) := by decide +kernel
theorem dX6_isFallen_17 : decode cX6_isFallen 17 = .ok (.if_icmp .ne 31, 3) := by decide +kernel
theorem dX6_isFallen_20 : decode cX6_isFallen 20 = .ok (.aload_n 0, 1) := by decide +kernel
theorem dX6_isFallen_21 : decode cX6_isFallen 21 = .ok (.getfield 63, 3) := by decide +kernel
theorem dX6_isFallen_24 : decode cX6_isFallen 24 = .ok (.iload_n 2, 1) := by decide +kernel
theorem dX6_isFallen_25 : decode cX6_isFallen 25 = .ok (.iaload, 1) := by decide +kernel
theorem dX6_isFallen_26 : decode cX6_isFallen 26 = .ok (.aload_n 0, 1) := by decide +kernel
theorem dX6_isFallen_27 : decode cX6_isFallen 27 = .ok (.getfield 103, 3) := by decide +kernel
theorem dX6_isFallen_30 : decode cX6_isFallen 30 = .ok (.if_icmp .gt 18, 3) := by decide +kernel
theorem dX6_isFallen_33 : decode cX6_isFallen 33 = .ok (.aload_n 0, 1) := by decide +kernel
theorem dX6_isFallen_34 : decode cX6_isFallen 34 = .ok (.getfield 66, 3) := by decide +kernel
theorem dX6_isFallen_37 : decode cX6_isFallen 37 = .ok (.iload_n 2, 1) := by decide +kernel
theorem dX6_isFallen_38 : decode cX6_isFallen 38 = .ok (.iaload, 1) := by decide +kernel
theorem dX6_isFallen_39 : decode cX6_isFallen 39 = .ok (.aload_n 0, 1) := by decide +kernel
theorem dX6_isFallen_40 : decode cX6_isFallen 40 = .ok (.getfield 103, 3) := by decide +kernel
theorem dX6_isFallen_43 : decode cX6_isFallen 43 = .ok (.if_icmp .lt 5, 3) := by decide +kernel
theorem dX6_isFallen_46 : decode cX6_isFallen 46 = .ok (.iconst 1, 1) := by decide +kernel
theorem dX6_isFallen_47 : decode cX6_isFallen 47 = .ok (.ireturn, 1) := by decide +kernel
theorem dX6_isFallen_48 : decode cX6_isFallen 48 = .ok (.iinc 2 1, 3) := by decide +kernel
theorem dX6_isFallen_51 : decode cX6_isFallen 51 = .ok (.goto (-49), 3) := by decide +kernel
theorem dX6_isFallen_54 : decode cX6_isFallen 54 = .ok (.iconst 0, 1) := by decide +kernel
theorem dX6_isFallen_55 : decode cX6_isFallen 55 = .ok (.ireturn, 1) := by decide +kernel
theorem dX6_isNamed_0 : decode cX6_isNamed 0 = .ok (.iconst 0, 1) := by decide +kernel
theorem dX6_isNamed_1 : decode cX6_isNamed 1 = .ok (.istore_n 3, 1) := by decide +kernel
theorem dX6_isNamed_2 : decode cX6_isNamed 2 = .ok (.iload_n 3, 1) := by decide +kernel
theorem dX6_isNamed_3 : decode cX6_isNamed 3 = .ok (.bipush 12, 2) := by decide +kernel
theorem dX6_isNamed_5 : decode cX6_isNamed 5 = .ok (.if_icmp .ge 26, 3) := by decide +kernel
theorem dX6_isNamed_8 : decode cX6_isNamed 8 = .ok (.aload_n 0, 1) := by decide +kernel
theorem dX6_isNamed_9 : decode cX6_isNamed 9 = .ok (.getfield 23, 3) := by decide +kernel
theorem dX6_isNamed_12 : decode cX6_isNamed 12 = .ok (.bipush 12, 2) := by decide +kernel
theorem dX6_isNamed_14 : decode cX6_isNamed 14 = .ok (.iload_n 1, 1) := by decide +kernel
theorem dX6_isNamed_15 : decode cX6_isNamed 15 = .ok (.imul, 1) := by decide +kernel
theorem dX6_isNamed_16 : decode cX6_isNamed 16 = .ok (.iload_n 3, 1) := by decide +kernel
theorem dX6_isNamed_17 : decode cX6_isNamed 17 = .ok (.iadd, 1) := by decide +kernel
theorem dX6_isNamed_18 : decode cX6_isNamed 18 = .ok (.iaload, 1) := by decide +kernel
theorem dX6_isNamed_19 : decode cX6_isNamed 19 = .ok (.iload_n 2, 1) := by decide +kernel
theorem dX6_isNamed_20 : decode cX6_isNamed 20 = .ok (.if_icmp .ne 5, 3) := by decide +kernel
theorem dX6_isNamed_23 : decode cX6_isNamed 23 = .ok (.iconst 1, 1) := by decide +kernel
theorem dX6_isNamed_24 : decode cX6_isNamed 24 = .ok (.ireturn, 1) := by decide +kernel
theorem dX6_isNamed_25 : decode cX6_isNamed 25 = .ok (.iinc 3 1, 3) := by decide +kernel
theorem dX6_isNamed_28 : decode cX6_isNamed 28 = .ok (.goto (-26), 3) := by decide +kernel
theorem dX6_isNamed_31 : decode cX6_isNamed 31 = .ok (.iconst 0, 1) := by decide +kernel
theorem dX6_isNamed_32 : decode cX6_isNamed 32 = .ok (.ireturn, 1) := by decide +kernel
set_option maxRecDepth 20000 in
theorem ggX6_lacking_X6_isNamed : GoodIn wsX6_lacking wsX6_isNamed := goodIn_r _ [8, 9, 10, 11, 12, 13, 14, 15, 16, 17, 18, 19, 20, 21, 22, 23, 24, 25, 26, 27, 28, 29, 30, 31, 32, 33, 34, 35, 36, 37, 38, 39, 40, 41, 42, 43, 44, 45, 46, 47, 48, 49] (by decide +kernel) (by decide +kernel)
set_option maxRecDepth 20000 in
theorem gX6_lacking_X6_isNamed : GoodIn wsX6_lacking (wsV RX6 122 RX6 yX6_isNamed wsX6_isNamed) := goodIn_app (goodIn_of _ (by decide +kernel)) ggX6_lacking_X6_isNamed
theorem dX6_lacking_0 : decode cX6_lacking 0 = .ok (.iconst 0, 1) := by decide +kernel
theorem dX6_lacking_1 : decode cX6_lacking 1 = .ok (.istore_n 2, 1) := by decide +kernel
theorem dX6_lacking_2 : decode cX6_lacking 2 = .ok (.iload_n 2, 1) := by decide +kernel
theorem dX6_lacking_3 : decode cX6_lacking 3 = .ok (.aload_n 0, 1) := by decide +kernel
theorem dX6_lacking_4 : decode cX6_lacking 4 = .ok (.getfield 96, 3) := by decide +kernel
theorem dX6_lacking_7 : decode cX6_lacking 7 = .ok (.if_icmp .ge 39, 3) := by decide +kernel
theorem dX6_lacking_10 : decode cX6_lacking 10 = .ok (.aload_n 0, 1) := by decide +kernel
theorem dX6_lacking_11 : decode cX6_lacking 11 = .ok (.getfield 51, 3) := by decide +kernel
theorem dX6_lacking_14 : decode cX6_lacking 14 = .ok (.bipush 60, 2) := by decide +kernel
theorem dX6_lacking_16 : decode cX6_lacking 16 = .ok (.iload_n 1, 1) := by decide +kernel
theorem dX6_lacking_17 : decode cX6_lacking 17 = .ok (.imul, 1) := by decide +kernel
theorem dX6_lacking_18 : decode cX6_lacking 18 = .ok (.iload_n 2, 1) := by decide +kernel
theorem dX6_lacking_19 : decode cX6_lacking 19 = .ok (.iadd, 1) := by decide +kernel
theorem dX6_lacking_20 : decode cX6_lacking 20 = .ok (.baload, 1) := by decide +kernel
theorem dX6_lacking_21 : decode cX6_lacking 21 = .ok (.ifCond .ne 19, 3) := by decide +kernel
theorem dX6_lacking_24 : decode cX6_lacking 24 = .ok (.aload_n 0, 1) := by decide +kernel
theorem dX6_lacking_25 : decode cX6_lacking 25 = .ok (.aload_n 0, 1) := by decide +kernel
theorem dX6_lacking_26 : decode cX6_lacking 26 = .ok (.getfield 38, 3) := by decide +kernel
theorem dX6_lacking_29 : decode cX6_lacking 29 = .ok (.iload_n 1, 1) := by decide +kernel
theorem dX6_lacking_30 : decode cX6_lacking 30 = .ok (.iaload, 1) := by decide +kernel
theorem dX6_lacking_31 : decode cX6_lacking 31 = .ok (.iload_n 2, 1) := by decide +kernel
theorem dX6_lacking_32 : decode cX6_lacking 32 = .ok (.invokevirtual 122, 3) := by decide +kernel
theorem dX6_lacking_35 : decode cX6_lacking 35 = .ok (.ifCond .eq 5, 3) := by decide +kernel
theorem dX6_lacking_38 : decode cX6_lacking 38 = .ok (.iload_n 2, 1) := by decide +kernel
theorem dX6_lacking_39 : decode cX6_lacking 39 = .ok (.ireturn, 1) := by decide +kernel
theorem dX6_lacking_40 : decode cX6_lacking 40 = .ok (.iinc 2 1, 3) := by decide +kernel
theorem dX6_lacking_43 : decode cX6_lacking 43 = .ok (.goto (-41), 3) := by decide +kernel
theorem dX6_lacking_46 : decode cX6_lacking 46 = .ok (.iconst (-1), 1) := by decide +kernel
theorem dX6_lacking_47 : decode cX6_lacking 47 = .ok (.ireturn, 1) := by decide +kernel
set_option maxRecDepth 20000 in
theorem ggX6_copies_X6_lacking : GoodIn wsX6_copies wsX6_lacking := goodIn_r _ [12, 13, 3, 4, 14, 15, 16, 11, 17, 18, 19, 20, 21, 22, 23, 24, 25, 26, 27, 28, 29, 30, 31, 32, 33, 34, 35, 36, 37, 38, 39, 40, 41, 42, 43, 44, 45, 46, 47, 48, 49, 50, 51, 52, 53, 54, 55, 56, 57, 58] (by decide +kernel) (by decide +kernel)
set_option maxRecDepth 20000 in
theorem gX6_copies_X6_lacking : GoodIn wsX6_copies (wsV RX6 126 RX6 yX6_lacking wsX6_lacking) := goodIn_app (goodIn_of _ (by decide +kernel)) ggX6_copies_X6_lacking
theorem dX6_copies_0 : decode cX6_copies 0 = .ok (.aload_n 0, 1) := by decide +kernel
theorem dX6_copies_1 : decode cX6_copies 1 = .ok (.getfield 29, 3) := by decide +kernel
theorem dX6_copies_4 : decode cX6_copies 4 = .ok (.iload_n 1, 1) := by decide +kernel
theorem dX6_copies_5 : decode cX6_copies 5 = .ok (.iaload, 1) := by decide +kernel
theorem dX6_copies_6 : decode cX6_copies 6 = .ok (.istore_n 2, 1) := by decide +kernel
theorem dX6_copies_7 : decode cX6_copies 7 = .ok (.iload_n 2, 1) := by decide +kernel
theorem dX6_copies_8 : decode cX6_copies 8 = .ok (.ifCond .le 162, 3) := by decide +kernel
theorem dX6_copies_11 : decode cX6_copies 11 = .ok (.aload_n 0, 1) := by decide +kernel
theorem dX6_copies_12 : decode cX6_copies 12 = .ok (.iload_n 1, 1) := by decide +kernel
theorem dX6_copies_13 : decode cX6_copies 13 = .ok (.invokevirtual 126, 3) := by decide +kernel
theorem dX6_copies_16 : decode cX6_copies 16 = .ok (.istore_n 3, 1) := by decide +kernel
theorem dX6_copies_17 : decode cX6_copies 17 = .ok (.iload_n 3, 1) := by decide +kernel
theorem dX6_copies_18 : decode cX6_copies 18 = .ok (.ifCond .ge 5, 3) := by decide +kernel
theorem dX6_copies_21 : decode cX6_copies 21 = .ok (.iconst 1, 1) := by decide +kernel
theorem dX6_copies_22 : decode cX6_copies 22 = .ok (.ireturn, 1) := by decide +kernel
theorem dX6_copies_23 : decode cX6_copies 23 = .ok (.aload_n 0, 1) := by decide +kernel
theorem dX6_copies_24 : decode cX6_copies 24 = .ok (.getfield 26, 3) := by decide +kernel
theorem dX6_copies_27 : decode cX6_copies 27 = .ok (.iload_n 1, 1) := by decide +kernel
theorem dX6_copies_28 : decode cX6_copies 28 = .ok (.iaload, 1) := by decide +kernel
theorem dX6_copies_29 : decode cX6_copies 29 = .ok (.ifCond .lt 38, 3) := by decide +kernel
theorem dX6_copies_32 : decode cX6_copies 32 = .ok (.aload_n 0, 1) := by decide +kernel
theorem dX6_copies_33 : decode cX6_copies 33 = .ok (.getfield 51, 3) := by decide +kernel
theorem dX6_copies_36 : decode cX6_copies 36 = .ok (.bipush 60, 2) := by decide +kernel
theorem dX6_copies_38 : decode cX6_copies 38 = .ok (.aload_n 0, 1) := by decide +kernel
theorem dX6_copies_39 : decode cX6_copies 39 = .ok (.getfield 26, 3) := by decide +kernel
theorem dX6_copies_42 : decode cX6_copies 42 = .ok (.iload_n 1, 1) := by decide +kernel
theorem dX6_copies_43 : decode cX6_copies 43 = .ok (.iaload, 1) := by decide +kernel
theorem dX6_copies_44 : decode cX6_copies 44 = .ok (.imul, 1) := by decide +kernel
theorem dX6_copies_45 : decode cX6_copies 45 = .ok (.iload_n 3, 1) := by decide +kernel
theorem dX6_copies_46 : decode cX6_copies 46 = .ok (.iadd, 1) := by decide +kernel
theorem dX6_copies_47 : decode cX6_copies 47 = .ok (.baload, 1) := by decide +kernel
theorem dX6_copies_48 : decode cX6_copies 48 = .ok (.ifCond .ne 19, 3) := by decide +kernel
theorem dX6_copies_51 : decode cX6_copies 51 = .ok (.aload_n 0, 1) := by decide +kernel
theorem dX6_copies_52 : decode cX6_copies 52 = .ok (.getfield 38, 3) := by decide +kernel
theorem dX6_copies_55 : decode cX6_copies 55 = .ok (.iload_n 1, 1) := by decide +kernel
theorem dX6_copies_56 : decode cX6_copies 56 = .ok (.iconst (-1), 1) := by decide +kernel
theorem dX6_copies_57 : decode cX6_copies 57 = .ok (.iastore, 1) := by decide +kernel
theorem dX6_copies_58 : decode cX6_copies 58 = .ok (.aload_n 0, 1) := by decide +kernel
theorem dX6_copies_59 : decode cX6_copies 59 = .ok (.getfield 41, 3) := by decide +kernel
theorem dX6_copies_62 : decode cX6_copies 62 = .ok (.iload_n 1, 1) := by decide +kernel
theorem dX6_copies_63 : decode cX6_copies 63 = .ok (.iconst 0, 1) := by decide +kernel
theorem dX6_copies_64 : decode cX6_copies 64 = .ok (.iastore, 1) := by decide +kernel
theorem dX6_copies_65 : decode cX6_copies 65 = .ok (.iconst 0, 1) := by decide +kernel
theorem dX6_copies_66 : decode cX6_copies 66 = .ok (.ireturn, 1) := by decide +kernel
theorem dX6_copies_67 : decode cX6_copies 67 = .ok (.aload_n 0, 1) := by decide +kernel
theorem dX6_copies_68 : decode cX6_copies 68 = .ok (.getfield 7, 3) := by decide +kernel
theorem dX6_copies_71 : decode cX6_copies 71 = .ok (.iload_n 3, 1) := by decide +kernel
theorem dX6_copies_72 : decode cX6_copies 72 = .ok (.iaload, 1) := by decide +kernel
theorem dX6_copies_73 : decode cX6_copies 73 = .ok (.aload_n 0, 1) := by decide +kernel
theorem dX6_copies_74 : decode cX6_copies 74 = .ok (.getfield 41, 3) := by decide +kernel
theorem dX6_copies_77 : decode cX6_copies 77 = .ok (.iload_n 1, 1) := by decide +kernel
theorem dX6_copies_78 : decode cX6_copies 78 = .ok (.iaload, 1) := by decide +kernel
theorem dX6_copies_79 : decode cX6_copies 79 = .ok (.isub, 1) := by decide +kernel
theorem dX6_copies_80 : decode cX6_copies 80 = .ok (.iload_n 2, 1) := by decide +kernel
theorem dX6_copies_81 : decode cX6_copies 81 = .ok (.if_icmp .ge 19, 3) := by decide +kernel
theorem dX6_copies_84 : decode cX6_copies 84 = .ok (.aload_n 0, 1) := by decide +kernel
theorem dX6_copies_85 : decode cX6_copies 85 = .ok (.getfield 7, 3) := by decide +kernel
theorem dX6_copies_88 : decode cX6_copies 88 = .ok (.iload_n 3, 1) := by decide +kernel
theorem dX6_copies_89 : decode cX6_copies 89 = .ok (.iaload, 1) := by decide +kernel
theorem dX6_copies_90 : decode cX6_copies 90 = .ok (.aload_n 0, 1) := by decide +kernel
theorem dX6_copies_91 : decode cX6_copies 91 = .ok (.getfield 41, 3) := by decide +kernel
theorem dX6_copies_94 : decode cX6_copies 94 = .ok (.iload_n 1, 1) := by decide +kernel
theorem dX6_copies_95 : decode cX6_copies 95 = .ok (.iaload, 1) := by decide +kernel
theorem dX6_copies_96 : decode cX6_copies 96 = .ok (.isub, 1) := by decide +kernel
theorem dX6_copies_97 : decode cX6_copies 97 = .ok (.goto 4, 3) := by decide +kernel
theorem dX6_copies_100 : decode cX6_copies 100 = .ok (.iload_n 2, 1) := by decide +kernel
theorem dX6_copies_101 : decode cX6_copies 101 = .ok (.istore 4, 2) := by decide +kernel
theorem dX6_copies_103 : decode cX6_copies 103 = .ok (.aload_n 0, 1) := by decide +kernel
theorem dX6_copies_104 : decode cX6_copies 104 = .ok (.getfield 41, 3) := by decide +kernel
theorem dX6_copies_107 : decode cX6_copies 107 = .ok (.iload_n 1, 1) := by decide +kernel
theorem dX6_copies_108 : decode cX6_copies 108 = .ok (.dup2, 1) := by decide +kernel
theorem dX6_copies_109 : decode cX6_copies 109 = .ok (.iaload, 1) := by decide +kernel
theorem dX6_copies_110 : decode cX6_copies 110 = .ok (.iload 4, 2) := by decide +kernel
theorem dX6_copies_112 : decode cX6_copies 112 = .ok (.iadd, 1) := by decide +kernel
theorem dX6_copies_113 : decode cX6_copies 113 = .ok (.iastore, 1) := by decide +kernel
theorem dX6_copies_114 : decode cX6_copies 114 = .ok (.aload_n 0, 1) := by decide +kernel
theorem dX6_copies_115 : decode cX6_copies 115 = .ok (.getfield 44, 3) := by decide +kernel
theorem dX6_copies_118 : decode cX6_copies 118 = .ok (.iload_n 1, 1) := by decide +kernel
theorem dX6_copies_119 : decode cX6_copies 119 = .ok (.dup2, 1) := by decide +kernel
theorem dX6_copies_120 : decode cX6_copies 120 = .ok (.iaload, 1) := by decide +kernel
theorem dX6_copies_121 : decode cX6_copies 121 = .ok (.iload 4, 2) := by decide +kernel
theorem dX6_copies_123 : decode cX6_copies 123 = .ok (.iadd, 1) := by decide +kernel
theorem dX6_copies_124 : decode cX6_copies 124 = .ok (.iastore, 1) := by decide +kernel
theorem dX6_copies_125 : decode cX6_copies 125 = .ok (.iload_n 2, 1) := by decide +kernel
theorem dX6_copies_126 : decode cX6_copies 126 = .ok (.iload 4, 2) := by decide +kernel
theorem dX6_copies_128 : decode cX6_copies 128 = .ok (.isub, 1) := by decide +kernel
theorem dX6_copies_129 : decode cX6_copies 129 = .ok (.istore_n 2, 1) := by decide +kernel
theorem dX6_copies_130 : decode cX6_copies 130 = .ok (.aload_n 0, 1) := by decide +kernel
theorem dX6_copies_131 : decode cX6_copies 131 = .ok (.getfield 41, 3) := by decide +kernel
theorem dX6_copies_134 : decode cX6_copies 134 = .ok (.iload_n 1, 1) := by decide +kernel
theorem dX6_copies_135 : decode cX6_copies 135 = .ok (.iaload, 1) := by decide +kernel
theorem dX6_copies_136 : decode cX6_copies 136 = .ok (.aload_n 0, 1) := by decide +kernel
theorem dX6_copies_137 : decode cX6_copies 137 = .ok (.getfield 7, 3) := by decide +kernel
theorem dX6_copies_140 : decode cX6_copies 140 = .ok (.iload_n 3, 1) := by decide +kernel
theorem dX6_copies_141 : decode cX6_copies 141 = .ok (.iaload, 1) := by decide +kernel
theorem dX6_copies_142 : decode cX6_copies 142 = .ok (.if_icmp .ge 6, 3) := by decide +kernel
theorem dX6_copies_145 : decode cX6_copies 145 = .ok (.goto (-138), 3) := by decide +kernel
theorem dX6_copies_148 : decode cX6_copies 148 = .ok (.aload_n 0, 1) := by decide +kernel
theorem dX6_copies_149 : decode cX6_copies 149 = .ok (.getfield 51, 3) := by decide +kernel
theorem dX6_copies_152 : decode cX6_copies 152 = .ok (.bipush 60, 2) := by decide +kernel
theorem dX6_copies_154 : decode cX6_copies 154 = .ok (.iload_n 1, 1) := by decide +kernel
theorem dX6_copies_155 : decode cX6_copies 155 = .ok (.imul, 1) := by decide +kernel
theorem dX6_copies_156 : decode cX6_copies 156 = .ok (.iload_n 3, 1) := by decide +kernel
theorem dX6_copies_157 : decode cX6_copies 157 = .ok (.iadd, 1) := by decide +kernel
theorem dX6_copies_158 : decode cX6_copies 158 = .ok (.iconst 1, 1) := by decide +kernel
theorem dX6_copies_159 : decode cX6_copies 159 = .ok (.bastore, 1) := by decide +kernel
theorem dX6_copies_160 : decode cX6_copies 160 = .ok (.aload_n 0, 1) := by decide +kernel
theorem dX6_copies_161 : decode cX6_copies 161 = .ok (.getfield 41, 3) := by decide +kernel
theorem dX6_copies_164 : decode cX6_copies 164 = .ok (.iload_n 1, 1) := by decide +kernel
theorem dX6_copies_165 : decode cX6_copies 165 = .ok (.iconst 0, 1) := by decide +kernel
theorem dX6_copies_166 : decode cX6_copies 166 = .ok (.iastore, 1) := by decide +kernel
theorem dX6_copies_167 : decode cX6_copies 167 = .ok (.goto (-160), 3) := by decide +kernel
theorem dX6_copies_170 : decode cX6_copies 170 = .ok (.iconst 1, 1) := by decide +kernel
theorem dX6_copies_171 : decode cX6_copies 171 = .ok (.ireturn, 1) := by decide +kernel
set_option maxRecDepth 20000 in
theorem ggX6_turns_X6_isNamed : GoodIn wsX6_turns wsX6_isNamed := goodIn_r _ [13, 14, 15, 16, 17, 18, 19, 20, 21, 22, 23, 24, 25, 26, 27, 28, 29, 30, 31, 32, 33, 34, 35, 36, 37, 38, 39, 40, 41, 42, 43, 44, 45, 46, 47, 48, 49, 50, 51, 52, 53, 54] (by decide +kernel) (by decide +kernel)
set_option maxRecDepth 20000 in
theorem gX6_turns_X6_isNamed : GoodIn wsX6_turns (wsV RX6 122 RX6 yX6_isNamed wsX6_isNamed) := goodIn_app (goodIn_of _ (by decide +kernel)) ggX6_turns_X6_isNamed
theorem dX6_turns_0 : decode cX6_turns 0 = .ok (.iconst 2, 1) := by decide +kernel
theorem dX6_turns_1 : decode cX6_turns 1 = .ok (.istore_n 2, 1) := by decide +kernel
theorem dX6_turns_2 : decode cX6_turns 2 = .ok (.iload_n 2, 1) := by decide +kernel
theorem dX6_turns_3 : decode cX6_turns 3 = .ok (.ifCond .le 31, 3) := by decide +kernel
theorem dX6_turns_6 : decode cX6_turns 6 = .ok (.aload_n 0, 1) := by decide +kernel
theorem dX6_turns_7 : decode cX6_turns 7 = .ok (.getfield 54, 3) := by decide +kernel
theorem dX6_turns_10 : decode cX6_turns 10 = .ok (.iconst 3, 1) := by decide +kernel
theorem dX6_turns_11 : decode cX6_turns 11 = .ok (.iload_n 1, 1) := by decide +kernel
theorem dX6_turns_12 : decode cX6_turns 12 = .ok (.imul, 1) := by decide +kernel
theorem dX6_turns_13 : decode cX6_turns 13 = .ok (.iload_n 2, 1) := by decide +kernel
theorem dX6_turns_14 : decode cX6_turns 14 = .ok (.iadd, 1) := by decide +kernel
theorem dX6_turns_15 : decode cX6_turns 15 = .ok (.aload_n 0, 1) := by decide +kernel
theorem dX6_turns_16 : decode cX6_turns 16 = .ok (.getfield 54, 3) := by decide +kernel
theorem dX6_turns_19 : decode cX6_turns 19 = .ok (.iconst 3, 1) := by decide +kernel
theorem dX6_turns_20 : decode cX6_turns 20 = .ok (.iload_n 1, 1) := by decide +kernel
theorem dX6_turns_21 : decode cX6_turns 21 = .ok (.imul, 1) := by decide +kernel
theorem dX6_turns_22 : decode cX6_turns 22 = .ok (.iload_n 2, 1) := by decide +kernel
theorem dX6_turns_23 : decode cX6_turns 23 = .ok (.iadd, 1) := by decide +kernel
theorem dX6_turns_24 : decode cX6_turns 24 = .ok (.iconst 1, 1) := by decide +kernel
theorem dX6_turns_25 : decode cX6_turns 25 = .ok (.isub, 1) := by decide +kernel
theorem dX6_turns_26 : decode cX6_turns 26 = .ok (.iaload, 1) := by decide +kernel
theorem dX6_turns_27 : decode cX6_turns 27 = .ok (.iastore, 1) := by decide +kernel
theorem dX6_turns_28 : decode cX6_turns 28 = .ok (.iinc 2 (-1), 3) := by decide +kernel
theorem dX6_turns_31 : decode cX6_turns 31 = .ok (.goto (-29), 3) := by decide +kernel
theorem dX6_turns_34 : decode cX6_turns 34 = .ok (.aload_n 0, 1) := by decide +kernel
theorem dX6_turns_35 : decode cX6_turns 35 = .ok (.getfield 54, 3) := by decide +kernel
theorem dX6_turns_38 : decode cX6_turns 38 = .ok (.iconst 3, 1) := by decide +kernel
theorem dX6_turns_39 : decode cX6_turns 39 = .ok (.iload_n 1, 1) := by decide +kernel
theorem dX6_turns_40 : decode cX6_turns 40 = .ok (.imul, 1) := by decide +kernel
theorem dX6_turns_41 : decode cX6_turns 41 = .ok (.aload_n 0, 1) := by decide +kernel
theorem dX6_turns_42 : decode cX6_turns 42 = .ok (.getfield 35, 3) := by decide +kernel
theorem dX6_turns_45 : decode cX6_turns 45 = .ok (.iload_n 1, 1) := by decide +kernel
theorem dX6_turns_46 : decode cX6_turns 46 = .ok (.iaload, 1) := by decide +kernel
theorem dX6_turns_47 : decode cX6_turns 47 = .ok (.iastore, 1) := by decide +kernel
theorem dX6_turns_48 : decode cX6_turns 48 = .ok (.aload_n 0, 1) := by decide +kernel
theorem dX6_turns_49 : decode cX6_turns 49 = .ok (.getfield 57, 3) := by decide +kernel
theorem dX6_turns_52 : decode cX6_turns 52 = .ok (.iload_n 1, 1) := by decide +kernel
theorem dX6_turns_53 : decode cX6_turns 53 = .ok (.aload_n 0, 1) := by decide +kernel
theorem dX6_turns_54 : decode cX6_turns 54 = .ok (.getfield 57, 3) := by decide +kernel
theorem dX6_turns_57 : decode cX6_turns 57 = .ok (.iload_n 1, 1) := by decide +kernel
theorem dX6_turns_58 : decode cX6_turns 58 = .ok (.iaload, 1) := by decide +kernel
theorem dX6_turns_59 : decode cX6_turns 59 = .ok (.iconst 3, 1) := by decide +kernel
theorem dX6_turns_60 : decode cX6_turns 60 = .ok (.if_icmp .ge 14, 3) := by decide +kernel
theorem dX6_turns_63 : decode cX6_turns 63 = .ok (.aload_n 0, 1) := by decide +kernel
theorem dX6_turns_64 : decode cX6_turns 64 = .ok (.getfield 57, 3) := by decide +kernel
theorem dX6_turns_67 : decode cX6_turns 67 = .ok (.iload_n 1, 1) := by decide +kernel
theorem dX6_turns_68 : decode cX6_turns 68 = .ok (.iaload, 1) := by decide +kernel
theorem dX6_turns_69 : decode cX6_turns 69 = .ok (.iconst 1, 1) := by decide +kernel
theorem dX6_turns_70 : decode cX6_turns 70 = .ok (.iadd, 1) := by decide +kernel
theorem dX6_turns_71 : decode cX6_turns 71 = .ok (.goto 4, 3) := by decide +kernel
theorem dX6_turns_74 : decode cX6_turns 74 = .ok (.iconst 3, 1) := by decide +kernel
theorem dX6_turns_75 : decode cX6_turns 75 = .ok (.iastore, 1) := by decide +kernel
theorem dX6_turns_76 : decode cX6_turns 76 = .ok (.aload_n 0, 1) := by decide +kernel
theorem dX6_turns_77 : decode cX6_turns 77 = .ok (.getfield 35, 3) := by decide +kernel
theorem dX6_turns_80 : decode cX6_turns 80 = .ok (.iload_n 1, 1) := by decide +kernel
theorem dX6_turns_81 : decode cX6_turns 81 = .ok (.aload_n 0, 1) := by decide +kernel
theorem dX6_turns_82 : decode cX6_turns 82 = .ok (.getfield 38, 3) := by decide +kernel
theorem dX6_turns_85 : decode cX6_turns 85 = .ok (.iload_n 1, 1) := by decide +kernel
theorem dX6_turns_86 : decode cX6_turns 86 = .ok (.iaload, 1) := by decide +kernel
theorem dX6_turns_87 : decode cX6_turns 87 = .ok (.iastore, 1) := by decide +kernel
theorem dX6_turns_88 : decode cX6_turns 88 = .ok (.aload_n 0, 1) := by decide +kernel
theorem dX6_turns_89 : decode cX6_turns 89 = .ok (.getfield 38, 3) := by decide +kernel
theorem dX6_turns_92 : decode cX6_turns 92 = .ok (.iload_n 1, 1) := by decide +kernel
theorem dX6_turns_93 : decode cX6_turns 93 = .ok (.iconst (-1), 1) := by decide +kernel
theorem dX6_turns_94 : decode cX6_turns 94 = .ok (.iastore, 1) := by decide +kernel
theorem dX6_turns_95 : decode cX6_turns 95 = .ok (.aload_n 0, 1) := by decide +kernel
theorem dX6_turns_96 : decode cX6_turns 96 = .ok (.getfield 41, 3) := by decide +kernel
theorem dX6_turns_99 : decode cX6_turns 99 = .ok (.iload_n 1, 1) := by decide +kernel
theorem dX6_turns_100 : decode cX6_turns 100 = .ok (.iconst 0, 1) := by decide +kernel
theorem dX6_turns_101 : decode cX6_turns 101 = .ok (.iastore, 1) := by decide +kernel
theorem dX6_turns_102 : decode cX6_turns 102 = .ok (.iconst 0, 1) := by decide +kernel
theorem dX6_turns_103 : decode cX6_turns 103 = .ok (.istore_n 2, 1) := by decide +kernel
theorem dX6_turns_104 : decode cX6_turns 104 = .ok (.iload_n 2, 1) := by decide +kernel
theorem dX6_turns_105 : decode cX6_turns 105 = .ok (.aload_n 0, 1) := by decide +kernel
theorem dX6_turns_106 : decode cX6_turns 106 = .ok (.getfield 96, 3) := by decide +kernel
theorem dX6_turns_109 : decode cX6_turns 109 = .ok (.if_icmp .ge 115, 3) := by decide +kernel
theorem dX6_turns_112 : decode cX6_turns 112 = .ok (.aload_n 0, 1) := by decide +kernel
theorem dX6_turns_113 : decode cX6_turns 113 = .ok (.aload_n 0, 1) := by decide +kernel
theorem dX6_turns_114 : decode cX6_turns 114 = .ok (.getfield 35, 3) := by decide +kernel
theorem dX6_turns_117 : decode cX6_turns 117 = .ok (.iload_n 1, 1) := by decide +kernel
theorem dX6_turns_118 : decode cX6_turns 118 = .ok (.iaload, 1) := by decide +kernel
theorem dX6_turns_119 : decode cX6_turns 119 = .ok (.iload_n 2, 1) := by decide +kernel
theorem dX6_turns_120 : decode cX6_turns 120 = .ok (.invokevirtual 122, 3) := by decide +kernel
theorem dX6_turns_123 : decode cX6_turns 123 = .ok (.istore_n 3, 1) := by decide +kernel
theorem dX6_turns_124 : decode cX6_turns 124 = .ok (.iconst 0, 1) := by decide +kernel
theorem dX6_turns_125 : decode cX6_turns 125 = .ok (.istore 4, 2) := by decide +kernel
theorem dX6_turns_127 : decode cX6_turns 127 = .ok (.iload 4, 2) := by decide +kernel
theorem dX6_turns_129 : decode cX6_turns 129 = .ok (.aload_n 0, 1) := by decide +kernel
theorem dX6_turns_130 : decode cX6_turns 130 = .ok (.getfield 32, 3) := by decide +kernel
theorem dX6_turns_133 : decode cX6_turns 133 = .ok (.iload_n 1, 1) := by decide +kernel
theorem dX6_turns_134 : decode cX6_turns 134 = .ok (.iaload, 1) := by decide +kernel
theorem dX6_turns_135 : decode cX6_turns 135 = .ok (.if_icmp .ge 49, 3) := by decide +kernel
theorem dX6_turns_138 : decode cX6_turns 138 = .ok (.iload 4, 2) := by decide +kernel
theorem dX6_turns_140 : decode cX6_turns 140 = .ok (.aload_n 0, 1) := by decide +kernel
theorem dX6_turns_141 : decode cX6_turns 141 = .ok (.getfield 57, 3) := by decide +kernel
theorem dX6_turns_144 : decode cX6_turns 144 = .ok (.iload_n 1, 1) := by decide +kernel
theorem dX6_turns_145 : decode cX6_turns 145 = .ok (.iaload, 1) := by decide +kernel
theorem dX6_turns_146 : decode cX6_turns 146 = .ok (.if_icmp .ge 38, 3) := by decide +kernel
theorem dX6_turns_149 : decode cX6_turns 149 = .ok (.iload_n 3, 1) := by decide +kernel
theorem dX6_turns_150 : decode cX6_turns 150 = .ok (.ifCond .ne 22, 3) := by decide +kernel
theorem dX6_turns_153 : decode cX6_turns 153 = .ok (.aload_n 0, 1) := by decide +kernel
theorem dX6_turns_154 : decode cX6_turns 154 = .ok (.aload_n 0, 1) := by decide +kernel
theorem dX6_turns_155 : decode cX6_turns 155 = .ok (.getfield 54, 3) := by decide +kernel
theorem dX6_turns_158 : decode cX6_turns 158 = .ok (.iconst 3, 1) := by decide +kernel
theorem dX6_turns_159 : decode cX6_turns 159 = .ok (.iload_n 1, 1) := by decide +kernel
theorem dX6_turns_160 : decode cX6_turns 160 = .ok (.imul, 1) := by decide +kernel
theorem dX6_turns_161 : decode cX6_turns 161 = .ok (.iload 4, 2) := by decide +kernel
theorem dX6_turns_163 : decode cX6_turns 163 = .ok (.iadd, 1) := by decide +kernel
theorem dX6_turns_164 : decode cX6_turns 164 = .ok (.iaload, 1) := by decide +kernel
theorem dX6_turns_165 : decode cX6_turns 165 = .ok (.iload_n 2, 1) := by decide +kernel
theorem dX6_turns_166 : decode cX6_turns 166 = .ok (.invokevirtual 122, 3) := by decide +kernel
theorem dX6_turns_169 : decode cX6_turns 169 = .ok (.ifCond .eq 7, 3) := by decide +kernel
theorem dX6_turns_172 : decode cX6_turns 172 = .ok (.iconst 1, 1) := by decide +kernel
theorem dX6_turns_173 : decode cX6_turns 173 = .ok (.goto 4, 3) := by decide +kernel
theorem dX6_turns_176 : decode cX6_turns 176 = .ok (.iconst 0, 1) := by decide +kernel
theorem dX6_turns_177 : decode cX6_turns 177 = .ok (.istore_n 3, 1) := by decide +kernel
theorem dX6_turns_178 : decode cX6_turns 178 = .ok (.iinc 4 1, 3) := by decide +kernel
theorem dX6_turns_181 : decode cX6_turns 181 = .ok (.goto (-54), 3) := by decide +kernel
theorem dX6_turns_184 : decode cX6_turns 184 = .ok (.aload_n 0, 1) := by decide +kernel
theorem dX6_turns_185 : decode cX6_turns 185 = .ok (.getfield 51, 3) := by decide +kernel
theorem dX6_turns_188 : decode cX6_turns 188 = .ok (.bipush 60, 2) := by decide +kernel
theorem dX6_turns_190 : decode cX6_turns 190 = .ok (.iload_n 1, 1) := by decide +kernel
theorem dX6_turns_191 : decode cX6_turns 191 = .ok (.imul, 1) := by decide +kernel
theorem dX6_turns_192 : decode cX6_turns 192 = .ok (.iload_n 2, 1) := by decide +kernel
theorem dX6_turns_193 : decode cX6_turns 193 = .ok (.iadd, 1) := by decide +kernel
theorem dX6_turns_194 : decode cX6_turns 194 = .ok (.aload_n 0, 1) := by decide +kernel
theorem dX6_turns_195 : decode cX6_turns 195 = .ok (.getfield 51, 3) := by decide +kernel
theorem dX6_turns_198 : decode cX6_turns 198 = .ok (.bipush 60, 2) := by decide +kernel
theorem dX6_turns_200 : decode cX6_turns 200 = .ok (.iload_n 1, 1) := by decide +kernel
theorem dX6_turns_201 : decode cX6_turns 201 = .ok (.imul, 1) := by decide +kernel
theorem dX6_turns_202 : decode cX6_turns 202 = .ok (.iload_n 2, 1) := by decide +kernel
theorem dX6_turns_203 : decode cX6_turns 203 = .ok (.iadd, 1) := by decide +kernel
theorem dX6_turns_204 : decode cX6_turns 204 = .ok (.baload, 1) := by decide +kernel
theorem dX6_turns_205 : decode cX6_turns 205 = .ok (.ifCond .eq 11, 3) := by decide +kernel
theorem dX6_turns_208 : decode cX6_turns 208 = .ok (.iload_n 3, 1) := by decide +kernel
theorem dX6_turns_209 : decode cX6_turns 209 = .ok (.ifCond .eq 7, 3) := by decide +kernel
theorem dX6_turns_212 : decode cX6_turns 212 = .ok (.iconst 1, 1) := by decide +kernel
theorem dX6_turns_213 : decode cX6_turns 213 = .ok (.goto 4, 3) := by decide +kernel
theorem dX6_turns_216 : decode cX6_turns 216 = .ok (.iconst 0, 1) := by decide +kernel
theorem dX6_turns_217 : decode cX6_turns 217 = .ok (.bastore, 1) := by decide +kernel
theorem dX6_turns_218 : decode cX6_turns 218 = .ok (.iinc 2 1, 3) := by decide +kernel
theorem dX6_turns_221 : decode cX6_turns 221 = .ok (.goto (-117), 3) := by decide +kernel
theorem dX6_turns_224 : decode cX6_turns 224 = .ok (.return_, 1) := by decide +kernel
set_option maxRecDepth 20000 in
theorem ggX6_goes_X6_isFallen : GoodIn wsX6_goes wsX6_isFallen := goodIn_r _ [10, 11, 12, 13, 14, 15, 41, 42, 43, 44, 45, 46, 47, 48, 49, 50, 51, 52, 53, 54, 55, 56, 57, 58, 59, 60, 61, 62, 63, 64, 65, 66, 67, 68, 69, 70, 71, 72, 73, 74, 75, 76, 77, 78, 79, 80] (by decide +kernel) (by decide +kernel)
set_option maxRecDepth 20000 in
theorem gX6_goes_X6_isFallen : GoodIn wsX6_goes (wsV RX6 130 RX6 yX6_isFallen wsX6_isFallen) := goodIn_app (goodIn_of _ (by decide +kernel)) ggX6_goes_X6_isFallen
set_option maxRecDepth 20000 in
theorem ggX6_goes_X6_copies : GoodIn wsX6_goes wsX6_copies := goodIn_r _ [19, 20, 2, 21, 3, 1, 22, 23, 24, 25, 26, 9, 27, 28, 29, 30, 31, 32, 33, 41, 42, 43, 44, 45, 46, 47, 48, 49, 50, 51, 52, 53, 54, 55, 56, 57, 58, 59, 60, 61, 62, 63, 64, 65, 66, 67, 68, 69, 70, 71, 72, 73, 74, 75, 76, 77, 78, 79, 80] (by decide +kernel) (by decide +kernel)
set_option maxRecDepth 20000 in
theorem gX6_goes_X6_copies : GoodIn wsX6_goes (wsV RX6 133 RX6 yX6_copies wsX6_copies) := goodIn_app (goodIn_of _ (by decide +kernel)) ggX6_goes_X6_copies
set_option maxRecDepth 20000 in
theorem ggX6_goes_X6_lacking : GoodIn wsX6_goes wsX6_lacking := goodIn_r _ [27, 28, 21, 3, 29, 30, 31, 9, 32, 33, 41, 42, 43, 44, 45, 46, 47, 48, 49, 50, 51, 52, 53, 54, 55, 56, 57, 58, 59, 60, 61, 62, 63, 64, 65, 66, 67, 68, 69, 70, 71, 72, 73, 74, 75, 76, 77, 78, 79, 80] (by decide +kernel) (by decide +kernel)
set_option maxRecDepth 20000 in
theorem gX6_goes_X6_lacking : GoodIn wsX6_goes (wsV RX6 126 RX6 yX6_lacking wsX6_lacking) := goodIn_app (goodIn_of _ (by decide +kernel)) ggX6_goes_X6_lacking
set_option maxRecDepth 20000 in
theorem ggX6_goes_X6_turns : GoodIn wsX6_goes wsX6_turns := goodIn_r _ [37, 38, 5, 39, 3, 1, 28, 40, 21, 29, 30, 31, 9, 32, 33, 41, 42, 43, 44, 45, 46, 47, 48, 49, 50, 51, 52, 53, 54, 55, 56, 57, 58, 59, 60, 61, 62, 63, 64, 65, 66, 67, 68, 69, 70, 71, 72, 73, 74, 75, 76, 77, 78, 79, 80] (by decide +kernel) (by decide +kernel)
set_option maxRecDepth 20000 in
theorem gX6_goes_X6_turns : GoodIn wsX6_goes (wsV RX6 136 RX6 yX6_turns wsX6_turns) := goodIn_app (goodIn_of _ (by decide +kernel)) ggX6_goes_X6_turns
theorem dX6_goes_0 : decode cX6_goes 0 = .ok (.aload_n 0, 1) := by decide +kernel
theorem dX6_goes_1 : decode cX6_goes 1 = .ok (.iload_n 1, 1) := by decide +kernel
theorem dX6_goes_2 : decode cX6_goes 2 = .ok (.invokevirtual 130, 3) := by decide +kernel
theorem dX6_goes_5 : decode cX6_goes 5 = .ok (.ifCond .eq 11, 3) := by decide +kernel
theorem dX6_goes_8 : decode cX6_goes 8 = .ok (.aload_n 0, 1) := by decide +kernel
theorem dX6_goes_9 : decode cX6_goes 9 = .ok (.getfield 41, 3) := by decide +kernel
theorem dX6_goes_12 : decode cX6_goes 12 = .ok (.iload_n 1, 1) := by decide +kernel
theorem dX6_goes_13 : decode cX6_goes 13 = .ok (.iconst 0, 1) := by decide +kernel
theorem dX6_goes_14 : decode cX6_goes 14 = .ok (.iastore, 1) := by decide +kernel
theorem dX6_goes_15 : decode cX6_goes 15 = .ok (.return_, 1) := by decide +kernel
theorem dX6_goes_16 : decode cX6_goes 16 = .ok (.aload_n 0, 1) := by decide +kernel
theorem dX6_goes_17 : decode cX6_goes 17 = .ok (.getfield 26, 3) := by decide +kernel
theorem dX6_goes_20 : decode cX6_goes 20 = .ok (.iload_n 1, 1) := by decide +kernel
theorem dX6_goes_21 : decode cX6_goes 21 = .ok (.iaload, 1) := by decide +kernel
theorem dX6_goes_22 : decode cX6_goes 22 = .ok (.ifCond .lt 17, 3) := by decide +kernel
theorem dX6_goes_25 : decode cX6_goes 25 = .ok (.aload_n 0, 1) := by decide +kernel
theorem dX6_goes_26 : decode cX6_goes 26 = .ok (.aload_n 0, 1) := by decide +kernel
theorem dX6_goes_27 : decode cX6_goes 27 = .ok (.getfield 26, 3) := by decide +kernel
theorem dX6_goes_30 : decode cX6_goes 30 = .ok (.iload_n 1, 1) := by decide +kernel
theorem dX6_goes_31 : decode cX6_goes 31 = .ok (.iaload, 1) := by decide +kernel
theorem dX6_goes_32 : decode cX6_goes 32 = .ok (.invokevirtual 130, 3) := by decide +kernel
theorem dX6_goes_35 : decode cX6_goes 35 = .ok (.ifCond .eq 4, 3) := by decide +kernel
theorem dX6_goes_38 : decode cX6_goes 38 = .ok (.return_, 1) := by decide +kernel
theorem dX6_goes_39 : decode cX6_goes 39 = .ok (.aload_n 0, 1) := by decide +kernel
theorem dX6_goes_40 : decode cX6_goes 40 = .ok (.getfield 38, 3) := by decide +kernel
theorem dX6_goes_43 : decode cX6_goes 43 = .ok (.iload_n 1, 1) := by decide +kernel
theorem dX6_goes_44 : decode cX6_goes 44 = .ok (.iaload, 1) := by decide +kernel
theorem dX6_goes_45 : decode cX6_goes 45 = .ok (.iconst (-1), 1) := by decide +kernel
theorem dX6_goes_46 : decode cX6_goes 46 = .ok (.if_icmp .ne 50, 3) := by decide +kernel
theorem dX6_goes_49 : decode cX6_goes 49 = .ok (.aload_n 0, 1) := by decide +kernel
theorem dX6_goes_50 : decode cX6_goes 50 = .ok (.getfield 26, 3) := by decide +kernel
theorem dX6_goes_53 : decode cX6_goes 53 = .ok (.iload_n 1, 1) := by decide +kernel
theorem dX6_goes_54 : decode cX6_goes 54 = .ok (.iaload, 1) := by decide +kernel
theorem dX6_goes_55 : decode cX6_goes 55 = .ok (.ifCond .ge 12, 3) := by decide +kernel
theorem dX6_goes_58 : decode cX6_goes 58 = .ok (.aload_n 0, 1) := by decide +kernel
theorem dX6_goes_59 : decode cX6_goes 59 = .ok (.getfield 16, 3) := by decide +kernel
theorem dX6_goes_62 : decode cX6_goes 62 = .ok (.iconst 1, 1) := by decide +kernel
theorem dX6_goes_63 : decode cX6_goes 63 = .ok (.isub, 1) := by decide +kernel
theorem dX6_goes_64 : decode cX6_goes 64 = .ok (.goto 14, 3) := by decide +kernel
theorem dX6_goes_67 : decode cX6_goes 67 = .ok (.aload_n 0, 1) := by decide +kernel
theorem dX6_goes_68 : decode cX6_goes 68 = .ok (.getfield 35, 3) := by decide +kernel
theorem dX6_goes_71 : decode cX6_goes 71 = .ok (.aload_n 0, 1) := by decide +kernel
theorem dX6_goes_72 : decode cX6_goes 72 = .ok (.getfield 26, 3) := by decide +kernel
theorem dX6_goes_75 : decode cX6_goes 75 = .ok (.iload_n 1, 1) := by decide +kernel
theorem dX6_goes_76 : decode cX6_goes 76 = .ok (.iaload, 1) := by decide +kernel
theorem dX6_goes_77 : decode cX6_goes 77 = .ok (.iaload, 1) := by decide +kernel
theorem dX6_goes_78 : decode cX6_goes 78 = .ok (.istore_n 2, 1) := by decide +kernel
theorem dX6_goes_79 : decode cX6_goes 79 = .ok (.iload_n 2, 1) := by decide +kernel
theorem dX6_goes_80 : decode cX6_goes 80 = .ok (.aload_n 0, 1) := by decide +kernel
theorem dX6_goes_81 : decode cX6_goes 81 = .ok (.getfield 35, 3) := by decide +kernel
theorem dX6_goes_84 : decode cX6_goes 84 = .ok (.iload_n 1, 1) := by decide +kernel
theorem dX6_goes_85 : decode cX6_goes 85 = .ok (.iaload, 1) := by decide +kernel
theorem dX6_goes_86 : decode cX6_goes 86 = .ok (.if_icmp .le 10, 3) := by decide +kernel
theorem dX6_goes_89 : decode cX6_goes 89 = .ok (.aload_n 0, 1) := by decide +kernel
theorem dX6_goes_90 : decode cX6_goes 90 = .ok (.getfield 38, 3) := by decide +kernel
theorem dX6_goes_93 : decode cX6_goes 93 = .ok (.iload_n 1, 1) := by decide +kernel
theorem dX6_goes_94 : decode cX6_goes 94 = .ok (.iload_n 2, 1) := by decide +kernel
theorem dX6_goes_95 : decode cX6_goes 95 = .ok (.iastore, 1) := by decide +kernel
theorem dX6_goes_96 : decode cX6_goes 96 = .ok (.aload_n 0, 1) := by decide +kernel
theorem dX6_goes_97 : decode cX6_goes 97 = .ok (.getfield 38, 3) := by decide +kernel
theorem dX6_goes_100 : decode cX6_goes 100 = .ok (.iload_n 1, 1) := by decide +kernel
theorem dX6_goes_101 : decode cX6_goes 101 = .ok (.iaload, 1) := by decide +kernel
theorem dX6_goes_102 : decode cX6_goes 102 = .ok (.iconst (-1), 1) := by decide +kernel
theorem dX6_goes_103 : decode cX6_goes 103 = .ok (.if_icmp .eq 11, 3) := by decide +kernel
theorem dX6_goes_106 : decode cX6_goes 106 = .ok (.aload_n 0, 1) := by decide +kernel
theorem dX6_goes_107 : decode cX6_goes 107 = .ok (.iload_n 1, 1) := by decide +kernel
theorem dX6_goes_108 : decode cX6_goes 108 = .ok (.invokevirtual 133, 3) := by decide +kernel
theorem dX6_goes_111 : decode cX6_goes 111 = .ok (.ifCond .ne 4, 3) := by decide +kernel
theorem dX6_goes_114 : decode cX6_goes 114 = .ok (.return_, 1) := by decide +kernel
theorem dX6_goes_115 : decode cX6_goes 115 = .ok (.aload_n 0, 1) := by decide +kernel
theorem dX6_goes_116 : decode cX6_goes 116 = .ok (.iload_n 1, 1) := by decide +kernel
theorem dX6_goes_117 : decode cX6_goes 117 = .ok (.invokevirtual 126, 3) := by decide +kernel
theorem dX6_goes_120 : decode cX6_goes 120 = .ok (.ifCond .ge 8, 3) := by decide +kernel
theorem dX6_goes_123 : decode cX6_goes 123 = .ok (.aload_n 0, 1) := by decide +kernel
theorem dX6_goes_124 : decode cX6_goes 124 = .ok (.iload_n 1, 1) := by decide +kernel
theorem dX6_goes_125 : decode cX6_goes 125 = .ok (.invokevirtual 136, 3) := by decide +kernel
theorem dX6_goes_128 : decode cX6_goes 128 = .ok (.return_, 1) := by decide +kernel
set_option maxRecDepth 20000 in
theorem ggX6_pass_X6_in : GoodIn wsX6_pass wsX6_in := goodIn_r _ [6] (by decide +kernel) (by decide +kernel)
set_option maxRecDepth 20000 in
theorem gX6_pass_X6_in : GoodIn wsX6_pass (va_wsS RX6 99 yX6_in wsX6_in) := goodIn_app (goodIn_of _ (by decide +kernel)) ggX6_pass_X6_in
set_option maxRecDepth 20000 in
theorem ggX6_pass_X6_goes : GoodIn wsX6_pass wsX6_goes := goodIn_r _ [10, 11, 12, 13, 14, 15, 16, 17, 18, 5, 19, 20, 21, 22, 1, 23, 24, 25, 26, 27, 28, 29, 30, 31, 32, 33, 34, 35, 36, 37, 38, 39, 40, 41, 42, 43, 44, 45, 46, 47, 48, 49, 50, 51, 52, 53, 54, 55, 56, 57, 58, 59, 60, 61, 62, 63, 64, 65, 66, 67, 68, 69, 70, 71, 72, 73, 74, 75, 76, 77, 78, 79, 80, 81, 82, 83, 84, 85, 86, 87, 88] (by decide +kernel) (by decide +kernel)
set_option maxRecDepth 20000 in
theorem gX6_pass_X6_goes : GoodIn wsX6_pass (wsV RX6 140 RX6 yX6_goes wsX6_goes) := goodIn_app (goodIn_of _ (by decide +kernel)) ggX6_pass_X6_goes
theorem dX6_pass_0 : decode cX6_pass 0 = .ok (.iload_n 1, 1) := by decide +kernel
theorem dX6_pass_1 : decode cX6_pass 1 = .ok (.iconst 1, 1) := by decide +kernel
theorem dX6_pass_2 : decode cX6_pass 2 = .ok (.sipush 500, 3) := by decide +kernel
theorem dX6_pass_5 : decode cX6_pass 5 = .ok (.invokestatic 99, 3) := by decide +kernel
theorem dX6_pass_8 : decode cX6_pass 8 = .ok (.ifCond .eq 15, 3) := by decide +kernel
theorem dX6_pass_11 : decode cX6_pass 11 = .ok (.aload_n 0, 1) := by decide +kernel
theorem dX6_pass_12 : decode cX6_pass 12 = .ok (.getfield 103, 3) := by decide +kernel
theorem dX6_pass_15 : decode cX6_pass 15 = .ok (.iload_n 1, 1) := by decide +kernel
theorem dX6_pass_16 : decode cX6_pass 16 = .ok (.iadd, 1) := by decide +kernel
theorem dX6_pass_17 : decode cX6_pass 17 = .ok (.sipush 9999, 3) := by decide +kernel
theorem dX6_pass_20 : decode cX6_pass 20 = .ok (.if_icmp .le 5, 3) := by decide +kernel
theorem dX6_pass_23 : decode cX6_pass 23 = .ok (.iconst (-1), 1) := by decide +kernel
theorem dX6_pass_24 : decode cX6_pass 24 = .ok (.ireturn, 1) := by decide +kernel
theorem dX6_pass_25 : decode cX6_pass 25 = .ok (.iconst 0, 1) := by decide +kernel
theorem dX6_pass_26 : decode cX6_pass 26 = .ok (.istore_n 2, 1) := by decide +kernel
theorem dX6_pass_27 : decode cX6_pass 27 = .ok (.iload_n 2, 1) := by decide +kernel
theorem dX6_pass_28 : decode cX6_pass 28 = .ok (.iload_n 1, 1) := by decide +kernel
theorem dX6_pass_29 : decode cX6_pass 29 = .ok (.if_icmp .ge 40, 3) := by decide +kernel
theorem dX6_pass_32 : decode cX6_pass 32 = .ok (.iconst 0, 1) := by decide +kernel
theorem dX6_pass_33 : decode cX6_pass 33 = .ok (.istore_n 3, 1) := by decide +kernel
theorem dX6_pass_34 : decode cX6_pass 34 = .ok (.iload_n 3, 1) := by decide +kernel
theorem dX6_pass_35 : decode cX6_pass 35 = .ok (.aload_n 0, 1) := by decide +kernel
theorem dX6_pass_36 : decode cX6_pass 36 = .ok (.getfield 113, 3) := by decide +kernel
theorem dX6_pass_39 : decode cX6_pass 39 = .ok (.if_icmp .ge 14, 3) := by decide +kernel
theorem dX6_pass_42 : decode cX6_pass 42 = .ok (.aload_n 0, 1) := by decide +kernel
theorem dX6_pass_43 : decode cX6_pass 43 = .ok (.iload_n 3, 1) := by decide +kernel
theorem dX6_pass_44 : decode cX6_pass 44 = .ok (.invokevirtual 140, 3) := by decide +kernel
theorem dX6_pass_47 : decode cX6_pass 47 = .ok (.iinc 3 1, 3) := by decide +kernel
theorem dX6_pass_50 : decode cX6_pass 50 = .ok (.goto (-16), 3) := by decide +kernel
theorem dX6_pass_53 : decode cX6_pass 53 = .ok (.aload_n 0, 1) := by decide +kernel
theorem dX6_pass_54 : decode cX6_pass 54 = .ok (.dup, 1) := by decide +kernel
theorem dX6_pass_55 : decode cX6_pass 55 = .ok (.getfield 103, 3) := by decide +kernel
theorem dX6_pass_58 : decode cX6_pass 58 = .ok (.iconst 1, 1) := by decide +kernel
theorem dX6_pass_59 : decode cX6_pass 59 = .ok (.iadd, 1) := by decide +kernel
theorem dX6_pass_60 : decode cX6_pass 60 = .ok (.putfield 103, 3) := by decide +kernel
theorem dX6_pass_63 : decode cX6_pass 63 = .ok (.iinc 2 1, 3) := by decide +kernel
theorem dX6_pass_66 : decode cX6_pass 66 = .ok (.goto (-39), 3) := by decide +kernel
theorem dX6_pass_69 : decode cX6_pass 69 = .ok (.aload_n 0, 1) := by decide +kernel
theorem dX6_pass_70 : decode cX6_pass 70 = .ok (.getfield 103, 3) := by decide +kernel
theorem dX6_pass_73 : decode cX6_pass 73 = .ok (.ireturn, 1) := by decide +kernel
set_option maxRecDepth 20000 in
theorem ggX6_isAsker_X6_in : GoodIn wsX6_isAsker wsX6_in := goodIn_r _ [4] (by decide +kernel) (by decide +kernel)
set_option maxRecDepth 20000 in
theorem gX6_isAsker_X6_in : GoodIn wsX6_isAsker (va_wsS RX6 99 yX6_in wsX6_in) := goodIn_app (goodIn_of _ (by decide +kernel)) ggX6_isAsker_X6_in
theorem dX6_isAsker_0 : decode cX6_isAsker 0 = .ok (.iload_n 0, 1) := by decide +kernel
theorem dX6_isAsker_1 : decode cX6_isAsker 1 = .ok (.iconst 0, 1) := by decide +kernel
theorem dX6_isAsker_2 : decode cX6_isAsker 2 = .ok (.iconst 5, 1) := by decide +kernel
theorem dX6_isAsker_3 : decode cX6_isAsker 3 = .ok (.invokestatic 99, 3) := by decide +kernel
theorem dX6_isAsker_6 : decode cX6_isAsker 6 = .ok (.ireturn, 1) := by decide +kernel
set_option maxRecDepth 20000 in
theorem ggX6_cost_X6_isAsker : GoodIn wsX6_cost wsX6_isAsker := goodIn_r _ [5, 6, 7, 4, 8] (by decide +kernel) (by decide +kernel)
set_option maxRecDepth 20000 in
theorem gX6_cost_X6_isAsker : GoodIn wsX6_cost (va_wsS RX6 143 yX6_isAsker wsX6_isAsker) := goodIn_app (goodIn_of _ (by decide +kernel)) ggX6_cost_X6_isAsker
set_option maxRecDepth 20000 in
theorem ggX6_cost_X6_isMirror : GoodIn wsX6_cost wsX6_isMirror := goodIn_r _ [12, 13, 6, 7, 4, 8, 14, 15, 16, 17, 18, 19, 20, 21, 22, 23, 24, 25, 26, 27, 28, 29, 30, 31, 32, 33, 34, 35, 36, 37, 38, 39, 40, 41, 42, 43, 44, 45, 46, 47, 48, 49, 50, 51, 52, 53] (by decide +kernel) (by decide +kernel)
set_option maxRecDepth 20000 in
theorem gX6_cost_X6_isMirror : GoodIn wsX6_cost (wsV RX6 116 RX6 yX6_isMirror wsX6_isMirror) := goodIn_app (goodIn_of _ (by decide +kernel)) ggX6_cost_X6_isMirror
set_option maxRecDepth 20000 in
theorem ggX6_cost_X6_in : GoodIn wsX6_cost wsX6_in := goodIn_r _ [8] (by decide +kernel) (by decide +kernel)
set_option maxRecDepth 20000 in
theorem gX6_cost_X6_in : GoodIn wsX6_cost (va_wsS RX6 99 yX6_in wsX6_in) := goodIn_app (goodIn_of _ (by decide +kernel)) ggX6_cost_X6_in
theorem dX6_cost_0 : decode cX6_cost 0 = .ok (.iload_n 1, 1) := by decide +kernel
theorem dX6_cost_1 : decode cX6_cost 1 = .ok (.invokestatic 143, 3) := by decide +kernel
theorem dX6_cost_4 : decode cX6_cost 4 = .ok (.ifCond .eq 21, 3) := by decide +kernel
theorem dX6_cost_7 : decode cX6_cost 7 = .ok (.aload_n 0, 1) := by decide +kernel
theorem dX6_cost_8 : decode cX6_cost 8 = .ok (.iload_n 2, 1) := by decide +kernel
theorem dX6_cost_9 : decode cX6_cost 9 = .ok (.invokevirtual 116, 3) := by decide +kernel
theorem dX6_cost_12 : decode cX6_cost 12 = .ok (.ifCond .eq 13, 3) := by decide +kernel
theorem dX6_cost_15 : decode cX6_cost 15 = .ok (.iload_n 3, 1) := by decide +kernel
theorem dX6_cost_16 : decode cX6_cost 16 = .ok (.iconst (-1), 1) := by decide +kernel
theorem dX6_cost_17 : decode cX6_cost 17 = .ok (.bipush 100, 2) := by decide +kernel
theorem dX6_cost_19 : decode cX6_cost 19 = .ok (.invokestatic 99, 3) := by decide +kernel
theorem dX6_cost_22 : decode cX6_cost 22 = .ok (.ifCond .ne 6, 3) := by decide +kernel
theorem dX6_cost_25 : decode cX6_cost 25 = .ok (.bipush (-2), 2) := by decide +kernel
theorem dX6_cost_27 : decode cX6_cost 27 = .ok (.ireturn, 1) := by decide +kernel
theorem dX6_cost_28 : decode cX6_cost 28 = .ok (.aload_n 0, 1) := by decide +kernel
theorem dX6_cost_29 : decode cX6_cost 29 = .ok (.getfield 72, 3) := by decide +kernel
theorem dX6_cost_32 : decode cX6_cost 32 = .ok (.bipush 8, 2) := by decide +kernel
theorem dX6_cost_34 : decode cX6_cost 34 = .ok (.iload_n 1, 1) := by decide +kernel
theorem dX6_cost_35 : decode cX6_cost 35 = .ok (.imul, 1) := by decide +kernel
theorem dX6_cost_36 : decode cX6_cost 36 = .ok (.iload_n 2, 1) := by decide +kernel
theorem dX6_cost_37 : decode cX6_cost 37 = .ok (.iadd, 1) := by decide +kernel
theorem dX6_cost_38 : decode cX6_cost 38 = .ok (.iaload, 1) := by decide +kernel
theorem dX6_cost_39 : decode cX6_cost 39 = .ok (.istore 4, 2) := by decide +kernel
theorem dX6_cost_41 : decode cX6_cost 41 = .ok (.aload_n 0, 1) := by decide +kernel
theorem dX6_cost_42 : decode cX6_cost 42 = .ok (.getfield 72, 3) := by decide +kernel
theorem dX6_cost_45 : decode cX6_cost 45 = .ok (.bipush 8, 2) := by decide +kernel
theorem dX6_cost_47 : decode cX6_cost 47 = .ok (.iload_n 1, 1) := by decide +kernel
theorem dX6_cost_48 : decode cX6_cost 48 = .ok (.imul, 1) := by decide +kernel
theorem dX6_cost_49 : decode cX6_cost 49 = .ok (.iload_n 2, 1) := by decide +kernel
theorem dX6_cost_50 : decode cX6_cost 50 = .ok (.iadd, 1) := by decide +kernel
theorem dX6_cost_51 : decode cX6_cost 51 = .ok (.iload_n 3, 1) := by decide +kernel
theorem dX6_cost_52 : decode cX6_cost 52 = .ok (.iastore, 1) := by decide +kernel
theorem dX6_cost_53 : decode cX6_cost 53 = .ok (.iload 4, 2) := by decide +kernel
theorem dX6_cost_55 : decode cX6_cost 55 = .ok (.ireturn, 1) := by decide +kernel
set_option maxRecDepth 20000 in
theorem ggX6_bears_X6_isAsker : GoodIn wsX6_bears wsX6_isAsker := goodIn_r _ [5, 6, 7, 4, 8] (by decide +kernel) (by decide +kernel)
set_option maxRecDepth 20000 in
theorem gX6_bears_X6_isAsker : GoodIn wsX6_bears (va_wsS RX6 143 yX6_isAsker wsX6_isAsker) := goodIn_app (goodIn_of _ (by decide +kernel)) ggX6_bears_X6_isAsker
set_option maxRecDepth 20000 in
theorem ggX6_bears_X6_in : GoodIn wsX6_bears wsX6_in := goodIn_r _ [8] (by decide +kernel) (by decide +kernel)
set_option maxRecDepth 20000 in
theorem gX6_bears_X6_in : GoodIn wsX6_bears (va_wsS RX6 99 yX6_in wsX6_in) := goodIn_app (goodIn_of _ (by decide +kernel)) ggX6_bears_X6_in
theorem dX6_bears_0 : decode cX6_bears 0 = .ok (.iload_n 1, 1) := by decide +kernel
theorem dX6_bears_1 : decode cX6_bears 1 = .ok (.invokestatic 143, 3) := by decide +kernel
theorem dX6_bears_4 : decode cX6_bears 4 = .ok (.ifCond .eq 14, 3) := by decide +kernel
theorem dX6_bears_7 : decode cX6_bears 7 = .ok (.iload_n 2, 1) := by decide +kernel
theorem dX6_bears_8 : decode cX6_bears 8 = .ok (.iconst 0, 1) := by decide +kernel
theorem dX6_bears_9 : decode cX6_bears 9 = .ok (.sipush 9999, 3) := by decide +kernel
theorem dX6_bears_12 : decode cX6_bears 12 = .ok (.invokestatic 99, 3) := by decide +kernel
theorem dX6_bears_15 : decode cX6_bears 15 = .ok (.ifCond .ne 5, 3) := by decide +kernel
theorem dX6_bears_18 : decode cX6_bears 18 = .ok (.iconst (-1), 1) := by decide +kernel
theorem dX6_bears_19 : decode cX6_bears 19 = .ok (.ireturn, 1) := by decide +kernel
theorem dX6_bears_20 : decode cX6_bears 20 = .ok (.aload_n 0, 1) := by decide +kernel
theorem dX6_bears_21 : decode cX6_bears 21 = .ok (.getfield 75, 3) := by decide +kernel
theorem dX6_bears_24 : decode cX6_bears 24 = .ok (.iload_n 1, 1) := by decide +kernel
theorem dX6_bears_25 : decode cX6_bears 25 = .ok (.iaload, 1) := by decide +kernel
theorem dX6_bears_26 : decode cX6_bears 26 = .ok (.istore_n 3, 1) := by decide +kernel
theorem dX6_bears_27 : decode cX6_bears 27 = .ok (.aload_n 0, 1) := by decide +kernel
theorem dX6_bears_28 : decode cX6_bears 28 = .ok (.getfield 75, 3) := by decide +kernel
theorem dX6_bears_31 : decode cX6_bears 31 = .ok (.iload_n 1, 1) := by decide +kernel
theorem dX6_bears_32 : decode cX6_bears 32 = .ok (.iload_n 2, 1) := by decide +kernel
theorem dX6_bears_33 : decode cX6_bears 33 = .ok (.iastore, 1) := by decide +kernel
theorem dX6_bears_34 : decode cX6_bears 34 = .ok (.iload_n 3, 1) := by decide +kernel
theorem dX6_bears_35 : decode cX6_bears 35 = .ok (.ireturn, 1) := by decide +kernel
set_option maxRecDepth 20000 in
theorem ggX6_grace_X6_in : GoodIn wsX6_grace wsX6_in := goodIn_r _ [5] (by decide +kernel) (by decide +kernel)
set_option maxRecDepth 20000 in
theorem gX6_grace_X6_in : GoodIn wsX6_grace (va_wsS RX6 99 yX6_in wsX6_in) := goodIn_app (goodIn_of _ (by decide +kernel)) ggX6_grace_X6_in
theorem dX6_grace_0 : decode cX6_grace 0 = .ok (.iload_n 1, 1) := by decide +kernel
theorem dX6_grace_1 : decode cX6_grace 1 = .ok (.iconst 0, 1) := by decide +kernel
theorem dX6_grace_2 : decode cX6_grace 2 = .ok (.sipush 9999, 3) := by decide +kernel
theorem dX6_grace_5 : decode cX6_grace 5 = .ok (.invokestatic 99, 3) := by decide +kernel
theorem dX6_grace_8 : decode cX6_grace 8 = .ok (.ifCond .ne 5, 3) := by decide +kernel
theorem dX6_grace_11 : decode cX6_grace 11 = .ok (.iconst (-1), 1) := by decide +kernel
theorem dX6_grace_12 : decode cX6_grace 12 = .ok (.ireturn, 1) := by decide +kernel
theorem dX6_grace_13 : decode cX6_grace 13 = .ok (.aload_n 0, 1) := by decide +kernel
theorem dX6_grace_14 : decode cX6_grace 14 = .ok (.getfield 69, 3) := by decide +kernel
theorem dX6_grace_17 : decode cX6_grace 17 = .ok (.istore_n 2, 1) := by decide +kernel
theorem dX6_grace_18 : decode cX6_grace 18 = .ok (.aload_n 0, 1) := by decide +kernel
theorem dX6_grace_19 : decode cX6_grace 19 = .ok (.iload_n 1, 1) := by decide +kernel
theorem dX6_grace_20 : decode cX6_grace 20 = .ok (.putfield 69, 3) := by decide +kernel
theorem dX6_grace_23 : decode cX6_grace 23 = .ok (.iload_n 2, 1) := by decide +kernel
theorem dX6_grace_24 : decode cX6_grace 24 = .ok (.ireturn, 1) := by decide +kernel
set_option maxRecDepth 20000 in
theorem ggX6_forgives_X6_isAsker : GoodIn wsX6_forgives wsX6_isAsker := goodIn_r _ [5, 6, 7, 4, 8] (by decide +kernel) (by decide +kernel)
set_option maxRecDepth 20000 in
theorem gX6_forgives_X6_isAsker : GoodIn wsX6_forgives (va_wsS RX6 143 yX6_isAsker wsX6_isAsker) := goodIn_app (goodIn_of _ (by decide +kernel)) ggX6_forgives_X6_isAsker
theorem dX6_forgives_0 : decode cX6_forgives 0 = .ok (.iload_n 1, 1) := by decide +kernel
theorem dX6_forgives_1 : decode cX6_forgives 1 = .ok (.invokestatic 143, 3) := by decide +kernel
theorem dX6_forgives_4 : decode cX6_forgives 4 = .ok (.ifCond .ne 5, 3) := by decide +kernel
theorem dX6_forgives_7 : decode cX6_forgives 7 = .ok (.iconst (-1), 1) := by decide +kernel
theorem dX6_forgives_8 : decode cX6_forgives 8 = .ok (.ireturn, 1) := by decide +kernel
theorem dX6_forgives_9 : decode cX6_forgives 9 = .ok (.iconst 0, 1) := by decide +kernel
theorem dX6_forgives_10 : decode cX6_forgives 10 = .ok (.istore_n 2, 1) := by decide +kernel
theorem dX6_forgives_11 : decode cX6_forgives 11 = .ok (.iconst 0, 1) := by decide +kernel
theorem dX6_forgives_12 : decode cX6_forgives 12 = .ok (.istore_n 3, 1) := by decide +kernel
theorem dX6_forgives_13 : decode cX6_forgives 13 = .ok (.iload_n 3, 1) := by decide +kernel
theorem dX6_forgives_14 : decode cX6_forgives 14 = .ok (.bipush 8, 2) := by decide +kernel
theorem dX6_forgives_16 : decode cX6_forgives 16 = .ok (.if_icmp .ge 22, 3) := by decide +kernel
theorem dX6_forgives_19 : decode cX6_forgives 19 = .ok (.iload_n 2, 1) := by decide +kernel
theorem dX6_forgives_20 : decode cX6_forgives 20 = .ok (.aload_n 0, 1) := by decide +kernel
theorem dX6_forgives_21 : decode cX6_forgives 21 = .ok (.getfield 81, 3) := by decide +kernel
theorem dX6_forgives_24 : decode cX6_forgives 24 = .ok (.iload_n 1, 1) := by decide +kernel
theorem dX6_forgives_25 : decode cX6_forgives 25 = .ok (.iaload, 1) := by decide +kernel
theorem dX6_forgives_26 : decode cX6_forgives 26 = .ok (.iload_n 3, 1) := by decide +kernel
theorem dX6_forgives_27 : decode cX6_forgives 27 = .ok (.ishr, 1) := by decide +kernel
theorem dX6_forgives_28 : decode cX6_forgives 28 = .ok (.iconst 1, 1) := by decide +kernel
theorem dX6_forgives_29 : decode cX6_forgives 29 = .ok (.iand, 1) := by decide +kernel
theorem dX6_forgives_30 : decode cX6_forgives 30 = .ok (.iadd, 1) := by decide +kernel
theorem dX6_forgives_31 : decode cX6_forgives 31 = .ok (.istore_n 2, 1) := by decide +kernel
theorem dX6_forgives_32 : decode cX6_forgives 32 = .ok (.iinc 3 1, 3) := by decide +kernel
theorem dX6_forgives_35 : decode cX6_forgives 35 = .ok (.goto (-22), 3) := by decide +kernel
theorem dX6_forgives_38 : decode cX6_forgives 38 = .ok (.aload_n 0, 1) := by decide +kernel
theorem dX6_forgives_39 : decode cX6_forgives 39 = .ok (.getfield 81, 3) := by decide +kernel
theorem dX6_forgives_42 : decode cX6_forgives 42 = .ok (.iload_n 1, 1) := by decide +kernel
theorem dX6_forgives_43 : decode cX6_forgives 43 = .ok (.iconst 0, 1) := by decide +kernel
theorem dX6_forgives_44 : decode cX6_forgives 44 = .ok (.iastore, 1) := by decide +kernel
theorem dX6_forgives_45 : decode cX6_forgives 45 = .ok (.iload_n 2, 1) := by decide +kernel
theorem dX6_forgives_46 : decode cX6_forgives 46 = .ok (.ireturn, 1) := by decide +kernel
theorem dX6_ageOf_0 : decode cX6_ageOf 0 = .ok (.iload_n 1, 1) := by decide +kernel
theorem dX6_ageOf_1 : decode cX6_ageOf 1 = .ok (.aload_n 0, 1) := by decide +kernel
theorem dX6_ageOf_2 : decode cX6_ageOf 2 = .ok (.getfield 16, 3) := by decide +kernel
theorem dX6_ageOf_5 : decode cX6_ageOf 5 = .ok (.iconst 1, 1) := by decide +kernel
theorem dX6_ageOf_6 : decode cX6_ageOf 6 = .ok (.isub, 1) := by decide +kernel
theorem dX6_ageOf_7 : decode cX6_ageOf 7 = .ok (.if_icmp .ne 7, 3) := by decide +kernel
theorem dX6_ageOf_10 : decode cX6_ageOf 10 = .ok (.iconst 0, 1) := by decide +kernel
theorem dX6_ageOf_11 : decode cX6_ageOf 11 = .ok (.goto 16, 3) := by decide +kernel
theorem dX6_ageOf_14 : decode cX6_ageOf 14 = .ok (.aload_n 0, 1) := by decide +kernel
theorem dX6_ageOf_15 : decode cX6_ageOf 15 = .ok (.getfield 103, 3) := by decide +kernel
theorem dX6_ageOf_18 : decode cX6_ageOf 18 = .ok (.aload_n 0, 1) := by decide +kernel
theorem dX6_ageOf_19 : decode cX6_ageOf 19 = .ok (.getfield 20, 3) := by decide +kernel
theorem dX6_ageOf_22 : decode cX6_ageOf 22 = .ok (.iload_n 1, 1) := by decide +kernel
theorem dX6_ageOf_23 : decode cX6_ageOf 23 = .ok (.iconst 1, 1) := by decide +kernel
theorem dX6_ageOf_24 : decode cX6_ageOf 24 = .ok (.iadd, 1) := by decide +kernel
theorem dX6_ageOf_25 : decode cX6_ageOf 25 = .ok (.iaload, 1) := by decide +kernel
theorem dX6_ageOf_26 : decode cX6_ageOf 26 = .ok (.isub, 1) := by decide +kernel
theorem dX6_ageOf_27 : decode cX6_ageOf 27 = .ok (.ireturn, 1) := by decide +kernel
set_option maxRecDepth 20000 in
theorem ggX6_isGood_X6_ageOf : GoodIn wsX6_isGood wsX6_ageOf := goodIn_r _ [10, 11, 4, 12, 13, 14, 15, 16, 17, 18, 19, 20, 21, 22, 23, 24, 25, 26, 27, 28, 29, 30, 31, 32, 33, 34, 35, 36, 37, 38, 39, 40, 41, 42, 43, 44, 45, 46, 47, 48, 49, 50, 51, 52] (by decide +kernel) (by decide +kernel)
set_option maxRecDepth 20000 in
theorem gX6_isGood_X6_ageOf : GoodIn wsX6_isGood (wsV RX6 146 RX6 yX6_ageOf wsX6_ageOf) := goodIn_app (goodIn_of _ (by decide +kernel)) ggX6_isGood_X6_ageOf
theorem dX6_isGood_0 : decode cX6_isGood 0 = .ok (.iload_n 2, 1) := by decide +kernel
theorem dX6_isGood_1 : decode cX6_isGood 1 = .ok (.iload_n 3, 1) := by decide +kernel
theorem dX6_isGood_2 : decode cX6_isGood 2 = .ok (.if_icmp .lt 17, 3) := by decide +kernel
theorem dX6_isGood_5 : decode cX6_isGood 5 = .ok (.aload_n 0, 1) := by decide +kernel
theorem dX6_isGood_6 : decode cX6_isGood 6 = .ok (.iload_n 2, 1) := by decide +kernel
theorem dX6_isGood_7 : decode cX6_isGood 7 = .ok (.invokevirtual 146, 3) := by decide +kernel
theorem dX6_isGood_10 : decode cX6_isGood 10 = .ok (.aload_n 0, 1) := by decide +kernel
theorem dX6_isGood_11 : decode cX6_isGood 11 = .ok (.getfield 75, 3) := by decide +kernel
theorem dX6_isGood_14 : decode cX6_isGood 14 = .ok (.iload_n 1, 1) := by decide +kernel
theorem dX6_isGood_15 : decode cX6_isGood 15 = .ok (.iaload, 1) := by decide +kernel
theorem dX6_isGood_16 : decode cX6_isGood 16 = .ok (.if_icmp .le 5, 3) := by decide +kernel
theorem dX6_isGood_19 : decode cX6_isGood 19 = .ok (.iconst 0, 1) := by decide +kernel
theorem dX6_isGood_20 : decode cX6_isGood 20 = .ok (.ireturn, 1) := by decide +kernel
theorem dX6_isGood_21 : decode cX6_isGood 21 = .ok (.iconst 0, 1) := by decide +kernel
theorem dX6_isGood_22 : decode cX6_isGood 22 = .ok (.istore 4, 2) := by decide +kernel
theorem dX6_isGood_24 : decode cX6_isGood 24 = .ok (.iload 4, 2) := by decide +kernel
theorem dX6_isGood_26 : decode cX6_isGood 26 = .ok (.bipush 12, 2) := by decide +kernel
theorem dX6_isGood_28 : decode cX6_isGood 28 = .ok (.if_icmp .ge 60, 3) := by decide +kernel
theorem dX6_isGood_31 : decode cX6_isGood 31 = .ok (.aload_n 0, 1) := by decide +kernel
theorem dX6_isGood_32 : decode cX6_isGood 32 = .ok (.getfield 23, 3) := by decide +kernel
theorem dX6_isGood_35 : decode cX6_isGood 35 = .ok (.bipush 12, 2) := by decide +kernel
theorem dX6_isGood_37 : decode cX6_isGood 37 = .ok (.iload_n 2, 1) := by decide +kernel
theorem dX6_isGood_38 : decode cX6_isGood 38 = .ok (.imul, 1) := by decide +kernel
theorem dX6_isGood_39 : decode cX6_isGood 39 = .ok (.iload 4, 2) := by decide +kernel
theorem dX6_isGood_41 : decode cX6_isGood 41 = .ok (.iadd, 1) := by decide +kernel
theorem dX6_isGood_42 : decode cX6_isGood 42 = .ok (.iaload, 1) := by decide +kernel
theorem dX6_isGood_43 : decode cX6_isGood 43 = .ok (.istore 5, 2) := by decide +kernel
theorem dX6_isGood_45 : decode cX6_isGood 45 = .ok (.iload 5, 2) := by decide +kernel
theorem dX6_isGood_47 : decode cX6_isGood 47 = .ok (.ifCond .lt 35, 3) := by decide +kernel
theorem dX6_isGood_50 : decode cX6_isGood 50 = .ok (.aload_n 0, 1) := by decide +kernel
theorem dX6_isGood_51 : decode cX6_isGood 51 = .ok (.getfield 13, 3) := by decide +kernel
theorem dX6_isGood_54 : decode cX6_isGood 54 = .ok (.iload 5, 2) := by decide +kernel
theorem dX6_isGood_56 : decode cX6_isGood 56 = .ok (.iaload, 1) := by decide +kernel
theorem dX6_isGood_57 : decode cX6_isGood 57 = .ok (.iconst (-1), 1) := by decide +kernel
theorem dX6_isGood_58 : decode cX6_isGood 58 = .ok (.if_icmp .eq 24, 3) := by decide +kernel
theorem dX6_isGood_61 : decode cX6_isGood 61 = .ok (.aload_n 0, 1) := by decide +kernel
theorem dX6_isGood_62 : decode cX6_isGood 62 = .ok (.getfield 103, 3) := by decide +kernel
theorem dX6_isGood_65 : decode cX6_isGood 65 = .ok (.aload_n 0, 1) := by decide +kernel
theorem dX6_isGood_66 : decode cX6_isGood 66 = .ok (.getfield 13, 3) := by decide +kernel
theorem dX6_isGood_69 : decode cX6_isGood 69 = .ok (.iload 5, 2) := by decide +kernel
theorem dX6_isGood_71 : decode cX6_isGood 71 = .ok (.iaload, 1) := by decide +kernel
theorem dX6_isGood_72 : decode cX6_isGood 72 = .ok (.isub, 1) := by decide +kernel
theorem dX6_isGood_73 : decode cX6_isGood 73 = .ok (.aload_n 0, 1) := by decide +kernel
theorem dX6_isGood_74 : decode cX6_isGood 74 = .ok (.getfield 69, 3) := by decide +kernel
theorem dX6_isGood_77 : decode cX6_isGood 77 = .ok (.if_icmp .le 5, 3) := by decide +kernel
theorem dX6_isGood_80 : decode cX6_isGood 80 = .ok (.iconst 0, 1) := by decide +kernel
theorem dX6_isGood_81 : decode cX6_isGood 81 = .ok (.ireturn, 1) := by decide +kernel
theorem dX6_isGood_82 : decode cX6_isGood 82 = .ok (.iinc 4 1, 3) := by decide +kernel
theorem dX6_isGood_85 : decode cX6_isGood 85 = .ok (.goto (-61), 3) := by decide +kernel
theorem dX6_isGood_88 : decode cX6_isGood 88 = .ok (.iconst 1, 1) := by decide +kernel
theorem dX6_isGood_89 : decode cX6_isGood 89 = .ok (.ireturn, 1) := by decide +kernel
theorem dX6_orders_0 : decode cX6_orders 0 = .ok (.aload_n 0, 1) := by decide +kernel
theorem dX6_orders_1 : decode cX6_orders 1 = .ok (.iconst 0, 1) := by decide +kernel
theorem dX6_orders_2 : decode cX6_orders 2 = .ok (.putfield 149, 3) := by decide +kernel
theorem dX6_orders_5 : decode cX6_orders 5 = .ok (.iconst 0, 1) := by decide +kernel
theorem dX6_orders_6 : decode cX6_orders 6 = .ok (.istore_n 2, 1) := by decide +kernel
theorem dX6_orders_7 : decode cX6_orders 7 = .ok (.iload_n 2, 1) := by decide +kernel
theorem dX6_orders_8 : decode cX6_orders 8 = .ok (.aload_n 0, 1) := by decide +kernel
theorem dX6_orders_9 : decode cX6_orders 9 = .ok (.getfield 113, 3) := by decide +kernel
theorem dX6_orders_12 : decode cX6_orders 12 = .ok (.if_icmp .ge 118, 3) := by decide +kernel
theorem dX6_orders_15 : decode cX6_orders 15 = .ok (.aload_n 0, 1) := by decide +kernel
theorem dX6_orders_16 : decode cX6_orders 16 = .ok (.getfield 72, 3) := by decide +kernel
theorem dX6_orders_19 : decode cX6_orders 19 = .ok (.bipush 8, 2) := by decide +kernel
theorem dX6_orders_21 : decode cX6_orders 21 = .ok (.iload_n 1, 1) := by decide +kernel
theorem dX6_orders_22 : decode cX6_orders 22 = .ok (.imul, 1) := by decide +kernel
theorem dX6_orders_23 : decode cX6_orders 23 = .ok (.iload_n 2, 1) := by decide +kernel
theorem dX6_orders_24 : decode cX6_orders 24 = .ok (.iadd, 1) := by decide +kernel
theorem dX6_orders_25 : decode cX6_orders 25 = .ok (.iaload, 1) := by decide +kernel
theorem dX6_orders_26 : decode cX6_orders 26 = .ok (.ifCond .lt 98, 3) := by decide +kernel
theorem dX6_orders_29 : decode cX6_orders 29 = .ok (.aload_n 0, 1) := by decide +kernel
theorem dX6_orders_30 : decode cX6_orders 30 = .ok (.getfield 81, 3) := by decide +kernel
theorem dX6_orders_33 : decode cX6_orders 33 = .ok (.iload_n 1, 1) := by decide +kernel
theorem dX6_orders_34 : decode cX6_orders 34 = .ok (.iaload, 1) := by decide +kernel
theorem dX6_orders_35 : decode cX6_orders 35 = .ok (.iload_n 2, 1) := by decide +kernel
theorem dX6_orders_36 : decode cX6_orders 36 = .ok (.ishr, 1) := by decide +kernel
theorem dX6_orders_37 : decode cX6_orders 37 = .ok (.iconst 1, 1) := by decide +kernel
theorem dX6_orders_38 : decode cX6_orders 38 = .ok (.iand, 1) := by decide +kernel
theorem dX6_orders_39 : decode cX6_orders 39 = .ok (.iconst 1, 1) := by decide +kernel
theorem dX6_orders_40 : decode cX6_orders 40 = .ok (.if_icmp .ne 6, 3) := by decide +kernel
theorem dX6_orders_43 : decode cX6_orders 43 = .ok (.goto 81, 3) := by decide +kernel
theorem dX6_orders_46 : decode cX6_orders 46 = .ok (.aload_n 0, 1) := by decide +kernel
theorem dX6_orders_47 : decode cX6_orders 47 = .ok (.getfield 149, 3) := by decide +kernel
theorem dX6_orders_50 : decode cX6_orders 50 = .ok (.istore_n 3, 1) := by decide +kernel
theorem dX6_orders_51 : decode cX6_orders 51 = .ok (.iload_n 3, 1) := by decide +kernel
theorem dX6_orders_52 : decode cX6_orders 52 = .ok (.ifCond .le 55, 3) := by decide +kernel
theorem dX6_orders_55 : decode cX6_orders 55 = .ok (.aload_n 0, 1) := by decide +kernel
theorem dX6_orders_56 : decode cX6_orders 56 = .ok (.getfield 72, 3) := by decide +kernel
theorem dX6_orders_59 : decode cX6_orders 59 = .ok (.bipush 8, 2) := by decide +kernel
theorem dX6_orders_61 : decode cX6_orders 61 = .ok (.iload_n 1, 1) := by decide +kernel
theorem dX6_orders_62 : decode cX6_orders 62 = .ok (.imul, 1) := by decide +kernel
theorem dX6_orders_63 : decode cX6_orders 63 = .ok (.aload_n 0, 1) := by decide +kernel
theorem dX6_orders_64 : decode cX6_orders 64 = .ok (.getfield 84, 3) := by decide +kernel
theorem dX6_orders_67 : decode cX6_orders 67 = .ok (.iload_n 3, 1) := by decide +kernel
theorem dX6_orders_68 : decode cX6_orders 68 = .ok (.iconst 1, 1) := by decide +kernel
theorem dX6_orders_69 : decode cX6_orders 69 = .ok (.isub, 1) := by decide +kernel
theorem dX6_orders_70 : decode cX6_orders 70 = .ok (.iaload, 1) := by decide +kernel
theorem dX6_orders_71 : decode cX6_orders 71 = .ok (.iadd, 1) := by decide +kernel
theorem dX6_orders_72 : decode cX6_orders 72 = .ok (.iaload, 1) := by decide +kernel
theorem dX6_orders_73 : decode cX6_orders 73 = .ok (.aload_n 0, 1) := by decide +kernel
theorem dX6_orders_74 : decode cX6_orders 74 = .ok (.getfield 72, 3) := by decide +kernel
theorem dX6_orders_77 : decode cX6_orders 77 = .ok (.bipush 8, 2) := by decide +kernel
theorem dX6_orders_79 : decode cX6_orders 79 = .ok (.iload_n 1, 1) := by decide +kernel
theorem dX6_orders_80 : decode cX6_orders 80 = .ok (.imul, 1) := by decide +kernel
theorem dX6_orders_81 : decode cX6_orders 81 = .ok (.iload_n 2, 1) := by decide +kernel
theorem dX6_orders_82 : decode cX6_orders 82 = .ok (.iadd, 1) := by decide +kernel
theorem dX6_orders_83 : decode cX6_orders 83 = .ok (.iaload, 1) := by decide +kernel
theorem dX6_orders_84 : decode cX6_orders 84 = .ok (.if_icmp .le 23, 3) := by decide +kernel
theorem dX6_orders_87 : decode cX6_orders 87 = .ok (.aload_n 0, 1) := by decide +kernel
theorem dX6_orders_88 : decode cX6_orders 88 = .ok (.getfield 84, 3) := by decide +kernel
theorem dX6_orders_91 : decode cX6_orders 91 = .ok (.iload_n 3, 1) := by decide +kernel
theorem dX6_orders_92 : decode cX6_orders 92 = .ok (.aload_n 0, 1) := by decide +kernel
theorem dX6_orders_93 : decode cX6_orders 93 = .ok (.getfield 84, 3) := by decide +kernel
theorem dX6_orders_96 : decode cX6_orders 96 = .ok (.iload_n 3, 1) := by decide +kernel
theorem dX6_orders_97 : decode cX6_orders 97 = .ok (.iconst 1, 1) := by decide +kernel
theorem dX6_orders_98 : decode cX6_orders 98 = .ok (.isub, 1) := by decide +kernel
theorem dX6_orders_99 : decode cX6_orders 99 = .ok (.iaload, 1) := by decide +kernel
theorem dX6_orders_100 : decode cX6_orders 100 = .ok (.iastore, 1) := by decide +kernel
theorem dX6_orders_101 : decode cX6_orders 101 = .ok (.iinc 3 (-1), 3) := by decide +kernel
theorem dX6_orders_104 : decode cX6_orders 104 = .ok (.goto (-53), 3) := by decide +kernel
theorem dX6_orders_107 : decode cX6_orders 107 = .ok (.aload_n 0, 1) := by decide +kernel
theorem dX6_orders_108 : decode cX6_orders 108 = .ok (.getfield 84, 3) := by decide +kernel
theorem dX6_orders_111 : decode cX6_orders 111 = .ok (.iload_n 3, 1) := by decide +kernel
theorem dX6_orders_112 : decode cX6_orders 112 = .ok (.iload_n 2, 1) := by decide +kernel
theorem dX6_orders_113 : decode cX6_orders 113 = .ok (.iastore, 1) := by decide +kernel
theorem dX6_orders_114 : decode cX6_orders 114 = .ok (.aload_n 0, 1) := by decide +kernel
theorem dX6_orders_115 : decode cX6_orders 115 = .ok (.dup, 1) := by decide +kernel
theorem dX6_orders_116 : decode cX6_orders 116 = .ok (.getfield 149, 3) := by decide +kernel
theorem dX6_orders_119 : decode cX6_orders 119 = .ok (.iconst 1, 1) := by decide +kernel
theorem dX6_orders_120 : decode cX6_orders 120 = .ok (.iadd, 1) := by decide +kernel
theorem dX6_orders_121 : decode cX6_orders 121 = .ok (.putfield 149, 3) := by decide +kernel
theorem dX6_orders_124 : decode cX6_orders 124 = .ok (.iinc 2 1, 3) := by decide +kernel
theorem dX6_orders_127 : decode cX6_orders 127 = .ok (.goto (-120), 3) := by decide +kernel
theorem dX6_orders_130 : decode cX6_orders 130 = .ok (.return_, 1) := by decide +kernel
set_option maxRecDepth 20000 in
theorem ggX6_tells_X6_isFallen : GoodIn wsX6_tells wsX6_isFallen := goodIn_r _ [8, 9, 10, 11, 12, 13, 14, 15, 16, 17, 18, 19, 20, 21, 22, 23, 24, 25, 26, 27, 28, 29, 30, 31, 32, 33, 34, 35, 36, 37, 38, 39, 40, 41, 42, 43, 44, 45, 46, 47, 48, 49, 50, 51, 52, 53] (by decide +kernel) (by decide +kernel)
set_option maxRecDepth 20000 in
theorem gX6_tells_X6_isFallen : GoodIn wsX6_tells (wsV RX6 130 RX6 yX6_isFallen wsX6_isFallen) := goodIn_app (goodIn_of _ (by decide +kernel)) ggX6_tells_X6_isFallen
theorem dX6_tells_0 : decode cX6_tells 0 = .ok (.aload_n 0, 1) := by decide +kernel
theorem dX6_tells_1 : decode cX6_tells 1 = .ok (.dup, 1) := by decide +kernel
theorem dX6_tells_2 : decode cX6_tells 2 = .ok (.getfield 152, 3) := by decide +kernel
theorem dX6_tells_5 : decode cX6_tells 5 = .ok (.aload_n 0, 1) := by decide +kernel
theorem dX6_tells_6 : decode cX6_tells 6 = .ok (.getfield 72, 3) := by decide +kernel
theorem dX6_tells_9 : decode cX6_tells 9 = .ok (.bipush 8, 2) := by decide +kernel
theorem dX6_tells_11 : decode cX6_tells 11 = .ok (.iload_n 1, 1) := by decide +kernel
theorem dX6_tells_12 : decode cX6_tells 12 = .ok (.imul, 1) := by decide +kernel
theorem dX6_tells_13 : decode cX6_tells 13 = .ok (.iload_n 2, 1) := by decide +kernel
theorem dX6_tells_14 : decode cX6_tells 14 = .ok (.iadd, 1) := by decide +kernel
theorem dX6_tells_15 : decode cX6_tells 15 = .ok (.iaload, 1) := by decide +kernel
theorem dX6_tells_16 : decode cX6_tells 16 = .ok (.iadd, 1) := by decide +kernel
theorem dX6_tells_17 : decode cX6_tells 17 = .ok (.putfield 152, 3) := by decide +kernel
theorem dX6_tells_20 : decode cX6_tells 20 = .ok (.aload_n 0, 1) := by decide +kernel
theorem dX6_tells_21 : decode cX6_tells 21 = .ok (.dup, 1) := by decide +kernel
theorem dX6_tells_22 : decode cX6_tells 22 = .ok (.getfield 155, 3) := by decide +kernel
theorem dX6_tells_25 : decode cX6_tells 25 = .ok (.iconst 1, 1) := by decide +kernel
theorem dX6_tells_26 : decode cX6_tells 26 = .ok (.iadd, 1) := by decide +kernel
theorem dX6_tells_27 : decode cX6_tells 27 = .ok (.putfield 155, 3) := by decide +kernel
theorem dX6_tells_30 : decode cX6_tells 30 = .ok (.aload_n 0, 1) := by decide +kernel
theorem dX6_tells_31 : decode cX6_tells 31 = .ok (.iload_n 2, 1) := by decide +kernel
theorem dX6_tells_32 : decode cX6_tells 32 = .ok (.invokevirtual 130, 3) := by decide +kernel
theorem dX6_tells_35 : decode cX6_tells 35 = .ok (.ifCond .ne 7, 3) := by decide +kernel
theorem dX6_tells_38 : decode cX6_tells 38 = .ok (.iconst 1, 1) := by decide +kernel
theorem dX6_tells_39 : decode cX6_tells 39 = .ok (.goto 4, 3) := by decide +kernel
theorem dX6_tells_42 : decode cX6_tells 42 = .ok (.iconst 0, 1) := by decide +kernel
theorem dX6_tells_43 : decode cX6_tells 43 = .ok (.ireturn, 1) := by decide +kernel
set_option maxRecDepth 20000 in
theorem ggX6_indexFor_X6_tells : GoodIn wsX6_indexFor wsX6_tells := goodIn_r _ [11, 12, 13, 14, 15, 16, 17, 10, 18, 19, 20, 21, 22, 23, 38, 39, 40, 41, 42, 43, 44, 45, 46, 47, 48, 49, 50, 51, 52, 53, 54, 55, 56, 57, 58, 59, 60, 61, 62, 63, 64, 65, 66, 67, 68, 69, 70, 71, 72, 73, 74, 75, 76, 77] (by decide +kernel) (by decide +kernel)
set_option maxRecDepth 20000 in
theorem gX6_indexFor_X6_tells : GoodIn wsX6_indexFor (wsV RX6 158 RX6 yX6_tells wsX6_tells) := goodIn_app (goodIn_of _ (by decide +kernel)) ggX6_indexFor_X6_tells
set_option maxRecDepth 20000 in
theorem ggX6_indexFor_X6_isGood : GoodIn wsX6_indexFor wsX6_isGood := goodIn_r _ [27, 28, 29, 30, 22, 31, 32, 33, 34, 10, 35, 36, 37, 38, 39, 40, 41, 42, 43, 44, 45, 46, 47, 48, 49, 50, 51, 52, 53, 54, 55, 56, 57, 58, 59, 60, 61, 62, 63, 64, 65, 66, 67, 68, 69, 70, 71, 72, 73, 74, 75, 76, 77] (by decide +kernel) (by decide +kernel)
set_option maxRecDepth 20000 in
theorem gX6_indexFor_X6_isGood : GoodIn wsX6_indexFor (wsV RX6 161 RX6 yX6_isGood wsX6_isGood) := goodIn_app (goodIn_of _ (by decide +kernel)) ggX6_indexFor_X6_isGood
theorem dX6_indexFor_0 : decode cX6_indexFor 0 = .ok (.iconst 0, 1) := by decide +kernel
theorem dX6_indexFor_1 : decode cX6_indexFor 1 = .ok (.istore_n 2, 1) := by decide +kernel
theorem dX6_indexFor_2 : decode cX6_indexFor 2 = .ok (.iload_n 2, 1) := by decide +kernel
theorem dX6_indexFor_3 : decode cX6_indexFor 3 = .ok (.aload_n 0, 1) := by decide +kernel
theorem dX6_indexFor_4 : decode cX6_indexFor 4 = .ok (.getfield 149, 3) := by decide +kernel
theorem dX6_indexFor_7 : decode cX6_indexFor 7 = .ok (.if_icmp .ge 79, 3) := by decide +kernel
theorem dX6_indexFor_10 : decode cX6_indexFor 10 = .ok (.aload_n 0, 1) := by decide +kernel
theorem dX6_indexFor_11 : decode cX6_indexFor 11 = .ok (.getfield 84, 3) := by decide +kernel
theorem dX6_indexFor_14 : decode cX6_indexFor 14 = .ok (.iload_n 2, 1) := by decide +kernel
theorem dX6_indexFor_15 : decode cX6_indexFor 15 = .ok (.iaload, 1) := by decide +kernel
theorem dX6_indexFor_16 : decode cX6_indexFor 16 = .ok (.istore_n 3, 1) := by decide +kernel
theorem dX6_indexFor_17 : decode cX6_indexFor 17 = .ok (.aload_n 0, 1) := by decide +kernel
theorem dX6_indexFor_18 : decode cX6_indexFor 18 = .ok (.iload_n 1, 1) := by decide +kernel
theorem dX6_indexFor_19 : decode cX6_indexFor 19 = .ok (.iload_n 3, 1) := by decide +kernel
theorem dX6_indexFor_20 : decode cX6_indexFor 20 = .ok (.invokevirtual 158, 3) := by decide +kernel
theorem dX6_indexFor_23 : decode cX6_indexFor 23 = .ok (.ifCond .ne 6, 3) := by decide +kernel
theorem dX6_indexFor_26 : decode cX6_indexFor 26 = .ok (.goto 54, 3) := by decide +kernel
theorem dX6_indexFor_29 : decode cX6_indexFor 29 = .ok (.aload_n 0, 1) := by decide +kernel
theorem dX6_indexFor_30 : decode cX6_indexFor 30 = .ok (.getfield 47, 3) := by decide +kernel
theorem dX6_indexFor_33 : decode cX6_indexFor 33 = .ok (.iload_n 3, 1) := by decide +kernel
theorem dX6_indexFor_34 : decode cX6_indexFor 34 = .ok (.baload, 1) := by decide +kernel
theorem dX6_indexFor_35 : decode cX6_indexFor 35 = .ok (.ifCond .eq 18, 3) := by decide +kernel
theorem dX6_indexFor_38 : decode cX6_indexFor 38 = .ok (.aload_n 0, 1) := by decide +kernel
theorem dX6_indexFor_39 : decode cX6_indexFor 39 = .ok (.getfield 81, 3) := by decide +kernel
theorem dX6_indexFor_42 : decode cX6_indexFor 42 = .ok (.iload_n 1, 1) := by decide +kernel
theorem dX6_indexFor_43 : decode cX6_indexFor 43 = .ok (.dup2, 1) := by decide +kernel
theorem dX6_indexFor_44 : decode cX6_indexFor 44 = .ok (.iaload, 1) := by decide +kernel
theorem dX6_indexFor_45 : decode cX6_indexFor 45 = .ok (.iconst 1, 1) := by decide +kernel
theorem dX6_indexFor_46 : decode cX6_indexFor 46 = .ok (.iload_n 3, 1) := by decide +kernel
theorem dX6_indexFor_47 : decode cX6_indexFor 47 = .ok (.ishl, 1) := by decide +kernel
theorem dX6_indexFor_48 : decode cX6_indexFor 48 = .ok (.ior, 1) := by decide +kernel
theorem dX6_indexFor_49 : decode cX6_indexFor 49 = .ok (.iastore, 1) := by decide +kernel
theorem dX6_indexFor_50 : decode cX6_indexFor 50 = .ok (.goto 30, 3) := by decide +kernel
theorem dX6_indexFor_53 : decode cX6_indexFor 53 = .ok (.aload_n 0, 1) := by decide +kernel
theorem dX6_indexFor_54 : decode cX6_indexFor 54 = .ok (.iload_n 1, 1) := by decide +kernel
theorem dX6_indexFor_55 : decode cX6_indexFor 55 = .ok (.aload_n 0, 1) := by decide +kernel
theorem dX6_indexFor_56 : decode cX6_indexFor 56 = .ok (.getfield 35, 3) := by decide +kernel
theorem dX6_indexFor_59 : decode cX6_indexFor 59 = .ok (.iload_n 3, 1) := by decide +kernel
theorem dX6_indexFor_60 : decode cX6_indexFor 60 = .ok (.iaload, 1) := by decide +kernel
theorem dX6_indexFor_61 : decode cX6_indexFor 61 = .ok (.aload_n 0, 1) := by decide +kernel
theorem dX6_indexFor_62 : decode cX6_indexFor 62 = .ok (.getfield 78, 3) := by decide +kernel
theorem dX6_indexFor_65 : decode cX6_indexFor 65 = .ok (.iload_n 1, 1) := by decide +kernel
theorem dX6_indexFor_66 : decode cX6_indexFor 66 = .ok (.iaload, 1) := by decide +kernel
theorem dX6_indexFor_67 : decode cX6_indexFor 67 = .ok (.invokevirtual 161, 3) := by decide +kernel
theorem dX6_indexFor_70 : decode cX6_indexFor 70 = .ok (.ifCond .eq 10, 3) := by decide +kernel
theorem dX6_indexFor_73 : decode cX6_indexFor 73 = .ok (.aload_n 0, 1) := by decide +kernel
theorem dX6_indexFor_74 : decode cX6_indexFor 74 = .ok (.getfield 35, 3) := by decide +kernel
theorem dX6_indexFor_77 : decode cX6_indexFor 77 = .ok (.iload_n 3, 1) := by decide +kernel
theorem dX6_indexFor_78 : decode cX6_indexFor 78 = .ok (.iaload, 1) := by decide +kernel
theorem dX6_indexFor_79 : decode cX6_indexFor 79 = .ok (.ireturn, 1) := by decide +kernel
theorem dX6_indexFor_80 : decode cX6_indexFor 80 = .ok (.iinc 2 1, 3) := by decide +kernel
theorem dX6_indexFor_83 : decode cX6_indexFor 83 = .ok (.goto (-81), 3) := by decide +kernel
theorem dX6_indexFor_86 : decode cX6_indexFor 86 = .ok (.iconst (-1), 1) := by decide +kernel
theorem dX6_indexFor_87 : decode cX6_indexFor 87 = .ok (.ireturn, 1) := by decide +kernel
set_option maxRecDepth 20000 in
theorem ggX6_giver_X6_tells : GoodIn wsX6_giver wsX6_tells := goodIn_r _ [10, 11, 12, 13, 14, 15, 16, 9, 17, 18, 19, 20, 21, 22, 23, 24, 25, 26, 27, 28, 29, 30, 31, 32, 33, 34, 35, 36, 37, 38, 39, 40, 41, 42, 43, 44, 45, 46, 47, 48, 49, 50, 51, 52, 53, 54, 55, 56, 57, 58, 59, 60, 61, 62] (by decide +kernel) (by decide +kernel)
set_option maxRecDepth 20000 in
theorem gX6_giver_X6_tells : GoodIn wsX6_giver (wsV RX6 158 RX6 yX6_tells wsX6_tells) := goodIn_app (goodIn_of _ (by decide +kernel)) ggX6_giver_X6_tells
theorem dX6_giver_0 : decode cX6_giver 0 = .ok (.iconst 0, 1) := by decide +kernel
theorem dX6_giver_1 : decode cX6_giver 1 = .ok (.istore_n 3, 1) := by decide +kernel
theorem dX6_giver_2 : decode cX6_giver 2 = .ok (.iload_n 3, 1) := by decide +kernel
theorem dX6_giver_3 : decode cX6_giver 3 = .ok (.aload_n 0, 1) := by decide +kernel
theorem dX6_giver_4 : decode cX6_giver 4 = .ok (.getfield 149, 3) := by decide +kernel
theorem dX6_giver_7 : decode cX6_giver 7 = .ok (.if_icmp .ge 86, 3) := by decide +kernel
theorem dX6_giver_10 : decode cX6_giver 10 = .ok (.aload_n 0, 1) := by decide +kernel
theorem dX6_giver_11 : decode cX6_giver 11 = .ok (.getfield 84, 3) := by decide +kernel
theorem dX6_giver_14 : decode cX6_giver 14 = .ok (.iload_n 3, 1) := by decide +kernel
theorem dX6_giver_15 : decode cX6_giver 15 = .ok (.iaload, 1) := by decide +kernel
theorem dX6_giver_16 : decode cX6_giver 16 = .ok (.istore 4, 2) := by decide +kernel
theorem dX6_giver_18 : decode cX6_giver 18 = .ok (.aload_n 0, 1) := by decide +kernel
theorem dX6_giver_19 : decode cX6_giver 19 = .ok (.getfield 81, 3) := by decide +kernel
theorem dX6_giver_22 : decode cX6_giver 22 = .ok (.iload_n 1, 1) := by decide +kernel
theorem dX6_giver_23 : decode cX6_giver 23 = .ok (.iaload, 1) := by decide +kernel
theorem dX6_giver_24 : decode cX6_giver 24 = .ok (.iload 4, 2) := by decide +kernel
theorem dX6_giver_26 : decode cX6_giver 26 = .ok (.ishr, 1) := by decide +kernel
theorem dX6_giver_27 : decode cX6_giver 27 = .ok (.iconst 1, 1) := by decide +kernel
theorem dX6_giver_28 : decode cX6_giver 28 = .ok (.iand, 1) := by decide +kernel
theorem dX6_giver_29 : decode cX6_giver 29 = .ok (.iconst 1, 1) := by decide +kernel
theorem dX6_giver_30 : decode cX6_giver 30 = .ok (.if_icmp .eq 57, 3) := by decide +kernel
theorem dX6_giver_33 : decode cX6_giver 33 = .ok (.aload_n 0, 1) := by decide +kernel
theorem dX6_giver_34 : decode cX6_giver 34 = .ok (.iload_n 1, 1) := by decide +kernel
theorem dX6_giver_35 : decode cX6_giver 35 = .ok (.iload 4, 2) := by decide +kernel
theorem dX6_giver_37 : decode cX6_giver 37 = .ok (.invokevirtual 158, 3) := by decide +kernel
theorem dX6_giver_40 : decode cX6_giver 40 = .ok (.ifCond .eq 47, 3) := by decide +kernel
theorem dX6_giver_43 : decode cX6_giver 43 = .ok (.aload_n 0, 1) := by decide +kernel
theorem dX6_giver_44 : decode cX6_giver 44 = .ok (.getfield 51, 3) := by decide +kernel
theorem dX6_giver_47 : decode cX6_giver 47 = .ok (.bipush 60, 2) := by decide +kernel
theorem dX6_giver_49 : decode cX6_giver 49 = .ok (.iload 4, 2) := by decide +kernel
theorem dX6_giver_51 : decode cX6_giver 51 = .ok (.imul, 1) := by decide +kernel
theorem dX6_giver_52 : decode cX6_giver 52 = .ok (.iload_n 2, 1) := by decide +kernel
theorem dX6_giver_53 : decode cX6_giver 53 = .ok (.iadd, 1) := by decide +kernel
theorem dX6_giver_54 : decode cX6_giver 54 = .ok (.baload, 1) := by decide +kernel
theorem dX6_giver_55 : decode cX6_giver 55 = .ok (.ifCond .ne 6, 3) := by decide +kernel
theorem dX6_giver_58 : decode cX6_giver 58 = .ok (.goto 29, 3) := by decide +kernel
theorem dX6_giver_61 : decode cX6_giver 61 = .ok (.aload_n 0, 1) := by decide +kernel
theorem dX6_giver_62 : decode cX6_giver 62 = .ok (.getfield 47, 3) := by decide +kernel
theorem dX6_giver_65 : decode cX6_giver 65 = .ok (.iload 4, 2) := by decide +kernel
theorem dX6_giver_67 : decode cX6_giver 67 = .ok (.baload, 1) := by decide +kernel
theorem dX6_giver_68 : decode cX6_giver 68 = .ok (.ifCond .ne 6, 3) := by decide +kernel
theorem dX6_giver_71 : decode cX6_giver 71 = .ok (.iload 4, 2) := by decide +kernel
theorem dX6_giver_73 : decode cX6_giver 73 = .ok (.ireturn, 1) := by decide +kernel
theorem dX6_giver_74 : decode cX6_giver 74 = .ok (.aload_n 0, 1) := by decide +kernel
theorem dX6_giver_75 : decode cX6_giver 75 = .ok (.getfield 81, 3) := by decide +kernel
theorem dX6_giver_78 : decode cX6_giver 78 = .ok (.iload_n 1, 1) := by decide +kernel
theorem dX6_giver_79 : decode cX6_giver 79 = .ok (.dup2, 1) := by decide +kernel
theorem dX6_giver_80 : decode cX6_giver 80 = .ok (.iaload, 1) := by decide +kernel
theorem dX6_giver_81 : decode cX6_giver 81 = .ok (.iconst 1, 1) := by decide +kernel
theorem dX6_giver_82 : decode cX6_giver 82 = .ok (.iload 4, 2) := by decide +kernel
theorem dX6_giver_84 : decode cX6_giver 84 = .ok (.ishl, 1) := by decide +kernel
theorem dX6_giver_85 : decode cX6_giver 85 = .ok (.ior, 1) := by decide +kernel
theorem dX6_giver_86 : decode cX6_giver 86 = .ok (.iastore, 1) := by decide +kernel
theorem dX6_giver_87 : decode cX6_giver 87 = .ok (.iinc 3 1, 3) := by decide +kernel
theorem dX6_giver_90 : decode cX6_giver 90 = .ok (.goto (-88), 3) := by decide +kernel
theorem dX6_giver_93 : decode cX6_giver 93 = .ok (.iconst (-1), 1) := by decide +kernel
theorem dX6_giver_94 : decode cX6_giver 94 = .ok (.ireturn, 1) := by decide +kernel
set_option maxRecDepth 20000 in
theorem ggX6_least_X6_isFallen : GoodIn wsX6_least wsX6_isFallen := goodIn_r _ [14, 15, 16, 17, 18, 19, 33, 34, 35, 36, 37, 38, 39, 40, 41, 42, 43, 44, 45, 46, 47, 48, 49, 50, 51, 52, 53, 54, 55, 56, 57, 58, 59, 60, 61, 62, 63, 64, 65, 66, 67, 68, 69, 70, 71, 72] (by decide +kernel) (by decide +kernel)
set_option maxRecDepth 20000 in
theorem gX6_least_X6_isFallen : GoodIn wsX6_least (wsV RX6 130 RX6 yX6_isFallen wsX6_isFallen) := goodIn_app (goodIn_of _ (by decide +kernel)) ggX6_least_X6_isFallen
set_option maxRecDepth 20000 in
theorem ggX6_least_X6_isGood : GoodIn wsX6_least wsX6_isGood := goodIn_r _ [23, 24, 5, 25, 18, 26, 27, 28, 29, 13, 30, 31, 32, 33, 34, 35, 36, 37, 38, 39, 40, 41, 42, 43, 44, 45, 46, 47, 48, 49, 50, 51, 52, 53, 54, 55, 56, 57, 58, 59, 60, 61, 62, 63, 64, 65, 66, 67, 68, 69, 70, 71, 72] (by decide +kernel) (by decide +kernel)
set_option maxRecDepth 20000 in
theorem gX6_least_X6_isGood : GoodIn wsX6_least (wsV RX6 161 RX6 yX6_isGood wsX6_isGood) := goodIn_app (goodIn_of _ (by decide +kernel)) ggX6_least_X6_isGood
theorem dX6_least_0 : decode cX6_least 0 = .ok (.iconst (-1), 1) := by decide +kernel
theorem dX6_least_1 : decode cX6_least 1 = .ok (.istore 4, 2) := by decide +kernel
theorem dX6_least_3 : decode cX6_least 3 = .ok (.iconst 0, 1) := by decide +kernel
theorem dX6_least_4 : decode cX6_least 4 = .ok (.istore 5, 2) := by decide +kernel
theorem dX6_least_6 : decode cX6_least 6 = .ok (.iload 5, 2) := by decide +kernel
theorem dX6_least_8 : decode cX6_least 8 = .ok (.aload_n 0, 1) := by decide +kernel
theorem dX6_least_9 : decode cX6_least 9 = .ok (.getfield 113, 3) := by decide +kernel
theorem dX6_least_12 : decode cX6_least 12 = .ok (.if_icmp .ge 163, 3) := by decide +kernel
theorem dX6_least_15 : decode cX6_least 15 = .ok (.aload_n 0, 1) := by decide +kernel
theorem dX6_least_16 : decode cX6_least 16 = .ok (.getfield 72, 3) := by decide +kernel
theorem dX6_least_19 : decode cX6_least 19 = .ok (.bipush 8, 2) := by decide +kernel
theorem dX6_least_21 : decode cX6_least 21 = .ok (.iload_n 1, 1) := by decide +kernel
theorem dX6_least_22 : decode cX6_least 22 = .ok (.imul, 1) := by decide +kernel
theorem dX6_least_23 : decode cX6_least 23 = .ok (.iload 5, 2) := by decide +kernel
theorem dX6_least_25 : decode cX6_least 25 = .ok (.iadd, 1) := by decide +kernel
theorem dX6_least_26 : decode cX6_least 26 = .ok (.iaload, 1) := by decide +kernel
theorem dX6_least_27 : decode cX6_least 27 = .ok (.istore 6, 2) := by decide +kernel
theorem dX6_least_29 : decode cX6_least 29 = .ok (.iload 6, 2) := by decide +kernel
theorem dX6_least_31 : decode cX6_least 31 = .ok (.ifCond .lt 138, 3) := by decide +kernel
theorem dX6_least_34 : decode cX6_least 34 = .ok (.aload_n 0, 1) := by decide +kernel
theorem dX6_least_35 : decode cX6_least 35 = .ok (.iload 5, 2) := by decide +kernel
theorem dX6_least_37 : decode cX6_least 37 = .ok (.invokevirtual 130, 3) := by decide +kernel
theorem dX6_least_40 : decode cX6_least 40 = .ok (.ifCond .ne 129, 3) := by decide +kernel
theorem dX6_least_43 : decode cX6_least 43 = .ok (.aload_n 0, 1) := by decide +kernel
theorem dX6_least_44 : decode cX6_least 44 = .ok (.getfield 47, 3) := by decide +kernel
theorem dX6_least_47 : decode cX6_least 47 = .ok (.iload 5, 2) := by decide +kernel
theorem dX6_least_49 : decode cX6_least 49 = .ok (.baload, 1) := by decide +kernel
theorem dX6_least_50 : decode cX6_least 50 = .ok (.ifCond .ne 119, 3) := by decide +kernel
theorem dX6_least_53 : decode cX6_least 53 = .ok (.aload_n 0, 1) := by decide +kernel
theorem dX6_least_54 : decode cX6_least 54 = .ok (.iload_n 1, 1) := by decide +kernel
theorem dX6_least_55 : decode cX6_least 55 = .ok (.aload_n 0, 1) := by decide +kernel
theorem dX6_least_56 : decode cX6_least 56 = .ok (.getfield 35, 3) := by decide +kernel
theorem dX6_least_59 : decode cX6_least 59 = .ok (.iload 5, 2) := by decide +kernel
theorem dX6_least_61 : decode cX6_least 61 = .ok (.iaload, 1) := by decide +kernel
theorem dX6_least_62 : decode cX6_least 62 = .ok (.iload_n 3, 1) := by decide +kernel
theorem dX6_least_63 : decode cX6_least 63 = .ok (.invokevirtual 161, 3) := by decide +kernel
theorem dX6_least_66 : decode cX6_least 66 = .ok (.ifCond .eq 103, 3) := by decide +kernel
theorem dX6_least_69 : decode cX6_least 69 = .ok (.iload 4, 2) := by decide +kernel
theorem dX6_least_71 : decode cX6_least 71 = .ok (.ifCond .lt 13, 3) := by decide +kernel
theorem dX6_least_74 : decode cX6_least 74 = .ok (.iload 6, 2) := by decide +kernel
theorem dX6_least_76 : decode cX6_least 76 = .ok (.iload 4, 2) := by decide +kernel
theorem dX6_least_78 : decode cX6_least 78 = .ok (.if_icmp .lt 6, 3) := by decide +kernel
theorem dX6_least_81 : decode cX6_least 81 = .ok (.goto 88, 3) := by decide +kernel
theorem dX6_least_84 : decode cX6_least 84 = .ok (.iconst 1, 1) := by decide +kernel
theorem dX6_least_85 : decode cX6_least 85 = .ok (.istore 7, 2) := by decide +kernel
theorem dX6_least_87 : decode cX6_least 87 = .ok (.iconst 0, 1) := by decide +kernel
theorem dX6_least_88 : decode cX6_least 88 = .ok (.istore 8, 2) := by decide +kernel
theorem dX6_least_90 : decode cX6_least 90 = .ok (.iload 8, 2) := by decide +kernel
theorem dX6_least_92 : decode cX6_least 92 = .ok (.bipush 12, 2) := by decide +kernel
theorem dX6_least_94 : decode cX6_least 94 = .ok (.if_icmp .ge 66, 3) := by decide +kernel
theorem dX6_least_97 : decode cX6_least 97 = .ok (.iload 7, 2) := by decide +kernel
theorem dX6_least_99 : decode cX6_least 99 = .ok (.ifCond .eq 52, 3) := by decide +kernel
theorem dX6_least_102 : decode cX6_least 102 = .ok (.iload_n 2, 1) := by decide +kernel
theorem dX6_least_103 : decode cX6_least 103 = .ok (.iload 8, 2) := by decide +kernel
theorem dX6_least_105 : decode cX6_least 105 = .ok (.ishr, 1) := by decide +kernel
theorem dX6_least_106 : decode cX6_least 106 = .ok (.iconst 1, 1) := by decide +kernel
theorem dX6_least_107 : decode cX6_least 107 = .ok (.iand, 1) := by decide +kernel
theorem dX6_least_108 : decode cX6_least 108 = .ok (.ifCond .eq 39, 3) := by decide +kernel
theorem dX6_least_111 : decode cX6_least 111 = .ok (.aload_n 0, 1) := by decide +kernel
theorem dX6_least_112 : decode cX6_least 112 = .ok (.getfield 23, 3) := by decide +kernel
theorem dX6_least_115 : decode cX6_least 115 = .ok (.bipush 12, 2) := by decide +kernel
theorem dX6_least_117 : decode cX6_least 117 = .ok (.aload_n 0, 1) := by decide +kernel
theorem dX6_least_118 : decode cX6_least 118 = .ok (.getfield 35, 3) := by decide +kernel
theorem dX6_least_121 : decode cX6_least 121 = .ok (.iload 5, 2) := by decide +kernel
theorem dX6_least_123 : decode cX6_least 123 = .ok (.iaload, 1) := by decide +kernel
theorem dX6_least_124 : decode cX6_least 124 = .ok (.imul, 1) := by decide +kernel
theorem dX6_least_125 : decode cX6_least 125 = .ok (.iload 8, 2) := by decide +kernel
theorem dX6_least_127 : decode cX6_least 127 = .ok (.iadd, 1) := by decide +kernel
theorem dX6_least_128 : decode cX6_least 128 = .ok (.iaload, 1) := by decide +kernel
theorem dX6_least_129 : decode cX6_least 129 = .ok (.aload_n 0, 1) := by decide +kernel
theorem dX6_least_130 : decode cX6_least 130 = .ok (.getfield 23, 3) := by decide +kernel
theorem dX6_least_133 : decode cX6_least 133 = .ok (.bipush 12, 2) := by decide +kernel
theorem dX6_least_135 : decode cX6_least 135 = .ok (.aload_n 0, 1) := by decide +kernel
theorem dX6_least_136 : decode cX6_least 136 = .ok (.getfield 164, 3) := by decide +kernel
theorem dX6_least_139 : decode cX6_least 139 = .ok (.imul, 1) := by decide +kernel
theorem dX6_least_140 : decode cX6_least 140 = .ok (.iload 8, 2) := by decide +kernel
theorem dX6_least_142 : decode cX6_least 142 = .ok (.iadd, 1) := by decide +kernel
theorem dX6_least_143 : decode cX6_least 143 = .ok (.iaload, 1) := by decide +kernel
theorem dX6_least_144 : decode cX6_least 144 = .ok (.if_icmp .ne 7, 3) := by decide +kernel
theorem dX6_least_147 : decode cX6_least 147 = .ok (.iconst 1, 1) := by decide +kernel
theorem dX6_least_148 : decode cX6_least 148 = .ok (.goto 4, 3) := by decide +kernel
theorem dX6_least_151 : decode cX6_least 151 = .ok (.iconst 0, 1) := by decide +kernel
theorem dX6_least_152 : decode cX6_least 152 = .ok (.istore 7, 2) := by decide +kernel
theorem dX6_least_154 : decode cX6_least 154 = .ok (.iinc 8 1, 3) := by decide +kernel
theorem dX6_least_157 : decode cX6_least 157 = .ok (.goto (-67), 3) := by decide +kernel
theorem dX6_least_160 : decode cX6_least 160 = .ok (.iload 7, 2) := by decide +kernel
theorem dX6_least_162 : decode cX6_least 162 = .ok (.ifCond .eq 7, 3) := by decide +kernel
theorem dX6_least_165 : decode cX6_least 165 = .ok (.iload 6, 2) := by decide +kernel
theorem dX6_least_167 : decode cX6_least 167 = .ok (.istore 4, 2) := by decide +kernel
theorem dX6_least_169 : decode cX6_least 169 = .ok (.iinc 5 1, 3) := by decide +kernel
theorem dX6_least_172 : decode cX6_least 172 = .ok (.goto (-166), 3) := by decide +kernel
theorem dX6_least_175 : decode cX6_least 175 = .ok (.iload 4, 2) := by decide +kernel
theorem dX6_least_177 : decode cX6_least 177 = .ok (.istore 5, 2) := by decide +kernel
theorem dX6_least_179 : decode cX6_least 179 = .ok (.iconst 0, 1) := by decide +kernel
theorem dX6_least_180 : decode cX6_least 180 = .ok (.istore 6, 2) := by decide +kernel
theorem dX6_least_182 : decode cX6_least 182 = .ok (.iload 6, 2) := by decide +kernel
theorem dX6_least_184 : decode cX6_least 184 = .ok (.aload_n 0, 1) := by decide +kernel
theorem dX6_least_185 : decode cX6_least 185 = .ok (.getfield 167, 3) := by decide +kernel
theorem dX6_least_188 : decode cX6_least 188 = .ok (.if_icmp .ge 115, 3) := by decide +kernel
theorem dX6_least_191 : decode cX6_least 191 = .ok (.iconst (-1), 1) := by decide +kernel
theorem dX6_least_192 : decode cX6_least 192 = .ok (.istore 4, 2) := by decide +kernel
theorem dX6_least_194 : decode cX6_least 194 = .ok (.iconst 0, 1) := by decide +kernel
theorem dX6_least_195 : decode cX6_least 195 = .ok (.istore 7, 2) := by decide +kernel
theorem dX6_least_197 : decode cX6_least 197 = .ok (.iload 7, 2) := by decide +kernel
theorem dX6_least_199 : decode cX6_least 199 = .ok (.aload_n 0, 1) := by decide +kernel
theorem dX6_least_200 : decode cX6_least 200 = .ok (.getfield 113, 3) := by decide +kernel
theorem dX6_least_203 : decode cX6_least 203 = .ok (.if_icmp .ge 87, 3) := by decide +kernel
theorem dX6_least_206 : decode cX6_least 206 = .ok (.aload_n 0, 1) := by decide +kernel
theorem dX6_least_207 : decode cX6_least 207 = .ok (.getfield 72, 3) := by decide +kernel
theorem dX6_least_210 : decode cX6_least 210 = .ok (.bipush 8, 2) := by decide +kernel
theorem dX6_least_212 : decode cX6_least 212 = .ok (.iload_n 1, 1) := by decide +kernel
theorem dX6_least_213 : decode cX6_least 213 = .ok (.imul, 1) := by decide +kernel
theorem dX6_least_214 : decode cX6_least 214 = .ok (.iload 7, 2) := by decide +kernel
theorem dX6_least_216 : decode cX6_least 216 = .ok (.iadd, 1) := by decide +kernel
theorem dX6_least_217 : decode cX6_least 217 = .ok (.iaload, 1) := by decide +kernel
theorem dX6_least_218 : decode cX6_least 218 = .ok (.istore 8, 2) := by decide +kernel
theorem dX6_least_220 : decode cX6_least 220 = .ok (.iload 8, 2) := by decide +kernel
theorem dX6_least_222 : decode cX6_least 222 = .ok (.ifCond .lt 62, 3) := by decide +kernel
theorem dX6_least_225 : decode cX6_least 225 = .ok (.aload_n 0, 1) := by decide +kernel
theorem dX6_least_226 : decode cX6_least 226 = .ok (.iload 7, 2) := by decide +kernel
theorem dX6_least_228 : decode cX6_least 228 = .ok (.invokevirtual 130, 3) := by decide +kernel
theorem dX6_least_231 : decode cX6_least 231 = .ok (.ifCond .ne 53, 3) := by decide +kernel
theorem dX6_least_234 : decode cX6_least 234 = .ok (.aload_n 0, 1) := by decide +kernel
theorem dX6_least_235 : decode cX6_least 235 = .ok (.getfield 47, 3) := by decide +kernel
theorem dX6_least_238 : decode cX6_least 238 = .ok (.iload 7, 2) := by decide +kernel
theorem dX6_least_240 : decode cX6_least 240 = .ok (.baload, 1) := by decide +kernel
theorem dX6_least_241 : decode cX6_least 241 = .ok (.ifCond .ne 43, 3) := by decide +kernel
theorem dX6_least_244 : decode cX6_least 244 = .ok (.aload_n 0, 1) := by decide +kernel
theorem dX6_least_245 : decode cX6_least 245 = .ok (.getfield 51, 3) := by decide +kernel
theorem dX6_least_248 : decode cX6_least 248 = .ok (.bipush 60, 2) := by decide +kernel
theorem dX6_least_250 : decode cX6_least 250 = .ok (.iload 7, 2) := by decide +kernel
theorem dX6_least_252 : decode cX6_least 252 = .ok (.imul, 1) := by decide +kernel
theorem dX6_least_253 : decode cX6_least 253 = .ok (.aload_n 0, 1) := by decide +kernel
theorem dX6_least_254 : decode cX6_least 254 = .ok (.getfield 87, 3) := by decide +kernel
theorem dX6_least_257 : decode cX6_least 257 = .ok (.iload 6, 2) := by decide +kernel
theorem dX6_least_259 : decode cX6_least 259 = .ok (.iaload, 1) := by decide +kernel
theorem dX6_least_260 : decode cX6_least 260 = .ok (.iadd, 1) := by decide +kernel
theorem dX6_least_261 : decode cX6_least 261 = .ok (.baload, 1) := by decide +kernel
theorem dX6_least_262 : decode cX6_least 262 = .ok (.ifCond .eq 22, 3) := by decide +kernel
theorem dX6_least_265 : decode cX6_least 265 = .ok (.iload 4, 2) := by decide +kernel
theorem dX6_least_267 : decode cX6_least 267 = .ok (.ifCond .lt 13, 3) := by decide +kernel
theorem dX6_least_270 : decode cX6_least 270 = .ok (.iload 8, 2) := by decide +kernel
theorem dX6_least_272 : decode cX6_least 272 = .ok (.iload 4, 2) := by decide +kernel
theorem dX6_least_274 : decode cX6_least 274 = .ok (.if_icmp .lt 6, 3) := by decide +kernel
theorem dX6_least_277 : decode cX6_least 277 = .ok (.goto 7, 3) := by decide +kernel
theorem dX6_least_280 : decode cX6_least 280 = .ok (.iload 8, 2) := by decide +kernel
theorem dX6_least_282 : decode cX6_least 282 = .ok (.istore 4, 2) := by decide +kernel
theorem dX6_least_284 : decode cX6_least 284 = .ok (.iinc 7 1, 3) := by decide +kernel
theorem dX6_least_287 : decode cX6_least 287 = .ok (.goto (-90), 3) := by decide +kernel
theorem dX6_least_290 : decode cX6_least 290 = .ok (.iload 5, 2) := by decide +kernel
theorem dX6_least_292 : decode cX6_least 292 = .ok (.iload 4, 2) := by decide +kernel
theorem dX6_least_294 : decode cX6_least 294 = .ok (.iadd, 1) := by decide +kernel
theorem dX6_least_295 : decode cX6_least 295 = .ok (.istore 5, 2) := by decide +kernel
theorem dX6_least_297 : decode cX6_least 297 = .ok (.iinc 6 1, 3) := by decide +kernel
theorem dX6_least_300 : decode cX6_least 300 = .ok (.goto (-118), 3) := by decide +kernel
theorem dX6_least_303 : decode cX6_least 303 = .ok (.iload 5, 2) := by decide +kernel
theorem dX6_least_305 : decode cX6_least 305 = .ok (.ireturn, 1) := by decide +kernel
set_option maxRecDepth 20000 in
theorem ggX6_ask_X6_isAsker : GoodIn wsX6_ask wsX6_isAsker := goodIn_r _ [16, 17, 18, 15, 19] (by decide +kernel) (by decide +kernel)
set_option maxRecDepth 20000 in
theorem gX6_ask_X6_isAsker : GoodIn wsX6_ask (va_wsS RX6 143 yX6_isAsker wsX6_isAsker) := goodIn_app (goodIn_of _ (by decide +kernel)) ggX6_ask_X6_isAsker
set_option maxRecDepth 20000 in
theorem ggX6_ask_X6_in : GoodIn wsX6_ask wsX6_in := goodIn_r _ [19] (by decide +kernel) (by decide +kernel)
set_option maxRecDepth 20000 in
theorem gX6_ask_X6_in : GoodIn wsX6_ask (va_wsS RX6 99 yX6_in wsX6_in) := goodIn_app (goodIn_of _ (by decide +kernel)) ggX6_ask_X6_in
set_option maxRecDepth 20000 in
theorem ggX6_ask_X6_orders : GoodIn wsX6_ask wsX6_orders := goodIn_r _ [23, 24, 25, 26, 27, 28, 70, 71, 72, 73, 74, 75, 76, 77, 78, 79, 80, 81, 82, 83, 84, 85, 86, 87, 88, 89, 90, 91, 92, 93, 94, 95, 96, 97, 98, 99, 100, 101, 102, 103, 104, 105, 106, 107, 108, 109] (by decide +kernel) (by decide +kernel)
set_option maxRecDepth 20000 in
theorem gX6_ask_X6_orders : GoodIn wsX6_ask (wsV RX6 180 RX6 yX6_orders wsX6_orders) := goodIn_app (goodIn_of _ (by decide +kernel)) ggX6_ask_X6_orders
set_option maxRecDepth 20000 in
theorem ggX6_ask_X6_indexFor : GoodIn wsX6_ask wsX6_indexFor := goodIn_r _ [32, 24, 28, 33, 27, 34, 7, 35, 36, 37, 15, 38, 2, 26, 3, 39, 40, 41, 42, 43, 44, 45, 46, 47, 48, 49, 50, 51, 52, 9, 53, 54, 55, 56, 57, 58, 59, 60, 70, 71, 72, 73, 74, 75, 76, 77, 78, 79, 80, 81, 82, 83, 84, 85, 86, 87, 88, 89, 90, 91, 92, 93, 94, 95, 96, 97, 98, 99, 100, 101, 102, 103, 104, 105, 106, 107, 108, 109] (by decide +kernel) (by decide +kernel)
set_option maxRecDepth 20000 in
theorem gX6_ask_X6_indexFor : GoodIn wsX6_ask (wsV RX6 183 RX6 yX6_indexFor wsX6_indexFor) := goodIn_app (goodIn_of _ (by decide +kernel)) ggX6_ask_X6_indexFor
set_option maxRecDepth 20000 in
theorem ggX6_ask_X6_giver : GoodIn wsX6_ask wsX6_giver := goodIn_r _ [64, 24, 28, 27, 65, 33, 35, 36, 37, 15, 38, 2, 26, 3, 39, 40, 41, 42, 43, 44, 45, 46, 47, 70, 71, 72, 73, 74, 75, 76, 77, 78, 79, 80, 81, 82, 83, 84, 85, 86, 87, 88, 89, 90, 91, 92, 93, 94, 95, 96, 97, 98, 99, 100, 101, 102, 103, 104, 105, 106, 107, 108, 109] (by decide +kernel) (by decide +kernel)
set_option maxRecDepth 20000 in
theorem gX6_ask_X6_giver : GoodIn wsX6_ask (wsV RX6 186 RX6 yX6_giver wsX6_giver) := goodIn_app (goodIn_of _ (by decide +kernel)) ggX6_ask_X6_giver
set_option maxRecDepth 20000 in
theorem ggX6_ask_X6_least : GoodIn wsX6_ask wsX6_least := goodIn_r _ [69, 25, 26, 33, 34, 9, 8, 4, 65, 10, 39, 40, 41, 15, 42, 43, 44, 45, 46, 47, 48, 49, 50, 51, 52, 53, 54, 55, 56, 57, 58, 59, 60, 70, 71, 72, 73, 74, 75, 76, 77, 78, 79, 80, 81, 82, 83, 84, 85, 86, 87, 88, 89, 90, 91, 92, 93, 94, 95, 96, 97, 98, 99, 100, 101, 102, 103, 104, 105, 106, 107, 108, 109] (by decide +kernel) (by decide +kernel)
set_option maxRecDepth 20000 in
theorem gX6_ask_X6_least : GoodIn wsX6_ask (wsV RX6 190 RX6 yX6_least wsX6_least) := goodIn_app (goodIn_of _ (by decide +kernel)) ggX6_ask_X6_least
theorem dX6_ask_0 : decode cX6_ask 0 = .ok (.iload_n 1, 1) := by decide +kernel
theorem dX6_ask_1 : decode cX6_ask 1 = .ok (.invokestatic 143, 3) := by decide +kernel
theorem dX6_ask_4 : decode cX6_ask 4 = .ok (.ifCond .eq 14, 3) := by decide +kernel
theorem dX6_ask_7 : decode cX6_ask 7 = .ok (.iload_n 2, 1) := by decide +kernel
theorem dX6_ask_8 : decode cX6_ask 8 = .ok (.iconst 1, 1) := by decide +kernel
theorem dX6_ask_9 : decode cX6_ask 9 = .ok (.sipush 4095, 3) := by decide +kernel
theorem dX6_ask_12 : decode cX6_ask 12 = .ok (.invokestatic 99, 3) := by decide +kernel
theorem dX6_ask_15 : decode cX6_ask 15 = .ok (.ifCond .ne 5, 3) := by decide +kernel
theorem dX6_ask_18 : decode cX6_ask 18 = .ok (.iconst (-1), 1) := by decide +kernel
theorem dX6_ask_19 : decode cX6_ask 19 = .ok (.ireturn, 1) := by decide +kernel
theorem dX6_ask_20 : decode cX6_ask 20 = .ok (.aload_n 0, 1) := by decide +kernel
theorem dX6_ask_21 : decode cX6_ask 21 = .ok (.iconst 1, 1) := by decide +kernel
theorem dX6_ask_22 : decode cX6_ask 22 = .ok (.putfield 170, 3) := by decide +kernel
theorem dX6_ask_25 : decode cX6_ask 25 = .ok (.aload_n 0, 1) := by decide +kernel
theorem dX6_ask_26 : decode cX6_ask 26 = .ok (.iconst 0, 1) := by decide +kernel
theorem dX6_ask_27 : decode cX6_ask 27 = .ok (.putfield 152, 3) := by decide +kernel
theorem dX6_ask_30 : decode cX6_ask 30 = .ok (.aload_n 0, 1) := by decide +kernel
theorem dX6_ask_31 : decode cX6_ask 31 = .ok (.iconst 0, 1) := by decide +kernel
theorem dX6_ask_32 : decode cX6_ask 32 = .ok (.putfield 155, 3) := by decide +kernel
theorem dX6_ask_35 : decode cX6_ask 35 = .ok (.aload_n 0, 1) := by decide +kernel
theorem dX6_ask_36 : decode cX6_ask 36 = .ok (.iconst 0, 1) := by decide +kernel
theorem dX6_ask_37 : decode cX6_ask 37 = .ok (.putfield 167, 3) := by decide +kernel
theorem dX6_ask_40 : decode cX6_ask 40 = .ok (.aload_n 0, 1) := by decide +kernel
theorem dX6_ask_41 : decode cX6_ask 41 = .ok (.iconst (-1), 1) := by decide +kernel
theorem dX6_ask_42 : decode cX6_ask 42 = .ok (.putfield 174, 3) := by decide +kernel
theorem dX6_ask_45 : decode cX6_ask 45 = .ok (.aload_n 0, 1) := by decide +kernel
theorem dX6_ask_46 : decode cX6_ask 46 = .ok (.iconst (-1), 1) := by decide +kernel
theorem dX6_ask_47 : decode cX6_ask 47 = .ok (.putfield 177, 3) := by decide +kernel
theorem dX6_ask_50 : decode cX6_ask 50 = .ok (.aload_n 0, 1) := by decide +kernel
theorem dX6_ask_51 : decode cX6_ask 51 = .ok (.getfield 78, 3) := by decide +kernel
theorem dX6_ask_54 : decode cX6_ask 54 = .ok (.iload_n 1, 1) := by decide +kernel
theorem dX6_ask_55 : decode cX6_ask 55 = .ok (.iaload, 1) := by decide +kernel
theorem dX6_ask_56 : decode cX6_ask 56 = .ok (.istore_n 3, 1) := by decide +kernel
theorem dX6_ask_57 : decode cX6_ask 57 = .ok (.aload_n 0, 1) := by decide +kernel
theorem dX6_ask_58 : decode cX6_ask 58 = .ok (.iload_n 1, 1) := by decide +kernel
theorem dX6_ask_59 : decode cX6_ask 59 = .ok (.invokevirtual 180, 3) := by decide +kernel
theorem dX6_ask_62 : decode cX6_ask 62 = .ok (.aload_n 0, 1) := by decide +kernel
theorem dX6_ask_63 : decode cX6_ask 63 = .ok (.aload_n 0, 1) := by decide +kernel
theorem dX6_ask_64 : decode cX6_ask 64 = .ok (.iload_n 1, 1) := by decide +kernel
theorem dX6_ask_65 : decode cX6_ask 65 = .ok (.invokevirtual 183, 3) := by decide +kernel
theorem dX6_ask_68 : decode cX6_ask 68 = .ok (.putfield 164, 3) := by decide +kernel
theorem dX6_ask_71 : decode cX6_ask 71 = .ok (.aload_n 0, 1) := by decide +kernel
theorem dX6_ask_72 : decode cX6_ask 72 = .ok (.getfield 164, 3) := by decide +kernel
theorem dX6_ask_75 : decode cX6_ask 75 = .ok (.ifCond .ge 5, 3) := by decide +kernel
theorem dX6_ask_78 : decode cX6_ask 78 = .ok (.iconst 1, 1) := by decide +kernel
theorem dX6_ask_79 : decode cX6_ask 79 = .ok (.ireturn, 1) := by decide +kernel
theorem dX6_ask_80 : decode cX6_ask 80 = .ok (.aload_n 0, 1) := by decide +kernel
theorem dX6_ask_81 : decode cX6_ask 81 = .ok (.getfield 78, 3) := by decide +kernel
theorem dX6_ask_84 : decode cX6_ask 84 = .ok (.iload_n 1, 1) := by decide +kernel
theorem dX6_ask_85 : decode cX6_ask 85 = .ok (.aload_n 0, 1) := by decide +kernel
theorem dX6_ask_86 : decode cX6_ask 86 = .ok (.getfield 164, 3) := by decide +kernel
theorem dX6_ask_89 : decode cX6_ask 89 = .ok (.iastore, 1) := by decide +kernel
theorem dX6_ask_90 : decode cX6_ask 90 = .ok (.bipush 11, 2) := by decide +kernel
theorem dX6_ask_92 : decode cX6_ask 92 = .ok (.istore 4, 2) := by decide +kernel
theorem dX6_ask_94 : decode cX6_ask 94 = .ok (.iload 4, 2) := by decide +kernel
theorem dX6_ask_96 : decode cX6_ask 96 = .ok (.ifCond .lt 43, 3) := by decide +kernel
theorem dX6_ask_99 : decode cX6_ask 99 = .ok (.iload_n 2, 1) := by decide +kernel
theorem dX6_ask_100 : decode cX6_ask 100 = .ok (.iload 4, 2) := by decide +kernel
theorem dX6_ask_102 : decode cX6_ask 102 = .ok (.ishr, 1) := by decide +kernel
theorem dX6_ask_103 : decode cX6_ask 103 = .ok (.iconst 1, 1) := by decide +kernel
theorem dX6_ask_104 : decode cX6_ask 104 = .ok (.iand, 1) := by decide +kernel
theorem dX6_ask_105 : decode cX6_ask 105 = .ok (.iconst 1, 1) := by decide +kernel
theorem dX6_ask_106 : decode cX6_ask 106 = .ok (.if_icmp .ne 27, 3) := by decide +kernel
theorem dX6_ask_109 : decode cX6_ask 109 = .ok (.aload_n 0, 1) := by decide +kernel
theorem dX6_ask_110 : decode cX6_ask 110 = .ok (.getfield 23, 3) := by decide +kernel
theorem dX6_ask_113 : decode cX6_ask 113 = .ok (.bipush 12, 2) := by decide +kernel
theorem dX6_ask_115 : decode cX6_ask 115 = .ok (.aload_n 0, 1) := by decide +kernel
theorem dX6_ask_116 : decode cX6_ask 116 = .ok (.getfield 164, 3) := by decide +kernel
theorem dX6_ask_119 : decode cX6_ask 119 = .ok (.imul, 1) := by decide +kernel
theorem dX6_ask_120 : decode cX6_ask 120 = .ok (.iload 4, 2) := by decide +kernel
theorem dX6_ask_122 : decode cX6_ask 122 = .ok (.iadd, 1) := by decide +kernel
theorem dX6_ask_123 : decode cX6_ask 123 = .ok (.iaload, 1) := by decide +kernel
theorem dX6_ask_124 : decode cX6_ask 124 = .ok (.ifCond .ge 9, 3) := by decide +kernel
theorem dX6_ask_127 : decode cX6_ask 127 = .ok (.aload_n 0, 1) := by decide +kernel
theorem dX6_ask_128 : decode cX6_ask 128 = .ok (.iload 4, 2) := by decide +kernel
theorem dX6_ask_130 : decode cX6_ask 130 = .ok (.putfield 174, 3) := by decide +kernel
theorem dX6_ask_133 : decode cX6_ask 133 = .ok (.iinc 4 (-1), 3) := by decide +kernel
theorem dX6_ask_136 : decode cX6_ask 136 = .ok (.goto (-42), 3) := by decide +kernel
theorem dX6_ask_139 : decode cX6_ask 139 = .ok (.aload_n 0, 1) := by decide +kernel
theorem dX6_ask_140 : decode cX6_ask 140 = .ok (.getfield 174, 3) := by decide +kernel
theorem dX6_ask_143 : decode cX6_ask 143 = .ok (.ifCond .lt 5, 3) := by decide +kernel
theorem dX6_ask_146 : decode cX6_ask 146 = .ok (.iconst 2, 1) := by decide +kernel
theorem dX6_ask_147 : decode cX6_ask 147 = .ok (.ireturn, 1) := by decide +kernel
theorem dX6_ask_148 : decode cX6_ask 148 = .ok (.iconst 0, 1) := by decide +kernel
theorem dX6_ask_149 : decode cX6_ask 149 = .ok (.istore 4, 2) := by decide +kernel
theorem dX6_ask_151 : decode cX6_ask 151 = .ok (.iload 4, 2) := by decide +kernel
theorem dX6_ask_153 : decode cX6_ask 153 = .ok (.bipush 12, 2) := by decide +kernel
theorem dX6_ask_155 : decode cX6_ask 155 = .ok (.if_icmp .ge 103, 3) := by decide +kernel
theorem dX6_ask_158 : decode cX6_ask 158 = .ok (.iload_n 2, 1) := by decide +kernel
theorem dX6_ask_159 : decode cX6_ask 159 = .ok (.iload 4, 2) := by decide +kernel
theorem dX6_ask_161 : decode cX6_ask 161 = .ok (.ishr, 1) := by decide +kernel
theorem dX6_ask_162 : decode cX6_ask 162 = .ok (.iconst 1, 1) := by decide +kernel
theorem dX6_ask_163 : decode cX6_ask 163 = .ok (.iand, 1) := by decide +kernel
theorem dX6_ask_164 : decode cX6_ask 164 = .ok (.ifCond .ne 6, 3) := by decide +kernel
theorem dX6_ask_167 : decode cX6_ask 167 = .ok (.goto 85, 3) := by decide +kernel
theorem dX6_ask_170 : decode cX6_ask 170 = .ok (.aload_n 0, 1) := by decide +kernel
theorem dX6_ask_171 : decode cX6_ask 171 = .ok (.getfield 23, 3) := by decide +kernel
theorem dX6_ask_174 : decode cX6_ask 174 = .ok (.bipush 12, 2) := by decide +kernel
theorem dX6_ask_176 : decode cX6_ask 176 = .ok (.aload_n 0, 1) := by decide +kernel
theorem dX6_ask_177 : decode cX6_ask 177 = .ok (.getfield 164, 3) := by decide +kernel
theorem dX6_ask_180 : decode cX6_ask 180 = .ok (.imul, 1) := by decide +kernel
theorem dX6_ask_181 : decode cX6_ask 181 = .ok (.iload 4, 2) := by decide +kernel
theorem dX6_ask_183 : decode cX6_ask 183 = .ok (.iadd, 1) := by decide +kernel
theorem dX6_ask_184 : decode cX6_ask 184 = .ok (.iaload, 1) := by decide +kernel
theorem dX6_ask_185 : decode cX6_ask 185 = .ok (.istore 5, 2) := by decide +kernel
theorem dX6_ask_187 : decode cX6_ask 187 = .ok (.aload_n 0, 1) := by decide +kernel
theorem dX6_ask_188 : decode cX6_ask 188 = .ok (.iload_n 1, 1) := by decide +kernel
theorem dX6_ask_189 : decode cX6_ask 189 = .ok (.iload 5, 2) := by decide +kernel
theorem dX6_ask_191 : decode cX6_ask 191 = .ok (.invokevirtual 186, 3) := by decide +kernel
theorem dX6_ask_194 : decode cX6_ask 194 = .ok (.istore 6, 2) := by decide +kernel
theorem dX6_ask_196 : decode cX6_ask 196 = .ok (.iload 6, 2) := by decide +kernel
theorem dX6_ask_198 : decode cX6_ask 198 = .ok (.ifCond .ge 11, 3) := by decide +kernel
theorem dX6_ask_201 : decode cX6_ask 201 = .ok (.aload_n 0, 1) := by decide +kernel
theorem dX6_ask_202 : decode cX6_ask 202 = .ok (.iload 4, 2) := by decide +kernel
theorem dX6_ask_204 : decode cX6_ask 204 = .ok (.putfield 174, 3) := by decide +kernel
theorem dX6_ask_207 : decode cX6_ask 207 = .ok (.iconst 3, 1) := by decide +kernel
theorem dX6_ask_208 : decode cX6_ask 208 = .ok (.ireturn, 1) := by decide +kernel
theorem dX6_ask_209 : decode cX6_ask 209 = .ok (.aload_n 0, 1) := by decide +kernel
theorem dX6_ask_210 : decode cX6_ask 210 = .ok (.getfield 87, 3) := by decide +kernel
theorem dX6_ask_213 : decode cX6_ask 213 = .ok (.aload_n 0, 1) := by decide +kernel
theorem dX6_ask_214 : decode cX6_ask 214 = .ok (.getfield 167, 3) := by decide +kernel
theorem dX6_ask_217 : decode cX6_ask 217 = .ok (.iload 5, 2) := by decide +kernel
theorem dX6_ask_219 : decode cX6_ask 219 = .ok (.iastore, 1) := by decide +kernel
theorem dX6_ask_220 : decode cX6_ask 220 = .ok (.aload_n 0, 1) := by decide +kernel
theorem dX6_ask_221 : decode cX6_ask 221 = .ok (.getfield 90, 3) := by decide +kernel
theorem dX6_ask_224 : decode cX6_ask 224 = .ok (.aload_n 0, 1) := by decide +kernel
theorem dX6_ask_225 : decode cX6_ask 225 = .ok (.getfield 167, 3) := by decide +kernel
theorem dX6_ask_228 : decode cX6_ask 228 = .ok (.iload 4, 2) := by decide +kernel
theorem dX6_ask_230 : decode cX6_ask 230 = .ok (.iastore, 1) := by decide +kernel
theorem dX6_ask_231 : decode cX6_ask 231 = .ok (.aload_n 0, 1) := by decide +kernel
theorem dX6_ask_232 : decode cX6_ask 232 = .ok (.getfield 93, 3) := by decide +kernel
theorem dX6_ask_235 : decode cX6_ask 235 = .ok (.aload_n 0, 1) := by decide +kernel
theorem dX6_ask_236 : decode cX6_ask 236 = .ok (.getfield 167, 3) := by decide +kernel
theorem dX6_ask_239 : decode cX6_ask 239 = .ok (.iload 6, 2) := by decide +kernel
theorem dX6_ask_241 : decode cX6_ask 241 = .ok (.iastore, 1) := by decide +kernel
theorem dX6_ask_242 : decode cX6_ask 242 = .ok (.aload_n 0, 1) := by decide +kernel
theorem dX6_ask_243 : decode cX6_ask 243 = .ok (.dup, 1) := by decide +kernel
theorem dX6_ask_244 : decode cX6_ask 244 = .ok (.getfield 167, 3) := by decide +kernel
theorem dX6_ask_247 : decode cX6_ask 247 = .ok (.iconst 1, 1) := by decide +kernel
theorem dX6_ask_248 : decode cX6_ask 248 = .ok (.iadd, 1) := by decide +kernel
theorem dX6_ask_249 : decode cX6_ask 249 = .ok (.putfield 167, 3) := by decide +kernel
theorem dX6_ask_252 : decode cX6_ask 252 = .ok (.iinc 4 1, 3) := by decide +kernel
theorem dX6_ask_255 : decode cX6_ask 255 = .ok (.goto (-104), 3) := by decide +kernel
theorem dX6_ask_258 : decode cX6_ask 258 = .ok (.aload_n 0, 1) := by decide +kernel
theorem dX6_ask_259 : decode cX6_ask 259 = .ok (.aload_n 0, 1) := by decide +kernel
theorem dX6_ask_260 : decode cX6_ask 260 = .ok (.iload_n 1, 1) := by decide +kernel
theorem dX6_ask_261 : decode cX6_ask 261 = .ok (.iload_n 2, 1) := by decide +kernel
theorem dX6_ask_262 : decode cX6_ask 262 = .ok (.iload_n 3, 1) := by decide +kernel
theorem dX6_ask_263 : decode cX6_ask 263 = .ok (.invokevirtual 190, 3) := by decide +kernel
theorem dX6_ask_266 : decode cX6_ask 266 = .ok (.putfield 177, 3) := by decide +kernel
theorem dX6_ask_269 : decode cX6_ask 269 = .ok (.iconst 0, 1) := by decide +kernel
theorem dX6_ask_270 : decode cX6_ask 270 = .ok (.ireturn, 1) := by decide +kernel
theorem dX6_asked_0 : decode cX6_asked 0 = .ok (.aload_n 0, 1) := by decide +kernel
theorem dX6_asked_1 : decode cX6_asked 1 = .ok (.getfield 170, 3) := by decide +kernel
theorem dX6_asked_4 : decode cX6_asked 4 = .ok (.ifCond .ne 5, 3) := by decide +kernel
theorem dX6_asked_7 : decode cX6_asked 7 = .ok (.iconst (-1), 1) := by decide +kernel
theorem dX6_asked_8 : decode cX6_asked 8 = .ok (.ireturn, 1) := by decide +kernel
theorem dX6_asked_9 : decode cX6_asked 9 = .ok (.iload_n 1, 1) := by decide +kernel
theorem dX6_asked_10 : decode cX6_asked 10 = .ok (.tableswitch 68 0 5 #[38, 43, 48, 53, 58, 63], 38) := by decide +kernel
theorem dX6_asked_48 : decode cX6_asked 48 = .ok (.aload_n 0, 1) := by decide +kernel
theorem dX6_asked_49 : decode cX6_asked 49 = .ok (.getfield 164, 3) := by decide +kernel
theorem dX6_asked_52 : decode cX6_asked 52 = .ok (.ireturn, 1) := by decide +kernel
theorem dX6_asked_53 : decode cX6_asked 53 = .ok (.aload_n 0, 1) := by decide +kernel
theorem dX6_asked_54 : decode cX6_asked 54 = .ok (.getfield 152, 3) := by decide +kernel
theorem dX6_asked_57 : decode cX6_asked 57 = .ok (.ireturn, 1) := by decide +kernel
theorem dX6_asked_58 : decode cX6_asked 58 = .ok (.aload_n 0, 1) := by decide +kernel
theorem dX6_asked_59 : decode cX6_asked 59 = .ok (.getfield 155, 3) := by decide +kernel
theorem dX6_asked_62 : decode cX6_asked 62 = .ok (.ireturn, 1) := by decide +kernel
theorem dX6_asked_63 : decode cX6_asked 63 = .ok (.aload_n 0, 1) := by decide +kernel
theorem dX6_asked_64 : decode cX6_asked 64 = .ok (.getfield 167, 3) := by decide +kernel
theorem dX6_asked_67 : decode cX6_asked 67 = .ok (.ireturn, 1) := by decide +kernel
theorem dX6_asked_68 : decode cX6_asked 68 = .ok (.aload_n 0, 1) := by decide +kernel
theorem dX6_asked_69 : decode cX6_asked 69 = .ok (.getfield 174, 3) := by decide +kernel
theorem dX6_asked_72 : decode cX6_asked 72 = .ok (.ireturn, 1) := by decide +kernel
theorem dX6_asked_73 : decode cX6_asked 73 = .ok (.aload_n 0, 1) := by decide +kernel
theorem dX6_asked_74 : decode cX6_asked 74 = .ok (.getfield 177, 3) := by decide +kernel
theorem dX6_asked_77 : decode cX6_asked 77 = .ok (.ireturn, 1) := by decide +kernel
theorem dX6_asked_78 : decode cX6_asked 78 = .ok (.iconst (-1), 1) := by decide +kernel
theorem dX6_asked_79 : decode cX6_asked 79 = .ok (.ireturn, 1) := by decide +kernel
set_option maxRecDepth 20000 in
theorem ggX6_got_X6_in : GoodIn wsX6_got wsX6_in := goodIn_r _ [9] (by decide +kernel) (by decide +kernel)
set_option maxRecDepth 20000 in
theorem gX6_got_X6_in : GoodIn wsX6_got (va_wsS RX6 99 yX6_in wsX6_in) := goodIn_app (goodIn_of _ (by decide +kernel)) ggX6_got_X6_in
theorem dX6_got_0 : decode cX6_got 0 = .ok (.aload_n 0, 1) := by decide +kernel
theorem dX6_got_1 : decode cX6_got 1 = .ok (.getfield 170, 3) := by decide +kernel
theorem dX6_got_4 : decode cX6_got 4 = .ok (.ifCond .eq 17, 3) := by decide +kernel
theorem dX6_got_7 : decode cX6_got 7 = .ok (.iload_n 1, 1) := by decide +kernel
theorem dX6_got_8 : decode cX6_got 8 = .ok (.iconst 0, 1) := by decide +kernel
theorem dX6_got_9 : decode cX6_got 9 = .ok (.aload_n 0, 1) := by decide +kernel
theorem dX6_got_10 : decode cX6_got 10 = .ok (.getfield 167, 3) := by decide +kernel
theorem dX6_got_13 : decode cX6_got 13 = .ok (.iconst 1, 1) := by decide +kernel
theorem dX6_got_14 : decode cX6_got 14 = .ok (.isub, 1) := by decide +kernel
theorem dX6_got_15 : decode cX6_got 15 = .ok (.invokestatic 99, 3) := by decide +kernel
theorem dX6_got_18 : decode cX6_got 18 = .ok (.ifCond .ne 5, 3) := by decide +kernel
theorem dX6_got_21 : decode cX6_got 21 = .ok (.iconst (-1), 1) := by decide +kernel
theorem dX6_got_22 : decode cX6_got 22 = .ok (.ireturn, 1) := by decide +kernel
theorem dX6_got_23 : decode cX6_got 23 = .ok (.iload_n 2, 1) := by decide +kernel
theorem dX6_got_24 : decode cX6_got 24 = .ok (.ifCond .ne 12, 3) := by decide +kernel
theorem dX6_got_27 : decode cX6_got 27 = .ok (.aload_n 0, 1) := by decide +kernel
theorem dX6_got_28 : decode cX6_got 28 = .ok (.getfield 87, 3) := by decide +kernel
theorem dX6_got_31 : decode cX6_got 31 = .ok (.iload_n 1, 1) := by decide +kernel
theorem dX6_got_32 : decode cX6_got 32 = .ok (.iaload, 1) := by decide +kernel
theorem dX6_got_33 : decode cX6_got 33 = .ok (.goto 32, 3) := by decide +kernel
theorem dX6_got_36 : decode cX6_got 36 = .ok (.iload_n 2, 1) := by decide +kernel
theorem dX6_got_37 : decode cX6_got 37 = .ok (.iconst 1, 1) := by decide +kernel
theorem dX6_got_38 : decode cX6_got 38 = .ok (.if_icmp .ne 12, 3) := by decide +kernel
theorem dX6_got_41 : decode cX6_got 41 = .ok (.aload_n 0, 1) := by decide +kernel
theorem dX6_got_42 : decode cX6_got 42 = .ok (.getfield 90, 3) := by decide +kernel
theorem dX6_got_45 : decode cX6_got 45 = .ok (.iload_n 1, 1) := by decide +kernel
theorem dX6_got_46 : decode cX6_got 46 = .ok (.iaload, 1) := by decide +kernel
theorem dX6_got_47 : decode cX6_got 47 = .ok (.goto 18, 3) := by decide +kernel
theorem dX6_got_50 : decode cX6_got 50 = .ok (.iload_n 2, 1) := by decide +kernel
theorem dX6_got_51 : decode cX6_got 51 = .ok (.iconst 2, 1) := by decide +kernel
theorem dX6_got_52 : decode cX6_got 52 = .ok (.if_icmp .ne 12, 3) := by decide +kernel
theorem dX6_got_55 : decode cX6_got 55 = .ok (.aload_n 0, 1) := by decide +kernel
theorem dX6_got_56 : decode cX6_got 56 = .ok (.getfield 93, 3) := by decide +kernel
theorem dX6_got_59 : decode cX6_got 59 = .ok (.iload_n 1, 1) := by decide +kernel
theorem dX6_got_60 : decode cX6_got 60 = .ok (.iaload, 1) := by decide +kernel
theorem dX6_got_61 : decode cX6_got 61 = .ok (.goto 4, 3) := by decide +kernel
theorem dX6_got_64 : decode cX6_got 64 = .ok (.iconst (-1), 1) := by decide +kernel
theorem dX6_got_65 : decode cX6_got 65 = .ok (.ireturn, 1) := by decide +kernel
set_option maxRecDepth 20000 in
theorem ggX6_asker_X6_isAsker : GoodIn wsX6_asker wsX6_isAsker := goodIn_r _ [7, 8, 9, 6, 10] (by decide +kernel) (by decide +kernel)
set_option maxRecDepth 20000 in
theorem gX6_asker_X6_isAsker : GoodIn wsX6_asker (va_wsS RX6 143 yX6_isAsker wsX6_isAsker) := goodIn_app (goodIn_of _ (by decide +kernel)) ggX6_asker_X6_isAsker
theorem dX6_asker_0 : decode cX6_asker 0 = .ok (.iload_n 1, 1) := by decide +kernel
theorem dX6_asker_1 : decode cX6_asker 1 = .ok (.invokestatic 143, 3) := by decide +kernel
theorem dX6_asker_4 : decode cX6_asker 4 = .ok (.ifCond .ne 5, 3) := by decide +kernel
theorem dX6_asker_7 : decode cX6_asker 7 = .ok (.iconst (-1), 1) := by decide +kernel
theorem dX6_asker_8 : decode cX6_asker 8 = .ok (.ireturn, 1) := by decide +kernel
theorem dX6_asker_9 : decode cX6_asker 9 = .ok (.iload_n 2, 1) := by decide +kernel
theorem dX6_asker_10 : decode cX6_asker 10 = .ok (.ifCond .ne 12, 3) := by decide +kernel
theorem dX6_asker_13 : decode cX6_asker 13 = .ok (.aload_n 0, 1) := by decide +kernel
theorem dX6_asker_14 : decode cX6_asker 14 = .ok (.getfield 78, 3) := by decide +kernel
theorem dX6_asker_17 : decode cX6_asker 17 = .ok (.iload_n 1, 1) := by decide +kernel
theorem dX6_asker_18 : decode cX6_asker 18 = .ok (.iaload, 1) := by decide +kernel
theorem dX6_asker_19 : decode cX6_asker 19 = .ok (.goto 32, 3) := by decide +kernel
theorem dX6_asker_22 : decode cX6_asker 22 = .ok (.iload_n 2, 1) := by decide +kernel
theorem dX6_asker_23 : decode cX6_asker 23 = .ok (.iconst 1, 1) := by decide +kernel
theorem dX6_asker_24 : decode cX6_asker 24 = .ok (.if_icmp .ne 12, 3) := by decide +kernel
theorem dX6_asker_27 : decode cX6_asker 27 = .ok (.aload_n 0, 1) := by decide +kernel
theorem dX6_asker_28 : decode cX6_asker 28 = .ok (.getfield 75, 3) := by decide +kernel
theorem dX6_asker_31 : decode cX6_asker 31 = .ok (.iload_n 1, 1) := by decide +kernel
theorem dX6_asker_32 : decode cX6_asker 32 = .ok (.iaload, 1) := by decide +kernel
theorem dX6_asker_33 : decode cX6_asker 33 = .ok (.goto 18, 3) := by decide +kernel
theorem dX6_asker_36 : decode cX6_asker 36 = .ok (.iload_n 2, 1) := by decide +kernel
theorem dX6_asker_37 : decode cX6_asker 37 = .ok (.iconst 2, 1) := by decide +kernel
theorem dX6_asker_38 : decode cX6_asker 38 = .ok (.if_icmp .ne 12, 3) := by decide +kernel
theorem dX6_asker_41 : decode cX6_asker 41 = .ok (.aload_n 0, 1) := by decide +kernel
theorem dX6_asker_42 : decode cX6_asker 42 = .ok (.getfield 81, 3) := by decide +kernel
theorem dX6_asker_45 : decode cX6_asker 45 = .ok (.iload_n 1, 1) := by decide +kernel
theorem dX6_asker_46 : decode cX6_asker 46 = .ok (.iaload, 1) := by decide +kernel
theorem dX6_asker_47 : decode cX6_asker 47 = .ok (.goto 4, 3) := by decide +kernel
theorem dX6_asker_50 : decode cX6_asker 50 = .ok (.iconst (-1), 1) := by decide +kernel
theorem dX6_asker_51 : decode cX6_asker 51 = .ok (.ireturn, 1) := by decide +kernel
set_option maxRecDepth 20000 in
theorem ggX6_names_X6_in : GoodIn wsX6_names wsX6_in := goodIn_r _ [6] (by decide +kernel) (by decide +kernel)
set_option maxRecDepth 20000 in
theorem gX6_names_X6_in : GoodIn wsX6_names (va_wsS RX6 99 yX6_in wsX6_in) := goodIn_app (goodIn_of _ (by decide +kernel)) ggX6_names_X6_in
theorem dX6_names_0 : decode cX6_names 0 = .ok (.iload_n 1, 1) := by decide +kernel
theorem dX6_names_1 : decode cX6_names 1 = .ok (.iconst 0, 1) := by decide +kernel
theorem dX6_names_2 : decode cX6_names 2 = .ok (.aload_n 0, 1) := by decide +kernel
theorem dX6_names_3 : decode cX6_names 3 = .ok (.getfield 16, 3) := by decide +kernel
theorem dX6_names_6 : decode cX6_names 6 = .ok (.iconst 1, 1) := by decide +kernel
theorem dX6_names_7 : decode cX6_names 7 = .ok (.isub, 1) := by decide +kernel
theorem dX6_names_8 : decode cX6_names 8 = .ok (.invokestatic 99, 3) := by decide +kernel
theorem dX6_names_11 : decode cX6_names 11 = .ok (.ifCond .eq 27, 3) := by decide +kernel
theorem dX6_names_14 : decode cX6_names 14 = .ok (.iload_n 2, 1) := by decide +kernel
theorem dX6_names_15 : decode cX6_names 15 = .ok (.iconst 0, 1) := by decide +kernel
theorem dX6_names_16 : decode cX6_names 16 = .ok (.bipush 11, 2) := by decide +kernel
theorem dX6_names_18 : decode cX6_names 18 = .ok (.invokestatic 99, 3) := by decide +kernel
theorem dX6_names_21 : decode cX6_names 21 = .ok (.ifCond .eq 17, 3) := by decide +kernel
theorem dX6_names_24 : decode cX6_names 24 = .ok (.aload_n 0, 1) := by decide +kernel
theorem dX6_names_25 : decode cX6_names 25 = .ok (.getfield 23, 3) := by decide +kernel
theorem dX6_names_28 : decode cX6_names 28 = .ok (.bipush 12, 2) := by decide +kernel
theorem dX6_names_30 : decode cX6_names 30 = .ok (.iload_n 1, 1) := by decide +kernel
theorem dX6_names_31 : decode cX6_names 31 = .ok (.imul, 1) := by decide +kernel
theorem dX6_names_32 : decode cX6_names 32 = .ok (.iload_n 2, 1) := by decide +kernel
theorem dX6_names_33 : decode cX6_names 33 = .ok (.iadd, 1) := by decide +kernel
theorem dX6_names_34 : decode cX6_names 34 = .ok (.iaload, 1) := by decide +kernel
theorem dX6_names_35 : decode cX6_names 35 = .ok (.goto 4, 3) := by decide +kernel
theorem dX6_names_38 : decode cX6_names 38 = .ok (.iconst (-1), 1) := by decide +kernel
theorem dX6_names_39 : decode cX6_names 39 = .ok (.ireturn, 1) := by decide +kernel
set_option maxRecDepth 20000 in
theorem ggX6_state_X6_in : GoodIn wsX6_state wsX6_in := goodIn_r _ [9] (by decide +kernel) (by decide +kernel)
set_option maxRecDepth 20000 in
theorem gX6_state_X6_in : GoodIn wsX6_state (va_wsS RX6 99 yX6_in wsX6_in) := goodIn_app (goodIn_of _ (by decide +kernel)) ggX6_state_X6_in
set_option maxRecDepth 20000 in
theorem ggX6_state_X6_ageOf : GoodIn wsX6_state wsX6_ageOf := goodIn_r _ [13, 1, 14, 2, 19, 20, 21, 22, 23, 24, 25, 26, 27, 28, 29, 30, 31, 32, 33, 34, 35, 36, 37, 38, 39, 40, 41, 42, 43, 44, 45, 46, 47, 48, 49, 50, 51, 52, 53, 54, 55, 56, 57, 58] (by decide +kernel) (by decide +kernel)
set_option maxRecDepth 20000 in
theorem gX6_state_X6_ageOf : GoodIn wsX6_state (wsV RX6 146 RX6 yX6_ageOf wsX6_ageOf) := goodIn_app (goodIn_of _ (by decide +kernel)) ggX6_state_X6_ageOf
set_option maxRecDepth 20000 in
theorem ggX6_state_X6_isNamed : GoodIn wsX6_state wsX6_isNamed := goodIn_r _ [18, 3, 19, 20, 21, 22, 23, 24, 25, 26, 27, 28, 29, 30, 31, 32, 33, 34, 35, 36, 37, 38, 39, 40, 41, 42, 43, 44, 45, 46, 47, 48, 49, 50, 51, 52, 53, 54, 55, 56, 57, 58] (by decide +kernel) (by decide +kernel)
set_option maxRecDepth 20000 in
theorem gX6_state_X6_isNamed : GoodIn wsX6_state (wsV RX6 122 RX6 yX6_isNamed wsX6_isNamed) := goodIn_app (goodIn_of _ (by decide +kernel)) ggX6_state_X6_isNamed
theorem dX6_state_0 : decode cX6_state 0 = .ok (.iload_n 1, 1) := by decide +kernel
theorem dX6_state_1 : decode cX6_state 1 = .ok (.iconst 0, 1) := by decide +kernel
theorem dX6_state_2 : decode cX6_state 2 = .ok (.aload_n 0, 1) := by decide +kernel
theorem dX6_state_3 : decode cX6_state 3 = .ok (.getfield 16, 3) := by decide +kernel
theorem dX6_state_6 : decode cX6_state 6 = .ok (.iconst 1, 1) := by decide +kernel
theorem dX6_state_7 : decode cX6_state 7 = .ok (.isub, 1) := by decide +kernel
theorem dX6_state_8 : decode cX6_state 8 = .ok (.invokestatic 99, 3) := by decide +kernel
theorem dX6_state_11 : decode cX6_state 11 = .ok (.ifCond .ne 5, 3) := by decide +kernel
theorem dX6_state_14 : decode cX6_state 14 = .ok (.iconst (-1), 1) := by decide +kernel
theorem dX6_state_15 : decode cX6_state 15 = .ok (.ireturn, 1) := by decide +kernel
theorem dX6_state_16 : decode cX6_state 16 = .ok (.iconst 0, 1) := by decide +kernel
theorem dX6_state_17 : decode cX6_state 17 = .ok (.istore_n 3, 1) := by decide +kernel
theorem dX6_state_18 : decode cX6_state 18 = .ok (.iload_n 2, 1) := by decide +kernel
theorem dX6_state_19 : decode cX6_state 19 = .ok (.tableswitch 127 0 3 #[29, 36, 42, 83], 29) := by decide +kernel
theorem dX6_state_48 : decode cX6_state 48 = .ok (.aload_n 0, 1) := by decide +kernel
theorem dX6_state_49 : decode cX6_state 49 = .ok (.getfield 20, 3) := by decide +kernel
theorem dX6_state_52 : decode cX6_state 52 = .ok (.iload_n 1, 1) := by decide +kernel
theorem dX6_state_53 : decode cX6_state 53 = .ok (.iaload, 1) := by decide +kernel
theorem dX6_state_54 : decode cX6_state 54 = .ok (.ireturn, 1) := by decide +kernel
theorem dX6_state_55 : decode cX6_state 55 = .ok (.aload_n 0, 1) := by decide +kernel
theorem dX6_state_56 : decode cX6_state 56 = .ok (.iload_n 1, 1) := by decide +kernel
theorem dX6_state_57 : decode cX6_state 57 = .ok (.invokevirtual 146, 3) := by decide +kernel
theorem dX6_state_60 : decode cX6_state 60 = .ok (.ireturn, 1) := by decide +kernel
theorem dX6_state_61 : decode cX6_state 61 = .ok (.iconst 0, 1) := by decide +kernel
theorem dX6_state_62 : decode cX6_state 62 = .ok (.istore 4, 2) := by decide +kernel
theorem dX6_state_64 : decode cX6_state 64 = .ok (.iload 4, 2) := by decide +kernel
theorem dX6_state_66 : decode cX6_state 66 = .ok (.bipush 12, 2) := by decide +kernel
theorem dX6_state_68 : decode cX6_state 68 = .ok (.if_icmp .ge 32, 3) := by decide +kernel
theorem dX6_state_71 : decode cX6_state 71 = .ok (.iload_n 3, 1) := by decide +kernel
theorem dX6_state_72 : decode cX6_state 72 = .ok (.aload_n 0, 1) := by decide +kernel
theorem dX6_state_73 : decode cX6_state 73 = .ok (.getfield 23, 3) := by decide +kernel
theorem dX6_state_76 : decode cX6_state 76 = .ok (.bipush 12, 2) := by decide +kernel
theorem dX6_state_78 : decode cX6_state 78 = .ok (.iload_n 1, 1) := by decide +kernel
theorem dX6_state_79 : decode cX6_state 79 = .ok (.imul, 1) := by decide +kernel
theorem dX6_state_80 : decode cX6_state 80 = .ok (.iload 4, 2) := by decide +kernel
theorem dX6_state_82 : decode cX6_state 82 = .ok (.iadd, 1) := by decide +kernel
theorem dX6_state_83 : decode cX6_state 83 = .ok (.iaload, 1) := by decide +kernel
theorem dX6_state_84 : decode cX6_state 84 = .ok (.ifCond .lt 7, 3) := by decide +kernel
theorem dX6_state_87 : decode cX6_state 87 = .ok (.iconst 1, 1) := by decide +kernel
theorem dX6_state_88 : decode cX6_state 88 = .ok (.goto 4, 3) := by decide +kernel
theorem dX6_state_91 : decode cX6_state 91 = .ok (.iconst 0, 1) := by decide +kernel
theorem dX6_state_92 : decode cX6_state 92 = .ok (.iadd, 1) := by decide +kernel
theorem dX6_state_93 : decode cX6_state 93 = .ok (.istore_n 3, 1) := by decide +kernel
theorem dX6_state_94 : decode cX6_state 94 = .ok (.iinc 4 1, 3) := by decide +kernel
theorem dX6_state_97 : decode cX6_state 97 = .ok (.goto (-33), 3) := by decide +kernel
theorem dX6_state_100 : decode cX6_state 100 = .ok (.iload_n 3, 1) := by decide +kernel
theorem dX6_state_101 : decode cX6_state 101 = .ok (.ireturn, 1) := by decide +kernel
theorem dX6_state_102 : decode cX6_state 102 = .ok (.iconst 0, 1) := by decide +kernel
theorem dX6_state_103 : decode cX6_state 103 = .ok (.istore 4, 2) := by decide +kernel
theorem dX6_state_105 : decode cX6_state 105 = .ok (.iload 4, 2) := by decide +kernel
theorem dX6_state_107 : decode cX6_state 107 = .ok (.aload_n 0, 1) := by decide +kernel
theorem dX6_state_108 : decode cX6_state 108 = .ok (.getfield 96, 3) := by decide +kernel
theorem dX6_state_111 : decode cX6_state 111 = .ok (.if_icmp .ge 33, 3) := by decide +kernel
theorem dX6_state_114 : decode cX6_state 114 = .ok (.iload_n 3, 1) := by decide +kernel
theorem dX6_state_115 : decode cX6_state 115 = .ok (.aload_n 0, 1) := by decide +kernel
theorem dX6_state_116 : decode cX6_state 116 = .ok (.iload_n 1, 1) := by decide +kernel
theorem dX6_state_117 : decode cX6_state 117 = .ok (.iload 4, 2) := by decide +kernel
theorem dX6_state_119 : decode cX6_state 119 = .ok (.invokevirtual 122, 3) := by decide +kernel
theorem dX6_state_122 : decode cX6_state 122 = .ok (.ifCond .eq 13, 3) := by decide +kernel
theorem dX6_state_125 : decode cX6_state 125 = .ok (.aload_n 0, 1) := by decide +kernel
theorem dX6_state_126 : decode cX6_state 126 = .ok (.getfield 7, 3) := by decide +kernel
theorem dX6_state_129 : decode cX6_state 129 = .ok (.iload 4, 2) := by decide +kernel
theorem dX6_state_131 : decode cX6_state 131 = .ok (.iaload, 1) := by decide +kernel
theorem dX6_state_132 : decode cX6_state 132 = .ok (.goto 4, 3) := by decide +kernel
theorem dX6_state_135 : decode cX6_state 135 = .ok (.iconst 0, 1) := by decide +kernel
theorem dX6_state_136 : decode cX6_state 136 = .ok (.iadd, 1) := by decide +kernel
theorem dX6_state_137 : decode cX6_state 137 = .ok (.istore_n 3, 1) := by decide +kernel
theorem dX6_state_138 : decode cX6_state 138 = .ok (.iinc 4 1, 3) := by decide +kernel
theorem dX6_state_141 : decode cX6_state 141 = .ok (.goto (-36), 3) := by decide +kernel
theorem dX6_state_144 : decode cX6_state 144 = .ok (.iload_n 3, 1) := by decide +kernel
theorem dX6_state_145 : decode cX6_state 145 = .ok (.ireturn, 1) := by decide +kernel
theorem dX6_state_146 : decode cX6_state 146 = .ok (.iconst (-1), 1) := by decide +kernel
theorem dX6_state_147 : decode cX6_state 147 = .ok (.ireturn, 1) := by decide +kernel
set_option maxRecDepth 20000 in
theorem ggX6_about_X6_isMirror : GoodIn wsX6_about wsX6_isMirror := goodIn_r _ [13, 14, 15, 16, 12, 17, 32, 33, 34, 35, 36, 37, 38, 39, 40, 41, 42, 43, 44, 45, 46, 47, 48, 49, 50, 51, 52, 53, 54, 55, 56, 57, 58, 59, 60, 61, 62, 63, 64, 65, 66, 67, 68, 69, 70, 71] (by decide +kernel) (by decide +kernel)
set_option maxRecDepth 20000 in
theorem gX6_about_X6_isMirror : GoodIn wsX6_about (wsV RX6 116 RX6 yX6_isMirror wsX6_isMirror) := goodIn_app (goodIn_of _ (by decide +kernel)) ggX6_about_X6_isMirror
set_option maxRecDepth 20000 in
theorem ggX6_about_X6_isNamed : GoodIn wsX6_about wsX6_isNamed := goodIn_r _ [21, 22, 32, 33, 34, 35, 36, 37, 38, 39, 40, 41, 42, 43, 44, 45, 46, 47, 48, 49, 50, 51, 52, 53, 54, 55, 56, 57, 58, 59, 60, 61, 62, 63, 64, 65, 66, 67, 68, 69, 70, 71] (by decide +kernel) (by decide +kernel)
set_option maxRecDepth 20000 in
theorem gX6_about_X6_isNamed : GoodIn wsX6_about (wsV RX6 122 RX6 yX6_isNamed wsX6_isNamed) := goodIn_app (goodIn_of _ (by decide +kernel)) ggX6_about_X6_isNamed
set_option maxRecDepth 20000 in
theorem ggX6_about_X6_isFallen : GoodIn wsX6_about wsX6_isFallen := goodIn_r _ [26, 27, 28, 29, 30, 31, 32, 33, 34, 35, 36, 37, 38, 39, 40, 41, 42, 43, 44, 45, 46, 47, 48, 49, 50, 51, 52, 53, 54, 55, 56, 57, 58, 59, 60, 61, 62, 63, 64, 65, 66, 67, 68, 69, 70, 71] (by decide +kernel) (by decide +kernel)
set_option maxRecDepth 20000 in
theorem gX6_about_X6_isFallen : GoodIn wsX6_about (wsV RX6 130 RX6 yX6_isFallen wsX6_isFallen) := goodIn_app (goodIn_of _ (by decide +kernel)) ggX6_about_X6_isFallen
theorem dX6_about_0 : decode cX6_about 0 = .ok (.aload_n 0, 1) := by decide +kernel
theorem dX6_about_1 : decode cX6_about 1 = .ok (.iload_n 1, 1) := by decide +kernel
theorem dX6_about_2 : decode cX6_about 2 = .ok (.invokevirtual 116, 3) := by decide +kernel
theorem dX6_about_5 : decode cX6_about 5 = .ok (.ifCond .ne 5, 3) := by decide +kernel
theorem dX6_about_8 : decode cX6_about 8 = .ok (.iconst (-1), 1) := by decide +kernel
theorem dX6_about_9 : decode cX6_about 9 = .ok (.ireturn, 1) := by decide +kernel
theorem dX6_about_10 : decode cX6_about 10 = .ok (.iconst 0, 1) := by decide +kernel
theorem dX6_about_11 : decode cX6_about 11 = .ok (.istore_n 3, 1) := by decide +kernel
theorem dX6_about_12 : decode cX6_about 12 = .ok (.iconst 0, 1) := by decide +kernel
theorem dX6_about_13 : decode cX6_about 13 = .ok (.istore 4, 2) := by decide +kernel
theorem dX6_about_15 : decode cX6_about 15 = .ok (.aload_n 0, 1) := by decide +kernel
theorem dX6_about_16 : decode cX6_about 16 = .ok (.getfield 41, 3) := by decide +kernel
theorem dX6_about_19 : decode cX6_about 19 = .ok (.iload_n 1, 1) := by decide +kernel
theorem dX6_about_20 : decode cX6_about 20 = .ok (.iaload, 1) := by decide +kernel
theorem dX6_about_21 : decode cX6_about 21 = .ok (.ineg, 1) := by decide +kernel
theorem dX6_about_22 : decode cX6_about 22 = .ok (.istore 5, 2) := by decide +kernel
theorem dX6_about_24 : decode cX6_about 24 = .ok (.iconst 0, 1) := by decide +kernel
theorem dX6_about_25 : decode cX6_about 25 = .ok (.istore 6, 2) := by decide +kernel
theorem dX6_about_27 : decode cX6_about 27 = .ok (.iload 6, 2) := by decide +kernel
theorem dX6_about_29 : decode cX6_about 29 = .ok (.aload_n 0, 1) := by decide +kernel
theorem dX6_about_30 : decode cX6_about 30 = .ok (.getfield 96, 3) := by decide +kernel
theorem dX6_about_33 : decode cX6_about 33 = .ok (.if_icmp .ge 103, 3) := by decide +kernel
theorem dX6_about_36 : decode cX6_about 36 = .ok (.aload_n 0, 1) := by decide +kernel
theorem dX6_about_37 : decode cX6_about 37 = .ok (.getfield 51, 3) := by decide +kernel
theorem dX6_about_40 : decode cX6_about 40 = .ok (.bipush 60, 2) := by decide +kernel
theorem dX6_about_42 : decode cX6_about 42 = .ok (.iload_n 1, 1) := by decide +kernel
theorem dX6_about_43 : decode cX6_about 43 = .ok (.imul, 1) := by decide +kernel
theorem dX6_about_44 : decode cX6_about 44 = .ok (.iload 6, 2) := by decide +kernel
theorem dX6_about_46 : decode cX6_about 46 = .ok (.iadd, 1) := by decide +kernel
theorem dX6_about_47 : decode cX6_about 47 = .ok (.baload, 1) := by decide +kernel
theorem dX6_about_48 : decode cX6_about 48 = .ok (.istore 7, 2) := by decide +kernel
theorem dX6_about_50 : decode cX6_about 50 = .ok (.iload_n 3, 1) := by decide +kernel
theorem dX6_about_51 : decode cX6_about 51 = .ok (.iload 7, 2) := by decide +kernel
theorem dX6_about_53 : decode cX6_about 53 = .ok (.ifCond .eq 7, 3) := by decide +kernel
theorem dX6_about_56 : decode cX6_about 56 = .ok (.iconst 1, 1) := by decide +kernel
theorem dX6_about_57 : decode cX6_about 57 = .ok (.goto 4, 3) := by decide +kernel
theorem dX6_about_60 : decode cX6_about 60 = .ok (.iconst 0, 1) := by decide +kernel
theorem dX6_about_61 : decode cX6_about 61 = .ok (.iadd, 1) := by decide +kernel
theorem dX6_about_62 : decode cX6_about 62 = .ok (.istore_n 3, 1) := by decide +kernel
theorem dX6_about_63 : decode cX6_about 63 = .ok (.iload 4, 2) := by decide +kernel
theorem dX6_about_65 : decode cX6_about 65 = .ok (.iload 7, 2) := by decide +kernel
theorem dX6_about_67 : decode cX6_about 67 = .ok (.ifCond .eq 13, 3) := by decide +kernel
theorem dX6_about_70 : decode cX6_about 70 = .ok (.aload_n 0, 1) := by decide +kernel
theorem dX6_about_71 : decode cX6_about 71 = .ok (.getfield 7, 3) := by decide +kernel
theorem dX6_about_74 : decode cX6_about 74 = .ok (.iload 6, 2) := by decide +kernel
theorem dX6_about_76 : decode cX6_about 76 = .ok (.iaload, 1) := by decide +kernel
theorem dX6_about_77 : decode cX6_about 77 = .ok (.goto 4, 3) := by decide +kernel
theorem dX6_about_80 : decode cX6_about 80 = .ok (.iconst 0, 1) := by decide +kernel
theorem dX6_about_81 : decode cX6_about 81 = .ok (.iadd, 1) := by decide +kernel
theorem dX6_about_82 : decode cX6_about 82 = .ok (.istore 4, 2) := by decide +kernel
theorem dX6_about_84 : decode cX6_about 84 = .ok (.iload 5, 2) := by decide +kernel
theorem dX6_about_86 : decode cX6_about 86 = .ok (.iload 7, 2) := by decide +kernel
theorem dX6_about_88 : decode cX6_about 88 = .ok (.ifCond .ne 38, 3) := by decide +kernel
theorem dX6_about_91 : decode cX6_about 91 = .ok (.aload_n 0, 1) := by decide +kernel
theorem dX6_about_92 : decode cX6_about 92 = .ok (.getfield 38, 3) := by decide +kernel
theorem dX6_about_95 : decode cX6_about 95 = .ok (.iload_n 1, 1) := by decide +kernel
theorem dX6_about_96 : decode cX6_about 96 = .ok (.iaload, 1) := by decide +kernel
theorem dX6_about_97 : decode cX6_about 97 = .ok (.iconst (-1), 1) := by decide +kernel
theorem dX6_about_98 : decode cX6_about 98 = .ok (.if_icmp .eq 28, 3) := by decide +kernel
theorem dX6_about_101 : decode cX6_about 101 = .ok (.aload_n 0, 1) := by decide +kernel
theorem dX6_about_102 : decode cX6_about 102 = .ok (.aload_n 0, 1) := by decide +kernel
theorem dX6_about_103 : decode cX6_about 103 = .ok (.getfield 38, 3) := by decide +kernel
theorem dX6_about_106 : decode cX6_about 106 = .ok (.iload_n 1, 1) := by decide +kernel
theorem dX6_about_107 : decode cX6_about 107 = .ok (.iaload, 1) := by decide +kernel
theorem dX6_about_108 : decode cX6_about 108 = .ok (.iload 6, 2) := by decide +kernel
theorem dX6_about_110 : decode cX6_about 110 = .ok (.invokevirtual 122, 3) := by decide +kernel
theorem dX6_about_113 : decode cX6_about 113 = .ok (.ifCond .eq 13, 3) := by decide +kernel
theorem dX6_about_116 : decode cX6_about 116 = .ok (.aload_n 0, 1) := by decide +kernel
theorem dX6_about_117 : decode cX6_about 117 = .ok (.getfield 7, 3) := by decide +kernel
theorem dX6_about_120 : decode cX6_about 120 = .ok (.iload 6, 2) := by decide +kernel
theorem dX6_about_122 : decode cX6_about 122 = .ok (.iaload, 1) := by decide +kernel
theorem dX6_about_123 : decode cX6_about 123 = .ok (.goto 4, 3) := by decide +kernel
theorem dX6_about_126 : decode cX6_about 126 = .ok (.iconst 0, 1) := by decide +kernel
theorem dX6_about_127 : decode cX6_about 127 = .ok (.iadd, 1) := by decide +kernel
theorem dX6_about_128 : decode cX6_about 128 = .ok (.istore 5, 2) := by decide +kernel
theorem dX6_about_130 : decode cX6_about 130 = .ok (.iinc 6 1, 3) := by decide +kernel
theorem dX6_about_133 : decode cX6_about 133 = .ok (.goto (-106), 3) := by decide +kernel
theorem dX6_about_136 : decode cX6_about 136 = .ok (.iload_n 2, 1) := by decide +kernel
theorem dX6_about_137 : decode cX6_about 137 = .ok (.tableswitch 130 0 8 #[51, 58, 65, 67, 70, 77, 84, 98, 113], 51) := by decide +kernel
theorem dX6_about_188 : decode cX6_about 188 = .ok (.aload_n 0, 1) := by decide +kernel
theorem dX6_about_189 : decode cX6_about 189 = .ok (.getfield 35, 3) := by decide +kernel
theorem dX6_about_192 : decode cX6_about 192 = .ok (.iload_n 1, 1) := by decide +kernel
theorem dX6_about_193 : decode cX6_about 193 = .ok (.iaload, 1) := by decide +kernel
theorem dX6_about_194 : decode cX6_about 194 = .ok (.ireturn, 1) := by decide +kernel
theorem dX6_about_195 : decode cX6_about 195 = .ok (.aload_n 0, 1) := by decide +kernel
theorem dX6_about_196 : decode cX6_about 196 = .ok (.getfield 38, 3) := by decide +kernel
theorem dX6_about_199 : decode cX6_about 199 = .ok (.iload_n 1, 1) := by decide +kernel
theorem dX6_about_200 : decode cX6_about 200 = .ok (.iaload, 1) := by decide +kernel
theorem dX6_about_201 : decode cX6_about 201 = .ok (.ireturn, 1) := by decide +kernel
theorem dX6_about_202 : decode cX6_about 202 = .ok (.iload_n 3, 1) := by decide +kernel
theorem dX6_about_203 : decode cX6_about 203 = .ok (.ireturn, 1) := by decide +kernel
theorem dX6_about_204 : decode cX6_about 204 = .ok (.iload 4, 2) := by decide +kernel
theorem dX6_about_206 : decode cX6_about 206 = .ok (.ireturn, 1) := by decide +kernel
theorem dX6_about_207 : decode cX6_about 207 = .ok (.aload_n 0, 1) := by decide +kernel
theorem dX6_about_208 : decode cX6_about 208 = .ok (.getfield 41, 3) := by decide +kernel
theorem dX6_about_211 : decode cX6_about 211 = .ok (.iload_n 1, 1) := by decide +kernel
theorem dX6_about_212 : decode cX6_about 212 = .ok (.iaload, 1) := by decide +kernel
theorem dX6_about_213 : decode cX6_about 213 = .ok (.ireturn, 1) := by decide +kernel
theorem dX6_about_214 : decode cX6_about 214 = .ok (.aload_n 0, 1) := by decide +kernel
theorem dX6_about_215 : decode cX6_about 215 = .ok (.getfield 44, 3) := by decide +kernel
theorem dX6_about_218 : decode cX6_about 218 = .ok (.iload_n 1, 1) := by decide +kernel
theorem dX6_about_219 : decode cX6_about 219 = .ok (.iaload, 1) := by decide +kernel
theorem dX6_about_220 : decode cX6_about 220 = .ok (.ireturn, 1) := by decide +kernel
theorem dX6_about_221 : decode cX6_about 221 = .ok (.aload_n 0, 1) := by decide +kernel
theorem dX6_about_222 : decode cX6_about 222 = .ok (.iload_n 1, 1) := by decide +kernel
theorem dX6_about_223 : decode cX6_about 223 = .ok (.invokevirtual 130, 3) := by decide +kernel
theorem dX6_about_226 : decode cX6_about 226 = .ok (.ifCond .eq 7, 3) := by decide +kernel
theorem dX6_about_229 : decode cX6_about 229 = .ok (.iconst 1, 1) := by decide +kernel
theorem dX6_about_230 : decode cX6_about 230 = .ok (.goto 4, 3) := by decide +kernel
theorem dX6_about_233 : decode cX6_about 233 = .ok (.iconst 0, 1) := by decide +kernel
theorem dX6_about_234 : decode cX6_about 234 = .ok (.ireturn, 1) := by decide +kernel
theorem dX6_about_235 : decode cX6_about 235 = .ok (.aload_n 0, 1) := by decide +kernel
theorem dX6_about_236 : decode cX6_about 236 = .ok (.getfield 47, 3) := by decide +kernel
theorem dX6_about_239 : decode cX6_about 239 = .ok (.iload_n 1, 1) := by decide +kernel
theorem dX6_about_240 : decode cX6_about 240 = .ok (.baload, 1) := by decide +kernel
theorem dX6_about_241 : decode cX6_about 241 = .ok (.ifCond .eq 7, 3) := by decide +kernel
theorem dX6_about_244 : decode cX6_about 244 = .ok (.iconst 1, 1) := by decide +kernel
theorem dX6_about_245 : decode cX6_about 245 = .ok (.goto 4, 3) := by decide +kernel
theorem dX6_about_248 : decode cX6_about 248 = .ok (.iconst 0, 1) := by decide +kernel
theorem dX6_about_249 : decode cX6_about 249 = .ok (.ireturn, 1) := by decide +kernel
theorem dX6_about_250 : decode cX6_about 250 = .ok (.aload_n 0, 1) := by decide +kernel
theorem dX6_about_251 : decode cX6_about 251 = .ok (.getfield 38, 3) := by decide +kernel
theorem dX6_about_254 : decode cX6_about 254 = .ok (.iload_n 1, 1) := by decide +kernel
theorem dX6_about_255 : decode cX6_about 255 = .ok (.iaload, 1) := by decide +kernel
theorem dX6_about_256 : decode cX6_about 256 = .ok (.iconst (-1), 1) := by decide +kernel
theorem dX6_about_257 : decode cX6_about 257 = .ok (.if_icmp .ne 7, 3) := by decide +kernel
theorem dX6_about_260 : decode cX6_about 260 = .ok (.iconst (-1), 1) := by decide +kernel
theorem dX6_about_261 : decode cX6_about 261 = .ok (.goto 5, 3) := by decide +kernel
theorem dX6_about_264 : decode cX6_about 264 = .ok (.iload 5, 2) := by decide +kernel
theorem dX6_about_266 : decode cX6_about 266 = .ok (.ireturn, 1) := by decide +kernel
theorem dX6_about_267 : decode cX6_about 267 = .ok (.iconst (-1), 1) := by decide +kernel
theorem dX6_about_268 : decode cX6_about 268 = .ok (.ireturn, 1) := by decide +kernel
set_option maxRecDepth 20000 in
theorem ggX6_has_X6_isMirror : GoodIn wsX6_has wsX6_isMirror := goodIn_r _ [6, 7, 8, 9, 5, 10, 16, 17, 18, 19, 20, 21, 22, 23, 24, 25, 26, 27, 28, 29, 30, 31, 32, 33, 34, 35, 36, 37, 38, 39, 40, 41, 42, 43, 44, 45, 46, 47, 48, 49, 50, 51, 52, 53, 54, 55] (by decide +kernel) (by decide +kernel)
set_option maxRecDepth 20000 in
theorem gX6_has_X6_isMirror : GoodIn wsX6_has (wsV RX6 116 RX6 yX6_isMirror wsX6_isMirror) := goodIn_app (goodIn_of _ (by decide +kernel)) ggX6_has_X6_isMirror
set_option maxRecDepth 20000 in
theorem ggX6_has_X6_isFile : GoodIn wsX6_has wsX6_isFile := goodIn_r _ [14, 15, 8, 9, 5, 10, 16, 17, 18, 19, 20, 21, 22, 23, 24, 25, 26, 27, 28, 29, 30, 31, 32, 33, 34, 35, 36, 37, 38, 39, 40, 41, 42, 43, 44, 45, 46, 47, 48, 49, 50, 51, 52, 53, 54, 55] (by decide +kernel) (by decide +kernel)
set_option maxRecDepth 20000 in
theorem gX6_has_X6_isFile : GoodIn wsX6_has (wsV RX6 106 RX6 yX6_isFile wsX6_isFile) := goodIn_app (goodIn_of _ (by decide +kernel)) ggX6_has_X6_isFile
theorem dX6_has_0 : decode cX6_has 0 = .ok (.aload_n 0, 1) := by decide +kernel
theorem dX6_has_1 : decode cX6_has 1 = .ok (.iload_n 1, 1) := by decide +kernel
theorem dX6_has_2 : decode cX6_has 2 = .ok (.invokevirtual 116, 3) := by decide +kernel
theorem dX6_has_5 : decode cX6_has 5 = .ok (.ifCond .eq 11, 3) := by decide +kernel
theorem dX6_has_8 : decode cX6_has 8 = .ok (.aload_n 0, 1) := by decide +kernel
theorem dX6_has_9 : decode cX6_has 9 = .ok (.iload_n 2, 1) := by decide +kernel
theorem dX6_has_10 : decode cX6_has 10 = .ok (.invokevirtual 106, 3) := by decide +kernel
theorem dX6_has_13 : decode cX6_has 13 = .ok (.ifCond .ne 7, 3) := by decide +kernel
theorem dX6_has_16 : decode cX6_has 16 = .ok (.iconst (-1), 1) := by decide +kernel
theorem dX6_has_17 : decode cX6_has 17 = .ok (.goto 22, 3) := by decide +kernel
theorem dX6_has_20 : decode cX6_has 20 = .ok (.aload_n 0, 1) := by decide +kernel
theorem dX6_has_21 : decode cX6_has 21 = .ok (.getfield 51, 3) := by decide +kernel
theorem dX6_has_24 : decode cX6_has 24 = .ok (.bipush 60, 2) := by decide +kernel
theorem dX6_has_26 : decode cX6_has 26 = .ok (.iload_n 1, 1) := by decide +kernel
theorem dX6_has_27 : decode cX6_has 27 = .ok (.imul, 1) := by decide +kernel
theorem dX6_has_28 : decode cX6_has 28 = .ok (.iload_n 2, 1) := by decide +kernel
theorem dX6_has_29 : decode cX6_has 29 = .ok (.iadd, 1) := by decide +kernel
theorem dX6_has_30 : decode cX6_has 30 = .ok (.baload, 1) := by decide +kernel
theorem dX6_has_31 : decode cX6_has 31 = .ok (.ifCond .eq 7, 3) := by decide +kernel
theorem dX6_has_34 : decode cX6_has 34 = .ok (.iconst 1, 1) := by decide +kernel
theorem dX6_has_35 : decode cX6_has 35 = .ok (.goto 4, 3) := by decide +kernel
theorem dX6_has_38 : decode cX6_has 38 = .ok (.iconst 0, 1) := by decide +kernel
theorem dX6_has_39 : decode cX6_has 39 = .ok (.ireturn, 1) := by decide +kernel
theorem dX6_count_0 : decode cX6_count 0 = .ok (.iconst 0, 1) := by decide +kernel
theorem dX6_count_1 : decode cX6_count 1 = .ok (.istore_n 2, 1) := by decide +kernel
theorem dX6_count_2 : decode cX6_count 2 = .ok (.iload_n 1, 1) := by decide +kernel
theorem dX6_count_3 : decode cX6_count 3 = .ok (.tableswitch 107 0 6 #[41, 46, 51, 56, 61, 66, 71], 41) := by decide +kernel
theorem dX6_count_44 : decode cX6_count 44 = .ok (.aload_n 0, 1) := by decide +kernel
theorem dX6_count_45 : decode cX6_count 45 = .ok (.getfield 103, 3) := by decide +kernel
theorem dX6_count_48 : decode cX6_count 48 = .ok (.ireturn, 1) := by decide +kernel
theorem dX6_count_49 : decode cX6_count 49 = .ok (.aload_n 0, 1) := by decide +kernel
theorem dX6_count_50 : decode cX6_count 50 = .ok (.getfield 96, 3) := by decide +kernel
theorem dX6_count_53 : decode cX6_count 53 = .ok (.ireturn, 1) := by decide +kernel
theorem dX6_count_54 : decode cX6_count 54 = .ok (.aload_n 0, 1) := by decide +kernel
theorem dX6_count_55 : decode cX6_count 55 = .ok (.getfield 16, 3) := by decide +kernel
theorem dX6_count_58 : decode cX6_count 58 = .ok (.ireturn, 1) := by decide +kernel
theorem dX6_count_59 : decode cX6_count 59 = .ok (.aload_n 0, 1) := by decide +kernel
theorem dX6_count_60 : decode cX6_count 60 = .ok (.getfield 113, 3) := by decide +kernel
theorem dX6_count_63 : decode cX6_count 63 = .ok (.ireturn, 1) := by decide +kernel
theorem dX6_count_64 : decode cX6_count 64 = .ok (.aload_n 0, 1) := by decide +kernel
theorem dX6_count_65 : decode cX6_count 65 = .ok (.getfield 119, 3) := by decide +kernel
theorem dX6_count_68 : decode cX6_count 68 = .ok (.ireturn, 1) := by decide +kernel
theorem dX6_count_69 : decode cX6_count 69 = .ok (.aload_n 0, 1) := by decide +kernel
theorem dX6_count_70 : decode cX6_count 70 = .ok (.getfield 69, 3) := by decide +kernel
theorem dX6_count_73 : decode cX6_count 73 = .ok (.ireturn, 1) := by decide +kernel
theorem dX6_count_74 : decode cX6_count 74 = .ok (.iconst 0, 1) := by decide +kernel
theorem dX6_count_75 : decode cX6_count 75 = .ok (.istore_n 3, 1) := by decide +kernel
theorem dX6_count_76 : decode cX6_count 76 = .ok (.iload_n 3, 1) := by decide +kernel
theorem dX6_count_77 : decode cX6_count 77 = .ok (.aload_n 0, 1) := by decide +kernel
theorem dX6_count_78 : decode cX6_count 78 = .ok (.getfield 96, 3) := by decide +kernel
theorem dX6_count_81 : decode cX6_count 81 = .ok (.if_icmp .ge 27, 3) := by decide +kernel
theorem dX6_count_84 : decode cX6_count 84 = .ok (.iload_n 2, 1) := by decide +kernel
theorem dX6_count_85 : decode cX6_count 85 = .ok (.aload_n 0, 1) := by decide +kernel
theorem dX6_count_86 : decode cX6_count 86 = .ok (.getfield 13, 3) := by decide +kernel
theorem dX6_count_89 : decode cX6_count 89 = .ok (.iload_n 3, 1) := by decide +kernel
theorem dX6_count_90 : decode cX6_count 90 = .ok (.iaload, 1) := by decide +kernel
theorem dX6_count_91 : decode cX6_count 91 = .ok (.iconst (-1), 1) := by decide +kernel
theorem dX6_count_92 : decode cX6_count 92 = .ok (.if_icmp .eq 7, 3) := by decide +kernel
theorem dX6_count_95 : decode cX6_count 95 = .ok (.iconst 1, 1) := by decide +kernel
theorem dX6_count_96 : decode cX6_count 96 = .ok (.goto 4, 3) := by decide +kernel
theorem dX6_count_99 : decode cX6_count 99 = .ok (.iconst 0, 1) := by decide +kernel
theorem dX6_count_100 : decode cX6_count 100 = .ok (.iadd, 1) := by decide +kernel
theorem dX6_count_101 : decode cX6_count 101 = .ok (.istore_n 2, 1) := by decide +kernel
theorem dX6_count_102 : decode cX6_count 102 = .ok (.iinc 3 1, 3) := by decide +kernel
theorem dX6_count_105 : decode cX6_count 105 = .ok (.goto (-29), 3) := by decide +kernel
theorem dX6_count_108 : decode cX6_count 108 = .ok (.iload_n 2, 1) := by decide +kernel
theorem dX6_count_109 : decode cX6_count 109 = .ok (.ireturn, 1) := by decide +kernel
theorem dX6_count_110 : decode cX6_count 110 = .ok (.iconst (-1), 1) := by decide +kernel
theorem dX6_count_111 : decode cX6_count 111 = .ok (.ireturn, 1) := by decide +kernel
