theorem dX12_happens_75 : decode cX12_happens 75 = .ok (.iconst 0, 1) := by decide +kernel
theorem dX12_happens_76 : decode cX12_happens 76 = .ok (.istore 7, 2) := by decide +kernel
theorem dX12_happens_78 : decode cX12_happens 78 = .ok (.aload_n 0, 1) := by decide +kernel
theorem dX12_happens_79 : decode cX12_happens 79 = .ok (.getfield 20, 3) := by decide +kernel
theorem dX12_happens_82 : decode cX12_happens 82 = .ok (.aload_n 0, 1) := by decide +kernel
theorem dX12_happens_83 : decode cX12_happens 83 = .ok (.getfield 209, 3) := by decide +kernel
theorem dX12_happens_86 : decode cX12_happens 86 = .ok (.iaload, 1) := by decide +kernel
theorem dX12_happens_87 : decode cX12_happens 87 = .ok (.tableswitch 209 0 6 #[41, 59, 62, 85, 118, 141, 175], 41) := by decide +kernel
theorem dX12_happens_128 : decode cX12_happens 128 = .ok (.iload 5, 2) := by decide +kernel
theorem dX12_happens_130 : decode cX12_happens 130 = .ok (.iload_n 3, 1) := by decide +kernel
theorem dX12_happens_131 : decode cX12_happens 131 = .ok (.if_icmp .ge 13, 3) := by decide +kernel
theorem dX12_happens_134 : decode cX12_happens 134 = .ok (.iload 6, 2) := by decide +kernel
theorem dX12_happens_136 : decode cX12_happens 136 = .ok (.iload_n 3, 1) := by decide +kernel
theorem dX12_happens_137 : decode cX12_happens 137 = .ok (.if_icmp .lt 7, 3) := by decide +kernel
theorem dX12_happens_140 : decode cX12_happens 140 = .ok (.iconst 1, 1) := by decide +kernel
theorem dX12_happens_141 : decode cX12_happens 141 = .ok (.goto 4, 3) := by decide +kernel
theorem dX12_happens_144 : decode cX12_happens 144 = .ok (.iconst 0, 1) := by decide +kernel
theorem dX12_happens_145 : decode cX12_happens 145 = .ok (.ireturn, 1) := by decide +kernel
theorem dX12_happens_146 : decode cX12_happens 146 = .ok (.iload 7, 2) := by decide +kernel
theorem dX12_happens_148 : decode cX12_happens 148 = .ok (.ireturn, 1) := by decide +kernel
theorem dX12_happens_149 : decode cX12_happens 149 = .ok (.iload 7, 2) := by decide +kernel
theorem dX12_happens_151 : decode cX12_happens 151 = .ok (.ifCond .eq 19, 3) := by decide +kernel
theorem dX12_happens_154 : decode cX12_happens 154 = .ok (.aload_n 0, 1) := by decide +kernel
theorem dX12_happens_155 : decode cX12_happens 155 = .ok (.iload_n 1, 1) := by decide +kernel
theorem dX12_happens_156 : decode cX12_happens 156 = .ok (.iload_n 2, 1) := by decide +kernel
theorem dX12_happens_157 : decode cX12_happens 157 = .ok (.iload_n 3, 1) := by decide +kernel
theorem dX12_happens_158 : decode cX12_happens 158 = .ok (.invokevirtual 230, 3) := by decide +kernel
theorem dX12_happens_161 : decode cX12_happens 161 = .ok (.iload 4, 2) := by decide +kernel
theorem dX12_happens_163 : decode cX12_happens 163 = .ok (.if_icmp .lt 7, 3) := by decide +kernel
theorem dX12_happens_166 : decode cX12_happens 166 = .ok (.iconst 1, 1) := by decide +kernel
theorem dX12_happens_167 : decode cX12_happens 167 = .ok (.goto 4, 3) := by decide +kernel
theorem dX12_happens_170 : decode cX12_happens 170 = .ok (.iconst 0, 1) := by decide +kernel
theorem dX12_happens_171 : decode cX12_happens 171 = .ok (.ireturn, 1) := by decide +kernel
theorem dX12_happens_172 : decode cX12_happens 172 = .ok (.iload 7, 2) := by decide +kernel
theorem dX12_happens_174 : decode cX12_happens 174 = .ok (.ifCond .eq 29, 3) := by decide +kernel
theorem dX12_happens_177 : decode cX12_happens 177 = .ok (.aload_n 0, 1) := by decide +kernel
theorem dX12_happens_178 : decode cX12_happens 178 = .ok (.iload_n 1, 1) := by decide +kernel
theorem dX12_happens_179 : decode cX12_happens 179 = .ok (.iload_n 2, 1) := by decide +kernel
theorem dX12_happens_180 : decode cX12_happens 180 = .ok (.iload_n 3, 1) := by decide +kernel
theorem dX12_happens_181 : decode cX12_happens 181 = .ok (.invokevirtual 230, 3) := by decide +kernel
theorem dX12_happens_184 : decode cX12_happens 184 = .ok (.ifCond .le 19, 3) := by decide +kernel
theorem dX12_happens_187 : decode cX12_happens 187 = .ok (.aload_n 0, 1) := by decide +kernel
theorem dX12_happens_188 : decode cX12_happens 188 = .ok (.iload_n 1, 1) := by decide +kernel
theorem dX12_happens_189 : decode cX12_happens 189 = .ok (.iload_n 2, 1) := by decide +kernel
theorem dX12_happens_190 : decode cX12_happens 190 = .ok (.iload_n 3, 1) := by decide +kernel
theorem dX12_happens_191 : decode cX12_happens 191 = .ok (.invokevirtual 230, 3) := by decide +kernel
theorem dX12_happens_194 : decode cX12_happens 194 = .ok (.iload 4, 2) := by decide +kernel
theorem dX12_happens_196 : decode cX12_happens 196 = .ok (.if_icmp .ge 7, 3) := by decide +kernel
theorem dX12_happens_199 : decode cX12_happens 199 = .ok (.iconst 1, 1) := by decide +kernel
theorem dX12_happens_200 : decode cX12_happens 200 = .ok (.goto 4, 3) := by decide +kernel
theorem dX12_happens_203 : decode cX12_happens 203 = .ok (.iconst 0, 1) := by decide +kernel
theorem dX12_happens_204 : decode cX12_happens 204 = .ok (.ireturn, 1) := by decide +kernel
theorem dX12_happens_205 : decode cX12_happens 205 = .ok (.iload 7, 2) := by decide +kernel
theorem dX12_happens_207 : decode cX12_happens 207 = .ok (.ifCond .eq 19, 3) := by decide +kernel
theorem dX12_happens_210 : decode cX12_happens 210 = .ok (.aload_n 0, 1) := by decide +kernel
theorem dX12_happens_211 : decode cX12_happens 211 = .ok (.iload_n 1, 1) := by decide +kernel
theorem dX12_happens_212 : decode cX12_happens 212 = .ok (.iload_n 2, 1) := by decide +kernel
theorem dX12_happens_213 : decode cX12_happens 213 = .ok (.iload_n 3, 1) := by decide +kernel
theorem dX12_happens_214 : decode cX12_happens 214 = .ok (.iload 4, 2) := by decide +kernel
theorem dX12_happens_216 : decode cX12_happens 216 = .ok (.invokevirtual 234, 3) := by decide +kernel
theorem dX12_happens_219 : decode cX12_happens 219 = .ok (.ifCond .eq 7, 3) := by decide +kernel
theorem dX12_happens_222 : decode cX12_happens 222 = .ok (.iconst 1, 1) := by decide +kernel
theorem dX12_happens_223 : decode cX12_happens 223 = .ok (.goto 4, 3) := by decide +kernel
theorem dX12_happens_226 : decode cX12_happens 226 = .ok (.iconst 0, 1) := by decide +kernel
theorem dX12_happens_227 : decode cX12_happens 227 = .ok (.ireturn, 1) := by decide +kernel
theorem dX12_happens_228 : decode cX12_happens 228 = .ok (.iload 6, 2) := by decide +kernel
theorem dX12_happens_230 : decode cX12_happens 230 = .ok (.i2l, 1) := by decide +kernel
theorem dX12_happens_231 : decode cX12_happens 231 = .ok (.iload_n 3, 1) := by decide +kernel
theorem dX12_happens_232 : decode cX12_happens 232 = .ok (.i2l, 1) := by decide +kernel
theorem dX12_happens_233 : decode cX12_happens 233 = .ok (.iload 4, 2) := by decide +kernel
theorem dX12_happens_235 : decode cX12_happens 235 = .ok (.i2l, 1) := by decide +kernel
theorem dX12_happens_236 : decode cX12_happens 236 = .ok (.invokestatic 115, 3) := by decide +kernel
theorem dX12_happens_239 : decode cX12_happens 239 = .ok (.ifCond .eq 21, 3) := by decide +kernel
theorem dX12_happens_242 : decode cX12_happens 242 = .ok (.iload 5, 2) := by decide +kernel
theorem dX12_happens_244 : decode cX12_happens 244 = .ok (.i2l, 1) := by decide +kernel
theorem dX12_happens_245 : decode cX12_happens 245 = .ok (.iload_n 3, 1) := by decide +kernel
theorem dX12_happens_246 : decode cX12_happens 246 = .ok (.i2l, 1) := by decide +kernel
theorem dX12_happens_247 : decode cX12_happens 247 = .ok (.iload 4, 2) := by decide +kernel
theorem dX12_happens_249 : decode cX12_happens 249 = .ok (.i2l, 1) := by decide +kernel
theorem dX12_happens_250 : decode cX12_happens 250 = .ok (.invokestatic 115, 3) := by decide +kernel
theorem dX12_happens_253 : decode cX12_happens 253 = .ok (.ifCond .ne 7, 3) := by decide +kernel
theorem dX12_happens_256 : decode cX12_happens 256 = .ok (.iconst 1, 1) := by decide +kernel
theorem dX12_happens_257 : decode cX12_happens 257 = .ok (.goto 4, 3) := by decide +kernel
theorem dX12_happens_260 : decode cX12_happens 260 = .ok (.iconst 0, 1) := by decide +kernel
theorem dX12_happens_261 : decode cX12_happens 261 = .ok (.ireturn, 1) := by decide +kernel
theorem dX12_happens_262 : decode cX12_happens 262 = .ok (.iload 5, 2) := by decide +kernel
theorem dX12_happens_264 : decode cX12_happens 264 = .ok (.i2l, 1) := by decide +kernel
theorem dX12_happens_265 : decode cX12_happens 265 = .ok (.iload_n 3, 1) := by decide +kernel
theorem dX12_happens_266 : decode cX12_happens 266 = .ok (.i2l, 1) := by decide +kernel
theorem dX12_happens_267 : decode cX12_happens 267 = .ok (.iload 4, 2) := by decide +kernel
theorem dX12_happens_269 : decode cX12_happens 269 = .ok (.i2l, 1) := by decide +kernel
theorem dX12_happens_270 : decode cX12_happens 270 = .ok (.invokestatic 115, 3) := by decide +kernel
theorem dX12_happens_273 : decode cX12_happens 273 = .ok (.ifCond .eq 21, 3) := by decide +kernel
theorem dX12_happens_276 : decode cX12_happens 276 = .ok (.iload 6, 2) := by decide +kernel
theorem dX12_happens_278 : decode cX12_happens 278 = .ok (.i2l, 1) := by decide +kernel
theorem dX12_happens_279 : decode cX12_happens 279 = .ok (.iload_n 3, 1) := by decide +kernel
theorem dX12_happens_280 : decode cX12_happens 280 = .ok (.i2l, 1) := by decide +kernel
theorem dX12_happens_281 : decode cX12_happens 281 = .ok (.iload 4, 2) := by decide +kernel
theorem dX12_happens_283 : decode cX12_happens 283 = .ok (.i2l, 1) := by decide +kernel
theorem dX12_happens_284 : decode cX12_happens 284 = .ok (.invokestatic 115, 3) := by decide +kernel
theorem dX12_happens_287 : decode cX12_happens 287 = .ok (.ifCond .ne 7, 3) := by decide +kernel
theorem dX12_happens_290 : decode cX12_happens 290 = .ok (.iconst 1, 1) := by decide +kernel
theorem dX12_happens_291 : decode cX12_happens 291 = .ok (.goto 4, 3) := by decide +kernel
theorem dX12_happens_294 : decode cX12_happens 294 = .ok (.iconst 0, 1) := by decide +kernel
theorem dX12_happens_295 : decode cX12_happens 295 = .ok (.ireturn, 1) := by decide +kernel
theorem dX12_happens_296 : decode cX12_happens 296 = .ok (.iload 6, 2) := by decide +kernel
theorem dX12_happens_298 : decode cX12_happens 298 = .ok (.aload_n 0, 1) := by decide +kernel
theorem dX12_happens_299 : decode cX12_happens 299 = .ok (.iload_n 1, 1) := by decide +kernel
theorem dX12_happens_300 : decode cX12_happens 300 = .ok (.iload_n 3, 1) := by decide +kernel
theorem dX12_happens_301 : decode cX12_happens 301 = .ok (.invokevirtual 227, 3) := by decide +kernel
theorem dX12_happens_304 : decode cX12_happens 304 = .ok (.if_icmp .ne 20, 3) := by decide +kernel
theorem dX12_happens_307 : decode cX12_happens 307 = .ok (.iload 5, 2) := by decide +kernel
theorem dX12_happens_309 : decode cX12_happens 309 = .ok (.aload_n 0, 1) := by decide +kernel
theorem dX12_happens_310 : decode cX12_happens 310 = .ok (.iload_n 1, 1) := by decide +kernel
theorem dX12_happens_311 : decode cX12_happens 311 = .ok (.iconst 1, 1) := by decide +kernel
theorem dX12_happens_312 : decode cX12_happens 312 = .ok (.isub, 1) := by decide +kernel
theorem dX12_happens_313 : decode cX12_happens 313 = .ok (.iload_n 3, 1) := by decide +kernel
theorem dX12_happens_314 : decode cX12_happens 314 = .ok (.invokevirtual 227, 3) := by decide +kernel
theorem dX12_happens_317 : decode cX12_happens 317 = .ok (.if_icmp .eq 7, 3) := by decide +kernel
theorem dX12_happens_320 : decode cX12_happens 320 = .ok (.iconst 1, 1) := by decide +kernel
theorem dX12_happens_321 : decode cX12_happens 321 = .ok (.goto 4, 3) := by decide +kernel
theorem dX12_happens_324 : decode cX12_happens 324 = .ok (.iconst 0, 1) := by decide +kernel
theorem dX12_happens_325 : decode cX12_happens 325 = .ok (.ireturn, 1) := by decide +kernel
theorem dX12_follows_0 : decode cX12_follows 0 = .ok (.aload_n 0, 1) := by decide +kernel
theorem dX12_follows_1 : decode cX12_follows 1 = .ok (.getfield 32, 3) := by decide +kernel
theorem dX12_follows_4 : decode cX12_follows 4 = .ok (.aload_n 0, 1) := by decide +kernel
theorem dX12_follows_5 : decode cX12_follows 5 = .ok (.getfield 209, 3) := by decide +kernel
theorem dX12_follows_8 : decode cX12_follows 8 = .ok (.iaload, 1) := by decide +kernel
theorem dX12_follows_9 : decode cX12_follows 9 = .ok (.ifCond .le 47, 3) := by decide +kernel
theorem dX12_follows_12 : decode cX12_follows 12 = .ok (.iload_n 1, 1) := by decide +kernel
theorem dX12_follows_13 : decode cX12_follows 13 = .ok (.aload_n 0, 1) := by decide +kernel
theorem dX12_follows_14 : decode cX12_follows 14 = .ok (.getfield 215, 3) := by decide +kernel
theorem dX12_follows_17 : decode cX12_follows 17 = .ok (.aload_n 0, 1) := by decide +kernel
theorem dX12_follows_18 : decode cX12_follows 18 = .ok (.getfield 32, 3) := by decide +kernel
theorem dX12_follows_21 : decode cX12_follows 21 = .ok (.aload_n 0, 1) := by decide +kernel
theorem dX12_follows_22 : decode cX12_follows 22 = .ok (.getfield 209, 3) := by decide +kernel
theorem dX12_follows_25 : decode cX12_follows 25 = .ok (.iaload, 1) := by decide +kernel
theorem dX12_follows_26 : decode cX12_follows 26 = .ok (.iadd, 1) := by decide +kernel
theorem dX12_follows_27 : decode cX12_follows 27 = .ok (.if_icmp .ne 29, 3) := by decide +kernel
theorem dX12_follows_30 : decode cX12_follows 30 = .ok (.aload_n 0, 1) := by decide +kernel
theorem dX12_follows_31 : decode cX12_follows 31 = .ok (.iconst 0, 1) := by decide +kernel
theorem dX12_follows_32 : decode cX12_follows 32 = .ok (.putfield 209, 3) := by decide +kernel
theorem dX12_follows_35 : decode cX12_follows 35 = .ok (.aload_n 0, 1) := by decide +kernel
theorem dX12_follows_36 : decode cX12_follows 36 = .ok (.iconst 0, 1) := by decide +kernel
theorem dX12_follows_37 : decode cX12_follows 37 = .ok (.putfield 212, 3) := by decide +kernel
theorem dX12_follows_40 : decode cX12_follows 40 = .ok (.aload_n 0, 1) := by decide +kernel
theorem dX12_follows_41 : decode cX12_follows 41 = .ok (.iload_n 1, 1) := by decide +kernel
theorem dX12_follows_42 : decode cX12_follows 42 = .ok (.putfield 215, 3) := by decide +kernel
theorem dX12_follows_45 : decode cX12_follows 45 = .ok (.aload_n 0, 1) := by decide +kernel
theorem dX12_follows_46 : decode cX12_follows 46 = .ok (.dup, 1) := by decide +kernel
theorem dX12_follows_47 : decode cX12_follows 47 = .ok (.getfield 218, 3) := by decide +kernel
theorem dX12_follows_50 : decode cX12_follows 50 = .ok (.iconst 1, 1) := by decide +kernel
theorem dX12_follows_51 : decode cX12_follows 51 = .ok (.iadd, 1) := by decide +kernel
theorem dX12_follows_52 : decode cX12_follows 52 = .ok (.putfield 218, 3) := by decide +kernel
theorem dX12_follows_55 : decode cX12_follows 55 = .ok (.return_, 1) := by decide +kernel
theorem dX12_follows_56 : decode cX12_follows 56 = .ok (.iload_n 1, 1) := by decide +kernel
theorem dX12_follows_57 : decode cX12_follows 57 = .ok (.aload_n 0, 1) := by decide +kernel
theorem dX12_follows_58 : decode cX12_follows 58 = .ok (.getfield 215, 3) := by decide +kernel
theorem dX12_follows_61 : decode cX12_follows 61 = .ok (.if_icmp .le 78, 3) := by decide +kernel
theorem dX12_follows_64 : decode cX12_follows 64 = .ok (.aload_n 0, 1) := by decide +kernel
theorem dX12_follows_65 : decode cX12_follows 65 = .ok (.iload_n 1, 1) := by decide +kernel
theorem dX12_follows_66 : decode cX12_follows 66 = .ok (.invokevirtual 238, 3) := by decide +kernel
theorem dX12_follows_69 : decode cX12_follows 69 = .ok (.ifCond .eq 70, 3) := by decide +kernel
theorem dX12_follows_72 : decode cX12_follows 72 = .ok (.aload_n 0, 1) := by decide +kernel
theorem dX12_follows_73 : decode cX12_follows 73 = .ok (.dup, 1) := by decide +kernel
theorem dX12_follows_74 : decode cX12_follows 74 = .ok (.getfield 212, 3) := by decide +kernel
theorem dX12_follows_77 : decode cX12_follows 77 = .ok (.iconst 1, 1) := by decide +kernel
theorem dX12_follows_78 : decode cX12_follows 78 = .ok (.iadd, 1) := by decide +kernel
theorem dX12_follows_79 : decode cX12_follows 79 = .ok (.putfield 212, 3) := by decide +kernel
theorem dX12_follows_82 : decode cX12_follows 82 = .ok (.aload_n 0, 1) := by decide +kernel
theorem dX12_follows_83 : decode cX12_follows 83 = .ok (.getfield 212, 3) := by decide +kernel
theorem dX12_follows_86 : decode cX12_follows 86 = .ok (.aload_n 0, 1) := by decide +kernel
theorem dX12_follows_87 : decode cX12_follows 87 = .ok (.getfield 17, 3) := by decide +kernel
theorem dX12_follows_90 : decode cX12_follows 90 = .ok (.aload_n 0, 1) := by decide +kernel
theorem dX12_follows_91 : decode cX12_follows 91 = .ok (.getfield 209, 3) := by decide +kernel
theorem dX12_follows_94 : decode cX12_follows 94 = .ok (.iaload, 1) := by decide +kernel
theorem dX12_follows_95 : decode cX12_follows 95 = .ok (.if_icmp .ne 44, 3) := by decide +kernel
theorem dX12_follows_98 : decode cX12_follows 98 = .ok (.aload_n 0, 1) := by decide +kernel
theorem dX12_follows_99 : decode cX12_follows 99 = .ok (.dup, 1) := by decide +kernel
theorem dX12_follows_100 : decode cX12_follows 100 = .ok (.getfield 209, 3) := by decide +kernel
theorem dX12_follows_103 : decode cX12_follows 103 = .ok (.iconst 1, 1) := by decide +kernel
theorem dX12_follows_104 : decode cX12_follows 104 = .ok (.iadd, 1) := by decide +kernel
theorem dX12_follows_105 : decode cX12_follows 105 = .ok (.putfield 209, 3) := by decide +kernel
theorem dX12_follows_108 : decode cX12_follows 108 = .ok (.aload_n 0, 1) := by decide +kernel
theorem dX12_follows_109 : decode cX12_follows 109 = .ok (.iconst 0, 1) := by decide +kernel
theorem dX12_follows_110 : decode cX12_follows 110 = .ok (.putfield 212, 3) := by decide +kernel
theorem dX12_follows_113 : decode cX12_follows 113 = .ok (.aload_n 0, 1) := by decide +kernel
theorem dX12_follows_114 : decode cX12_follows 114 = .ok (.iload_n 1, 1) := by decide +kernel
theorem dX12_follows_115 : decode cX12_follows 115 = .ok (.putfield 215, 3) := by decide +kernel
theorem dX12_follows_118 : decode cX12_follows 118 = .ok (.aload_n 0, 1) := by decide +kernel
theorem dX12_follows_119 : decode cX12_follows 119 = .ok (.getfield 209, 3) := by decide +kernel
theorem dX12_follows_122 : decode cX12_follows 122 = .ok (.aload_n 0, 1) := by decide +kernel
theorem dX12_follows_123 : decode cX12_follows 123 = .ok (.getfield 195, 3) := by decide +kernel
theorem dX12_follows_126 : decode cX12_follows 126 = .ok (.if_icmp .ne 13, 3) := by decide +kernel
theorem dX12_follows_129 : decode cX12_follows 129 = .ok (.aload_n 0, 1) := by decide +kernel
theorem dX12_follows_130 : decode cX12_follows 130 = .ok (.iconst 2, 1) := by decide +kernel
theorem dX12_follows_131 : decode cX12_follows 131 = .ok (.putfield 198, 3) := by decide +kernel
theorem dX12_follows_134 : decode cX12_follows 134 = .ok (.aload_n 0, 1) := by decide +kernel
theorem dX12_follows_135 : decode cX12_follows 135 = .ok (.iload_n 1, 1) := by decide +kernel
theorem dX12_follows_136 : decode cX12_follows 136 = .ok (.putfield 242, 3) := by decide +kernel
theorem dX12_follows_139 : decode cX12_follows 139 = .ok (.return_, 1) := by decide +kernel
theorem dX12_kept_0 : decode cX12_kept 0 = .ok (.aload_n 0, 1) := by decide +kernel
theorem dX12_kept_1 : decode cX12_kept 1 = .ok (.getfield 221, 3) := by decide +kernel
theorem dX12_kept_4 : decode cX12_kept 4 = .ok (.istore_n 1, 1) := by decide +kernel
theorem dX12_kept_5 : decode cX12_kept 5 = .ok (.aload_n 0, 1) := by decide +kernel
theorem dX12_kept_6 : decode cX12_kept 6 = .ok (.getfield 242, 3) := by decide +kernel
theorem dX12_kept_9 : decode cX12_kept 9 = .ok (.aload_n 0, 1) := by decide +kernel
theorem dX12_kept_10 : decode cX12_kept 10 = .ok (.getfield 53, 3) := by decide +kernel
theorem dX12_kept_13 : decode cX12_kept 13 = .ok (.isub, 1) := by decide +kernel
theorem dX12_kept_14 : decode cX12_kept 14 = .ok (.istore_n 2, 1) := by decide +kernel
theorem dX12_kept_15 : decode cX12_kept 15 = .ok (.iload_n 2, 1) := by decide +kernel
theorem dX12_kept_16 : decode cX12_kept 16 = .ok (.aload_n 0, 1) := by decide +kernel
theorem dX12_kept_17 : decode cX12_kept 17 = .ok (.getfield 206, 3) := by decide +kernel
theorem dX12_kept_20 : decode cX12_kept 20 = .ok (.if_icmp .ge 10, 3) := by decide +kernel
theorem dX12_kept_23 : decode cX12_kept 23 = .ok (.aload_n 0, 1) := by decide +kernel
theorem dX12_kept_24 : decode cX12_kept 24 = .ok (.getfield 206, 3) := by decide +kernel
theorem dX12_kept_27 : decode cX12_kept 27 = .ok (.goto 4, 3) := by decide +kernel
theorem dX12_kept_30 : decode cX12_kept 30 = .ok (.iload_n 2, 1) := by decide +kernel
theorem dX12_kept_31 : decode cX12_kept 31 = .ok (.istore_n 2, 1) := by decide +kernel
theorem dX12_kept_32 : decode cX12_kept 32 = .ok (.iload_n 2, 1) := by decide +kernel
theorem dX12_kept_33 : decode cX12_kept 33 = .ok (.aload_n 0, 1) := by decide +kernel
theorem dX12_kept_34 : decode cX12_kept 34 = .ok (.getfield 203, 3) := by decide +kernel
theorem dX12_kept_37 : decode cX12_kept 37 = .ok (.sipush 256, 3) := by decide +kernel
theorem dX12_kept_40 : decode cX12_kept 40 = .ok (.isub, 1) := by decide +kernel
theorem dX12_kept_41 : decode cX12_kept 41 = .ok (.if_icmp .ge 14, 3) := by decide +kernel
theorem dX12_kept_44 : decode cX12_kept 44 = .ok (.aload_n 0, 1) := by decide +kernel
theorem dX12_kept_45 : decode cX12_kept 45 = .ok (.getfield 203, 3) := by decide +kernel
theorem dX12_kept_48 : decode cX12_kept 48 = .ok (.sipush 256, 3) := by decide +kernel
theorem dX12_kept_51 : decode cX12_kept 51 = .ok (.isub, 1) := by decide +kernel
theorem dX12_kept_52 : decode cX12_kept 52 = .ok (.goto 4, 3) := by decide +kernel
theorem dX12_kept_55 : decode cX12_kept 55 = .ok (.iload_n 2, 1) := by decide +kernel
theorem dX12_kept_56 : decode cX12_kept 56 = .ok (.istore_n 2, 1) := by decide +kernel
theorem dX12_kept_57 : decode cX12_kept 57 = .ok (.aload_n 0, 1) := by decide +kernel
theorem dX12_kept_58 : decode cX12_kept 58 = .ok (.getfield 60, 3) := by decide +kernel
theorem dX12_kept_61 : decode cX12_kept 61 = .ok (.iload_n 1, 1) := by decide +kernel
theorem dX12_kept_62 : decode cX12_kept 62 = .ok (.iload_n 2, 1) := by decide +kernel
theorem dX12_kept_63 : decode cX12_kept 63 = .ok (.iastore, 1) := by decide +kernel
theorem dX12_kept_64 : decode cX12_kept 64 = .ok (.aload_n 0, 1) := by decide +kernel
theorem dX12_kept_65 : decode cX12_kept 65 = .ok (.getfield 63, 3) := by decide +kernel
theorem dX12_kept_68 : decode cX12_kept 68 = .ok (.iload_n 1, 1) := by decide +kernel
theorem dX12_kept_69 : decode cX12_kept 69 = .ok (.aload_n 0, 1) := by decide +kernel
theorem dX12_kept_70 : decode cX12_kept 70 = .ok (.getfield 203, 3) := by decide +kernel
theorem dX12_kept_73 : decode cX12_kept 73 = .ok (.iload_n 2, 1) := by decide +kernel
theorem dX12_kept_74 : decode cX12_kept 74 = .ok (.isub, 1) := by decide +kernel
theorem dX12_kept_75 : decode cX12_kept 75 = .ok (.iastore, 1) := by decide +kernel
theorem dX12_kept_76 : decode cX12_kept 76 = .ok (.aload_n 0, 1) := by decide +kernel
theorem dX12_kept_77 : decode cX12_kept 77 = .ok (.getfield 66, 3) := by decide +kernel
theorem dX12_kept_80 : decode cX12_kept 80 = .ok (.iload_n 1, 1) := by decide +kernel
theorem dX12_kept_81 : decode cX12_kept 81 = .ok (.aload_n 0, 1) := by decide +kernel
theorem dX12_kept_82 : decode cX12_kept 82 = .ok (.getfield 242, 3) := by decide +kernel
theorem dX12_kept_85 : decode cX12_kept 85 = .ok (.iastore, 1) := by decide +kernel
theorem dX12_kept_86 : decode cX12_kept 86 = .ok (.iconst 0, 1) := by decide +kernel
theorem dX12_kept_87 : decode cX12_kept 87 = .ok (.istore_n 3, 1) := by decide +kernel
theorem dX12_kept_88 : decode cX12_kept 88 = .ok (.iload_n 3, 1) := by decide +kernel
theorem dX12_kept_89 : decode cX12_kept 89 = .ok (.aload_n 0, 1) := by decide +kernel
theorem dX12_kept_90 : decode cX12_kept 90 = .ok (.getfield 63, 3) := by decide +kernel
theorem dX12_kept_93 : decode cX12_kept 93 = .ok (.iload_n 1, 1) := by decide +kernel
theorem dX12_kept_94 : decode cX12_kept 94 = .ok (.iaload, 1) := by decide +kernel
theorem dX12_kept_95 : decode cX12_kept 95 = .ok (.if_icmp .ge 29, 3) := by decide +kernel
theorem dX12_kept_98 : decode cX12_kept 98 = .ok (.aload_n 0, 1) := by decide +kernel
theorem dX12_kept_99 : decode cX12_kept 99 = .ok (.getfield 69, 3) := by decide +kernel
theorem dX12_kept_102 : decode cX12_kept 102 = .ok (.sipush 201, 3) := by decide +kernel
theorem dX12_kept_105 : decode cX12_kept 105 = .ok (.iload_n 1, 1) := by decide +kernel
theorem dX12_kept_106 : decode cX12_kept 106 = .ok (.imul, 1) := by decide +kernel
theorem dX12_kept_107 : decode cX12_kept 107 = .ok (.iload_n 3, 1) := by decide +kernel
theorem dX12_kept_108 : decode cX12_kept 108 = .ok (.iadd, 1) := by decide +kernel
theorem dX12_kept_109 : decode cX12_kept 109 = .ok (.aload_n 0, 1) := by decide +kernel
theorem dX12_kept_110 : decode cX12_kept 110 = .ok (.getfield 14, 3) := by decide +kernel
theorem dX12_kept_113 : decode cX12_kept 113 = .ok (.iload_n 2, 1) := by decide +kernel
theorem dX12_kept_114 : decode cX12_kept 114 = .ok (.iload_n 3, 1) := by decide +kernel
theorem dX12_kept_115 : decode cX12_kept 115 = .ok (.iadd, 1) := by decide +kernel
theorem dX12_kept_116 : decode cX12_kept 116 = .ok (.iaload, 1) := by decide +kernel
theorem dX12_kept_117 : decode cX12_kept 117 = .ok (.iastore, 1) := by decide +kernel
theorem dX12_kept_118 : decode cX12_kept 118 = .ok (.iinc 3 1, 3) := by decide +kernel
theorem dX12_kept_121 : decode cX12_kept 121 = .ok (.goto (-33), 3) := by decide +kernel
theorem dX12_kept_124 : decode cX12_kept 124 = .ok (.aload_n 0, 1) := by decide +kernel
theorem dX12_kept_125 : decode cX12_kept 125 = .ok (.dup, 1) := by decide +kernel
theorem dX12_kept_126 : decode cX12_kept 126 = .ok (.getfield 221, 3) := by decide +kernel
theorem dX12_kept_129 : decode cX12_kept 129 = .ok (.iconst 1, 1) := by decide +kernel
theorem dX12_kept_130 : decode cX12_kept 130 = .ok (.iadd, 1) := by decide +kernel
theorem dX12_kept_131 : decode cX12_kept 131 = .ok (.putfield 221, 3) := by decide +kernel
theorem dX12_kept_134 : decode cX12_kept 134 = .ok (.aload_n 0, 1) := by decide +kernel
theorem dX12_kept_135 : decode cX12_kept 135 = .ok (.getfield 221, 3) := by decide +kernel
theorem dX12_kept_138 : decode cX12_kept 138 = .ok (.bipush 8, 2) := by decide +kernel
theorem dX12_kept_140 : decode cX12_kept 140 = .ok (.if_icmp .ne 11, 3) := by decide +kernel
theorem dX12_kept_143 : decode cX12_kept 143 = .ok (.aload_n 0, 1) := by decide +kernel
theorem dX12_kept_144 : decode cX12_kept 144 = .ok (.iconst 3, 1) := by decide +kernel
theorem dX12_kept_145 : decode cX12_kept 145 = .ok (.putfield 198, 3) := by decide +kernel
theorem dX12_kept_148 : decode cX12_kept 148 = .ok (.goto 7, 3) := by decide +kernel
theorem dX12_kept_151 : decode cX12_kept 151 = .ok (.aload_n 0, 1) := by decide +kernel
theorem dX12_kept_152 : decode cX12_kept 152 = .ok (.invokevirtual 224, 3) := by decide +kernel
theorem dX12_kept_155 : decode cX12_kept 155 = .ok (.return_, 1) := by decide +kernel
theorem dX12_takes_0 : decode cX12_takes 0 = .ok (.aload_n 0, 1) := by decide +kernel
theorem dX12_takes_1 : decode cX12_takes 1 = .ok (.getfield 203, 3) := by decide +kernel
theorem dX12_takes_4 : decode cX12_takes 4 = .ok (.istore_n 2, 1) := by decide +kernel
theorem dX12_takes_5 : decode cX12_takes 5 = .ok (.aload_n 0, 1) := by decide +kernel
theorem dX12_takes_6 : decode cX12_takes 6 = .ok (.getfield 14, 3) := by decide +kernel
theorem dX12_takes_9 : decode cX12_takes 9 = .ok (.iload_n 2, 1) := by decide +kernel
theorem dX12_takes_10 : decode cX12_takes 10 = .ok (.iload_n 1, 1) := by decide +kernel
theorem dX12_takes_11 : decode cX12_takes 11 = .ok (.iastore, 1) := by decide +kernel
theorem dX12_takes_12 : decode cX12_takes 12 = .ok (.aload_n 0, 1) := by decide +kernel
theorem dX12_takes_13 : decode cX12_takes 13 = .ok (.dup, 1) := by decide +kernel
theorem dX12_takes_14 : decode cX12_takes 14 = .ok (.getfield 203, 3) := by decide +kernel
theorem dX12_takes_17 : decode cX12_takes 17 = .ok (.iconst 1, 1) := by decide +kernel
theorem dX12_takes_18 : decode cX12_takes 18 = .ok (.iadd, 1) := by decide +kernel
theorem dX12_takes_19 : decode cX12_takes 19 = .ok (.putfield 203, 3) := by decide +kernel
theorem dX12_takes_22 : decode cX12_takes 22 = .ok (.aload_n 0, 1) := by decide +kernel
theorem dX12_takes_23 : decode cX12_takes 23 = .ok (.getfield 198, 3) := by decide +kernel
theorem dX12_takes_26 : decode cX12_takes 26 = .ok (.iconst 1, 1) := by decide +kernel
theorem dX12_takes_27 : decode cX12_takes 27 = .ok (.if_icmp .ne 8, 3) := by decide +kernel
theorem dX12_takes_30 : decode cX12_takes 30 = .ok (.aload_n 0, 1) := by decide +kernel
theorem dX12_takes_31 : decode cX12_takes 31 = .ok (.iload_n 2, 1) := by decide +kernel
theorem dX12_takes_32 : decode cX12_takes 32 = .ok (.invokevirtual 245, 3) := by decide +kernel
theorem dX12_takes_35 : decode cX12_takes 35 = .ok (.aload_n 0, 1) := by decide +kernel
theorem dX12_takes_36 : decode cX12_takes 36 = .ok (.getfield 198, 3) := by decide +kernel
theorem dX12_takes_39 : decode cX12_takes 39 = .ok (.iconst 2, 1) := by decide +kernel
theorem dX12_takes_40 : decode cX12_takes 40 = .ok (.if_icmp .ne 20, 3) := by decide +kernel
theorem dX12_takes_43 : decode cX12_takes 43 = .ok (.iload_n 2, 1) := by decide +kernel
theorem dX12_takes_44 : decode cX12_takes 44 = .ok (.aload_n 0, 1) := by decide +kernel
theorem dX12_takes_45 : decode cX12_takes 45 = .ok (.getfield 242, 3) := by decide +kernel
theorem dX12_takes_48 : decode cX12_takes 48 = .ok (.aload_n 0, 1) := by decide +kernel
theorem dX12_takes_49 : decode cX12_takes 49 = .ok (.getfield 57, 3) := by decide +kernel
theorem dX12_takes_52 : decode cX12_takes 52 = .ok (.iadd, 1) := by decide +kernel
theorem dX12_takes_53 : decode cX12_takes 53 = .ok (.if_icmp .ne 7, 3) := by decide +kernel
theorem dX12_takes_56 : decode cX12_takes 56 = .ok (.aload_n 0, 1) := by decide +kernel
theorem dX12_takes_57 : decode cX12_takes 57 = .ok (.invokevirtual 248, 3) := by decide +kernel
theorem dX12_takes_60 : decode cX12_takes 60 = .ok (.return_, 1) := by decide +kernel
theorem dX12_come_0 : decode cX12_come 0 = .ok (.aload_n 0, 1) := by decide +kernel
theorem dX12_come_1 : decode cX12_come 1 = .ok (.lload_n 1, 1) := by decide +kernel
theorem dX12_come_2 : decode cX12_come 2 = .ok (.bipush 32, 2) := by decide +kernel
theorem dX12_come_4 : decode cX12_come 4 = .ok (.lshr, 1) := by decide +kernel
theorem dX12_come_5 : decode cX12_come 5 = .ok (.l2i, 1) := by decide +kernel
theorem dX12_come_6 : decode cX12_come 6 = .ok (.invokevirtual 251, 3) := by decide +kernel
theorem dX12_come_9 : decode cX12_come 9 = .ok (.aload_n 0, 1) := by decide +kernel
theorem dX12_come_10 : decode cX12_come 10 = .ok (.lload_n 1, 1) := by decide +kernel
theorem dX12_come_11 : decode cX12_come 11 = .ok (.l2i, 1) := by decide +kernel
theorem dX12_come_12 : decode cX12_come 12 = .ok (.invokevirtual 251, 3) := by decide +kernel
theorem dX12_come_15 : decode cX12_come 15 = .ok (.aload_n 0, 1) := by decide +kernel
theorem dX12_come_16 : decode cX12_come 16 = .ok (.getfield 221, 3) := by decide +kernel
theorem dX12_come_19 : decode cX12_come 19 = .ok (.ireturn, 1) := by decide +kernel
theorem dX12_play_0 : decode cX12_play 0 = .ok (.aload_n 0, 1) := by decide +kernel
theorem dX12_play_1 : decode cX12_play 1 = .ok (.iload_n 1, 1) := by decide +kernel
theorem dX12_play_2 : decode cX12_play 2 = .ok (.invokevirtual 254, 3) := by decide +kernel
theorem dX12_play_5 : decode cX12_play 5 = .ok (.ifCond .eq 47, 3) := by decide +kernel
theorem dX12_play_8 : decode cX12_play 8 = .ok (.iload_n 2, 1) := by decide +kernel
theorem dX12_play_9 : decode cX12_play 9 = .ok (.i2l, 1) := by decide +kernel
theorem dX12_play_10 : decode cX12_play 10 = .ok (.lconst 0, 1) := by decide +kernel
theorem dX12_play_11 : decode cX12_play 11 = .ok (.ldc2_w 257, 3) := by decide +kernel
theorem dX12_play_14 : decode cX12_play 14 = .ok (.invokestatic 115, 3) := by decide +kernel
theorem dX12_play_17 : decode cX12_play 17 = .ok (.ifCond .eq 35, 3) := by decide +kernel
theorem dX12_play_20 : decode cX12_play 20 = .ok (.iload 4, 2) := by decide +kernel
theorem dX12_play_22 : decode cX12_play 22 = .ok (.i2l, 1) := by decide +kernel
theorem dX12_play_23 : decode cX12_play 23 = .ok (.lconst 0, 1) := by decide +kernel
theorem dX12_play_24 : decode cX12_play 24 = .ok (.ldc2_w 259, 3) := by decide +kernel
theorem dX12_play_27 : decode cX12_play 27 = .ok (.invokestatic 115, 3) := by decide +kernel
theorem dX12_play_30 : decode cX12_play 30 = .ok (.ifCond .eq 22, 3) := by decide +kernel
theorem dX12_play_33 : decode cX12_play 33 = .ok (.iload_n 3, 1) := by decide +kernel
theorem dX12_play_34 : decode cX12_play 34 = .ok (.i2l, 1) := by decide +kernel
theorem dX12_play_35 : decode cX12_play 35 = .ok (.lconst 0, 1) := by decide +kernel
theorem dX12_play_36 : decode cX12_play 36 = .ok (.aload_n 0, 1) := by decide +kernel
theorem dX12_play_37 : decode cX12_play 37 = .ok (.getfield 84, 3) := by decide +kernel
theorem dX12_play_40 : decode cX12_play 40 = .ok (.iload_n 1, 1) := by decide +kernel
theorem dX12_play_41 : decode cX12_play 41 = .ok (.iaload, 1) := by decide +kernel
theorem dX12_play_42 : decode cX12_play 42 = .ok (.iload 4, 2) := by decide +kernel
theorem dX12_play_44 : decode cX12_play 44 = .ok (.isub, 1) := by decide +kernel
theorem dX12_play_45 : decode cX12_play 45 = .ok (.i2l, 1) := by decide +kernel
theorem dX12_play_46 : decode cX12_play 46 = .ok (.invokestatic 115, 3) := by decide +kernel
theorem dX12_play_49 : decode cX12_play 49 = .ok (.ifCond .ne 5, 3) := by decide +kernel
theorem dX12_play_52 : decode cX12_play 52 = .ok (.iconst (-1), 1) := by decide +kernel
theorem dX12_play_53 : decode cX12_play 53 = .ok (.ireturn, 1) := by decide +kernel
theorem dX12_play_54 : decode cX12_play 54 = .ok (.iload_n 3, 1) := by decide +kernel
theorem dX12_play_55 : decode cX12_play 55 = .ok (.istore 5, 2) := by decide +kernel
theorem dX12_play_57 : decode cX12_play 57 = .ok (.iload 5, 2) := by decide +kernel
theorem dX12_play_59 : decode cX12_play 59 = .ok (.iload_n 3, 1) := by decide +kernel
theorem dX12_play_60 : decode cX12_play 60 = .ok (.iload 4, 2) := by decide +kernel
theorem dX12_play_62 : decode cX12_play 62 = .ok (.iadd, 1) := by decide +kernel
theorem dX12_play_63 : decode cX12_play 63 = .ok (.if_icmp .ge 63, 3) := by decide +kernel
theorem dX12_play_66 : decode cX12_play 66 = .ok (.aload_n 0, 1) := by decide +kernel
theorem dX12_play_67 : decode cX12_play 67 = .ok (.getfield 91, 3) := by decide +kernel
theorem dX12_play_70 : decode cX12_play 70 = .ok (.sipush 201, 3) := by decide +kernel
theorem dX12_play_73 : decode cX12_play 73 = .ok (.iload_n 1, 1) := by decide +kernel
theorem dX12_play_74 : decode cX12_play 74 = .ok (.imul, 1) := by decide +kernel
theorem dX12_play_75 : decode cX12_play 75 = .ok (.iload 5, 2) := by decide +kernel
theorem dX12_play_77 : decode cX12_play 77 = .ok (.iadd, 1) := by decide +kernel
theorem dX12_play_78 : decode cX12_play 78 = .ok (.baload, 1) := by decide +kernel
theorem dX12_play_79 : decode cX12_play 79 = .ok (.ifCond .eq 7, 3) := by decide +kernel
theorem dX12_play_82 : decode cX12_play 82 = .ok (.iconst 0, 1) := by decide +kernel
theorem dX12_play_83 : decode cX12_play 83 = .ok (.goto 21, 3) := by decide +kernel
theorem dX12_play_86 : decode cX12_play 86 = .ok (.aload_n 0, 1) := by decide +kernel
theorem dX12_play_87 : decode cX12_play 87 = .ok (.getfield 87, 3) := by decide +kernel
theorem dX12_play_90 : decode cX12_play 90 = .ok (.sipush 201, 3) := by decide +kernel
theorem dX12_play_93 : decode cX12_play 93 = .ok (.iload_n 1, 1) := by decide +kernel
theorem dX12_play_94 : decode cX12_play 94 = .ok (.imul, 1) := by decide +kernel
theorem dX12_play_95 : decode cX12_play 95 = .ok (.iload 5, 2) := by decide +kernel
theorem dX12_play_97 : decode cX12_play 97 = .ok (.iadd, 1) := by decide +kernel
theorem dX12_play_98 : decode cX12_play 98 = .ok (.laload, 1) := by decide +kernel
theorem dX12_play_99 : decode cX12_play 99 = .ok (.ldc2_w 113, 3) := by decide +kernel
theorem dX12_play_102 : decode cX12_play 102 = .ok (.land, 1) := by decide +kernel
theorem dX12_play_103 : decode cX12_play 103 = .ok (.l2i, 1) := by decide +kernel
theorem dX12_play_104 : decode cX12_play 104 = .ok (.istore 6, 2) := by decide +kernel
theorem dX12_play_106 : decode cX12_play 106 = .ok (.aload_n 0, 1) := by decide +kernel
theorem dX12_play_107 : decode cX12_play 107 = .ok (.iload 6, 2) := by decide +kernel
theorem dX12_play_109 : decode cX12_play 109 = .ok (.bipush 24, 2) := by decide +kernel
theorem dX12_play_111 : decode cX12_play 111 = .ok (.bipush 8, 2) := by decide +kernel
theorem dX12_play_113 : decode cX12_play 113 = .ok (.iload_n 2, 1) := by decide +kernel
theorem dX12_play_114 : decode cX12_play 114 = .ok (.imul, 1) := by decide +kernel
theorem dX12_play_115 : decode cX12_play 115 = .ok (.isub, 1) := by decide +kernel
theorem dX12_play_116 : decode cX12_play 116 = .ok (.ishl, 1) := by decide +kernel
theorem dX12_play_117 : decode cX12_play 117 = .ok (.invokevirtual 251, 3) := by decide +kernel
theorem dX12_play_120 : decode cX12_play 120 = .ok (.iinc 5 1, 3) := by decide +kernel
theorem dX12_play_123 : decode cX12_play 123 = .ok (.goto (-66), 3) := by decide +kernel
theorem dX12_play_126 : decode cX12_play 126 = .ok (.aload_n 0, 1) := by decide +kernel
theorem dX12_play_127 : decode cX12_play 127 = .ok (.getfield 221, 3) := by decide +kernel
theorem dX12_play_130 : decode cX12_play 130 = .ok (.ireturn, 1) := by decide +kernel
theorem dX12_sample_0 : decode cX12_sample 0 = .ok (.iload_n 2, 1) := by decide +kernel
theorem dX12_sample_1 : decode cX12_sample 1 = .ok (.i2l, 1) := by decide +kernel
theorem dX12_sample_2 : decode cX12_sample 2 = .ok (.lconst 0, 1) := by decide +kernel
theorem dX12_sample_3 : decode cX12_sample 3 = .ok (.ldc2_w 257, 3) := by decide +kernel
theorem dX12_sample_6 : decode cX12_sample 6 = .ok (.invokestatic 115, 3) := by decide +kernel
theorem dX12_sample_9 : decode cX12_sample 9 = .ok (.ifCond .eq 36, 3) := by decide +kernel
theorem dX12_sample_12 : decode cX12_sample 12 = .ok (.iload_n 1, 1) := by decide +kernel
theorem dX12_sample_13 : decode cX12_sample 13 = .ok (.ifCond .lt 32, 3) := by decide +kernel
theorem dX12_sample_16 : decode cX12_sample 16 = .ok (.iload_n 1, 1) := by decide +kernel
theorem dX12_sample_17 : decode cX12_sample 17 = .ok (.aload_n 0, 1) := by decide +kernel
theorem dX12_sample_18 : decode cX12_sample 18 = .ok (.getfield 203, 3) := by decide +kernel
theorem dX12_sample_21 : decode cX12_sample 21 = .ok (.sipush 256, 3) := by decide +kernel
theorem dX12_sample_24 : decode cX12_sample 24 = .ok (.isub, 1) := by decide +kernel
theorem dX12_sample_25 : decode cX12_sample 25 = .ok (.if_icmp .lt 20, 3) := by decide +kernel
theorem dX12_sample_28 : decode cX12_sample 28 = .ok (.iload_n 1, 1) := by decide +kernel
theorem dX12_sample_29 : decode cX12_sample 29 = .ok (.aload_n 0, 1) := by decide +kernel
theorem dX12_sample_30 : decode cX12_sample 30 = .ok (.getfield 203, 3) := by decide +kernel
theorem dX12_sample_33 : decode cX12_sample 33 = .ok (.if_icmp .ge 12, 3) := by decide +kernel
theorem dX12_sample_36 : decode cX12_sample 36 = .ok (.aload_n 0, 1) := by decide +kernel
theorem dX12_sample_37 : decode cX12_sample 37 = .ok (.iload_n 1, 1) := by decide +kernel
theorem dX12_sample_38 : decode cX12_sample 38 = .ok (.iload_n 2, 1) := by decide +kernel
theorem dX12_sample_39 : decode cX12_sample 39 = .ok (.invokevirtual 227, 3) := by decide +kernel
theorem dX12_sample_42 : decode cX12_sample 42 = .ok (.goto 6, 3) := by decide +kernel
theorem dX12_sample_45 : decode cX12_sample 45 = .ok (.sipush 1000, 3) := by decide +kernel
theorem dX12_sample_48 : decode cX12_sample 48 = .ok (.ireturn, 1) := by decide +kernel
theorem dX12_told_0 : decode cX12_told 0 = .ok (.iload_n 1, 1) := by decide +kernel
theorem dX12_told_1 : decode cX12_told 1 = .ok (.tableswitch 144 0 9 #[55, 60, 78, 96, 114, 119, 124, 129, 134, 139], 55) := by decide +kernel
theorem dX12_told_56 : decode cX12_told 56 = .ok (.aload_n 0, 1) := by decide +kernel
theorem dX12_told_57 : decode cX12_told 57 = .ok (.getfield 198, 3) := by decide +kernel
theorem dX12_told_60 : decode cX12_told 60 = .ok (.ireturn, 1) := by decide +kernel
theorem dX12_told_61 : decode cX12_told 61 = .ok (.aload_n 0, 1) := by decide +kernel
theorem dX12_told_62 : decode cX12_told 62 = .ok (.getfield 198, 3) := by decide +kernel
theorem dX12_told_65 : decode cX12_told 65 = .ok (.iconst 1, 1) := by decide +kernel
theorem dX12_told_66 : decode cX12_told 66 = .ok (.if_icmp .ne 10, 3) := by decide +kernel
theorem dX12_told_69 : decode cX12_told 69 = .ok (.aload_n 0, 1) := by decide +kernel
theorem dX12_told_70 : decode cX12_told 70 = .ok (.getfield 209, 3) := by decide +kernel
theorem dX12_told_73 : decode cX12_told 73 = .ok (.goto 5, 3) := by decide +kernel
theorem dX12_told_76 : decode cX12_told 76 = .ok (.bipush (-4), 2) := by decide +kernel
theorem dX12_told_78 : decode cX12_told 78 = .ok (.ireturn, 1) := by decide +kernel
theorem dX12_told_79 : decode cX12_told 79 = .ok (.aload_n 0, 1) := by decide +kernel
theorem dX12_told_80 : decode cX12_told 80 = .ok (.getfield 198, 3) := by decide +kernel
theorem dX12_told_83 : decode cX12_told 83 = .ok (.iconst 1, 1) := by decide +kernel
theorem dX12_told_84 : decode cX12_told 84 = .ok (.if_icmp .ne 10, 3) := by decide +kernel
theorem dX12_told_87 : decode cX12_told 87 = .ok (.aload_n 0, 1) := by decide +kernel
theorem dX12_told_88 : decode cX12_told 88 = .ok (.getfield 212, 3) := by decide +kernel
theorem dX12_told_91 : decode cX12_told 91 = .ok (.goto 5, 3) := by decide +kernel
theorem dX12_told_94 : decode cX12_told 94 = .ok (.bipush (-4), 2) := by decide +kernel
theorem dX12_told_96 : decode cX12_told 96 = .ok (.ireturn, 1) := by decide +kernel
theorem dX12_told_97 : decode cX12_told 97 = .ok (.aload_n 0, 1) := by decide +kernel
theorem dX12_told_98 : decode cX12_told 98 = .ok (.getfield 198, 3) := by decide +kernel
theorem dX12_told_101 : decode cX12_told 101 = .ok (.iconst 1, 1) := by decide +kernel
theorem dX12_told_102 : decode cX12_told 102 = .ok (.if_icmp .ne 10, 3) := by decide +kernel
theorem dX12_told_105 : decode cX12_told 105 = .ok (.aload_n 0, 1) := by decide +kernel
theorem dX12_told_106 : decode cX12_told 106 = .ok (.getfield 215, 3) := by decide +kernel
theorem dX12_told_109 : decode cX12_told 109 = .ok (.goto 5, 3) := by decide +kernel
theorem dX12_told_112 : decode cX12_told 112 = .ok (.bipush (-4), 2) := by decide +kernel
theorem dX12_told_114 : decode cX12_told 114 = .ok (.ireturn, 1) := by decide +kernel
theorem dX12_told_115 : decode cX12_told 115 = .ok (.aload_n 0, 1) := by decide +kernel
theorem dX12_told_116 : decode cX12_told 116 = .ok (.getfield 203, 3) := by decide +kernel
theorem dX12_told_119 : decode cX12_told 119 = .ok (.ireturn, 1) := by decide +kernel
theorem dX12_told_120 : decode cX12_told 120 = .ok (.aload_n 0, 1) := by decide +kernel
theorem dX12_told_121 : decode cX12_told 121 = .ok (.getfield 221, 3) := by decide +kernel
theorem dX12_told_124 : decode cX12_told 124 = .ok (.ireturn, 1) := by decide +kernel
theorem dX12_told_125 : decode cX12_told 125 = .ok (.aload_n 0, 1) := by decide +kernel
theorem dX12_told_126 : decode cX12_told 126 = .ok (.getfield 53, 3) := by decide +kernel
theorem dX12_told_129 : decode cX12_told 129 = .ok (.ireturn, 1) := by decide +kernel
theorem dX12_told_130 : decode cX12_told 130 = .ok (.aload_n 0, 1) := by decide +kernel
theorem dX12_told_131 : decode cX12_told 131 = .ok (.getfield 57, 3) := by decide +kernel
theorem dX12_told_134 : decode cX12_told 134 = .ok (.ireturn, 1) := by decide +kernel
theorem dX12_told_135 : decode cX12_told 135 = .ok (.aload_n 0, 1) := by decide +kernel
theorem dX12_told_136 : decode cX12_told 136 = .ok (.getfield 195, 3) := by decide +kernel
theorem dX12_told_139 : decode cX12_told 139 = .ok (.ireturn, 1) := by decide +kernel
theorem dX12_told_140 : decode cX12_told 140 = .ok (.aload_n 0, 1) := by decide +kernel
theorem dX12_told_141 : decode cX12_told 141 = .ok (.getfield 218, 3) := by decide +kernel
theorem dX12_told_144 : decode cX12_told 144 = .ok (.ireturn, 1) := by decide +kernel
theorem dX12_told_145 : decode cX12_told 145 = .ok (.iconst (-1), 1) := by decide +kernel
theorem dX12_told_146 : decode cX12_told 146 = .ok (.ireturn, 1) := by decide +kernel
theorem dX12_isSegment_0 : decode cX12_isSegment 0 = .ok (.iload_n 1, 1) := by decide +kernel
theorem dX12_isSegment_1 : decode cX12_isSegment 1 = .ok (.i2l, 1) := by decide +kernel
theorem dX12_isSegment_2 : decode cX12_isSegment 2 = .ok (.lconst 0, 1) := by decide +kernel
theorem dX12_isSegment_3 : decode cX12_isSegment 3 = .ok (.aload_n 0, 1) := by decide +kernel
theorem dX12_isSegment_4 : decode cX12_isSegment 4 = .ok (.getfield 221, 3) := by decide +kernel
theorem dX12_isSegment_7 : decode cX12_isSegment 7 = .ok (.iconst 1, 1) := by decide +kernel
theorem dX12_isSegment_8 : decode cX12_isSegment 8 = .ok (.isub, 1) := by decide +kernel
theorem dX12_isSegment_9 : decode cX12_isSegment 9 = .ok (.i2l, 1) := by decide +kernel
theorem dX12_isSegment_10 : decode cX12_isSegment 10 = .ok (.invokestatic 115, 3) := by decide +kernel
theorem dX12_isSegment_13 : decode cX12_isSegment 13 = .ok (.ireturn, 1) := by decide +kernel
theorem dX12_segment_0 : decode cX12_segment 0 = .ok (.aload_n 0, 1) := by decide +kernel
theorem dX12_segment_1 : decode cX12_segment 1 = .ok (.iload_n 1, 1) := by decide +kernel
theorem dX12_segment_2 : decode cX12_segment 2 = .ok (.invokevirtual 261, 3) := by decide +kernel
theorem dX12_segment_5 : decode cX12_segment 5 = .ok (.ifCond .eq 15, 3) := by decide +kernel
theorem dX12_segment_8 : decode cX12_segment 8 = .ok (.iload_n 2, 1) := by decide +kernel
theorem dX12_segment_9 : decode cX12_segment 9 = .ok (.i2l, 1) := by decide +kernel
theorem dX12_segment_10 : decode cX12_segment 10 = .ok (.lconst 0, 1) := by decide +kernel
theorem dX12_segment_11 : decode cX12_segment 11 = .ok (.ldc2_w 264, 3) := by decide +kernel
theorem dX12_segment_14 : decode cX12_segment 14 = .ok (.invokestatic 115, 3) := by decide +kernel
theorem dX12_segment_17 : decode cX12_segment 17 = .ok (.ifCond .ne 5, 3) := by decide +kernel
theorem dX12_segment_20 : decode cX12_segment 20 = .ok (.iconst (-1), 1) := by decide +kernel
theorem dX12_segment_21 : decode cX12_segment 21 = .ok (.ireturn, 1) := by decide +kernel
theorem dX12_segment_22 : decode cX12_segment 22 = .ok (.iload_n 2, 1) := by decide +kernel
theorem dX12_segment_23 : decode cX12_segment 23 = .ok (.ifCond .ne 12, 3) := by decide +kernel
theorem dX12_segment_26 : decode cX12_segment 26 = .ok (.aload_n 0, 1) := by decide +kernel
theorem dX12_segment_27 : decode cX12_segment 27 = .ok (.getfield 60, 3) := by decide +kernel
theorem dX12_segment_30 : decode cX12_segment 30 = .ok (.iload_n 1, 1) := by decide +kernel
theorem dX12_segment_31 : decode cX12_segment 31 = .ok (.iaload, 1) := by decide +kernel
theorem dX12_segment_32 : decode cX12_segment 32 = .ok (.goto 23, 3) := by decide +kernel
theorem dX12_segment_35 : decode cX12_segment 35 = .ok (.iload_n 2, 1) := by decide +kernel
theorem dX12_segment_36 : decode cX12_segment 36 = .ok (.iconst 1, 1) := by decide +kernel
theorem dX12_segment_37 : decode cX12_segment 37 = .ok (.if_icmp .ne 12, 3) := by decide +kernel
theorem dX12_segment_40 : decode cX12_segment 40 = .ok (.aload_n 0, 1) := by decide +kernel
theorem dX12_segment_41 : decode cX12_segment 41 = .ok (.getfield 63, 3) := by decide +kernel
theorem dX12_segment_44 : decode cX12_segment 44 = .ok (.iload_n 1, 1) := by decide +kernel
theorem dX12_segment_45 : decode cX12_segment 45 = .ok (.iaload, 1) := by decide +kernel
theorem dX12_segment_46 : decode cX12_segment 46 = .ok (.goto 9, 3) := by decide +kernel
theorem dX12_segment_49 : decode cX12_segment 49 = .ok (.aload_n 0, 1) := by decide +kernel
theorem dX12_segment_50 : decode cX12_segment 50 = .ok (.getfield 66, 3) := by decide +kernel
theorem dX12_segment_53 : decode cX12_segment 53 = .ok (.iload_n 1, 1) := by decide +kernel
theorem dX12_segment_54 : decode cX12_segment 54 = .ok (.iaload, 1) := by decide +kernel
theorem dX12_segment_55 : decode cX12_segment 55 = .ok (.ireturn, 1) := by decide +kernel
theorem dX12_valueAt_0 : decode cX12_valueAt 0 = .ok (.aload_n 0, 1) := by decide +kernel
theorem dX12_valueAt_1 : decode cX12_valueAt 1 = .ok (.getfield 69, 3) := by decide +kernel
theorem dX12_valueAt_4 : decode cX12_valueAt 4 = .ok (.sipush 201, 3) := by decide +kernel
theorem dX12_valueAt_7 : decode cX12_valueAt 7 = .ok (.iload_n 1, 1) := by decide +kernel
theorem dX12_valueAt_8 : decode cX12_valueAt 8 = .ok (.imul, 1) := by decide +kernel
theorem dX12_valueAt_9 : decode cX12_valueAt 9 = .ok (.iload_n 3, 1) := by decide +kernel
theorem dX12_valueAt_10 : decode cX12_valueAt 10 = .ok (.iadd, 1) := by decide +kernel
theorem dX12_valueAt_11 : decode cX12_valueAt 11 = .ok (.iaload, 1) := by decide +kernel
theorem dX12_valueAt_12 : decode cX12_valueAt 12 = .ok (.bipush 24, 2) := by decide +kernel
theorem dX12_valueAt_14 : decode cX12_valueAt 14 = .ok (.bipush 8, 2) := by decide +kernel
theorem dX12_valueAt_16 : decode cX12_valueAt 16 = .ok (.iload_n 2, 1) := by decide +kernel
theorem dX12_valueAt_17 : decode cX12_valueAt 17 = .ok (.imul, 1) := by decide +kernel
theorem dX12_valueAt_18 : decode cX12_valueAt 18 = .ok (.isub, 1) := by decide +kernel
theorem dX12_valueAt_19 : decode cX12_valueAt 19 = .ok (.ishr, 1) := by decide +kernel
theorem dX12_valueAt_20 : decode cX12_valueAt 20 = .ok (.i2b, 1) := by decide +kernel
theorem dX12_valueAt_21 : decode cX12_valueAt 21 = .ok (.ireturn, 1) := by decide +kernel
theorem dX12_at_0 : decode cX12_at 0 = .ok (.aload_n 0, 1) := by decide +kernel
theorem dX12_at_1 : decode cX12_at 1 = .ok (.iload_n 1, 1) := by decide +kernel
theorem dX12_at_2 : decode cX12_at 2 = .ok (.invokevirtual 261, 3) := by decide +kernel
theorem dX12_at_5 : decode cX12_at 5 = .ok (.ifCond .eq 43, 3) := by decide +kernel
theorem dX12_at_8 : decode cX12_at 8 = .ok (.iload_n 2, 1) := by decide +kernel
theorem dX12_at_9 : decode cX12_at 9 = .ok (.i2l, 1) := by decide +kernel
theorem dX12_at_10 : decode cX12_at 10 = .ok (.lconst 0, 1) := by decide +kernel
theorem dX12_at_11 : decode cX12_at 11 = .ok (.ldc2_w 257, 3) := by decide +kernel
theorem dX12_at_14 : decode cX12_at 14 = .ok (.invokestatic 115, 3) := by decide +kernel
theorem dX12_at_17 : decode cX12_at 17 = .ok (.ifCond .eq 31, 3) := by decide +kernel
theorem dX12_at_20 : decode cX12_at 20 = .ok (.iload_n 3, 1) := by decide +kernel
theorem dX12_at_21 : decode cX12_at 21 = .ok (.i2l, 1) := by decide +kernel
theorem dX12_at_22 : decode cX12_at 22 = .ok (.lconst 0, 1) := by decide +kernel
theorem dX12_at_23 : decode cX12_at 23 = .ok (.aload_n 0, 1) := by decide +kernel
theorem dX12_at_24 : decode cX12_at 24 = .ok (.getfield 63, 3) := by decide +kernel
theorem dX12_at_27 : decode cX12_at 27 = .ok (.iload_n 1, 1) := by decide +kernel
theorem dX12_at_28 : decode cX12_at 28 = .ok (.iaload, 1) := by decide +kernel
theorem dX12_at_29 : decode cX12_at 29 = .ok (.iconst 1, 1) := by decide +kernel
theorem dX12_at_30 : decode cX12_at 30 = .ok (.isub, 1) := by decide +kernel
theorem dX12_at_31 : decode cX12_at 31 = .ok (.i2l, 1) := by decide +kernel
theorem dX12_at_32 : decode cX12_at 32 = .ok (.invokestatic 115, 3) := by decide +kernel
theorem dX12_at_35 : decode cX12_at 35 = .ok (.ifCond .eq 13, 3) := by decide +kernel
theorem dX12_at_38 : decode cX12_at 38 = .ok (.aload_n 0, 1) := by decide +kernel
theorem dX12_at_39 : decode cX12_at 39 = .ok (.iload_n 1, 1) := by decide +kernel
theorem dX12_at_40 : decode cX12_at 40 = .ok (.iload_n 2, 1) := by decide +kernel
theorem dX12_at_41 : decode cX12_at 41 = .ok (.iload_n 3, 1) := by decide +kernel
theorem dX12_at_42 : decode cX12_at 42 = .ok (.invokevirtual 266, 3) := by decide +kernel
theorem dX12_at_45 : decode cX12_at 45 = .ok (.goto 6, 3) := by decide +kernel
theorem dX12_at_48 : decode cX12_at 48 = .ok (.sipush 1000, 3) := by decide +kernel
theorem dX12_at_51 : decode cX12_at 51 = .ok (.ireturn, 1) := by decide +kernel
theorem dX12_drop_0 : decode cX12_drop 0 = .ok (.aload_n 0, 1) := by decide +kernel
theorem dX12_drop_1 : decode cX12_drop 1 = .ok (.getfield 221, 3) := by decide +kernel
theorem dX12_drop_4 : decode cX12_drop 4 = .ok (.ifCond .ne 6, 3) := by decide +kernel
theorem dX12_drop_7 : decode cX12_drop 7 = .ok (.bipush (-4), 2) := by decide +kernel
theorem dX12_drop_9 : decode cX12_drop 9 = .ok (.ireturn, 1) := by decide +kernel
theorem dX12_drop_10 : decode cX12_drop 10 = .ok (.aload_n 0, 1) := by decide +kernel
theorem dX12_drop_11 : decode cX12_drop 11 = .ok (.dup, 1) := by decide +kernel
theorem dX12_drop_12 : decode cX12_drop 12 = .ok (.getfield 221, 3) := by decide +kernel
theorem dX12_drop_15 : decode cX12_drop 15 = .ok (.iconst 1, 1) := by decide +kernel
theorem dX12_drop_16 : decode cX12_drop 16 = .ok (.isub, 1) := by decide +kernel
theorem dX12_drop_17 : decode cX12_drop 17 = .ok (.putfield 221, 3) := by decide +kernel
theorem dX12_drop_20 : decode cX12_drop 20 = .ok (.aload_n 0, 1) := by decide +kernel
theorem dX12_drop_21 : decode cX12_drop 21 = .ok (.getfield 221, 3) := by decide +kernel
theorem dX12_drop_24 : decode cX12_drop 24 = .ok (.ireturn, 1) := by decide +kernel
theorem dX12_sheet_0 : decode cX12_sheet 0 = .ok (.iload_n 1, 1) := by decide +kernel
theorem dX12_sheet_1 : decode cX12_sheet 1 = .ok (.i2l, 1) := by decide +kernel
theorem dX12_sheet_2 : decode cX12_sheet 2 = .ok (.lconst 0, 1) := by decide +kernel
theorem dX12_sheet_3 : decode cX12_sheet 3 = .ok (.ldc2_w 257, 3) := by decide +kernel
theorem dX12_sheet_6 : decode cX12_sheet 6 = .ok (.invokestatic 115, 3) := by decide +kernel
theorem dX12_sheet_9 : decode cX12_sheet 9 = .ok (.ifCond .eq 21, 3) := by decide +kernel
theorem dX12_sheet_12 : decode cX12_sheet 12 = .ok (.iload_n 2, 1) := by decide +kernel
theorem dX12_sheet_13 : decode cX12_sheet 13 = .ok (.i2l, 1) := by decide +kernel
theorem dX12_sheet_14 : decode cX12_sheet 14 = .ok (.lconst 0, 1) := by decide +kernel
theorem dX12_sheet_15 : decode cX12_sheet 15 = .ok (.ldc2_w 264, 3) := by decide +kernel
theorem dX12_sheet_18 : decode cX12_sheet 18 = .ok (.invokestatic 115, 3) := by decide +kernel
theorem dX12_sheet_21 : decode cX12_sheet 21 = .ok (.ifCond .eq 9, 3) := by decide +kernel
theorem dX12_sheet_24 : decode cX12_sheet 24 = .ok (.iload_n 3, 1) := by decide +kernel
theorem dX12_sheet_25 : decode cX12_sheet 25 = .ok (.bipush 64, 2) := by decide +kernel
theorem dX12_sheet_27 : decode cX12_sheet 27 = .ok (.if_icmp .le 5, 3) := by decide +kernel
theorem dX12_sheet_30 : decode cX12_sheet 30 = .ok (.iconst (-1), 1) := by decide +kernel
theorem dX12_sheet_31 : decode cX12_sheet 31 = .ok (.ireturn, 1) := by decide +kernel
theorem dX12_sheet_32 : decode cX12_sheet 32 = .ok (.iload_n 3, 1) := by decide +kernel
theorem dX12_sheet_33 : decode cX12_sheet 33 = .ok (.ifCond .ge 6, 3) := by decide +kernel
theorem dX12_sheet_36 : decode cX12_sheet 36 = .ok (.bipush (-14), 2) := by decide +kernel
theorem dX12_sheet_38 : decode cX12_sheet 38 = .ok (.ireturn, 1) := by decide +kernel
theorem dX12_sheet_39 : decode cX12_sheet 39 = .ok (.aload_n 0, 1) := by decide +kernel
theorem dX12_sheet_40 : decode cX12_sheet 40 = .ok (.getfield 72, 3) := by decide +kernel
theorem dX12_sheet_43 : decode cX12_sheet 43 = .ok (.iload_n 1, 1) := by decide +kernel
theorem dX12_sheet_44 : decode cX12_sheet 44 = .ok (.iload_n 2, 1) := by decide +kernel
theorem dX12_sheet_45 : decode cX12_sheet 45 = .ok (.iastore, 1) := by decide +kernel
theorem dX12_sheet_46 : decode cX12_sheet 46 = .ok (.aload_n 0, 1) := by decide +kernel
theorem dX12_sheet_47 : decode cX12_sheet 47 = .ok (.getfield 75, 3) := by decide +kernel
theorem dX12_sheet_50 : decode cX12_sheet 50 = .ok (.iload_n 1, 1) := by decide +kernel
theorem dX12_sheet_51 : decode cX12_sheet 51 = .ok (.iload_n 3, 1) := by decide +kernel
theorem dX12_sheet_52 : decode cX12_sheet 52 = .ok (.iastore, 1) := by decide +kernel
theorem dX12_sheet_53 : decode cX12_sheet 53 = .ok (.iconst 0, 1) := by decide +kernel
theorem dX12_sheet_54 : decode cX12_sheet 54 = .ok (.istore 4, 2) := by decide +kernel
theorem dX12_sheet_56 : decode cX12_sheet 56 = .ok (.iload 4, 2) := by decide +kernel
theorem dX12_sheet_58 : decode cX12_sheet 58 = .ok (.bipush 64, 2) := by decide +kernel
theorem dX12_sheet_60 : decode cX12_sheet 60 = .ok (.if_icmp .ge 22, 3) := by decide +kernel
theorem dX12_sheet_63 : decode cX12_sheet 63 = .ok (.aload_n 0, 1) := by decide +kernel
theorem dX12_sheet_64 : decode cX12_sheet 64 = .ok (.getfield 78, 3) := by decide +kernel
theorem dX12_sheet_67 : decode cX12_sheet 67 = .ok (.bipush 64, 2) := by decide +kernel
theorem dX12_sheet_69 : decode cX12_sheet 69 = .ok (.iload_n 1, 1) := by decide +kernel
theorem dX12_sheet_70 : decode cX12_sheet 70 = .ok (.imul, 1) := by decide +kernel
theorem dX12_sheet_71 : decode cX12_sheet 71 = .ok (.iload 4, 2) := by decide +kernel
theorem dX12_sheet_73 : decode cX12_sheet 73 = .ok (.iadd, 1) := by decide +kernel
theorem dX12_sheet_74 : decode cX12_sheet 74 = .ok (.iconst 0, 1) := by decide +kernel
theorem dX12_sheet_75 : decode cX12_sheet 75 = .ok (.iastore, 1) := by decide +kernel
theorem dX12_sheet_76 : decode cX12_sheet 76 = .ok (.iinc 4 1, 3) := by decide +kernel
theorem dX12_sheet_79 : decode cX12_sheet 79 = .ok (.goto (-23), 3) := by decide +kernel
theorem dX12_sheet_82 : decode cX12_sheet 82 = .ok (.iconst 1, 1) := by decide +kernel
theorem dX12_sheet_83 : decode cX12_sheet 83 = .ok (.ireturn, 1) := by decide +kernel
theorem dX12_lay_0 : decode cX12_lay 0 = .ok (.iload_n 1, 1) := by decide +kernel
theorem dX12_lay_1 : decode cX12_lay 1 = .ok (.i2l, 1) := by decide +kernel
theorem dX12_lay_2 : decode cX12_lay 2 = .ok (.lconst 0, 1) := by decide +kernel
theorem dX12_lay_3 : decode cX12_lay 3 = .ok (.ldc2_w 257, 3) := by decide +kernel
theorem dX12_lay_6 : decode cX12_lay 6 = .ok (.invokestatic 115, 3) := by decide +kernel
theorem dX12_lay_9 : decode cX12_lay 9 = .ok (.ifCond .ne 5, 3) := by decide +kernel
theorem dX12_lay_12 : decode cX12_lay 12 = .ok (.iconst (-1), 1) := by decide +kernel
theorem dX12_lay_13 : decode cX12_lay 13 = .ok (.ireturn, 1) := by decide +kernel
theorem dX12_lay_14 : decode cX12_lay 14 = .ok (.aload_n 0, 1) := by decide +kernel
theorem dX12_lay_15 : decode cX12_lay 15 = .ok (.getfield 72, 3) := by decide +kernel
theorem dX12_lay_18 : decode cX12_lay 18 = .ok (.iload_n 1, 1) := by decide +kernel
theorem dX12_lay_19 : decode cX12_lay 19 = .ok (.iaload, 1) := by decide +kernel
theorem dX12_lay_20 : decode cX12_lay 20 = .ok (.bipush (-4), 2) := by decide +kernel
theorem dX12_lay_22 : decode cX12_lay 22 = .ok (.if_icmp .ne 6, 3) := by decide +kernel
theorem dX12_lay_25 : decode cX12_lay 25 = .ok (.bipush (-11), 2) := by decide +kernel
theorem dX12_lay_27 : decode cX12_lay 27 = .ok (.ireturn, 1) := by decide +kernel
theorem dX12_lay_28 : decode cX12_lay 28 = .ok (.iload_n 2, 1) := by decide +kernel
theorem dX12_lay_29 : decode cX12_lay 29 = .ok (.i2l, 1) := by decide +kernel
theorem dX12_lay_30 : decode cX12_lay 30 = .ok (.lconst 0, 1) := by decide +kernel
theorem dX12_lay_31 : decode cX12_lay 31 = .ok (.aload_n 0, 1) := by decide +kernel
theorem dX12_lay_32 : decode cX12_lay 32 = .ok (.getfield 75, 3) := by decide +kernel
theorem dX12_lay_35 : decode cX12_lay 35 = .ok (.iload_n 1, 1) := by decide +kernel
theorem dX12_lay_36 : decode cX12_lay 36 = .ok (.iaload, 1) := by decide +kernel
theorem dX12_lay_37 : decode cX12_lay 37 = .ok (.iconst 1, 1) := by decide +kernel
theorem dX12_lay_38 : decode cX12_lay 38 = .ok (.isub, 1) := by decide +kernel
theorem dX12_lay_39 : decode cX12_lay 39 = .ok (.i2l, 1) := by decide +kernel
theorem dX12_lay_40 : decode cX12_lay 40 = .ok (.invokestatic 115, 3) := by decide +kernel
theorem dX12_lay_43 : decode cX12_lay 43 = .ok (.ifCond .ne 6, 3) := by decide +kernel
theorem dX12_lay_46 : decode cX12_lay 46 = .ok (.bipush (-12), 2) := by decide +kernel
theorem dX12_lay_48 : decode cX12_lay 48 = .ok (.ireturn, 1) := by decide +kernel
theorem dX12_lay_49 : decode cX12_lay 49 = .ok (.aload_n 0, 1) := by decide +kernel
theorem dX12_lay_50 : decode cX12_lay 50 = .ok (.getfield 78, 3) := by decide +kernel
theorem dX12_lay_53 : decode cX12_lay 53 = .ok (.bipush 64, 2) := by decide +kernel
theorem dX12_lay_55 : decode cX12_lay 55 = .ok (.iload_n 1, 1) := by decide +kernel
theorem dX12_lay_56 : decode cX12_lay 56 = .ok (.imul, 1) := by decide +kernel
theorem dX12_lay_57 : decode cX12_lay 57 = .ok (.iload_n 2, 1) := by decide +kernel
theorem dX12_lay_58 : decode cX12_lay 58 = .ok (.iadd, 1) := by decide +kernel
theorem dX12_lay_59 : decode cX12_lay 59 = .ok (.aload_n 0, 1) := by decide +kernel
theorem dX12_lay_60 : decode cX12_lay 60 = .ok (.getfield 72, 3) := by decide +kernel
theorem dX12_lay_63 : decode cX12_lay 63 = .ok (.iload_n 1, 1) := by decide +kernel
theorem dX12_lay_64 : decode cX12_lay 64 = .ok (.iaload, 1) := by decide +kernel
theorem dX12_lay_65 : decode cX12_lay 65 = .ok (.ifCond .ne 8, 3) := by decide +kernel
theorem dX12_lay_68 : decode cX12_lay 68 = .ok (.iload_n 3, 1) := by decide +kernel
theorem dX12_lay_69 : decode cX12_lay 69 = .ok (.i2b, 1) := by decide +kernel
theorem dX12_lay_70 : decode cX12_lay 70 = .ok (.goto 19, 3) := by decide +kernel
theorem dX12_lay_73 : decode cX12_lay 73 = .ok (.aload_n 0, 1) := by decide +kernel
theorem dX12_lay_74 : decode cX12_lay 74 = .ok (.getfield 72, 3) := by decide +kernel
theorem dX12_lay_77 : decode cX12_lay 77 = .ok (.iload_n 1, 1) := by decide +kernel
theorem dX12_lay_78 : decode cX12_lay 78 = .ok (.iaload, 1) := by decide +kernel
theorem dX12_lay_79 : decode cX12_lay 79 = .ok (.iconst 1, 1) := by decide +kernel
theorem dX12_lay_80 : decode cX12_lay 80 = .ok (.if_icmp .ne 8, 3) := by decide +kernel
theorem dX12_lay_83 : decode cX12_lay 83 = .ok (.iload_n 3, 1) := by decide +kernel
theorem dX12_lay_84 : decode cX12_lay 84 = .ok (.i2s, 1) := by decide +kernel
theorem dX12_lay_85 : decode cX12_lay 85 = .ok (.goto 4, 3) := by decide +kernel
theorem dX12_lay_88 : decode cX12_lay 88 = .ok (.iload_n 3, 1) := by decide +kernel
theorem dX12_lay_89 : decode cX12_lay 89 = .ok (.iastore, 1) := by decide +kernel
theorem dX12_lay_90 : decode cX12_lay 90 = .ok (.iconst 1, 1) := by decide +kernel
theorem dX12_lay_91 : decode cX12_lay 91 = .ok (.ireturn, 1) := by decide +kernel
theorem dX12_mask_0 : decode cX12_mask 0 = .ok (.aload_n 0, 1) := by decide +kernel
theorem dX12_mask_1 : decode cX12_mask 1 = .ok (.iload_n 1, 1) := by decide +kernel
theorem dX12_mask_2 : decode cX12_mask 2 = .ok (.invokevirtual 261, 3) := by decide +kernel
theorem dX12_mask_5 : decode cX12_mask 5 = .ok (.ifCond .eq 45, 3) := by decide +kernel
theorem dX12_mask_8 : decode cX12_mask 8 = .ok (.iload_n 2, 1) := by decide +kernel
theorem dX12_mask_9 : decode cX12_mask 9 = .ok (.i2l, 1) := by decide +kernel
theorem dX12_mask_10 : decode cX12_mask 10 = .ok (.lconst 0, 1) := by decide +kernel
theorem dX12_mask_11 : decode cX12_mask 11 = .ok (.ldc2_w 257, 3) := by decide +kernel
theorem dX12_mask_14 : decode cX12_mask 14 = .ok (.invokestatic 115, 3) := by decide +kernel
theorem dX12_mask_17 : decode cX12_mask 17 = .ok (.ifCond .eq 33, 3) := by decide +kernel
theorem dX12_mask_20 : decode cX12_mask 20 = .ok (.iload_n 3, 1) := by decide +kernel
theorem dX12_mask_21 : decode cX12_mask 21 = .ok (.i2l, 1) := by decide +kernel
theorem dX12_mask_22 : decode cX12_mask 22 = .ok (.lconst 0, 1) := by decide +kernel
theorem dX12_mask_23 : decode cX12_mask 23 = .ok (.ldc2_w 257, 3) := by decide +kernel
theorem dX12_mask_26 : decode cX12_mask 26 = .ok (.invokestatic 115, 3) := by decide +kernel
theorem dX12_mask_29 : decode cX12_mask 29 = .ok (.ifCond .eq 21, 3) := by decide +kernel
theorem dX12_mask_32 : decode cX12_mask 32 = .ok (.iload 4, 2) := by decide +kernel
theorem dX12_mask_34 : decode cX12_mask 34 = .ok (.i2l, 1) := by decide +kernel
theorem dX12_mask_35 : decode cX12_mask 35 = .ok (.lconst 0, 1) := by decide +kernel
theorem dX12_mask_36 : decode cX12_mask 36 = .ok (.ldc2_w 264, 3) := by decide +kernel
theorem dX12_mask_39 : decode cX12_mask 39 = .ok (.invokestatic 115, 3) := by decide +kernel
theorem dX12_mask_42 : decode cX12_mask 42 = .ok (.ifCond .eq 8, 3) := by decide +kernel
theorem dX12_mask_45 : decode cX12_mask 45 = .ok (.iload 6, 2) := by decide +kernel
theorem dX12_mask_47 : decode cX12_mask 47 = .ok (.ifCond .ge 5, 3) := by decide +kernel
theorem dX12_mask_50 : decode cX12_mask 50 = .ok (.iconst (-1), 1) := by decide +kernel
theorem dX12_mask_51 : decode cX12_mask 51 = .ok (.ireturn, 1) := by decide +kernel
theorem dX12_mask_52 : decode cX12_mask 52 = .ok (.aload_n 0, 1) := by decide +kernel
theorem dX12_mask_53 : decode cX12_mask 53 = .ok (.getfield 72, 3) := by decide +kernel
theorem dX12_mask_56 : decode cX12_mask 56 = .ok (.iload_n 3, 1) := by decide +kernel
theorem dX12_mask_57 : decode cX12_mask 57 = .ok (.iaload, 1) := by decide +kernel
theorem dX12_mask_58 : decode cX12_mask 58 = .ok (.iload 4, 2) := by decide +kernel
theorem dX12_mask_60 : decode cX12_mask 60 = .ok (.if_icmp .eq 22, 3) := by decide +kernel
theorem dX12_mask_63 : decode cX12_mask 63 = .ok (.aload_n 0, 1) := by decide +kernel
theorem dX12_mask_64 : decode cX12_mask 64 = .ok (.getfield 72, 3) := by decide +kernel
theorem dX12_mask_67 : decode cX12_mask 67 = .ok (.iload_n 3, 1) := by decide +kernel
theorem dX12_mask_68 : decode cX12_mask 68 = .ok (.iaload, 1) := by decide +kernel
theorem dX12_mask_69 : decode cX12_mask 69 = .ok (.bipush (-4), 2) := by decide +kernel
theorem dX12_mask_71 : decode cX12_mask 71 = .ok (.if_icmp .ne 8, 3) := by decide +kernel
theorem dX12_mask_74 : decode cX12_mask 74 = .ok (.bipush (-11), 2) := by decide +kernel
theorem dX12_mask_76 : decode cX12_mask 76 = .ok (.goto 5, 3) := by decide +kernel
theorem dX12_mask_79 : decode cX12_mask 79 = .ok (.bipush (-13), 2) := by decide +kernel
theorem dX12_mask_81 : decode cX12_mask 81 = .ok (.ireturn, 1) := by decide +kernel
theorem dX12_mask_82 : decode cX12_mask 82 = .ok (.ldc2_w 264, 3) := by decide +kernel
theorem dX12_mask_85 : decode cX12_mask 85 = .ok (.iload 6, 2) := by decide +kernel
theorem dX12_mask_87 : decode cX12_mask 87 = .ok (.i2l, 1) := by decide +kernel
theorem dX12_mask_88 : decode cX12_mask 88 = .ok (.lmul, 1) := by decide +kernel
theorem dX12_mask_89 : decode cX12_mask 89 = .ok (.aload_n 0, 1) := by decide +kernel
theorem dX12_mask_90 : decode cX12_mask 90 = .ok (.getfield 75, 3) := by decide +kernel
theorem dX12_mask_93 : decode cX12_mask 93 = .ok (.iload_n 3, 1) := by decide +kernel
theorem dX12_mask_94 : decode cX12_mask 94 = .ok (.iaload, 1) := by decide +kernel
theorem dX12_mask_95 : decode cX12_mask 95 = .ok (.i2l, 1) := by decide +kernel
theorem dX12_mask_96 : decode cX12_mask 96 = .ok (.lcmp, 1) := by decide +kernel
theorem dX12_mask_97 : decode cX12_mask 97 = .ok (.ifCond .le 6, 3) := by decide +kernel
theorem dX12_mask_100 : decode cX12_mask 100 = .ok (.bipush (-12), 2) := by decide +kernel
theorem dX12_mask_102 : decode cX12_mask 102 = .ok (.ireturn, 1) := by decide +kernel
theorem dX12_mask_103 : decode cX12_mask 103 = .ok (.iconst 0, 1) := by decide +kernel
theorem dX12_mask_104 : decode cX12_mask 104 = .ok (.istore 7, 2) := by decide +kernel
theorem dX12_mask_106 : decode cX12_mask 106 = .ok (.bipush (-4), 2) := by decide +kernel
theorem dX12_mask_108 : decode cX12_mask 108 = .ok (.istore 8, 2) := by decide +kernel
theorem dX12_mask_110 : decode cX12_mask 110 = .ok (.iconst 0, 1) := by decide +kernel
theorem dX12_mask_111 : decode cX12_mask 111 = .ok (.istore 9, 2) := by decide +kernel
theorem dX12_mask_113 : decode cX12_mask 113 = .ok (.iload 9, 2) := by decide +kernel
theorem dX12_mask_115 : decode cX12_mask 115 = .ok (.iload 6, 2) := by decide +kernel
theorem dX12_mask_117 : decode cX12_mask 117 = .ok (.if_icmp .ge 105, 3) := by decide +kernel
theorem dX12_mask_120 : decode cX12_mask 120 = .ok (.iload 5, 2) := by decide +kernel
theorem dX12_mask_122 : decode cX12_mask 122 = .ok (.i2l, 1) := by decide +kernel
theorem dX12_mask_123 : decode cX12_mask 123 = .ok (.iload 9, 2) := by decide +kernel
theorem dX12_mask_125 : decode cX12_mask 125 = .ok (.i2l, 1) := by decide +kernel
theorem dX12_mask_126 : decode cX12_mask 126 = .ok (.ladd, 1) := by decide +kernel
theorem dX12_mask_127 : decode cX12_mask 127 = .ok (.lstore 10, 2) := by decide +kernel
theorem dX12_mask_129 : decode cX12_mask 129 = .ok (.lload 10, 2) := by decide +kernel
theorem dX12_mask_131 : decode cX12_mask 131 = .ok (.lconst 0, 1) := by decide +kernel
theorem dX12_mask_132 : decode cX12_mask 132 = .ok (.aload_n 0, 1) := by decide +kernel
theorem dX12_mask_133 : decode cX12_mask 133 = .ok (.getfield 63, 3) := by decide +kernel
theorem dX12_mask_136 : decode cX12_mask 136 = .ok (.iload_n 1, 1) := by decide +kernel
theorem dX12_mask_137 : decode cX12_mask 137 = .ok (.iaload, 1) := by decide +kernel
theorem dX12_mask_138 : decode cX12_mask 138 = .ok (.i2l, 1) := by decide +kernel
theorem dX12_mask_139 : decode cX12_mask 139 = .ok (.lconst 1, 1) := by decide +kernel
theorem dX12_mask_140 : decode cX12_mask 140 = .ok (.lsub, 1) := by decide +kernel
theorem dX12_mask_141 : decode cX12_mask 141 = .ok (.invokestatic 115, 3) := by decide +kernel
theorem dX12_mask_144 : decode cX12_mask 144 = .ok (.ifCond .eq 72, 3) := by decide +kernel
theorem dX12_mask_147 : decode cX12_mask 147 = .ok (.aload_n 0, 1) := by decide +kernel
theorem dX12_mask_148 : decode cX12_mask 148 = .ok (.iload_n 1, 1) := by decide +kernel
theorem dX12_mask_149 : decode cX12_mask 149 = .ok (.iload_n 2, 1) := by decide +kernel
theorem dX12_mask_150 : decode cX12_mask 150 = .ok (.lload 10, 2) := by decide +kernel
theorem dX12_mask_152 : decode cX12_mask 152 = .ok (.l2i, 1) := by decide +kernel
theorem dX12_mask_153 : decode cX12_mask 153 = .ok (.invokevirtual 266, 3) := by decide +kernel
theorem dX12_mask_156 : decode cX12_mask 156 = .ok (.istore 12, 2) := by decide +kernel
theorem dX12_mask_158 : decode cX12_mask 158 = .ok (.iload 12, 2) := by decide +kernel
theorem dX12_mask_160 : decode cX12_mask 160 = .ok (.aload_n 0, 1) := by decide +kernel
theorem dX12_mask_161 : decode cX12_mask 161 = .ok (.getfield 78, 3) := by decide +kernel
theorem dX12_mask_164 : decode cX12_mask 164 = .ok (.bipush 64, 2) := by decide +kernel
theorem dX12_mask_166 : decode cX12_mask 166 = .ok (.iload_n 3, 1) := by decide +kernel
theorem dX12_mask_167 : decode cX12_mask 167 = .ok (.imul, 1) := by decide +kernel
theorem dX12_mask_168 : decode cX12_mask 168 = .ok (.iconst 2, 1) := by decide +kernel
theorem dX12_mask_169 : decode cX12_mask 169 = .ok (.iload 9, 2) := by decide +kernel
theorem dX12_mask_171 : decode cX12_mask 171 = .ok (.imul, 1) := by decide +kernel
theorem dX12_mask_172 : decode cX12_mask 172 = .ok (.iadd, 1) := by decide +kernel
theorem dX12_mask_173 : decode cX12_mask 173 = .ok (.iaload, 1) := by decide +kernel
theorem dX12_mask_174 : decode cX12_mask 174 = .ok (.if_icmp .lt 24, 3) := by decide +kernel
theorem dX12_mask_177 : decode cX12_mask 177 = .ok (.iload 12, 2) := by decide +kernel
theorem dX12_mask_179 : decode cX12_mask 179 = .ok (.aload_n 0, 1) := by decide +kernel
theorem dX12_mask_180 : decode cX12_mask 180 = .ok (.getfield 78, 3) := by decide +kernel
theorem dX12_mask_183 : decode cX12_mask 183 = .ok (.bipush 64, 2) := by decide +kernel
theorem dX12_mask_185 : decode cX12_mask 185 = .ok (.iload_n 3, 1) := by decide +kernel
theorem dX12_mask_186 : decode cX12_mask 186 = .ok (.imul, 1) := by decide +kernel
theorem dX12_mask_187 : decode cX12_mask 187 = .ok (.iconst 2, 1) := by decide +kernel
theorem dX12_mask_188 : decode cX12_mask 188 = .ok (.iload 9, 2) := by decide +kernel
theorem dX12_mask_190 : decode cX12_mask 190 = .ok (.imul, 1) := by decide +kernel
theorem dX12_mask_191 : decode cX12_mask 191 = .ok (.iadd, 1) := by decide +kernel
theorem dX12_mask_192 : decode cX12_mask 192 = .ok (.iconst 1, 1) := by decide +kernel
theorem dX12_mask_193 : decode cX12_mask 193 = .ok (.iadd, 1) := by decide +kernel
theorem dX12_mask_194 : decode cX12_mask 194 = .ok (.iaload, 1) := by decide +kernel
theorem dX12_mask_195 : decode cX12_mask 195 = .ok (.if_icmp .le 21, 3) := by decide +kernel
theorem dX12_mask_198 : decode cX12_mask 198 = .ok (.iload 7, 2) := by decide +kernel
theorem dX12_mask_200 : decode cX12_mask 200 = .ok (.ifCond .ne 9, 3) := by decide +kernel
theorem dX12_mask_203 : decode cX12_mask 203 = .ok (.lload 10, 2) := by decide +kernel
theorem dX12_mask_205 : decode cX12_mask 205 = .ok (.l2i, 1) := by decide +kernel
theorem dX12_mask_206 : decode cX12_mask 206 = .ok (.goto 5, 3) := by decide +kernel
theorem dX12_mask_209 : decode cX12_mask 209 = .ok (.iload 8, 2) := by decide +kernel
theorem dX12_mask_211 : decode cX12_mask 211 = .ok (.istore 8, 2) := by decide +kernel
theorem dX12_mask_213 : decode cX12_mask 213 = .ok (.iinc 7 1, 3) := by decide +kernel
theorem dX12_mask_216 : decode cX12_mask 216 = .ok (.iinc 9 1, 3) := by decide +kernel
theorem dX12_mask_219 : decode cX12_mask 219 = .ok (.goto (-106), 3) := by decide +kernel
theorem dX12_mask_222 : decode cX12_mask 222 = .ok (.aload_n 0, 1) := by decide +kernel
theorem dX12_mask_223 : decode cX12_mask 223 = .ok (.iload 8, 2) := by decide +kernel
theorem dX12_mask_225 : decode cX12_mask 225 = .ok (.putfield 81, 3) := by decide +kernel
theorem dX12_mask_228 : decode cX12_mask 228 = .ok (.iload 7, 2) := by decide +kernel
theorem dX12_mask_230 : decode cX12_mask 230 = .ok (.ireturn, 1) := by decide +kernel
theorem dX12_first_0 : decode cX12_first 0 = .ok (.aload_n 0, 1) := by decide +kernel
theorem dX12_first_1 : decode cX12_first 1 = .ok (.getfield 81, 3) := by decide +kernel
theorem dX12_first_4 : decode cX12_first 4 = .ok (.ireturn, 1) := by decide +kernel
theorem dX12_isRow_0 : decode cX12_isRow 0 = .ok (.iload_n 1, 1) := by decide +kernel
theorem dX12_isRow_1 : decode cX12_isRow 1 = .ok (.i2l, 1) := by decide +kernel
theorem dX12_isRow_2 : decode cX12_isRow 2 = .ok (.lconst 0, 1) := by decide +kernel
theorem dX12_isRow_3 : decode cX12_isRow 3 = .ok (.ldc2_w 257, 3) := by decide +kernel
theorem dX12_isRow_6 : decode cX12_isRow 6 = .ok (.invokestatic 115, 3) := by decide +kernel
theorem dX12_isRow_9 : decode cX12_isRow 9 = .ok (.ifCond .eq 18, 3) := by decide +kernel
theorem dX12_isRow_12 : decode cX12_isRow 12 = .ok (.aload_n 0, 1) := by decide +kernel
theorem dX12_isRow_13 : decode cX12_isRow 13 = .ok (.getfield 84, 3) := by decide +kernel
theorem dX12_isRow_16 : decode cX12_isRow 16 = .ok (.iload_n 1, 1) := by decide +kernel
theorem dX12_isRow_17 : decode cX12_isRow 17 = .ok (.iaload, 1) := by decide +kernel
theorem dX12_isRow_18 : decode cX12_isRow 18 = .ok (.bipush (-4), 2) := by decide +kernel
theorem dX12_isRow_20 : decode cX12_isRow 20 = .ok (.if_icmp .eq 7, 3) := by decide +kernel
theorem dX12_isRow_23 : decode cX12_isRow 23 = .ok (.iconst 1, 1) := by decide +kernel
theorem dX12_isRow_24 : decode cX12_isRow 24 = .ok (.goto 4, 3) := by decide +kernel
theorem dX12_isRow_27 : decode cX12_isRow 27 = .ok (.iconst 0, 1) := by decide +kernel
theorem dX12_isRow_28 : decode cX12_isRow 28 = .ok (.ireturn, 1) := by decide +kernel
theorem dX12_row_0 : decode cX12_row 0 = .ok (.iload_n 1, 1) := by decide +kernel
theorem dX12_row_1 : decode cX12_row 1 = .ok (.i2l, 1) := by decide +kernel
theorem dX12_row_2 : decode cX12_row 2 = .ok (.lconst 0, 1) := by decide +kernel
theorem dX12_row_3 : decode cX12_row 3 = .ok (.ldc2_w 257, 3) := by decide +kernel
theorem dX12_row_6 : decode cX12_row 6 = .ok (.invokestatic 115, 3) := by decide +kernel
theorem dX12_row_9 : decode cX12_row 9 = .ok (.ifCond .eq 23, 3) := by decide +kernel
theorem dX12_row_12 : decode cX12_row 12 = .ok (.aload_n 0, 1) := by decide +kernel
theorem dX12_row_13 : decode cX12_row 13 = .ok (.iload_n 2, 1) := by decide +kernel
theorem dX12_row_14 : decode cX12_row 14 = .ok (.invokevirtual 261, 3) := by decide +kernel
theorem dX12_row_17 : decode cX12_row 17 = .ok (.ifCond .eq 15, 3) := by decide +kernel
theorem dX12_row_20 : decode cX12_row 20 = .ok (.iload_n 3, 1) := by decide +kernel
theorem dX12_row_21 : decode cX12_row 21 = .ok (.i2l, 1) := by decide +kernel
theorem dX12_row_22 : decode cX12_row 22 = .ok (.lconst 0, 1) := by decide +kernel
theorem dX12_row_23 : decode cX12_row 23 = .ok (.ldc2_w 257, 3) := by decide +kernel
theorem dX12_row_26 : decode cX12_row 26 = .ok (.invokestatic 115, 3) := by decide +kernel
theorem dX12_row_29 : decode cX12_row 29 = .ok (.ifCond .ne 5, 3) := by decide +kernel
theorem dX12_row_32 : decode cX12_row 32 = .ok (.iconst (-1), 1) := by decide +kernel
theorem dX12_row_33 : decode cX12_row 33 = .ok (.ireturn, 1) := by decide +kernel
theorem dX12_row_34 : decode cX12_row 34 = .ok (.aload_n 0, 1) := by decide +kernel
theorem dX12_row_35 : decode cX12_row 35 = .ok (.getfield 84, 3) := by decide +kernel
theorem dX12_row_38 : decode cX12_row 38 = .ok (.iload_n 1, 1) := by decide +kernel
theorem dX12_row_39 : decode cX12_row 39 = .ok (.aload_n 0, 1) := by decide +kernel
theorem dX12_row_40 : decode cX12_row 40 = .ok (.getfield 63, 3) := by decide +kernel
theorem dX12_row_43 : decode cX12_row 43 = .ok (.iload_n 2, 1) := by decide +kernel
theorem dX12_row_44 : decode cX12_row 44 = .ok (.iaload, 1) := by decide +kernel
theorem dX12_row_45 : decode cX12_row 45 = .ok (.iastore, 1) := by decide +kernel
theorem dX12_row_46 : decode cX12_row 46 = .ok (.iconst 0, 1) := by decide +kernel
theorem dX12_row_47 : decode cX12_row 47 = .ok (.istore 4, 2) := by decide +kernel
theorem dX12_row_49 : decode cX12_row 49 = .ok (.iload 4, 2) := by decide +kernel
theorem dX12_row_51 : decode cX12_row 51 = .ok (.aload_n 0, 1) := by decide +kernel
theorem dX12_row_52 : decode cX12_row 52 = .ok (.getfield 63, 3) := by decide +kernel
theorem dX12_row_55 : decode cX12_row 55 = .ok (.iload_n 2, 1) := by decide +kernel
theorem dX12_row_56 : decode cX12_row 56 = .ok (.iaload, 1) := by decide +kernel
theorem dX12_row_57 : decode cX12_row 57 = .ok (.if_icmp .ge 45, 3) := by decide +kernel
theorem dX12_row_60 : decode cX12_row 60 = .ok (.aload_n 0, 1) := by decide +kernel
theorem dX12_row_61 : decode cX12_row 61 = .ok (.getfield 87, 3) := by decide +kernel
theorem dX12_row_64 : decode cX12_row 64 = .ok (.sipush 201, 3) := by decide +kernel
theorem dX12_row_67 : decode cX12_row 67 = .ok (.iload_n 1, 1) := by decide +kernel
theorem dX12_row_68 : decode cX12_row 68 = .ok (.imul, 1) := by decide +kernel
theorem dX12_row_69 : decode cX12_row 69 = .ok (.iload 4, 2) := by decide +kernel
theorem dX12_row_71 : decode cX12_row 71 = .ok (.iadd, 1) := by decide +kernel
theorem dX12_row_72 : decode cX12_row 72 = .ok (.aload_n 0, 1) := by decide +kernel
theorem dX12_row_73 : decode cX12_row 73 = .ok (.iload_n 2, 1) := by decide +kernel
theorem dX12_row_74 : decode cX12_row 74 = .ok (.iload_n 3, 1) := by decide +kernel
theorem dX12_row_75 : decode cX12_row 75 = .ok (.iload 4, 2) := by decide +kernel
theorem dX12_row_77 : decode cX12_row 77 = .ok (.invokevirtual 266, 3) := by decide +kernel
theorem dX12_row_80 : decode cX12_row 80 = .ok (.i2l, 1) := by decide +kernel
theorem dX12_row_81 : decode cX12_row 81 = .ok (.lastore, 1) := by decide +kernel
theorem dX12_row_82 : decode cX12_row 82 = .ok (.aload_n 0, 1) := by decide +kernel
theorem dX12_row_83 : decode cX12_row 83 = .ok (.getfield 91, 3) := by decide +kernel
theorem dX12_row_86 : decode cX12_row 86 = .ok (.sipush 201, 3) := by decide +kernel
theorem dX12_row_89 : decode cX12_row 89 = .ok (.iload_n 1, 1) := by decide +kernel
theorem dX12_row_90 : decode cX12_row 90 = .ok (.imul, 1) := by decide +kernel
theorem dX12_row_91 : decode cX12_row 91 = .ok (.iload 4, 2) := by decide +kernel
theorem dX12_row_93 : decode cX12_row 93 = .ok (.iadd, 1) := by decide +kernel
theorem dX12_row_94 : decode cX12_row 94 = .ok (.iconst 0, 1) := by decide +kernel
theorem dX12_row_95 : decode cX12_row 95 = .ok (.bastore, 1) := by decide +kernel
theorem dX12_row_96 : decode cX12_row 96 = .ok (.iinc 4 1, 3) := by decide +kernel
theorem dX12_row_99 : decode cX12_row 99 = .ok (.goto (-50), 3) := by decide +kernel
theorem dX12_row_102 : decode cX12_row 102 = .ok (.aload_n 0, 1) := by decide +kernel
theorem dX12_row_103 : decode cX12_row 103 = .ok (.getfield 84, 3) := by decide +kernel
theorem dX12_row_106 : decode cX12_row 106 = .ok (.iload_n 1, 1) := by decide +kernel
theorem dX12_row_107 : decode cX12_row 107 = .ok (.iaload, 1) := by decide +kernel
theorem dX12_row_108 : decode cX12_row 108 = .ok (.ireturn, 1) := by decide +kernel
theorem dX12_single_0 : decode cX12_single 0 = .ok (.sipush 201, 3) := by decide +kernel
theorem dX12_single_3 : decode cX12_single 3 = .ok (.iload_n 2, 1) := by decide +kernel
theorem dX12_single_4 : decode cX12_single 4 = .ok (.imul, 1) := by decide +kernel
theorem dX12_single_5 : decode cX12_single 5 = .ok (.iload 4, 2) := by decide +kernel
theorem dX12_single_7 : decode cX12_single 7 = .ok (.iadd, 1) := by decide +kernel
theorem dX12_single_8 : decode cX12_single 8 = .ok (.istore 5, 2) := by decide +kernel
theorem dX12_single_10 : decode cX12_single 10 = .ok (.aload_n 0, 1) := by decide +kernel
theorem dX12_single_11 : decode cX12_single 11 = .ok (.getfield 91, 3) := by decide +kernel
theorem dX12_single_14 : decode cX12_single 14 = .ok (.iload 5, 2) := by decide +kernel
theorem dX12_single_16 : decode cX12_single 16 = .ok (.baload, 1) := by decide +kernel
theorem dX12_single_17 : decode cX12_single 17 = .ok (.istore 6, 2) := by decide +kernel
theorem dX12_single_19 : decode cX12_single 19 = .ok (.aload_n 0, 1) := by decide +kernel
theorem dX12_single_20 : decode cX12_single 20 = .ok (.getfield 87, 3) := by decide +kernel
theorem dX12_single_23 : decode cX12_single 23 = .ok (.iload 5, 2) := by decide +kernel
theorem dX12_single_25 : decode cX12_single 25 = .ok (.laload, 1) := by decide +kernel
theorem dX12_single_26 : decode cX12_single 26 = .ok (.lstore 7, 2) := by decide +kernel
theorem dX12_single_28 : decode cX12_single 28 = .ok (.iload_n 1, 1) := by decide +kernel
theorem dX12_single_29 : decode cX12_single 29 = .ok (.iconst 3, 1) := by decide +kernel
theorem dX12_single_30 : decode cX12_single 30 = .ok (.if_icmp .ne 83, 3) := by decide +kernel
theorem dX12_single_33 : decode cX12_single 33 = .ok (.iload 4, 2) := by decide +kernel
theorem dX12_single_35 : decode cX12_single 35 = .ok (.iconst 1, 1) := by decide +kernel
theorem dX12_single_36 : decode cX12_single 36 = .ok (.iadd, 1) := by decide +kernel
theorem dX12_single_37 : decode cX12_single 37 = .ok (.iload_n 3, 1) := by decide +kernel
theorem dX12_single_38 : decode cX12_single 38 = .ok (.if_icmp .ge 7, 3) := by decide +kernel
theorem dX12_single_41 : decode cX12_single 41 = .ok (.iconst 1, 1) := by decide +kernel
theorem dX12_single_42 : decode cX12_single 42 = .ok (.goto 4, 3) := by decide +kernel
theorem dX12_single_45 : decode cX12_single 45 = .ok (.iconst 0, 1) := by decide +kernel
theorem dX12_single_46 : decode cX12_single 46 = .ok (.istore 6, 2) := by decide +kernel
theorem dX12_single_48 : decode cX12_single 48 = .ok (.lconst 0, 1) := by decide +kernel
theorem dX12_single_49 : decode cX12_single 49 = .ok (.lstore 7, 2) := by decide +kernel
theorem dX12_single_51 : decode cX12_single 51 = .ok (.iload 4, 2) := by decide +kernel
theorem dX12_single_53 : decode cX12_single 53 = .ok (.iload_n 3, 1) := by decide +kernel
theorem dX12_single_54 : decode cX12_single 54 = .ok (.isub, 1) := by decide +kernel
theorem dX12_single_55 : decode cX12_single 55 = .ok (.iconst 1, 1) := by decide +kernel
theorem dX12_single_56 : decode cX12_single 56 = .ok (.iadd, 1) := by decide +kernel
theorem dX12_single_57 : decode cX12_single 57 = .ok (.istore 9, 2) := by decide +kernel
theorem dX12_single_59 : decode cX12_single 59 = .ok (.iload 9, 2) := by decide +kernel
theorem dX12_single_61 : decode cX12_single 61 = .ok (.iload 4, 2) := by decide +kernel
theorem dX12_single_63 : decode cX12_single 63 = .ok (.if_icmp .gt 47, 3) := by decide +kernel
theorem dX12_single_66 : decode cX12_single 66 = .ok (.iload 6, 2) := by decide +kernel
theorem dX12_single_68 : decode cX12_single 68 = .ok (.ifCond .ne 42, 3) := by decide +kernel
theorem dX12_single_71 : decode cX12_single 71 = .ok (.aload_n 0, 1) := by decide +kernel
theorem dX12_single_72 : decode cX12_single 72 = .ok (.getfield 91, 3) := by decide +kernel
theorem dX12_single_75 : decode cX12_single 75 = .ok (.sipush 201, 3) := by decide +kernel
theorem dX12_single_78 : decode cX12_single 78 = .ok (.iload_n 2, 1) := by decide +kernel
theorem dX12_single_79 : decode cX12_single 79 = .ok (.imul, 1) := by decide +kernel
theorem dX12_single_80 : decode cX12_single 80 = .ok (.iload 9, 2) := by decide +kernel
theorem dX12_single_82 : decode cX12_single 82 = .ok (.iadd, 1) := by decide +kernel
theorem dX12_single_83 : decode cX12_single 83 = .ok (.baload, 1) := by decide +kernel
theorem dX12_single_84 : decode cX12_single 84 = .ok (.istore 6, 2) := by decide +kernel
theorem dX12_single_86 : decode cX12_single 86 = .ok (.lload 7, 2) := by decide +kernel
theorem dX12_single_88 : decode cX12_single 88 = .ok (.aload_n 0, 1) := by decide +kernel
theorem dX12_single_89 : decode cX12_single 89 = .ok (.getfield 87, 3) := by decide +kernel
theorem dX12_single_92 : decode cX12_single 92 = .ok (.sipush 201, 3) := by decide +kernel
theorem dX12_single_95 : decode cX12_single 95 = .ok (.iload_n 2, 1) := by decide +kernel
theorem dX12_single_96 : decode cX12_single 96 = .ok (.imul, 1) := by decide +kernel
theorem dX12_single_97 : decode cX12_single 97 = .ok (.iload 9, 2) := by decide +kernel
theorem dX12_single_99 : decode cX12_single 99 = .ok (.iadd, 1) := by decide +kernel
theorem dX12_single_100 : decode cX12_single 100 = .ok (.laload, 1) := by decide +kernel
theorem dX12_single_101 : decode cX12_single 101 = .ok (.ladd, 1) := by decide +kernel
theorem dX12_single_102 : decode cX12_single 102 = .ok (.lstore 7, 2) := by decide +kernel
theorem dX12_single_104 : decode cX12_single 104 = .ok (.iinc 9 1, 3) := by decide +kernel
theorem dX12_single_107 : decode cX12_single 107 = .ok (.goto (-48), 3) := by decide +kernel
theorem dX12_single_110 : decode cX12_single 110 = .ok (.goto 144, 3) := by decide +kernel
theorem dX12_single_113 : decode cX12_single 113 = .ok (.iload_n 1, 1) := by decide +kernel
theorem dX12_single_114 : decode cX12_single 114 = .ok (.iconst 4, 1) := by decide +kernel
theorem dX12_single_115 : decode cX12_single 115 = .ok (.if_icmp .ne 59, 3) := by decide +kernel
theorem dX12_single_118 : decode cX12_single 118 = .ok (.iload 6, 2) := by decide +kernel
theorem dX12_single_120 : decode cX12_single 120 = .ok (.ifCond .ne 21, 3) := by decide +kernel
theorem dX12_single_123 : decode cX12_single 123 = .ok (.iload 4, 2) := by decide +kernel
theorem dX12_single_125 : decode cX12_single 125 = .ok (.iload_n 3, 1) := by decide +kernel
theorem dX12_single_126 : decode cX12_single 126 = .ok (.if_icmp .lt 15, 3) := by decide +kernel
theorem dX12_single_129 : decode cX12_single 129 = .ok (.aload_n 0, 1) := by decide +kernel
theorem dX12_single_130 : decode cX12_single 130 = .ok (.getfield 91, 3) := by decide +kernel
theorem dX12_single_133 : decode cX12_single 133 = .ok (.iload 5, 2) := by decide +kernel
theorem dX12_single_135 : decode cX12_single 135 = .ok (.iload_n 3, 1) := by decide +kernel
theorem dX12_single_136 : decode cX12_single 136 = .ok (.isub, 1) := by decide +kernel
theorem dX12_single_137 : decode cX12_single 137 = .ok (.baload, 1) := by decide +kernel
theorem dX12_single_138 : decode cX12_single 138 = .ok (.ifCond .eq 7, 3) := by decide +kernel
theorem dX12_single_141 : decode cX12_single 141 = .ok (.iconst 1, 1) := by decide +kernel
theorem dX12_single_142 : decode cX12_single 142 = .ok (.goto 4, 3) := by decide +kernel
theorem dX12_single_145 : decode cX12_single 145 = .ok (.iconst 0, 1) := by decide +kernel
theorem dX12_single_146 : decode cX12_single 146 = .ok (.istore 6, 2) := by decide +kernel
theorem dX12_single_148 : decode cX12_single 148 = .ok (.iload 6, 2) := by decide +kernel
theorem dX12_single_150 : decode cX12_single 150 = .ok (.ifCond .eq 7, 3) := by decide +kernel
theorem dX12_single_153 : decode cX12_single 153 = .ok (.lconst 0, 1) := by decide +kernel
theorem dX12_single_154 : decode cX12_single 154 = .ok (.goto 15, 3) := by decide +kernel
theorem dX12_single_157 : decode cX12_single 157 = .ok (.lload 7, 2) := by decide +kernel
theorem dX12_single_159 : decode cX12_single 159 = .ok (.aload_n 0, 1) := by decide +kernel
theorem dX12_single_160 : decode cX12_single 160 = .ok (.getfield 87, 3) := by decide +kernel
theorem dX12_single_163 : decode cX12_single 163 = .ok (.iload 5, 2) := by decide +kernel
theorem dX12_single_165 : decode cX12_single 165 = .ok (.iload_n 3, 1) := by decide +kernel
theorem dX12_single_166 : decode cX12_single 166 = .ok (.isub, 1) := by decide +kernel
theorem dX12_single_167 : decode cX12_single 167 = .ok (.laload, 1) := by decide +kernel
theorem dX12_single_168 : decode cX12_single 168 = .ok (.lsub, 1) := by decide +kernel
theorem dX12_single_169 : decode cX12_single 169 = .ok (.lstore 7, 2) := by decide +kernel
theorem dX12_single_171 : decode cX12_single 171 = .ok (.goto 83, 3) := by decide +kernel
theorem dX12_single_174 : decode cX12_single 174 = .ok (.iload_n 1, 1) := by decide +kernel
theorem dX12_single_175 : decode cX12_single 175 = .ok (.iconst 5, 1) := by decide +kernel
theorem dX12_single_176 : decode cX12_single 176 = .ok (.if_icmp .ne 26, 3) := by decide +kernel
theorem dX12_single_179 : decode cX12_single 179 = .ok (.iload 6, 2) := by decide +kernel
theorem dX12_single_181 : decode cX12_single 181 = .ok (.ifCond .ne 11, 3) := by decide +kernel
theorem dX12_single_184 : decode cX12_single 184 = .ok (.lload 7, 2) := by decide +kernel
theorem dX12_single_186 : decode cX12_single 186 = .ok (.iload_n 3, 1) := by decide +kernel
theorem dX12_single_187 : decode cX12_single 187 = .ok (.i2l, 1) := by decide +kernel
theorem dX12_single_188 : decode cX12_single 188 = .ok (.lcmp, 1) := by decide +kernel
theorem dX12_single_189 : decode cX12_single 189 = .ok (.ifCond .ge 7, 3) := by decide +kernel
theorem dX12_single_192 : decode cX12_single 192 = .ok (.iconst 1, 1) := by decide +kernel
theorem dX12_single_193 : decode cX12_single 193 = .ok (.goto 4, 3) := by decide +kernel
theorem dX12_single_196 : decode cX12_single 196 = .ok (.iconst 0, 1) := by decide +kernel
theorem dX12_single_197 : decode cX12_single 197 = .ok (.istore 6, 2) := by decide +kernel
theorem dX12_single_199 : decode cX12_single 199 = .ok (.goto 55, 3) := by decide +kernel
theorem dX12_single_202 : decode cX12_single 202 = .ok (.iload_n 1, 1) := by decide +kernel
theorem dX12_single_203 : decode cX12_single 203 = .ok (.bipush 6, 2) := by decide +kernel
theorem dX12_single_205 : decode cX12_single 205 = .ok (.if_icmp .ne 42, 3) := by decide +kernel
theorem dX12_single_208 : decode cX12_single 208 = .ok (.iload 6, 2) := by decide +kernel
theorem dX12_single_210 : decode cX12_single 210 = .ok (.ifCond .eq 44, 3) := by decide +kernel
theorem dX12_single_213 : decode cX12_single 213 = .ok (.iload 4, 2) := by decide +kernel
theorem dX12_single_215 : decode cX12_single 215 = .ok (.ifCond .le 39, 3) := by decide +kernel
theorem dX12_single_218 : decode cX12_single 218 = .ok (.aload_n 0, 1) := by decide +kernel
theorem dX12_single_219 : decode cX12_single 219 = .ok (.getfield 98, 3) := by decide +kernel
theorem dX12_single_222 : decode cX12_single 222 = .ok (.iload 4, 2) := by decide +kernel
theorem dX12_single_224 : decode cX12_single 224 = .ok (.iconst 1, 1) := by decide +kernel
theorem dX12_single_225 : decode cX12_single 225 = .ok (.isub, 1) := by decide +kernel
theorem dX12_single_226 : decode cX12_single 226 = .ok (.baload, 1) := by decide +kernel
theorem dX12_single_227 : decode cX12_single 227 = .ok (.ifCond .ne 27, 3) := by decide +kernel
theorem dX12_single_230 : decode cX12_single 230 = .ok (.iconst 0, 1) := by decide +kernel
theorem dX12_single_231 : decode cX12_single 231 = .ok (.istore 6, 2) := by decide +kernel
theorem dX12_single_233 : decode cX12_single 233 = .ok (.aload_n 0, 1) := by decide +kernel
theorem dX12_single_234 : decode cX12_single 234 = .ok (.getfield 95, 3) := by decide +kernel
theorem dX12_single_237 : decode cX12_single 237 = .ok (.iload 4, 2) := by decide +kernel
theorem dX12_single_239 : decode cX12_single 239 = .ok (.iconst 1, 1) := by decide +kernel
theorem dX12_single_240 : decode cX12_single 240 = .ok (.isub, 1) := by decide +kernel
theorem dX12_single_241 : decode cX12_single 241 = .ok (.laload, 1) := by decide +kernel
theorem dX12_single_242 : decode cX12_single 242 = .ok (.lstore 7, 2) := by decide +kernel
theorem dX12_single_244 : decode cX12_single 244 = .ok (.goto 10, 3) := by decide +kernel
theorem dX12_single_247 : decode cX12_single 247 = .ok (.iload_n 3, 1) := by decide +kernel
theorem dX12_single_248 : decode cX12_single 248 = .ok (.i2l, 1) := by decide +kernel
theorem dX12_single_249 : decode cX12_single 249 = .ok (.lload 7, 2) := by decide +kernel
theorem dX12_single_251 : decode cX12_single 251 = .ok (.lmul, 1) := by decide +kernel
theorem dX12_single_252 : decode cX12_single 252 = .ok (.lstore 7, 2) := by decide +kernel
theorem dX12_single_254 : decode cX12_single 254 = .ok (.aload_n 0, 1) := by decide +kernel
theorem dX12_single_255 : decode cX12_single 255 = .ok (.getfield 95, 3) := by decide +kernel
theorem dX12_single_258 : decode cX12_single 258 = .ok (.iload 4, 2) := by decide +kernel
theorem dX12_single_260 : decode cX12_single 260 = .ok (.iload 6, 2) := by decide +kernel
theorem dX12_single_262 : decode cX12_single 262 = .ok (.ifCond .eq 7, 3) := by decide +kernel
theorem dX12_single_265 : decode cX12_single 265 = .ok (.lconst 0, 1) := by decide +kernel
theorem dX12_single_266 : decode cX12_single 266 = .ok (.goto 5, 3) := by decide +kernel
theorem dX12_single_269 : decode cX12_single 269 = .ok (.lload 7, 2) := by decide +kernel
theorem dX12_single_271 : decode cX12_single 271 = .ok (.lastore, 1) := by decide +kernel
theorem dX12_single_272 : decode cX12_single 272 = .ok (.aload_n 0, 1) := by decide +kernel
theorem dX12_single_273 : decode cX12_single 273 = .ok (.getfield 98, 3) := by decide +kernel
theorem dX12_single_276 : decode cX12_single 276 = .ok (.iload 4, 2) := by decide +kernel
theorem dX12_single_278 : decode cX12_single 278 = .ok (.iload 6, 2) := by decide +kernel
theorem dX12_single_280 : decode cX12_single 280 = .ok (.bastore, 1) := by decide +kernel
theorem dX12_single_281 : decode cX12_single 281 = .ok (.return_, 1) := by decide +kernel
theorem dX12_reckon_0 : decode cX12_reckon 0 = .ok (.iload_n 1, 1) := by decide +kernel
theorem dX12_reckon_1 : decode cX12_reckon 1 = .ok (.i2l, 1) := by decide +kernel
theorem dX12_reckon_2 : decode cX12_reckon 2 = .ok (.lconst 0, 1) := by decide +kernel
theorem dX12_reckon_3 : decode cX12_reckon 3 = .ok (.ldc2_w 257, 3) := by decide +kernel
theorem dX12_reckon_6 : decode cX12_reckon 6 = .ok (.invokestatic 115, 3) := by decide +kernel
theorem dX12_reckon_9 : decode cX12_reckon 9 = .ok (.ifCond .eq 82, 3) := by decide +kernel
theorem dX12_reckon_12 : decode cX12_reckon 12 = .ok (.iload_n 2, 1) := by decide +kernel
theorem dX12_reckon_13 : decode cX12_reckon 13 = .ok (.i2l, 1) := by decide +kernel
theorem dX12_reckon_14 : decode cX12_reckon 14 = .ok (.lconst 0, 1) := by decide +kernel
theorem dX12_reckon_15 : decode cX12_reckon 15 = .ok (.ldc2_w 269, 3) := by decide +kernel
theorem dX12_reckon_18 : decode cX12_reckon 18 = .ok (.invokestatic 115, 3) := by decide +kernel
theorem dX12_reckon_21 : decode cX12_reckon 21 = .ok (.ifCond .eq 70, 3) := by decide +kernel
theorem dX12_reckon_24 : decode cX12_reckon 24 = .ok (.aload_n 0, 1) := by decide +kernel
theorem dX12_reckon_25 : decode cX12_reckon 25 = .ok (.iload_n 3, 1) := by decide +kernel
theorem dX12_reckon_26 : decode cX12_reckon 26 = .ok (.invokevirtual 254, 3) := by decide +kernel
theorem dX12_reckon_29 : decode cX12_reckon 29 = .ok (.ifCond .eq 62, 3) := by decide +kernel
theorem dX12_reckon_32 : decode cX12_reckon 32 = .ok (.iload_n 2, 1) := by decide +kernel
theorem dX12_reckon_33 : decode cX12_reckon 33 = .ok (.iconst 3, 1) := by decide +kernel
theorem dX12_reckon_34 : decode cX12_reckon 34 = .ok (.if_icmp .ge 12, 3) := by decide +kernel
theorem dX12_reckon_37 : decode cX12_reckon 37 = .ok (.aload_n 0, 1) := by decide +kernel
theorem dX12_reckon_38 : decode cX12_reckon 38 = .ok (.iload 4, 2) := by decide +kernel
theorem dX12_reckon_40 : decode cX12_reckon 40 = .ok (.invokevirtual 254, 3) := by decide +kernel
theorem dX12_reckon_43 : decode cX12_reckon 43 = .ok (.ifCond .eq 48, 3) := by decide +kernel
theorem dX12_reckon_46 : decode cX12_reckon 46 = .ok (.iload 5, 2) := by decide +kernel
theorem dX12_reckon_48 : decode cX12_reckon 48 = .ok (.i2l, 1) := by decide +kernel
theorem dX12_reckon_49 : decode cX12_reckon 49 = .ok (.iload_n 2, 1) := by decide +kernel
theorem dX12_reckon_50 : decode cX12_reckon 50 = .ok (.iconst 3, 1) := by decide +kernel
theorem dX12_reckon_51 : decode cX12_reckon 51 = .ok (.if_icmp .eq 8, 3) := by decide +kernel
theorem dX12_reckon_54 : decode cX12_reckon 54 = .ok (.iload_n 2, 1) := by decide +kernel
theorem dX12_reckon_55 : decode cX12_reckon 55 = .ok (.iconst 4, 1) := by decide +kernel
theorem dX12_reckon_56 : decode cX12_reckon 56 = .ok (.if_icmp .ne 7, 3) := by decide +kernel
theorem dX12_reckon_59 : decode cX12_reckon 59 = .ok (.lconst 1, 1) := by decide +kernel
theorem dX12_reckon_60 : decode cX12_reckon 60 = .ok (.goto 6, 3) := by decide +kernel
theorem dX12_reckon_63 : decode cX12_reckon 63 = .ok (.ldc2_w 271, 3) := by decide +kernel
theorem dX12_reckon_66 : decode cX12_reckon 66 = .ok (.iload_n 2, 1) := by decide +kernel
theorem dX12_reckon_67 : decode cX12_reckon 67 = .ok (.iconst 3, 1) := by decide +kernel
theorem dX12_reckon_68 : decode cX12_reckon 68 = .ok (.if_icmp .eq 8, 3) := by decide +kernel
theorem dX12_reckon_71 : decode cX12_reckon 71 = .ok (.iload_n 2, 1) := by decide +kernel
theorem dX12_reckon_72 : decode cX12_reckon 72 = .ok (.iconst 4, 1) := by decide +kernel
theorem dX12_reckon_73 : decode cX12_reckon 73 = .ok (.if_icmp .ne 9, 3) := by decide +kernel
theorem dX12_reckon_76 : decode cX12_reckon 76 = .ok (.ldc2_w 259, 3) := by decide +kernel
theorem dX12_reckon_79 : decode cX12_reckon 79 = .ok (.goto 6, 3) := by decide +kernel
theorem dX12_reckon_82 : decode cX12_reckon 82 = .ok (.ldc2_w 273, 3) := by decide +kernel
theorem dX12_reckon_85 : decode cX12_reckon 85 = .ok (.invokestatic 115, 3) := by decide +kernel
theorem dX12_reckon_88 : decode cX12_reckon 88 = .ok (.ifCond .ne 5, 3) := by decide +kernel
theorem dX12_reckon_91 : decode cX12_reckon 91 = .ok (.iconst (-1), 1) := by decide +kernel
theorem dX12_reckon_92 : decode cX12_reckon 92 = .ok (.ireturn, 1) := by decide +kernel
theorem dX12_reckon_93 : decode cX12_reckon 93 = .ok (.iload_n 2, 1) := by decide +kernel
theorem dX12_reckon_94 : decode cX12_reckon 94 = .ok (.iconst 3, 1) := by decide +kernel
theorem dX12_reckon_95 : decode cX12_reckon 95 = .ok (.if_icmp .ge 29, 3) := by decide +kernel
theorem dX12_reckon_98 : decode cX12_reckon 98 = .ok (.aload_n 0, 1) := by decide +kernel
theorem dX12_reckon_99 : decode cX12_reckon 99 = .ok (.getfield 84, 3) := by decide +kernel
theorem dX12_reckon_102 : decode cX12_reckon 102 = .ok (.iload 4, 2) := by decide +kernel
theorem dX12_reckon_104 : decode cX12_reckon 104 = .ok (.iaload, 1) := by decide +kernel
theorem dX12_reckon_105 : decode cX12_reckon 105 = .ok (.aload_n 0, 1) := by decide +kernel
theorem dX12_reckon_106 : decode cX12_reckon 106 = .ok (.getfield 84, 3) := by decide +kernel
theorem dX12_reckon_109 : decode cX12_reckon 109 = .ok (.iload_n 3, 1) := by decide +kernel
theorem dX12_reckon_110 : decode cX12_reckon 110 = .ok (.iaload, 1) := by decide +kernel
theorem dX12_reckon_111 : decode cX12_reckon 111 = .ok (.if_icmp .ge 13, 3) := by decide +kernel
theorem dX12_reckon_114 : decode cX12_reckon 114 = .ok (.aload_n 0, 1) := by decide +kernel
theorem dX12_reckon_115 : decode cX12_reckon 115 = .ok (.getfield 84, 3) := by decide +kernel
theorem dX12_reckon_118 : decode cX12_reckon 118 = .ok (.iload 4, 2) := by decide +kernel
theorem dX12_reckon_120 : decode cX12_reckon 120 = .ok (.iaload, 1) := by decide +kernel
theorem dX12_reckon_121 : decode cX12_reckon 121 = .ok (.goto 9, 3) := by decide +kernel
theorem dX12_reckon_124 : decode cX12_reckon 124 = .ok (.aload_n 0, 1) := by decide +kernel
theorem dX12_reckon_125 : decode cX12_reckon 125 = .ok (.getfield 84, 3) := by decide +kernel
theorem dX12_reckon_128 : decode cX12_reckon 128 = .ok (.iload_n 3, 1) := by decide +kernel
theorem dX12_reckon_129 : decode cX12_reckon 129 = .ok (.iaload, 1) := by decide +kernel
theorem dX12_reckon_130 : decode cX12_reckon 130 = .ok (.istore 6, 2) := by decide +kernel
theorem dX12_reckon_132 : decode cX12_reckon 132 = .ok (.iconst 0, 1) := by decide +kernel
theorem dX12_reckon_133 : decode cX12_reckon 133 = .ok (.istore 7, 2) := by decide +kernel
theorem dX12_reckon_135 : decode cX12_reckon 135 = .ok (.iload 7, 2) := by decide +kernel
theorem dX12_reckon_137 : decode cX12_reckon 137 = .ok (.iload 6, 2) := by decide +kernel
theorem dX12_reckon_139 : decode cX12_reckon 139 = .ok (.if_icmp .ge 165, 3) := by decide +kernel
theorem dX12_reckon_142 : decode cX12_reckon 142 = .ok (.iload_n 2, 1) := by decide +kernel
theorem dX12_reckon_143 : decode cX12_reckon 143 = .ok (.iconst 3, 1) := by decide +kernel
theorem dX12_reckon_144 : decode cX12_reckon 144 = .ok (.if_icmp .ge 144, 3) := by decide +kernel
theorem dX12_reckon_147 : decode cX12_reckon 147 = .ok (.sipush 201, 3) := by decide +kernel
theorem dX12_reckon_150 : decode cX12_reckon 150 = .ok (.iload_n 3, 1) := by decide +kernel
theorem dX12_reckon_151 : decode cX12_reckon 151 = .ok (.imul, 1) := by decide +kernel
theorem dX12_reckon_152 : decode cX12_reckon 152 = .ok (.iload 7, 2) := by decide +kernel
theorem dX12_reckon_154 : decode cX12_reckon 154 = .ok (.iadd, 1) := by decide +kernel
theorem dX12_reckon_155 : decode cX12_reckon 155 = .ok (.istore 8, 2) := by decide +kernel
theorem dX12_reckon_157 : decode cX12_reckon 157 = .ok (.sipush 201, 3) := by decide +kernel
theorem dX12_reckon_160 : decode cX12_reckon 160 = .ok (.iload 4, 2) := by decide +kernel
theorem dX12_reckon_162 : decode cX12_reckon 162 = .ok (.imul, 1) := by decide +kernel
theorem dX12_reckon_163 : decode cX12_reckon 163 = .ok (.iload 7, 2) := by decide +kernel
theorem dX12_reckon_165 : decode cX12_reckon 165 = .ok (.iadd, 1) := by decide +kernel
theorem dX12_reckon_166 : decode cX12_reckon 166 = .ok (.istore 9, 2) := by decide +kernel
theorem dX12_reckon_168 : decode cX12_reckon 168 = .ok (.aload_n 0, 1) := by decide +kernel
theorem dX12_reckon_169 : decode cX12_reckon 169 = .ok (.getfield 98, 3) := by decide +kernel
theorem dX12_reckon_172 : decode cX12_reckon 172 = .ok (.iload 7, 2) := by decide +kernel
theorem dX12_reckon_174 : decode cX12_reckon 174 = .ok (.aload_n 0, 1) := by decide +kernel
theorem dX12_reckon_175 : decode cX12_reckon 175 = .ok (.getfield 91, 3) := by decide +kernel
theorem dX12_reckon_178 : decode cX12_reckon 178 = .ok (.iload 8, 2) := by decide +kernel
theorem dX12_reckon_180 : decode cX12_reckon 180 = .ok (.baload, 1) := by decide +kernel
theorem dX12_reckon_181 : decode cX12_reckon 181 = .ok (.ifCond .ne 13, 3) := by decide +kernel
theorem dX12_reckon_184 : decode cX12_reckon 184 = .ok (.aload_n 0, 1) := by decide +kernel
theorem dX12_reckon_185 : decode cX12_reckon 185 = .ok (.getfield 91, 3) := by decide +kernel
theorem dX12_reckon_188 : decode cX12_reckon 188 = .ok (.iload 9, 2) := by decide +kernel
theorem dX12_reckon_190 : decode cX12_reckon 190 = .ok (.baload, 1) := by decide +kernel
theorem dX12_reckon_191 : decode cX12_reckon 191 = .ok (.ifCond .eq 7, 3) := by decide +kernel
theorem dX12_reckon_194 : decode cX12_reckon 194 = .ok (.iconst 1, 1) := by decide +kernel
theorem dX12_reckon_195 : decode cX12_reckon 195 = .ok (.goto 4, 3) := by decide +kernel
theorem dX12_reckon_198 : decode cX12_reckon 198 = .ok (.iconst 0, 1) := by decide +kernel
theorem dX12_reckon_199 : decode cX12_reckon 199 = .ok (.bastore, 1) := by decide +kernel
theorem dX12_reckon_200 : decode cX12_reckon 200 = .ok (.iload_n 2, 1) := by decide +kernel
theorem dX12_reckon_201 : decode cX12_reckon 201 = .ok (.ifCond .ne 21, 3) := by decide +kernel
theorem dX12_reckon_204 : decode cX12_reckon 204 = .ok (.aload_n 0, 1) := by decide +kernel
theorem dX12_reckon_205 : decode cX12_reckon 205 = .ok (.getfield 87, 3) := by decide +kernel
theorem dX12_reckon_208 : decode cX12_reckon 208 = .ok (.iload 8, 2) := by decide +kernel
theorem dX12_reckon_210 : decode cX12_reckon 210 = .ok (.laload, 1) := by decide +kernel
theorem dX12_reckon_211 : decode cX12_reckon 211 = .ok (.aload_n 0, 1) := by decide +kernel
theorem dX12_reckon_212 : decode cX12_reckon 212 = .ok (.getfield 87, 3) := by decide +kernel
theorem dX12_reckon_215 : decode cX12_reckon 215 = .ok (.iload 9, 2) := by decide +kernel
theorem dX12_reckon_217 : decode cX12_reckon 217 = .ok (.laload, 1) := by decide +kernel
theorem dX12_reckon_218 : decode cX12_reckon 218 = .ok (.ladd, 1) := by decide +kernel
theorem dX12_reckon_219 : decode cX12_reckon 219 = .ok (.goto 41, 3) := by decide +kernel
theorem dX12_reckon_222 : decode cX12_reckon 222 = .ok (.iload_n 2, 1) := by decide +kernel
theorem dX12_reckon_223 : decode cX12_reckon 223 = .ok (.iconst 1, 1) := by decide +kernel
theorem dX12_reckon_224 : decode cX12_reckon 224 = .ok (.if_icmp .ne 21, 3) := by decide +kernel
theorem dX12_reckon_227 : decode cX12_reckon 227 = .ok (.aload_n 0, 1) := by decide +kernel
theorem dX12_reckon_228 : decode cX12_reckon 228 = .ok (.getfield 87, 3) := by decide +kernel
theorem dX12_reckon_231 : decode cX12_reckon 231 = .ok (.iload 8, 2) := by decide +kernel
theorem dX12_reckon_233 : decode cX12_reckon 233 = .ok (.laload, 1) := by decide +kernel
theorem dX12_reckon_234 : decode cX12_reckon 234 = .ok (.aload_n 0, 1) := by decide +kernel
theorem dX12_reckon_235 : decode cX12_reckon 235 = .ok (.getfield 87, 3) := by decide +kernel
theorem dX12_reckon_238 : decode cX12_reckon 238 = .ok (.iload 9, 2) := by decide +kernel
theorem dX12_reckon_240 : decode cX12_reckon 240 = .ok (.laload, 1) := by decide +kernel
theorem dX12_reckon_241 : decode cX12_reckon 241 = .ok (.lsub, 1) := by decide +kernel
theorem dX12_reckon_242 : decode cX12_reckon 242 = .ok (.goto 18, 3) := by decide +kernel
theorem dX12_reckon_245 : decode cX12_reckon 245 = .ok (.aload_n 0, 1) := by decide +kernel
theorem dX12_reckon_246 : decode cX12_reckon 246 = .ok (.getfield 87, 3) := by decide +kernel
theorem dX12_reckon_249 : decode cX12_reckon 249 = .ok (.iload 8, 2) := by decide +kernel
theorem dX12_reckon_251 : decode cX12_reckon 251 = .ok (.laload, 1) := by decide +kernel
theorem dX12_reckon_252 : decode cX12_reckon 252 = .ok (.aload_n 0, 1) := by decide +kernel
theorem dX12_reckon_253 : decode cX12_reckon 253 = .ok (.getfield 87, 3) := by decide +kernel
theorem dX12_reckon_256 : decode cX12_reckon 256 = .ok (.iload 9, 2) := by decide +kernel
theorem dX12_reckon_258 : decode cX12_reckon 258 = .ok (.laload, 1) := by decide +kernel
theorem dX12_reckon_259 : decode cX12_reckon 259 = .ok (.lmul, 1) := by decide +kernel
theorem dX12_reckon_260 : decode cX12_reckon 260 = .ok (.lstore 10, 2) := by decide +kernel
theorem dX12_reckon_262 : decode cX12_reckon 262 = .ok (.aload_n 0, 1) := by decide +kernel
theorem dX12_reckon_263 : decode cX12_reckon 263 = .ok (.getfield 95, 3) := by decide +kernel
theorem dX12_reckon_266 : decode cX12_reckon 266 = .ok (.iload 7, 2) := by decide +kernel
theorem dX12_reckon_268 : decode cX12_reckon 268 = .ok (.aload_n 0, 1) := by decide +kernel
theorem dX12_reckon_269 : decode cX12_reckon 269 = .ok (.getfield 98, 3) := by decide +kernel
theorem dX12_reckon_272 : decode cX12_reckon 272 = .ok (.iload 7, 2) := by decide +kernel
theorem dX12_reckon_274 : decode cX12_reckon 274 = .ok (.baload, 1) := by decide +kernel
theorem dX12_reckon_275 : decode cX12_reckon 275 = .ok (.ifCond .eq 7, 3) := by decide +kernel
theorem dX12_reckon_278 : decode cX12_reckon 278 = .ok (.lconst 0, 1) := by decide +kernel
theorem dX12_reckon_279 : decode cX12_reckon 279 = .ok (.goto 5, 3) := by decide +kernel
theorem dX12_reckon_282 : decode cX12_reckon 282 = .ok (.lload 10, 2) := by decide +kernel
theorem dX12_reckon_284 : decode cX12_reckon 284 = .ok (.lastore, 1) := by decide +kernel
theorem dX12_reckon_285 : decode cX12_reckon 285 = .ok (.goto 13, 3) := by decide +kernel
theorem dX12_reckon_288 : decode cX12_reckon 288 = .ok (.aload_n 0, 1) := by decide +kernel
theorem dX12_reckon_289 : decode cX12_reckon 289 = .ok (.iload_n 2, 1) := by decide +kernel
theorem dX12_reckon_290 : decode cX12_reckon 290 = .ok (.iload_n 3, 1) := by decide +kernel
theorem dX12_reckon_291 : decode cX12_reckon 291 = .ok (.iload 5, 2) := by decide +kernel
theorem dX12_reckon_293 : decode cX12_reckon 293 = .ok (.iload 7, 2) := by decide +kernel
theorem dX12_reckon_295 : decode cX12_reckon 295 = .ok (.invokevirtual 275, 3) := by decide +kernel
theorem dX12_reckon_298 : decode cX12_reckon 298 = .ok (.iinc 7 1, 3) := by decide +kernel
theorem dX12_reckon_301 : decode cX12_reckon 301 = .ok (.goto (-166), 3) := by decide +kernel
theorem dX12_reckon_304 : decode cX12_reckon 304 = .ok (.iconst 0, 1) := by decide +kernel
theorem dX12_reckon_305 : decode cX12_reckon 305 = .ok (.istore 7, 2) := by decide +kernel
theorem dX12_reckon_307 : decode cX12_reckon 307 = .ok (.iload 7, 2) := by decide +kernel
theorem dX12_reckon_309 : decode cX12_reckon 309 = .ok (.iload 6, 2) := by decide +kernel
theorem dX12_reckon_311 : decode cX12_reckon 311 = .ok (.if_icmp .ge 49, 3) := by decide +kernel
theorem dX12_reckon_314 : decode cX12_reckon 314 = .ok (.aload_n 0, 1) := by decide +kernel
theorem dX12_reckon_315 : decode cX12_reckon 315 = .ok (.getfield 87, 3) := by decide +kernel
theorem dX12_reckon_318 : decode cX12_reckon 318 = .ok (.sipush 201, 3) := by decide +kernel
theorem dX12_reckon_321 : decode cX12_reckon 321 = .ok (.iload_n 1, 1) := by decide +kernel
theorem dX12_reckon_322 : decode cX12_reckon 322 = .ok (.imul, 1) := by decide +kernel
theorem dX12_reckon_323 : decode cX12_reckon 323 = .ok (.iload 7, 2) := by decide +kernel
theorem dX12_reckon_325 : decode cX12_reckon 325 = .ok (.iadd, 1) := by decide +kernel
theorem dX12_reckon_326 : decode cX12_reckon 326 = .ok (.aload_n 0, 1) := by decide +kernel
theorem dX12_reckon_327 : decode cX12_reckon 327 = .ok (.getfield 95, 3) := by decide +kernel
theorem dX12_reckon_330 : decode cX12_reckon 330 = .ok (.iload 7, 2) := by decide +kernel
theorem dX12_reckon_332 : decode cX12_reckon 332 = .ok (.laload, 1) := by decide +kernel
theorem dX12_reckon_333 : decode cX12_reckon 333 = .ok (.lastore, 1) := by decide +kernel
theorem dX12_reckon_334 : decode cX12_reckon 334 = .ok (.aload_n 0, 1) := by decide +kernel
theorem dX12_reckon_335 : decode cX12_reckon 335 = .ok (.getfield 91, 3) := by decide +kernel
theorem dX12_reckon_338 : decode cX12_reckon 338 = .ok (.sipush 201, 3) := by decide +kernel
theorem dX12_reckon_341 : decode cX12_reckon 341 = .ok (.iload_n 1, 1) := by decide +kernel
theorem dX12_reckon_342 : decode cX12_reckon 342 = .ok (.imul, 1) := by decide +kernel
theorem dX12_reckon_343 : decode cX12_reckon 343 = .ok (.iload 7, 2) := by decide +kernel
theorem dX12_reckon_345 : decode cX12_reckon 345 = .ok (.iadd, 1) := by decide +kernel
theorem dX12_reckon_346 : decode cX12_reckon 346 = .ok (.aload_n 0, 1) := by decide +kernel
theorem dX12_reckon_347 : decode cX12_reckon 347 = .ok (.getfield 98, 3) := by decide +kernel
theorem dX12_reckon_350 : decode cX12_reckon 350 = .ok (.iload 7, 2) := by decide +kernel
theorem dX12_reckon_352 : decode cX12_reckon 352 = .ok (.baload, 1) := by decide +kernel
theorem dX12_reckon_353 : decode cX12_reckon 353 = .ok (.bastore, 1) := by decide +kernel
theorem dX12_reckon_354 : decode cX12_reckon 354 = .ok (.iinc 7 1, 3) := by decide +kernel
theorem dX12_reckon_357 : decode cX12_reckon 357 = .ok (.goto (-50), 3) := by decide +kernel
theorem dX12_reckon_360 : decode cX12_reckon 360 = .ok (.aload_n 0, 1) := by decide +kernel
theorem dX12_reckon_361 : decode cX12_reckon 361 = .ok (.getfield 84, 3) := by decide +kernel
theorem dX12_reckon_364 : decode cX12_reckon 364 = .ok (.iload_n 1, 1) := by decide +kernel
theorem dX12_reckon_365 : decode cX12_reckon 365 = .ok (.iload 6, 2) := by decide +kernel
theorem dX12_reckon_367 : decode cX12_reckon 367 = .ok (.iastore, 1) := by decide +kernel
theorem dX12_reckon_368 : decode cX12_reckon 368 = .ok (.iload 6, 2) := by decide +kernel
theorem dX12_reckon_370 : decode cX12_reckon 370 = .ok (.ireturn, 1) := by decide +kernel
theorem dX12_place_0 : decode cX12_place 0 = .ok (.aload_n 0, 1) := by decide +kernel
theorem dX12_place_1 : decode cX12_place 1 = .ok (.iload_n 1, 1) := by decide +kernel
theorem dX12_place_2 : decode cX12_place 2 = .ok (.invokevirtual 254, 3) := by decide +kernel
theorem dX12_place_5 : decode cX12_place 5 = .ok (.ifCond .eq 51, 3) := by decide +kernel
theorem dX12_place_8 : decode cX12_place 8 = .ok (.iload_n 2, 1) := by decide +kernel
theorem dX12_place_9 : decode cX12_place 9 = .ok (.i2l, 1) := by decide +kernel
theorem dX12_place_10 : decode cX12_place 10 = .ok (.lconst 0, 1) := by decide +kernel
theorem dX12_place_11 : decode cX12_place 11 = .ok (.aload_n 0, 1) := by decide +kernel
theorem dX12_place_12 : decode cX12_place 12 = .ok (.getfield 84, 3) := by decide +kernel
theorem dX12_place_15 : decode cX12_place 15 = .ok (.iload_n 1, 1) := by decide +kernel
theorem dX12_place_16 : decode cX12_place 16 = .ok (.iaload, 1) := by decide +kernel
theorem dX12_place_17 : decode cX12_place 17 = .ok (.iconst 1, 1) := by decide +kernel
theorem dX12_place_18 : decode cX12_place 18 = .ok (.isub, 1) := by decide +kernel
theorem dX12_place_19 : decode cX12_place 19 = .ok (.i2l, 1) := by decide +kernel
theorem dX12_place_20 : decode cX12_place 20 = .ok (.invokestatic 115, 3) := by decide +kernel
theorem dX12_place_23 : decode cX12_place 23 = .ok (.ifCond .eq 33, 3) := by decide +kernel
theorem dX12_place_26 : decode cX12_place 26 = .ok (.aload_n 0, 1) := by decide +kernel
theorem dX12_place_27 : decode cX12_place 27 = .ok (.getfield 91, 3) := by decide +kernel
theorem dX12_place_30 : decode cX12_place 30 = .ok (.sipush 201, 3) := by decide +kernel
theorem dX12_place_33 : decode cX12_place 33 = .ok (.iload_n 1, 1) := by decide +kernel
theorem dX12_place_34 : decode cX12_place 34 = .ok (.imul, 1) := by decide +kernel
theorem dX12_place_35 : decode cX12_place 35 = .ok (.iload_n 2, 1) := by decide +kernel
theorem dX12_place_36 : decode cX12_place 36 = .ok (.iadd, 1) := by decide +kernel
theorem dX12_place_37 : decode cX12_place 37 = .ok (.baload, 1) := by decide +kernel
theorem dX12_place_38 : decode cX12_place 38 = .ok (.ifCond .ne 18, 3) := by decide +kernel
theorem dX12_place_41 : decode cX12_place 41 = .ok (.aload_n 0, 1) := by decide +kernel
theorem dX12_place_42 : decode cX12_place 42 = .ok (.getfield 87, 3) := by decide +kernel
theorem dX12_place_45 : decode cX12_place 45 = .ok (.sipush 201, 3) := by decide +kernel
theorem dX12_place_48 : decode cX12_place 48 = .ok (.iload_n 1, 1) := by decide +kernel
theorem dX12_place_49 : decode cX12_place 49 = .ok (.imul, 1) := by decide +kernel
theorem dX12_place_50 : decode cX12_place 50 = .ok (.iload_n 2, 1) := by decide +kernel
theorem dX12_place_51 : decode cX12_place 51 = .ok (.iadd, 1) := by decide +kernel
theorem dX12_place_52 : decode cX12_place 52 = .ok (.laload, 1) := by decide +kernel
theorem dX12_place_53 : decode cX12_place 53 = .ok (.goto 4, 3) := by decide +kernel
theorem dX12_place_56 : decode cX12_place 56 = .ok (.lconst 0, 1) := by decide +kernel
theorem dX12_place_57 : decode cX12_place 57 = .ok (.lreturn, 1) := by decide +kernel
theorem dX12_about_0 : decode cX12_about 0 = .ok (.aload_n 0, 1) := by decide +kernel
theorem dX12_about_1 : decode cX12_about 1 = .ok (.iload_n 1, 1) := by decide +kernel
theorem dX12_about_2 : decode cX12_about 2 = .ok (.invokevirtual 254, 3) := by decide +kernel
theorem dX12_about_5 : decode cX12_about 5 = .ok (.ifCond .eq 15, 3) := by decide +kernel
theorem dX12_about_8 : decode cX12_about 8 = .ok (.iload_n 2, 1) := by decide +kernel
theorem dX12_about_9 : decode cX12_about 9 = .ok (.i2l, 1) := by decide +kernel
theorem dX12_about_10 : decode cX12_about 10 = .ok (.lconst 0, 1) := by decide +kernel
theorem dX12_about_11 : decode cX12_about 11 = .ok (.ldc2_w 279, 3) := by decide +kernel
theorem dX12_about_14 : decode cX12_about 14 = .ok (.invokestatic 115, 3) := by decide +kernel
theorem dX12_about_17 : decode cX12_about 17 = .ok (.ifCond .ne 5, 3) := by decide +kernel
theorem dX12_about_20 : decode cX12_about 20 = .ok (.iconst (-1), 1) := by decide +kernel
theorem dX12_about_21 : decode cX12_about 21 = .ok (.ireturn, 1) := by decide +kernel
theorem dX12_about_22 : decode cX12_about 22 = .ok (.iconst 0, 1) := by decide +kernel
theorem dX12_about_23 : decode cX12_about 23 = .ok (.istore_n 3, 1) := by decide +kernel
theorem dX12_about_24 : decode cX12_about 24 = .ok (.bipush (-4), 2) := by decide +kernel
theorem dX12_about_26 : decode cX12_about 26 = .ok (.istore 4, 2) := by decide +kernel
theorem dX12_about_28 : decode cX12_about 28 = .ok (.bipush (-4), 2) := by decide +kernel
theorem dX12_about_30 : decode cX12_about 30 = .ok (.istore 5, 2) := by decide +kernel
theorem dX12_about_32 : decode cX12_about 32 = .ok (.bipush (-4), 2) := by decide +kernel
theorem dX12_about_34 : decode cX12_about 34 = .ok (.istore 6, 2) := by decide +kernel
theorem dX12_about_36 : decode cX12_about 36 = .ok (.iconst 0, 1) := by decide +kernel
theorem dX12_about_37 : decode cX12_about 37 = .ok (.istore 7, 2) := by decide +kernel
theorem dX12_about_39 : decode cX12_about 39 = .ok (.iload 7, 2) := by decide +kernel
theorem dX12_about_41 : decode cX12_about 41 = .ok (.aload_n 0, 1) := by decide +kernel
theorem dX12_about_42 : decode cX12_about 42 = .ok (.getfield 84, 3) := by decide +kernel
theorem dX12_about_45 : decode cX12_about 45 = .ok (.iload_n 1, 1) := by decide +kernel
theorem dX12_about_46 : decode cX12_about 46 = .ok (.iaload, 1) := by decide +kernel
theorem dX12_about_47 : decode cX12_about 47 = .ok (.if_icmp .ge 131, 3) := by decide +kernel
theorem dX12_about_50 : decode cX12_about 50 = .ok (.sipush 201, 3) := by decide +kernel
theorem dX12_about_53 : decode cX12_about 53 = .ok (.iload_n 1, 1) := by decide +kernel
theorem dX12_about_54 : decode cX12_about 54 = .ok (.imul, 1) := by decide +kernel
theorem dX12_about_55 : decode cX12_about 55 = .ok (.iload 7, 2) := by decide +kernel
theorem dX12_about_57 : decode cX12_about 57 = .ok (.iadd, 1) := by decide +kernel
theorem dX12_about_58 : decode cX12_about 58 = .ok (.istore 8, 2) := by decide +kernel
theorem dX12_about_60 : decode cX12_about 60 = .ok (.aload_n 0, 1) := by decide +kernel
theorem dX12_about_61 : decode cX12_about 61 = .ok (.getfield 91, 3) := by decide +kernel
theorem dX12_about_64 : decode cX12_about 64 = .ok (.iload 8, 2) := by decide +kernel
theorem dX12_about_66 : decode cX12_about 66 = .ok (.baload, 1) := by decide +kernel
theorem dX12_about_67 : decode cX12_about 67 = .ok (.ifCond .eq 25, 3) := by decide +kernel
theorem dX12_about_70 : decode cX12_about 70 = .ok (.iinc 3 1, 3) := by decide +kernel
theorem dX12_about_73 : decode cX12_about 73 = .ok (.iload 6, 2) := by decide +kernel
theorem dX12_about_75 : decode cX12_about 75 = .ok (.bipush (-4), 2) := by decide +kernel
theorem dX12_about_77 : decode cX12_about 77 = .ok (.if_icmp .ne 8, 3) := by decide +kernel
theorem dX12_about_80 : decode cX12_about 80 = .ok (.iload 7, 2) := by decide +kernel
theorem dX12_about_82 : decode cX12_about 82 = .ok (.goto 5, 3) := by decide +kernel
theorem dX12_about_85 : decode cX12_about 85 = .ok (.iload 6, 2) := by decide +kernel
theorem dX12_about_87 : decode cX12_about 87 = .ok (.istore 6, 2) := by decide +kernel
theorem dX12_about_89 : decode cX12_about 89 = .ok (.goto 83, 3) := by decide +kernel
theorem dX12_about_92 : decode cX12_about 92 = .ok (.iload 4, 2) := by decide +kernel
theorem dX12_about_94 : decode cX12_about 94 = .ok (.bipush (-4), 2) := by decide +kernel
theorem dX12_about_96 : decode cX12_about 96 = .ok (.if_icmp .eq 27, 3) := by decide +kernel
theorem dX12_about_99 : decode cX12_about 99 = .ok (.aload_n 0, 1) := by decide +kernel
theorem dX12_about_100 : decode cX12_about 100 = .ok (.getfield 87, 3) := by decide +kernel
theorem dX12_about_103 : decode cX12_about 103 = .ok (.iload 8, 2) := by decide +kernel
theorem dX12_about_105 : decode cX12_about 105 = .ok (.laload, 1) := by decide +kernel
theorem dX12_about_106 : decode cX12_about 106 = .ok (.aload_n 0, 1) := by decide +kernel
theorem dX12_about_107 : decode cX12_about 107 = .ok (.getfield 87, 3) := by decide +kernel
theorem dX12_about_110 : decode cX12_about 110 = .ok (.sipush 201, 3) := by decide +kernel
theorem dX12_about_113 : decode cX12_about 113 = .ok (.iload_n 1, 1) := by decide +kernel
theorem dX12_about_114 : decode cX12_about 114 = .ok (.imul, 1) := by decide +kernel
theorem dX12_about_115 : decode cX12_about 115 = .ok (.iload 4, 2) := by decide +kernel
theorem dX12_about_117 : decode cX12_about 117 = .ok (.iadd, 1) := by decide +kernel
theorem dX12_about_118 : decode cX12_about 118 = .ok (.laload, 1) := by decide +kernel
theorem dX12_about_119 : decode cX12_about 119 = .ok (.lcmp, 1) := by decide +kernel
theorem dX12_about_120 : decode cX12_about 120 = .ok (.ifCond .ge 8, 3) := by decide +kernel
theorem dX12_about_123 : decode cX12_about 123 = .ok (.iload 7, 2) := by decide +kernel
theorem dX12_about_125 : decode cX12_about 125 = .ok (.goto 5, 3) := by decide +kernel
theorem dX12_about_128 : decode cX12_about 128 = .ok (.iload 4, 2) := by decide +kernel
theorem dX12_about_130 : decode cX12_about 130 = .ok (.istore 4, 2) := by decide +kernel
theorem dX12_about_132 : decode cX12_about 132 = .ok (.iload 5, 2) := by decide +kernel
theorem dX12_about_134 : decode cX12_about 134 = .ok (.bipush (-4), 2) := by decide +kernel
theorem dX12_about_136 : decode cX12_about 136 = .ok (.if_icmp .eq 27, 3) := by decide +kernel
theorem dX12_about_139 : decode cX12_about 139 = .ok (.aload_n 0, 1) := by decide +kernel
theorem dX12_about_140 : decode cX12_about 140 = .ok (.getfield 87, 3) := by decide +kernel
theorem dX12_about_143 : decode cX12_about 143 = .ok (.iload 8, 2) := by decide +kernel
theorem dX12_about_145 : decode cX12_about 145 = .ok (.laload, 1) := by decide +kernel
theorem dX12_about_146 : decode cX12_about 146 = .ok (.aload_n 0, 1) := by decide +kernel
theorem dX12_about_147 : decode cX12_about 147 = .ok (.getfield 87, 3) := by decide +kernel
theorem dX12_about_150 : decode cX12_about 150 = .ok (.sipush 201, 3) := by decide +kernel
theorem dX12_about_153 : decode cX12_about 153 = .ok (.iload_n 1, 1) := by decide +kernel
theorem dX12_about_154 : decode cX12_about 154 = .ok (.imul, 1) := by decide +kernel
theorem dX12_about_155 : decode cX12_about 155 = .ok (.iload 5, 2) := by decide +kernel
theorem dX12_about_157 : decode cX12_about 157 = .ok (.iadd, 1) := by decide +kernel
theorem dX12_about_158 : decode cX12_about 158 = .ok (.laload, 1) := by decide +kernel
theorem dX12_about_159 : decode cX12_about 159 = .ok (.lcmp, 1) := by decide +kernel
theorem dX12_about_160 : decode cX12_about 160 = .ok (.ifCond .le 8, 3) := by decide +kernel
theorem dX12_about_163 : decode cX12_about 163 = .ok (.iload 7, 2) := by decide +kernel
theorem dX12_about_165 : decode cX12_about 165 = .ok (.goto 5, 3) := by decide +kernel
theorem dX12_about_168 : decode cX12_about 168 = .ok (.iload 5, 2) := by decide +kernel
theorem dX12_about_170 : decode cX12_about 170 = .ok (.istore 5, 2) := by decide +kernel
theorem dX12_about_172 : decode cX12_about 172 = .ok (.iinc 7 1, 3) := by decide +kernel
theorem dX12_about_175 : decode cX12_about 175 = .ok (.goto (-136), 3) := by decide +kernel
theorem dX12_about_178 : decode cX12_about 178 = .ok (.iload_n 2, 1) := by decide +kernel
theorem dX12_about_179 : decode cX12_about 179 = .ok (.ifCond .ne 12, 3) := by decide +kernel
theorem dX12_about_182 : decode cX12_about 182 = .ok (.aload_n 0, 1) := by decide +kernel
theorem dX12_about_183 : decode cX12_about 183 = .ok (.getfield 84, 3) := by decide +kernel
theorem dX12_about_186 : decode cX12_about 186 = .ok (.iload_n 1, 1) := by decide +kernel
theorem dX12_about_187 : decode cX12_about 187 = .ok (.iaload, 1) := by decide +kernel
theorem dX12_about_188 : decode cX12_about 188 = .ok (.goto 34, 3) := by decide +kernel
theorem dX12_about_191 : decode cX12_about 191 = .ok (.iload_n 2, 1) := by decide +kernel
theorem dX12_about_192 : decode cX12_about 192 = .ok (.iconst 1, 1) := by decide +kernel
theorem dX12_about_193 : decode cX12_about 193 = .ok (.if_icmp .ne 7, 3) := by decide +kernel
theorem dX12_about_196 : decode cX12_about 196 = .ok (.iload_n 3, 1) := by decide +kernel
theorem dX12_about_197 : decode cX12_about 197 = .ok (.goto 25, 3) := by decide +kernel
theorem dX12_about_200 : decode cX12_about 200 = .ok (.iload_n 2, 1) := by decide +kernel
theorem dX12_about_201 : decode cX12_about 201 = .ok (.iconst 2, 1) := by decide +kernel
theorem dX12_about_202 : decode cX12_about 202 = .ok (.if_icmp .ne 8, 3) := by decide +kernel
theorem dX12_about_205 : decode cX12_about 205 = .ok (.iload 4, 2) := by decide +kernel
theorem dX12_about_207 : decode cX12_about 207 = .ok (.goto 15, 3) := by decide +kernel
theorem dX12_about_210 : decode cX12_about 210 = .ok (.iload_n 2, 1) := by decide +kernel
theorem dX12_about_211 : decode cX12_about 211 = .ok (.iconst 3, 1) := by decide +kernel
theorem dX12_about_212 : decode cX12_about 212 = .ok (.if_icmp .ne 8, 3) := by decide +kernel
theorem dX12_about_215 : decode cX12_about 215 = .ok (.iload 5, 2) := by decide +kernel
theorem dX12_about_217 : decode cX12_about 217 = .ok (.goto 5, 3) := by decide +kernel
theorem dX12_about_220 : decode cX12_about 220 = .ok (.iload 6, 2) := by decide +kernel
theorem dX12_about_222 : decode cX12_about 222 = .ok (.ireturn, 1) := by decide +kernel
theorem dX12_total_0 : decode cX12_total 0 = .ok (.lconst 0, 1) := by decide +kernel
theorem dX12_total_1 : decode cX12_total 1 = .ok (.lstore_n 2, 1) := by decide +kernel
theorem dX12_total_2 : decode cX12_total 2 = .ok (.iconst 0, 1) := by decide +kernel
theorem dX12_total_3 : decode cX12_total 3 = .ok (.istore 4, 2) := by decide +kernel
theorem dX12_total_5 : decode cX12_total 5 = .ok (.aload_n 0, 1) := by decide +kernel
theorem dX12_total_6 : decode cX12_total 6 = .ok (.iload_n 1, 1) := by decide +kernel
theorem dX12_total_7 : decode cX12_total 7 = .ok (.invokevirtual 254, 3) := by decide +kernel
theorem dX12_total_10 : decode cX12_total 10 = .ok (.ifCond .eq 56, 3) := by decide +kernel
theorem dX12_total_13 : decode cX12_total 13 = .ok (.iload 4, 2) := by decide +kernel
theorem dX12_total_15 : decode cX12_total 15 = .ok (.aload_n 0, 1) := by decide +kernel
theorem dX12_total_16 : decode cX12_total 16 = .ok (.getfield 84, 3) := by decide +kernel
theorem dX12_total_19 : decode cX12_total 19 = .ok (.iload_n 1, 1) := by decide +kernel
theorem dX12_total_20 : decode cX12_total 20 = .ok (.iaload, 1) := by decide +kernel
theorem dX12_total_21 : decode cX12_total 21 = .ok (.if_icmp .ge 45, 3) := by decide +kernel
theorem dX12_total_24 : decode cX12_total 24 = .ok (.lload_n 2, 1) := by decide +kernel
theorem dX12_total_25 : decode cX12_total 25 = .ok (.aload_n 0, 1) := by decide +kernel
theorem dX12_total_26 : decode cX12_total 26 = .ok (.getfield 91, 3) := by decide +kernel
theorem dX12_total_29 : decode cX12_total 29 = .ok (.sipush 201, 3) := by decide +kernel
theorem dX12_total_32 : decode cX12_total 32 = .ok (.iload_n 1, 1) := by decide +kernel
theorem dX12_total_33 : decode cX12_total 33 = .ok (.imul, 1) := by decide +kernel
theorem dX12_total_34 : decode cX12_total 34 = .ok (.iload 4, 2) := by decide +kernel
theorem dX12_total_36 : decode cX12_total 36 = .ok (.iadd, 1) := by decide +kernel
theorem dX12_total_37 : decode cX12_total 37 = .ok (.baload, 1) := by decide +kernel
theorem dX12_total_38 : decode cX12_total 38 = .ok (.ifCond .eq 7, 3) := by decide +kernel
theorem dX12_total_41 : decode cX12_total 41 = .ok (.lconst 0, 1) := by decide +kernel
theorem dX12_total_42 : decode cX12_total 42 = .ok (.goto 16, 3) := by decide +kernel
theorem dX12_total_45 : decode cX12_total 45 = .ok (.aload_n 0, 1) := by decide +kernel
theorem dX12_total_46 : decode cX12_total 46 = .ok (.getfield 87, 3) := by decide +kernel
theorem dX12_total_49 : decode cX12_total 49 = .ok (.sipush 201, 3) := by decide +kernel
theorem dX12_total_52 : decode cX12_total 52 = .ok (.iload_n 1, 1) := by decide +kernel
theorem dX12_total_53 : decode cX12_total 53 = .ok (.imul, 1) := by decide +kernel
theorem dX12_total_54 : decode cX12_total 54 = .ok (.iload 4, 2) := by decide +kernel
theorem dX12_total_56 : decode cX12_total 56 = .ok (.iadd, 1) := by decide +kernel
theorem dX12_total_57 : decode cX12_total 57 = .ok (.laload, 1) := by decide +kernel
theorem dX12_total_58 : decode cX12_total 58 = .ok (.ladd, 1) := by decide +kernel
theorem dX12_total_59 : decode cX12_total 59 = .ok (.lstore_n 2, 1) := by decide +kernel
theorem dX12_total_60 : decode cX12_total 60 = .ok (.iinc 4 1, 3) := by decide +kernel
theorem dX12_total_63 : decode cX12_total 63 = .ok (.goto (-58), 3) := by decide +kernel
theorem dX12_total_66 : decode cX12_total 66 = .ok (.lload_n 2, 1) := by decide +kernel
theorem dX12_total_67 : decode cX12_total 67 = .ok (.lreturn, 1) := by decide +kernel
theorem dX12_turns_0 : decode cX12_turns 0 = .ok (.aload_n 0, 1) := by decide +kernel
theorem dX12_turns_1 : decode cX12_turns 1 = .ok (.iload_n 1, 1) := by decide +kernel
theorem dX12_turns_2 : decode cX12_turns 2 = .ok (.invokevirtual 254, 3) := by decide +kernel
theorem dX12_turns_5 : decode cX12_turns 5 = .ok (.ifCond .eq 16, 3) := by decide +kernel
theorem dX12_turns_8 : decode cX12_turns 8 = .ok (.iload 4, 2) := by decide +kernel
theorem dX12_turns_10 : decode cX12_turns 10 = .ok (.i2l, 1) := by decide +kernel
theorem dX12_turns_11 : decode cX12_turns 11 = .ok (.lconst 0, 1) := by decide +kernel
theorem dX12_turns_12 : decode cX12_turns 12 = .ok (.ldc2_w 279, 3) := by decide +kernel
theorem dX12_turns_15 : decode cX12_turns 15 = .ok (.invokestatic 115, 3) := by decide +kernel
theorem dX12_turns_18 : decode cX12_turns 18 = .ok (.ifCond .ne 5, 3) := by decide +kernel
theorem dX12_turns_21 : decode cX12_turns 21 = .ok (.iconst (-1), 1) := by decide +kernel
theorem dX12_turns_22 : decode cX12_turns 22 = .ok (.ireturn, 1) := by decide +kernel
theorem dX12_turns_23 : decode cX12_turns 23 = .ok (.iconst 0, 1) := by decide +kernel
theorem dX12_turns_24 : decode cX12_turns 24 = .ok (.istore 5, 2) := by decide +kernel
theorem dX12_turns_26 : decode cX12_turns 26 = .ok (.iconst 0, 1) := by decide +kernel
theorem dX12_turns_27 : decode cX12_turns 27 = .ok (.istore 6, 2) := by decide +kernel
theorem dX12_turns_29 : decode cX12_turns 29 = .ok (.iconst 0, 1) := by decide +kernel
theorem dX12_turns_30 : decode cX12_turns 30 = .ok (.istore 7, 2) := by decide +kernel
theorem dX12_turns_32 : decode cX12_turns 32 = .ok (.iconst 0, 1) := by decide +kernel
theorem dX12_turns_33 : decode cX12_turns 33 = .ok (.istore 8, 2) := by decide +kernel
theorem dX12_turns_35 : decode cX12_turns 35 = .ok (.iconst 0, 1) := by decide +kernel
theorem dX12_turns_36 : decode cX12_turns 36 = .ok (.istore 9, 2) := by decide +kernel
theorem dX12_turns_38 : decode cX12_turns 38 = .ok (.bipush (-4), 2) := by decide +kernel
theorem dX12_turns_40 : decode cX12_turns 40 = .ok (.istore 10, 2) := by decide +kernel
theorem dX12_turns_42 : decode cX12_turns 42 = .ok (.iconst 0, 1) := by decide +kernel
theorem dX12_turns_43 : decode cX12_turns 43 = .ok (.istore 11, 2) := by decide +kernel
theorem dX12_turns_45 : decode cX12_turns 45 = .ok (.iconst 0, 1) := by decide +kernel
theorem dX12_turns_46 : decode cX12_turns 46 = .ok (.istore 12, 2) := by decide +kernel
theorem dX12_turns_48 : decode cX12_turns 48 = .ok (.iload 12, 2) := by decide +kernel
theorem dX12_turns_50 : decode cX12_turns 50 = .ok (.aload_n 0, 1) := by decide +kernel
theorem dX12_turns_51 : decode cX12_turns 51 = .ok (.getfield 84, 3) := by decide +kernel
theorem dX12_turns_54 : decode cX12_turns 54 = .ok (.iload_n 1, 1) := by decide +kernel
theorem dX12_turns_55 : decode cX12_turns 55 = .ok (.iaload, 1) := by decide +kernel
theorem dX12_turns_56 : decode cX12_turns 56 = .ok (.if_icmp .ge 176, 3) := by decide +kernel
theorem dX12_turns_59 : decode cX12_turns 59 = .ok (.sipush 201, 3) := by decide +kernel
theorem dX12_turns_62 : decode cX12_turns 62 = .ok (.iload_n 1, 1) := by decide +kernel
theorem dX12_turns_63 : decode cX12_turns 63 = .ok (.imul, 1) := by decide +kernel
theorem dX12_turns_64 : decode cX12_turns 64 = .ok (.iload 12, 2) := by decide +kernel
theorem dX12_turns_66 : decode cX12_turns 66 = .ok (.iadd, 1) := by decide +kernel
theorem dX12_turns_67 : decode cX12_turns 67 = .ok (.istore 13, 2) := by decide +kernel
theorem dX12_turns_69 : decode cX12_turns 69 = .ok (.aload_n 0, 1) := by decide +kernel
theorem dX12_turns_70 : decode cX12_turns 70 = .ok (.getfield 91, 3) := by decide +kernel
theorem dX12_turns_73 : decode cX12_turns 73 = .ok (.iload 13, 2) := by decide +kernel
theorem dX12_turns_75 : decode cX12_turns 75 = .ok (.baload, 1) := by decide +kernel
theorem dX12_turns_76 : decode cX12_turns 76 = .ok (.ifCond .eq 10, 3) := by decide +kernel
theorem dX12_turns_79 : decode cX12_turns 79 = .ok (.bipush (-4), 2) := by decide +kernel
theorem dX12_turns_81 : decode cX12_turns 81 = .ok (.istore 10, 2) := by decide +kernel
theorem dX12_turns_83 : decode cX12_turns 83 = .ok (.goto 143, 3) := by decide +kernel
theorem dX12_turns_86 : decode cX12_turns 86 = .ok (.iload 12, 2) := by decide +kernel
theorem dX12_turns_88 : decode cX12_turns 88 = .ok (.ifCond .le 116, 3) := by decide +kernel
theorem dX12_turns_91 : decode cX12_turns 91 = .ok (.aload_n 0, 1) := by decide +kernel
theorem dX12_turns_92 : decode cX12_turns 92 = .ok (.getfield 91, 3) := by decide +kernel
theorem dX12_turns_95 : decode cX12_turns 95 = .ok (.iload 13, 2) := by decide +kernel
theorem dX12_turns_97 : decode cX12_turns 97 = .ok (.iconst 1, 1) := by decide +kernel
theorem dX12_turns_98 : decode cX12_turns 98 = .ok (.isub, 1) := by decide +kernel
theorem dX12_turns_99 : decode cX12_turns 99 = .ok (.baload, 1) := by decide +kernel
theorem dX12_turns_100 : decode cX12_turns 100 = .ok (.ifCond .ne 104, 3) := by decide +kernel
theorem dX12_turns_103 : decode cX12_turns 103 = .ok (.aload_n 0, 1) := by decide +kernel
theorem dX12_turns_104 : decode cX12_turns 104 = .ok (.getfield 87, 3) := by decide +kernel
theorem dX12_turns_107 : decode cX12_turns 107 = .ok (.iload 13, 2) := by decide +kernel
theorem dX12_turns_109 : decode cX12_turns 109 = .ok (.iconst 1, 1) := by decide +kernel
theorem dX12_turns_110 : decode cX12_turns 110 = .ok (.isub, 1) := by decide +kernel
theorem dX12_turns_111 : decode cX12_turns 111 = .ok (.laload, 1) := by decide +kernel
theorem dX12_turns_112 : decode cX12_turns 112 = .ok (.lload_n 2, 1) := by decide +kernel
theorem dX12_turns_113 : decode cX12_turns 113 = .ok (.lcmp, 1) := by decide +kernel
theorem dX12_turns_114 : decode cX12_turns 114 = .ok (.ifCond .ge 90, 3) := by decide +kernel
theorem dX12_turns_117 : decode cX12_turns 117 = .ok (.aload_n 0, 1) := by decide +kernel
theorem dX12_turns_118 : decode cX12_turns 118 = .ok (.getfield 87, 3) := by decide +kernel
theorem dX12_turns_121 : decode cX12_turns 121 = .ok (.iload 13, 2) := by decide +kernel
theorem dX12_turns_123 : decode cX12_turns 123 = .ok (.laload, 1) := by decide +kernel
theorem dX12_turns_124 : decode cX12_turns 124 = .ok (.lload_n 2, 1) := by decide +kernel
theorem dX12_turns_125 : decode cX12_turns 125 = .ok (.lcmp, 1) := by decide +kernel
theorem dX12_turns_126 : decode cX12_turns 126 = .ok (.ifCond .lt 78, 3) := by decide +kernel
theorem dX12_turns_129 : decode cX12_turns 129 = .ok (.iload 10, 2) := by decide +kernel
theorem dX12_turns_131 : decode cX12_turns 131 = .ok (.bipush (-4), 2) := by decide +kernel
theorem dX12_turns_133 : decode cX12_turns 133 = .ok (.if_icmp .eq 64, 3) := by decide +kernel
theorem dX12_turns_136 : decode cX12_turns 136 = .ok (.iload 12, 2) := by decide +kernel
theorem dX12_turns_138 : decode cX12_turns 138 = .ok (.iload 10, 2) := by decide +kernel
theorem dX12_turns_140 : decode cX12_turns 140 = .ok (.isub, 1) := by decide +kernel
theorem dX12_turns_141 : decode cX12_turns 141 = .ok (.istore 14, 2) := by decide +kernel
theorem dX12_turns_143 : decode cX12_turns 143 = .ok (.iload 5, 2) := by decide +kernel
theorem dX12_turns_145 : decode cX12_turns 145 = .ok (.ifCond .eq 10, 3) := by decide +kernel
theorem dX12_turns_148 : decode cX12_turns 148 = .ok (.iload 14, 2) := by decide +kernel
theorem dX12_turns_150 : decode cX12_turns 150 = .ok (.iload 6, 2) := by decide +kernel
theorem dX12_turns_152 : decode cX12_turns 152 = .ok (.if_icmp .ge 8, 3) := by decide +kernel
theorem dX12_turns_155 : decode cX12_turns 155 = .ok (.iload 14, 2) := by decide +kernel
theorem dX12_turns_157 : decode cX12_turns 157 = .ok (.goto 5, 3) := by decide +kernel
theorem dX12_turns_160 : decode cX12_turns 160 = .ok (.iload 6, 2) := by decide +kernel
theorem dX12_turns_162 : decode cX12_turns 162 = .ok (.istore 6, 2) := by decide +kernel
theorem dX12_turns_164 : decode cX12_turns 164 = .ok (.iload 14, 2) := by decide +kernel
theorem dX12_turns_166 : decode cX12_turns 166 = .ok (.iload 7, 2) := by decide +kernel
theorem dX12_turns_168 : decode cX12_turns 168 = .ok (.if_icmp .le 8, 3) := by decide +kernel
theorem dX12_turns_171 : decode cX12_turns 171 = .ok (.iload 14, 2) := by decide +kernel
theorem dX12_turns_173 : decode cX12_turns 173 = .ok (.goto 5, 3) := by decide +kernel
theorem dX12_turns_176 : decode cX12_turns 176 = .ok (.iload 7, 2) := by decide +kernel
theorem dX12_turns_178 : decode cX12_turns 178 = .ok (.istore 7, 2) := by decide +kernel
theorem dX12_turns_180 : decode cX12_turns 180 = .ok (.iinc 5 1, 3) := by decide +kernel
theorem dX12_turns_183 : decode cX12_turns 183 = .ok (.iload 8, 2) := by decide +kernel
theorem dX12_turns_185 : decode cX12_turns 185 = .ok (.iload 14, 2) := by decide +kernel
theorem dX12_turns_187 : decode cX12_turns 187 = .ok (.iadd, 1) := by decide +kernel
theorem dX12_turns_188 : decode cX12_turns 188 = .ok (.istore 8, 2) := by decide +kernel
theorem dX12_turns_190 : decode cX12_turns 190 = .ok (.iload 9, 2) := by decide +kernel
theorem dX12_turns_192 : decode cX12_turns 192 = .ok (.iload 11, 2) := by decide +kernel
theorem dX12_turns_194 : decode cX12_turns 194 = .ok (.iadd, 1) := by decide +kernel
theorem dX12_turns_195 : decode cX12_turns 195 = .ok (.istore 9, 2) := by decide +kernel
theorem dX12_turns_197 : decode cX12_turns 197 = .ok (.iload 12, 2) := by decide +kernel
theorem dX12_turns_199 : decode cX12_turns 199 = .ok (.istore 10, 2) := by decide +kernel
theorem dX12_turns_201 : decode cX12_turns 201 = .ok (.iconst 0, 1) := by decide +kernel
theorem dX12_turns_202 : decode cX12_turns 202 = .ok (.istore 11, 2) := by decide +kernel
theorem dX12_turns_204 : decode cX12_turns 204 = .ok (.iload 11, 2) := by decide +kernel
theorem dX12_turns_206 : decode cX12_turns 206 = .ok (.aload_n 0, 1) := by decide +kernel
theorem dX12_turns_207 : decode cX12_turns 207 = .ok (.getfield 87, 3) := by decide +kernel
theorem dX12_turns_210 : decode cX12_turns 210 = .ok (.iload 13, 2) := by decide +kernel
theorem dX12_turns_212 : decode cX12_turns 212 = .ok (.laload, 1) := by decide +kernel
theorem dX12_turns_213 : decode cX12_turns 213 = .ok (.lload_n 2, 1) := by decide +kernel
theorem dX12_turns_214 : decode cX12_turns 214 = .ok (.lcmp, 1) := by decide +kernel
theorem dX12_turns_215 : decode cX12_turns 215 = .ok (.ifCond .lt 7, 3) := by decide +kernel
theorem dX12_turns_218 : decode cX12_turns 218 = .ok (.iconst 1, 1) := by decide +kernel
theorem dX12_turns_219 : decode cX12_turns 219 = .ok (.goto 4, 3) := by decide +kernel
theorem dX12_turns_222 : decode cX12_turns 222 = .ok (.iconst 0, 1) := by decide +kernel
theorem dX12_turns_223 : decode cX12_turns 223 = .ok (.iadd, 1) := by decide +kernel
theorem dX12_turns_224 : decode cX12_turns 224 = .ok (.istore 11, 2) := by decide +kernel
theorem dX12_turns_226 : decode cX12_turns 226 = .ok (.iinc 12 1, 3) := by decide +kernel
theorem dX12_turns_229 : decode cX12_turns 229 = .ok (.goto (-181), 3) := by decide +kernel
theorem dX12_turns_232 : decode cX12_turns 232 = .ok (.iload 4, 2) := by decide +kernel
theorem dX12_turns_234 : decode cX12_turns 234 = .ok (.ifCond .ne 8, 3) := by decide +kernel
theorem dX12_turns_237 : decode cX12_turns 237 = .ok (.iload 5, 2) := by decide +kernel
theorem dX12_turns_239 : decode cX12_turns 239 = .ok (.goto 38, 3) := by decide +kernel
theorem dX12_turns_242 : decode cX12_turns 242 = .ok (.iload 4, 2) := by decide +kernel
theorem dX12_turns_244 : decode cX12_turns 244 = .ok (.iconst 1, 1) := by decide +kernel
theorem dX12_turns_245 : decode cX12_turns 245 = .ok (.if_icmp .ne 8, 3) := by decide +kernel
theorem dX12_turns_248 : decode cX12_turns 248 = .ok (.iload 6, 2) := by decide +kernel
theorem dX12_turns_250 : decode cX12_turns 250 = .ok (.goto 27, 3) := by decide +kernel
theorem dX12_turns_253 : decode cX12_turns 253 = .ok (.iload 4, 2) := by decide +kernel
theorem dX12_turns_255 : decode cX12_turns 255 = .ok (.iconst 2, 1) := by decide +kernel
theorem dX12_turns_256 : decode cX12_turns 256 = .ok (.if_icmp .ne 8, 3) := by decide +kernel
theorem dX12_turns_259 : decode cX12_turns 259 = .ok (.iload 7, 2) := by decide +kernel
theorem dX12_turns_261 : decode cX12_turns 261 = .ok (.goto 16, 3) := by decide +kernel
theorem dX12_turns_264 : decode cX12_turns 264 = .ok (.iload 4, 2) := by decide +kernel
theorem dX12_turns_266 : decode cX12_turns 266 = .ok (.iconst 3, 1) := by decide +kernel
theorem dX12_turns_267 : decode cX12_turns 267 = .ok (.if_icmp .ne 8, 3) := by decide +kernel
theorem dX12_turns_270 : decode cX12_turns 270 = .ok (.iload 8, 2) := by decide +kernel
theorem dX12_turns_272 : decode cX12_turns 272 = .ok (.goto 5, 3) := by decide +kernel
theorem dX12_turns_275 : decode cX12_turns 275 = .ok (.iload 9, 2) := by decide +kernel
theorem dX12_turns_277 : decode cX12_turns 277 = .ok (.ireturn, 1) := by decide +kernel
theorem dX12_down_0 : decode cX12_down 0 = .ok (.lload_n 0, 1) := by decide +kernel
theorem dX12_down_1 : decode cX12_down 1 = .ok (.iload_n 2, 1) := by decide +kernel
theorem dX12_down_2 : decode cX12_down 2 = .ok (.i2l, 1) := by decide +kernel
theorem dX12_down_3 : decode cX12_down 3 = .ok (.ldiv, 1) := by decide +kernel
theorem dX12_down_4 : decode cX12_down 4 = .ok (.lstore_n 3, 1) := by decide +kernel
theorem dX12_down_5 : decode cX12_down 5 = .ok (.lload_n 0, 1) := by decide +kernel
theorem dX12_down_6 : decode cX12_down 6 = .ok (.iload_n 2, 1) := by decide +kernel
theorem dX12_down_7 : decode cX12_down 7 = .ok (.i2l, 1) := by decide +kernel
theorem dX12_down_8 : decode cX12_down 8 = .ok (.lrem, 1) := by decide +kernel
theorem dX12_down_9 : decode cX12_down 9 = .ok (.lconst 0, 1) := by decide +kernel
theorem dX12_down_10 : decode cX12_down 10 = .ok (.lcmp, 1) := by decide +kernel
theorem dX12_down_11 : decode cX12_down 11 = .ok (.ifCond .ge 9, 3) := by decide +kernel
theorem dX12_down_14 : decode cX12_down 14 = .ok (.lload_n 3, 1) := by decide +kernel
theorem dX12_down_15 : decode cX12_down 15 = .ok (.lconst 1, 1) := by decide +kernel
theorem dX12_down_16 : decode cX12_down 16 = .ok (.lsub, 1) := by decide +kernel
theorem dX12_down_17 : decode cX12_down 17 = .ok (.goto 4, 3) := by decide +kernel
theorem dX12_down_20 : decode cX12_down 20 = .ok (.lload_n 3, 1) := by decide +kernel
theorem dX12_down_21 : decode cX12_down 21 = .ok (.lreturn, 1) := by decide +kernel
theorem dX12_eye_0 : decode cX12_eye 0 = .ok (.aload_n 0, 1) := by decide +kernel
theorem dX12_eye_1 : decode cX12_eye 1 = .ok (.iload_n 1, 1) := by decide +kernel
theorem dX12_eye_2 : decode cX12_eye 2 = .ok (.invokevirtual 254, 3) := by decide +kernel
theorem dX12_eye_5 : decode cX12_eye 5 = .ok (.ifCond .eq 59, 3) := by decide +kernel
theorem dX12_eye_8 : decode cX12_eye 8 = .ok (.iload_n 2, 1) := by decide +kernel
theorem dX12_eye_9 : decode cX12_eye 9 = .ok (.ifCond .lt 55, 3) := by decide +kernel
theorem dX12_eye_12 : decode cX12_eye 12 = .ok (.iload_n 3, 1) := by decide +kernel
theorem dX12_eye_13 : decode cX12_eye 13 = .ok (.i2l, 1) := by decide +kernel
theorem dX12_eye_14 : decode cX12_eye 14 = .ok (.lconst 1, 1) := by decide +kernel
theorem dX12_eye_15 : decode cX12_eye 15 = .ok (.ldc2_w 281, 3) := by decide +kernel
theorem dX12_eye_18 : decode cX12_eye 18 = .ok (.invokestatic 115, 3) := by decide +kernel
theorem dX12_eye_21 : decode cX12_eye 21 = .ok (.ifCond .eq 43, 3) := by decide +kernel
theorem dX12_eye_24 : decode cX12_eye 24 = .ok (.iload 4, 2) := by decide +kernel
theorem dX12_eye_26 : decode cX12_eye 26 = .ok (.i2l, 1) := by decide +kernel
theorem dX12_eye_27 : decode cX12_eye 27 = .ok (.lconst 0, 1) := by decide +kernel
theorem dX12_eye_28 : decode cX12_eye 28 = .ok (.iload_n 3, 1) := by decide +kernel
theorem dX12_eye_29 : decode cX12_eye 29 = .ok (.iconst 1, 1) := by decide +kernel
theorem dX12_eye_30 : decode cX12_eye 30 = .ok (.isub, 1) := by decide +kernel
theorem dX12_eye_31 : decode cX12_eye 31 = .ok (.i2l, 1) := by decide +kernel
theorem dX12_eye_32 : decode cX12_eye 32 = .ok (.invokestatic 115, 3) := by decide +kernel
theorem dX12_eye_35 : decode cX12_eye 35 = .ok (.ifCond .eq 29, 3) := by decide +kernel
theorem dX12_eye_38 : decode cX12_eye 38 = .ok (.iload 7, 2) := by decide +kernel
theorem dX12_eye_40 : decode cX12_eye 40 = .ok (.i2l, 1) := by decide +kernel
theorem dX12_eye_41 : decode cX12_eye 41 = .ok (.lconst 1, 1) := by decide +kernel
theorem dX12_eye_42 : decode cX12_eye 42 = .ok (.ldc2_w 273, 3) := by decide +kernel
theorem dX12_eye_45 : decode cX12_eye 45 = .ok (.invokestatic 115, 3) := by decide +kernel
theorem dX12_eye_48 : decode cX12_eye 48 = .ok (.ifCond .eq 16, 3) := by decide +kernel
theorem dX12_eye_51 : decode cX12_eye 51 = .ok (.iload 8, 2) := by decide +kernel
theorem dX12_eye_53 : decode cX12_eye 53 = .ok (.i2l, 1) := by decide +kernel
theorem dX12_eye_54 : decode cX12_eye 54 = .ok (.lconst 0, 1) := by decide +kernel
theorem dX12_eye_55 : decode cX12_eye 55 = .ok (.ldc2_w 283, 3) := by decide +kernel
theorem dX12_eye_58 : decode cX12_eye 58 = .ok (.invokestatic 115, 3) := by decide +kernel
theorem dX12_eye_61 : decode cX12_eye 61 = .ok (.ifCond .ne 5, 3) := by decide +kernel
theorem dX12_eye_64 : decode cX12_eye 64 = .ok (.iconst (-1), 1) := by decide +kernel
theorem dX12_eye_65 : decode cX12_eye 65 = .ok (.ireturn, 1) := by decide +kernel
theorem dX12_eye_66 : decode cX12_eye 66 = .ok (.iconst 0, 1) := by decide +kernel
theorem dX12_eye_67 : decode cX12_eye 67 = .ok (.istore 9, 2) := by decide +kernel
theorem dX12_eye_69 : decode cX12_eye 69 = .ok (.iload_n 2, 1) := by decide +kernel
theorem dX12_eye_70 : decode cX12_eye 70 = .ok (.istore 10, 2) := by decide +kernel
theorem dX12_eye_72 : decode cX12_eye 72 = .ok (.iload 10, 2) := by decide +kernel
theorem dX12_eye_74 : decode cX12_eye 74 = .ok (.aload_n 0, 1) := by decide +kernel
theorem dX12_eye_75 : decode cX12_eye 75 = .ok (.getfield 84, 3) := by decide +kernel
theorem dX12_eye_78 : decode cX12_eye 78 = .ok (.iload_n 1, 1) := by decide +kernel
theorem dX12_eye_79 : decode cX12_eye 79 = .ok (.iaload, 1) := by decide +kernel
theorem dX12_eye_80 : decode cX12_eye 80 = .ok (.if_icmp .ge 72, 3) := by decide +kernel
theorem dX12_eye_83 : decode cX12_eye 83 = .ok (.sipush 201, 3) := by decide +kernel
theorem dX12_eye_86 : decode cX12_eye 86 = .ok (.iload_n 1, 1) := by decide +kernel
theorem dX12_eye_87 : decode cX12_eye 87 = .ok (.imul, 1) := by decide +kernel
theorem dX12_eye_88 : decode cX12_eye 88 = .ok (.iload 10, 2) := by decide +kernel
theorem dX12_eye_90 : decode cX12_eye 90 = .ok (.iadd, 1) := by decide +kernel
theorem dX12_eye_91 : decode cX12_eye 91 = .ok (.istore 11, 2) := by decide +kernel
theorem dX12_eye_93 : decode cX12_eye 93 = .ok (.iload 9, 2) := by decide +kernel
theorem dX12_eye_95 : decode cX12_eye 95 = .ok (.iload 10, 2) := by decide +kernel
theorem dX12_eye_97 : decode cX12_eye 97 = .ok (.iload_n 2, 1) := by decide +kernel
theorem dX12_eye_98 : decode cX12_eye 98 = .ok (.isub, 1) := by decide +kernel
theorem dX12_eye_99 : decode cX12_eye 99 = .ok (.iload_n 3, 1) := by decide +kernel
theorem dX12_eye_100 : decode cX12_eye 100 = .ok (.irem, 1) := by decide +kernel
theorem dX12_eye_101 : decode cX12_eye 101 = .ok (.iload 4, 2) := by decide +kernel
theorem dX12_eye_103 : decode cX12_eye 103 = .ok (.if_icmp .ne 39, 3) := by decide +kernel
theorem dX12_eye_106 : decode cX12_eye 106 = .ok (.aload_n 0, 1) := by decide +kernel
theorem dX12_eye_107 : decode cX12_eye 107 = .ok (.getfield 91, 3) := by decide +kernel
theorem dX12_eye_110 : decode cX12_eye 110 = .ok (.iload 11, 2) := by decide +kernel
theorem dX12_eye_112 : decode cX12_eye 112 = .ok (.baload, 1) := by decide +kernel
theorem dX12_eye_113 : decode cX12_eye 113 = .ok (.ifCond .ne 29, 3) := by decide +kernel
theorem dX12_eye_116 : decode cX12_eye 116 = .ok (.aload_n 0, 1) := by decide +kernel
theorem dX12_eye_117 : decode cX12_eye 117 = .ok (.getfield 87, 3) := by decide +kernel
theorem dX12_eye_120 : decode cX12_eye 120 = .ok (.iload 11, 2) := by decide +kernel
theorem dX12_eye_122 : decode cX12_eye 122 = .ok (.laload, 1) := by decide +kernel
theorem dX12_eye_123 : decode cX12_eye 123 = .ok (.lload 5, 2) := by decide +kernel
theorem dX12_eye_125 : decode cX12_eye 125 = .ok (.lsub, 1) := by decide +kernel
theorem dX12_eye_126 : decode cX12_eye 126 = .ok (.iload 7, 2) := by decide +kernel
theorem dX12_eye_128 : decode cX12_eye 128 = .ok (.invokestatic 285, 3) := by decide +kernel
theorem dX12_eye_131 : decode cX12_eye 131 = .ok (.iload 8, 2) := by decide +kernel
theorem dX12_eye_133 : decode cX12_eye 133 = .ok (.i2l, 1) := by decide +kernel
theorem dX12_eye_134 : decode cX12_eye 134 = .ok (.lcmp, 1) := by decide +kernel
theorem dX12_eye_135 : decode cX12_eye 135 = .ok (.ifCond .ne 7, 3) := by decide +kernel
theorem dX12_eye_138 : decode cX12_eye 138 = .ok (.iconst 1, 1) := by decide +kernel
theorem dX12_eye_139 : decode cX12_eye 139 = .ok (.goto 4, 3) := by decide +kernel
theorem dX12_eye_142 : decode cX12_eye 142 = .ok (.iconst 0, 1) := by decide +kernel
theorem dX12_eye_143 : decode cX12_eye 143 = .ok (.iadd, 1) := by decide +kernel
theorem dX12_eye_144 : decode cX12_eye 144 = .ok (.istore 9, 2) := by decide +kernel
theorem dX12_eye_146 : decode cX12_eye 146 = .ok (.iinc 10 1, 3) := by decide +kernel
theorem dX12_eye_149 : decode cX12_eye 149 = .ok (.goto (-77), 3) := by decide +kernel
theorem dX12_eye_152 : decode cX12_eye 152 = .ok (.iload 9, 2) := by decide +kernel
theorem dX12_eye_154 : decode cX12_eye 154 = .ok (.ireturn, 1) := by decide +kernel
theorem dX12_bit_0 : decode cX12_bit 0 = .ok (.aload_n 0, 1) := by decide +kernel
theorem dX12_bit_1 : decode cX12_bit 1 = .ok (.iload_n 1, 1) := by decide +kernel
theorem dX12_bit_2 : decode cX12_bit 2 = .ok (.iload_n 2, 1) := by decide +kernel
theorem dX12_bit_3 : decode cX12_bit 3 = .ok (.iload_n 3, 1) := by decide +kernel
theorem dX12_bit_4 : decode cX12_bit 4 = .ok (.invokevirtual 266, 3) := by decide +kernel
theorem dX12_bit_7 : decode cX12_bit 7 = .ok (.ifCond .ge 7, 3) := by decide +kernel
theorem dX12_bit_10 : decode cX12_bit 10 = .ok (.iconst 0, 1) := by decide +kernel
theorem dX12_bit_11 : decode cX12_bit 11 = .ok (.goto 4, 3) := by decide +kernel
theorem dX12_bit_14 : decode cX12_bit 14 = .ok (.iconst 1, 1) := by decide +kernel
theorem dX12_bit_15 : decode cX12_bit 15 = .ok (.ireturn, 1) := by decide +kernel
theorem dX12_gets_0 : decode cX12_gets 0 = .ok (.aload_n 0, 1) := by decide +kernel
theorem dX12_gets_1 : decode cX12_gets 1 = .ok (.getfield 101, 3) := by decide +kernel
theorem dX12_gets_4 : decode cX12_gets 4 = .ok (.aload_n 0, 1) := by decide +kernel
theorem dX12_gets_5 : decode cX12_gets 5 = .ok (.getfield 289, 3) := by decide +kernel
theorem dX12_gets_8 : decode cX12_gets 8 = .ok (.iload_n 1, 1) := by decide +kernel
theorem dX12_gets_9 : decode cX12_gets 9 = .ok (.iastore, 1) := by decide +kernel
theorem dX12_gets_10 : decode cX12_gets 10 = .ok (.aload_n 0, 1) := by decide +kernel
theorem dX12_gets_11 : decode cX12_gets 11 = .ok (.getfield 104, 3) := by decide +kernel
theorem dX12_gets_14 : decode cX12_gets 14 = .ok (.aload_n 0, 1) := by decide +kernel
theorem dX12_gets_15 : decode cX12_gets 15 = .ok (.getfield 289, 3) := by decide +kernel
theorem dX12_gets_18 : decode cX12_gets 18 = .ok (.iload_n 2, 1) := by decide +kernel
theorem dX12_gets_19 : decode cX12_gets 19 = .ok (.iastore, 1) := by decide +kernel
theorem dX12_gets_20 : decode cX12_gets 20 = .ok (.aload_n 0, 1) := by decide +kernel
theorem dX12_gets_21 : decode cX12_gets 21 = .ok (.dup, 1) := by decide +kernel
theorem dX12_gets_22 : decode cX12_gets 22 = .ok (.getfield 289, 3) := by decide +kernel
theorem dX12_gets_25 : decode cX12_gets 25 = .ok (.iconst 1, 1) := by decide +kernel
theorem dX12_gets_26 : decode cX12_gets 26 = .ok (.iadd, 1) := by decide +kernel
theorem dX12_gets_27 : decode cX12_gets 27 = .ok (.putfield 289, 3) := by decide +kernel
theorem dX12_gets_30 : decode cX12_gets 30 = .ok (.return_, 1) := by decide +kernel
theorem dX12_bytes_0 : decode cX12_bytes 0 = .ok (.aload_n 0, 1) := by decide +kernel
theorem dX12_bytes_1 : decode cX12_bytes 1 = .ok (.iload_n 1, 1) := by decide +kernel
theorem dX12_bytes_2 : decode cX12_bytes 2 = .ok (.invokevirtual 261, 3) := by decide +kernel
theorem dX12_bytes_5 : decode cX12_bytes 5 = .ok (.ifCond .eq 29, 3) := by decide +kernel
theorem dX12_bytes_8 : decode cX12_bytes 8 = .ok (.iload_n 2, 1) := by decide +kernel
theorem dX12_bytes_9 : decode cX12_bytes 9 = .ok (.i2l, 1) := by decide +kernel
theorem dX12_bytes_10 : decode cX12_bytes 10 = .ok (.lconst 0, 1) := by decide +kernel
theorem dX12_bytes_11 : decode cX12_bytes 11 = .ok (.ldc2_w 257, 3) := by decide +kernel
theorem dX12_bytes_14 : decode cX12_bytes 14 = .ok (.invokestatic 115, 3) := by decide +kernel
theorem dX12_bytes_17 : decode cX12_bytes 17 = .ok (.ifCond .eq 17, 3) := by decide +kernel
theorem dX12_bytes_20 : decode cX12_bytes 20 = .ok (.iload_n 3, 1) := by decide +kernel
theorem dX12_bytes_21 : decode cX12_bytes 21 = .ok (.i2l, 1) := by decide +kernel
theorem dX12_bytes_22 : decode cX12_bytes 22 = .ok (.ldc2_w 264, 3) := by decide +kernel
theorem dX12_bytes_25 : decode cX12_bytes 25 = .ok (.ldc2_w 292, 3) := by decide +kernel
theorem dX12_bytes_28 : decode cX12_bytes 28 = .ok (.invokestatic 115, 3) := by decide +kernel
theorem dX12_bytes_31 : decode cX12_bytes 31 = .ok (.ifCond .ne 5, 3) := by decide +kernel
theorem dX12_bytes_34 : decode cX12_bytes 34 = .ok (.iconst (-1), 1) := by decide +kernel
theorem dX12_bytes_35 : decode cX12_bytes 35 = .ok (.ireturn, 1) := by decide +kernel
theorem dX12_bytes_36 : decode cX12_bytes 36 = .ok (.aload_n 0, 1) := by decide +kernel
theorem dX12_bytes_37 : decode cX12_bytes 37 = .ok (.iconst 0, 1) := by decide +kernel
theorem dX12_bytes_38 : decode cX12_bytes 38 = .ok (.putfield 289, 3) := by decide +kernel
theorem dX12_bytes_41 : decode cX12_bytes 41 = .ok (.aload_n 0, 1) := by decide +kernel
theorem dX12_bytes_42 : decode cX12_bytes 42 = .ok (.bipush (-4), 2) := by decide +kernel
theorem dX12_bytes_44 : decode cX12_bytes 44 = .ok (.putfield 107, 3) := by decide +kernel
theorem dX12_bytes_47 : decode cX12_bytes 47 = .ok (.iconst 0, 1) := by decide +kernel
theorem dX12_bytes_48 : decode cX12_bytes 48 = .ok (.istore 4, 2) := by decide +kernel
theorem dX12_bytes_50 : decode cX12_bytes 50 = .ok (.aload_n 0, 1) := by decide +kernel
theorem dX12_bytes_51 : decode cX12_bytes 51 = .ok (.getfield 289, 3) := by decide +kernel
theorem dX12_bytes_54 : decode cX12_bytes 54 = .ok (.bipush 20, 2) := by decide +kernel
theorem dX12_bytes_56 : decode cX12_bytes 56 = .ok (.if_icmp .ge 192, 3) := by decide +kernel
theorem dX12_bytes_59 : decode cX12_bytes 59 = .ok (.aload_n 0, 1) := by decide +kernel
theorem dX12_bytes_60 : decode cX12_bytes 60 = .ok (.getfield 107, 3) := by decide +kernel
theorem dX12_bytes_63 : decode cX12_bytes 63 = .ok (.bipush (-4), 2) := by decide +kernel
theorem dX12_bytes_65 : decode cX12_bytes 65 = .ok (.if_icmp .ne 183, 3) := by decide +kernel
theorem dX12_bytes_68 : decode cX12_bytes 68 = .ok (.iload 4, 2) := by decide +kernel
theorem dX12_bytes_70 : decode cX12_bytes 70 = .ok (.iload_n 3, 1) := by decide +kernel
theorem dX12_bytes_71 : decode cX12_bytes 71 = .ok (.iconst 2, 1) := by decide +kernel
theorem dX12_bytes_72 : decode cX12_bytes 72 = .ok (.idiv, 1) := by decide +kernel
theorem dX12_bytes_73 : decode cX12_bytes 73 = .ok (.iadd, 1) := by decide +kernel
theorem dX12_bytes_74 : decode cX12_bytes 74 = .ok (.bipush 9, 2) := by decide +kernel
theorem dX12_bytes_76 : decode cX12_bytes 76 = .ok (.iload_n 3, 1) := by decide +kernel
theorem dX12_bytes_77 : decode cX12_bytes 77 = .ok (.imul, 1) := by decide +kernel
theorem dX12_bytes_78 : decode cX12_bytes 78 = .ok (.iadd, 1) := by decide +kernel
theorem dX12_bytes_79 : decode cX12_bytes 79 = .ok (.aload_n 0, 1) := by decide +kernel
theorem dX12_bytes_80 : decode cX12_bytes 80 = .ok (.getfield 63, 3) := by decide +kernel
theorem dX12_bytes_83 : decode cX12_bytes 83 = .ok (.iload_n 1, 1) := by decide +kernel
theorem dX12_bytes_84 : decode cX12_bytes 84 = .ok (.iaload, 1) := by decide +kernel
theorem dX12_bytes_85 : decode cX12_bytes 85 = .ok (.if_icmp .ge 163, 3) := by decide +kernel
theorem dX12_bytes_88 : decode cX12_bytes 88 = .ok (.aload_n 0, 1) := by decide +kernel
theorem dX12_bytes_89 : decode cX12_bytes 89 = .ok (.iload_n 1, 1) := by decide +kernel
theorem dX12_bytes_90 : decode cX12_bytes 90 = .ok (.iload_n 2, 1) := by decide +kernel
theorem dX12_bytes_91 : decode cX12_bytes 91 = .ok (.iload 4, 2) := by decide +kernel
theorem dX12_bytes_93 : decode cX12_bytes 93 = .ok (.invokevirtual 294, 3) := by decide +kernel
theorem dX12_bytes_96 : decode cX12_bytes 96 = .ok (.ifCond .ne 41, 3) := by decide +kernel
theorem dX12_bytes_99 : decode cX12_bytes 99 = .ok (.iload 4, 2) := by decide +kernel
theorem dX12_bytes_101 : decode cX12_bytes 101 = .ok (.ifCond .eq 17, 3) := by decide +kernel
theorem dX12_bytes_104 : decode cX12_bytes 104 = .ok (.aload_n 0, 1) := by decide +kernel
theorem dX12_bytes_105 : decode cX12_bytes 105 = .ok (.iload_n 1, 1) := by decide +kernel
theorem dX12_bytes_106 : decode cX12_bytes 106 = .ok (.iload_n 2, 1) := by decide +kernel
theorem dX12_bytes_107 : decode cX12_bytes 107 = .ok (.iload 4, 2) := by decide +kernel
theorem dX12_bytes_109 : decode cX12_bytes 109 = .ok (.iconst 1, 1) := by decide +kernel
theorem dX12_bytes_110 : decode cX12_bytes 110 = .ok (.isub, 1) := by decide +kernel
theorem dX12_bytes_111 : decode cX12_bytes 111 = .ok (.invokevirtual 294, 3) := by decide +kernel
theorem dX12_bytes_114 : decode cX12_bytes 114 = .ok (.iconst 1, 1) := by decide +kernel
theorem dX12_bytes_115 : decode cX12_bytes 115 = .ok (.if_icmp .ne 22, 3) := by decide +kernel
theorem dX12_bytes_118 : decode cX12_bytes 118 = .ok (.aload_n 0, 1) := by decide +kernel
theorem dX12_bytes_119 : decode cX12_bytes 119 = .ok (.iload_n 1, 1) := by decide +kernel
theorem dX12_bytes_120 : decode cX12_bytes 120 = .ok (.iload_n 2, 1) := by decide +kernel
theorem dX12_bytes_121 : decode cX12_bytes 121 = .ok (.iload 4, 2) := by decide +kernel
theorem dX12_bytes_123 : decode cX12_bytes 123 = .ok (.iload_n 3, 1) := by decide +kernel
theorem dX12_bytes_124 : decode cX12_bytes 124 = .ok (.iconst 2, 1) := by decide +kernel
theorem dX12_bytes_125 : decode cX12_bytes 125 = .ok (.idiv, 1) := by decide +kernel
theorem dX12_bytes_126 : decode cX12_bytes 126 = .ok (.iadd, 1) := by decide +kernel
theorem dX12_bytes_127 : decode cX12_bytes 127 = .ok (.invokevirtual 294, 3) := by decide +kernel
theorem dX12_bytes_130 : decode cX12_bytes 130 = .ok (.ifCond .ne 7, 3) := by decide +kernel
theorem dX12_bytes_133 : decode cX12_bytes 133 = .ok (.iconst 1, 1) := by decide +kernel
theorem dX12_bytes_134 : decode cX12_bytes 134 = .ok (.goto 4, 3) := by decide +kernel
theorem dX12_bytes_137 : decode cX12_bytes 137 = .ok (.iconst 0, 1) := by decide +kernel
theorem dX12_bytes_138 : decode cX12_bytes 138 = .ok (.istore 5, 2) := by decide +kernel
theorem dX12_bytes_140 : decode cX12_bytes 140 = .ok (.iload 5, 2) := by decide +kernel
theorem dX12_bytes_142 : decode cX12_bytes 142 = .ok (.ifCond .eq 100, 3) := by decide +kernel
theorem dX12_bytes_145 : decode cX12_bytes 145 = .ok (.iconst 0, 1) := by decide +kernel
theorem dX12_bytes_146 : decode cX12_bytes 146 = .ok (.istore 6, 2) := by decide +kernel
theorem dX12_bytes_148 : decode cX12_bytes 148 = .ok (.iconst 1, 1) := by decide +kernel
theorem dX12_bytes_149 : decode cX12_bytes 149 = .ok (.istore 7, 2) := by decide +kernel
theorem dX12_bytes_151 : decode cX12_bytes 151 = .ok (.iload 7, 2) := by decide +kernel
theorem dX12_bytes_153 : decode cX12_bytes 153 = .ok (.bipush 9, 2) := by decide +kernel
theorem dX12_bytes_155 : decode cX12_bytes 155 = .ok (.if_icmp .ge 36, 3) := by decide +kernel
theorem dX12_bytes_158 : decode cX12_bytes 158 = .ok (.iload 6, 2) := by decide +kernel
theorem dX12_bytes_160 : decode cX12_bytes 160 = .ok (.aload_n 0, 1) := by decide +kernel
theorem dX12_bytes_161 : decode cX12_bytes 161 = .ok (.iload_n 1, 1) := by decide +kernel
theorem dX12_bytes_162 : decode cX12_bytes 162 = .ok (.iload_n 2, 1) := by decide +kernel
theorem dX12_bytes_163 : decode cX12_bytes 163 = .ok (.iload 4, 2) := by decide +kernel
theorem dX12_bytes_165 : decode cX12_bytes 165 = .ok (.iload_n 3, 1) := by decide +kernel
theorem dX12_bytes_166 : decode cX12_bytes 166 = .ok (.iconst 2, 1) := by decide +kernel
theorem dX12_bytes_167 : decode cX12_bytes 167 = .ok (.idiv, 1) := by decide +kernel
theorem dX12_bytes_168 : decode cX12_bytes 168 = .ok (.iadd, 1) := by decide +kernel
theorem dX12_bytes_169 : decode cX12_bytes 169 = .ok (.iload_n 3, 1) := by decide +kernel
theorem dX12_bytes_170 : decode cX12_bytes 170 = .ok (.iload 7, 2) := by decide +kernel
theorem dX12_bytes_172 : decode cX12_bytes 172 = .ok (.imul, 1) := by decide +kernel
theorem dX12_bytes_173 : decode cX12_bytes 173 = .ok (.iadd, 1) := by decide +kernel
theorem dX12_bytes_174 : decode cX12_bytes 174 = .ok (.invokevirtual 294, 3) := by decide +kernel
theorem dX12_bytes_177 : decode cX12_bytes 177 = .ok (.iload 7, 2) := by decide +kernel
theorem dX12_bytes_179 : decode cX12_bytes 179 = .ok (.iconst 1, 1) := by decide +kernel
theorem dX12_bytes_180 : decode cX12_bytes 180 = .ok (.isub, 1) := by decide +kernel
theorem dX12_bytes_181 : decode cX12_bytes 181 = .ok (.ishl, 1) := by decide +kernel
theorem dX12_bytes_182 : decode cX12_bytes 182 = .ok (.ior, 1) := by decide +kernel
theorem dX12_bytes_183 : decode cX12_bytes 183 = .ok (.istore 6, 2) := by decide +kernel
theorem dX12_bytes_185 : decode cX12_bytes 185 = .ok (.iinc 7 1, 3) := by decide +kernel
theorem dX12_bytes_188 : decode cX12_bytes 188 = .ok (.goto (-37), 3) := by decide +kernel
theorem dX12_bytes_191 : decode cX12_bytes 191 = .ok (.iload 4, 2) := by decide +kernel
theorem dX12_bytes_193 : decode cX12_bytes 193 = .ok (.iload_n 3, 1) := by decide +kernel
theorem dX12_bytes_194 : decode cX12_bytes 194 = .ok (.iconst 2, 1) := by decide +kernel
theorem dX12_bytes_195 : decode cX12_bytes 195 = .ok (.idiv, 1) := by decide +kernel
theorem dX12_bytes_196 : decode cX12_bytes 196 = .ok (.iadd, 1) := by decide +kernel
theorem dX12_bytes_197 : decode cX12_bytes 197 = .ok (.bipush 9, 2) := by decide +kernel
theorem dX12_bytes_199 : decode cX12_bytes 199 = .ok (.iload_n 3, 1) := by decide +kernel
theorem dX12_bytes_200 : decode cX12_bytes 200 = .ok (.imul, 1) := by decide +kernel
theorem dX12_bytes_201 : decode cX12_bytes 201 = .ok (.iadd, 1) := by decide +kernel
theorem dX12_bytes_202 : decode cX12_bytes 202 = .ok (.istore 7, 2) := by decide +kernel
theorem dX12_bytes_204 : decode cX12_bytes 204 = .ok (.aload_n 0, 1) := by decide +kernel
theorem dX12_bytes_205 : decode cX12_bytes 205 = .ok (.iload_n 1, 1) := by decide +kernel
theorem dX12_bytes_206 : decode cX12_bytes 206 = .ok (.iload_n 2, 1) := by decide +kernel
theorem dX12_bytes_207 : decode cX12_bytes 207 = .ok (.iload 7, 2) := by decide +kernel
theorem dX12_bytes_209 : decode cX12_bytes 209 = .ok (.invokevirtual 294, 3) := by decide +kernel
theorem dX12_bytes_212 : decode cX12_bytes 212 = .ok (.iconst 1, 1) := by decide +kernel
theorem dX12_bytes_213 : decode cX12_bytes 213 = .ok (.if_icmp .ne 14, 3) := by decide +kernel
theorem dX12_bytes_216 : decode cX12_bytes 216 = .ok (.aload_n 0, 1) := by decide +kernel
theorem dX12_bytes_217 : decode cX12_bytes 217 = .ok (.iload 6, 2) := by decide +kernel
theorem dX12_bytes_219 : decode cX12_bytes 219 = .ok (.iload 4, 2) := by decide +kernel
theorem dX12_bytes_221 : decode cX12_bytes 221 = .ok (.invokevirtual 297, 3) := by decide +kernel
theorem dX12_bytes_224 : decode cX12_bytes 224 = .ok (.goto 9, 3) := by decide +kernel
theorem dX12_bytes_227 : decode cX12_bytes 227 = .ok (.aload_n 0, 1) := by decide +kernel
theorem dX12_bytes_228 : decode cX12_bytes 228 = .ok (.iload 7, 2) := by decide +kernel
theorem dX12_bytes_230 : decode cX12_bytes 230 = .ok (.putfield 107, 3) := by decide +kernel
theorem dX12_bytes_233 : decode cX12_bytes 233 = .ok (.iload 7, 2) := by decide +kernel
theorem dX12_bytes_235 : decode cX12_bytes 235 = .ok (.iconst 1, 1) := by decide +kernel
theorem dX12_bytes_236 : decode cX12_bytes 236 = .ok (.iadd, 1) := by decide +kernel
theorem dX12_bytes_237 : decode cX12_bytes 237 = .ok (.istore 4, 2) := by decide +kernel
theorem dX12_bytes_239 : decode cX12_bytes 239 = .ok (.goto 6, 3) := by decide +kernel
theorem dX12_bytes_242 : decode cX12_bytes 242 = .ok (.iinc 4 1, 3) := by decide +kernel
theorem dX12_bytes_245 : decode cX12_bytes 245 = .ok (.goto (-195), 3) := by decide +kernel
theorem dX12_bytes_248 : decode cX12_bytes 248 = .ok (.aload_n 0, 1) := by decide +kernel
theorem dX12_bytes_249 : decode cX12_bytes 249 = .ok (.getfield 289, 3) := by decide +kernel
theorem dX12_bytes_252 : decode cX12_bytes 252 = .ok (.ireturn, 1) := by decide +kernel
theorem dX12_wires_0 : decode cX12_wires 0 = .ok (.aload_n 0, 1) := by decide +kernel
theorem dX12_wires_1 : decode cX12_wires 1 = .ok (.iload_n 1, 1) := by decide +kernel
theorem dX12_wires_2 : decode cX12_wires 2 = .ok (.invokevirtual 261, 3) := by decide +kernel
theorem dX12_wires_5 : decode cX12_wires 5 = .ok (.ifCond .eq 32, 3) := by decide +kernel
theorem dX12_wires_8 : decode cX12_wires 8 = .ok (.iload_n 2, 1) := by decide +kernel
theorem dX12_wires_9 : decode cX12_wires 9 = .ok (.i2l, 1) := by decide +kernel
theorem dX12_wires_10 : decode cX12_wires 10 = .ok (.lconst 0, 1) := by decide +kernel
theorem dX12_wires_11 : decode cX12_wires 11 = .ok (.ldc2_w 257, 3) := by decide +kernel
theorem dX12_wires_14 : decode cX12_wires 14 = .ok (.invokestatic 115, 3) := by decide +kernel
theorem dX12_wires_17 : decode cX12_wires 17 = .ok (.ifCond .eq 20, 3) := by decide +kernel
theorem dX12_wires_20 : decode cX12_wires 20 = .ok (.iload_n 3, 1) := by decide +kernel
theorem dX12_wires_21 : decode cX12_wires 21 = .ok (.i2l, 1) := by decide +kernel
theorem dX12_wires_22 : decode cX12_wires 22 = .ok (.lconst 0, 1) := by decide +kernel
theorem dX12_wires_23 : decode cX12_wires 23 = .ok (.ldc2_w 257, 3) := by decide +kernel
theorem dX12_wires_26 : decode cX12_wires 26 = .ok (.invokestatic 115, 3) := by decide +kernel
theorem dX12_wires_29 : decode cX12_wires 29 = .ok (.ifCond .eq 8, 3) := by decide +kernel
theorem dX12_wires_32 : decode cX12_wires 32 = .ok (.iload_n 2, 1) := by decide +kernel
theorem dX12_wires_33 : decode cX12_wires 33 = .ok (.iload_n 3, 1) := by decide +kernel
theorem dX12_wires_34 : decode cX12_wires 34 = .ok (.if_icmp .ne 5, 3) := by decide +kernel
theorem dX12_wires_37 : decode cX12_wires 37 = .ok (.iconst (-1), 1) := by decide +kernel
theorem dX12_wires_38 : decode cX12_wires 38 = .ok (.ireturn, 1) := by decide +kernel
theorem dX12_wires_39 : decode cX12_wires 39 = .ok (.aload_n 0, 1) := by decide +kernel
theorem dX12_wires_40 : decode cX12_wires 40 = .ok (.iconst 0, 1) := by decide +kernel
theorem dX12_wires_41 : decode cX12_wires 41 = .ok (.putfield 289, 3) := by decide +kernel
theorem dX12_wires_44 : decode cX12_wires 44 = .ok (.aload_n 0, 1) := by decide +kernel
theorem dX12_wires_45 : decode cX12_wires 45 = .ok (.bipush (-4), 2) := by decide +kernel
theorem dX12_wires_47 : decode cX12_wires 47 = .ok (.putfield 107, 3) := by decide +kernel
theorem dX12_wires_50 : decode cX12_wires 50 = .ok (.iconst 0, 1) := by decide +kernel
theorem dX12_wires_51 : decode cX12_wires 51 = .ok (.istore 4, 2) := by decide +kernel
theorem dX12_wires_53 : decode cX12_wires 53 = .ok (.iconst 0, 1) := by decide +kernel
theorem dX12_wires_54 : decode cX12_wires 54 = .ok (.istore 5, 2) := by decide +kernel
theorem dX12_wires_56 : decode cX12_wires 56 = .ok (.iconst 0, 1) := by decide +kernel
theorem dX12_wires_57 : decode cX12_wires 57 = .ok (.istore 6, 2) := by decide +kernel
theorem dX12_wires_59 : decode cX12_wires 59 = .ok (.iconst 0, 1) := by decide +kernel
theorem dX12_wires_60 : decode cX12_wires 60 = .ok (.istore 7, 2) := by decide +kernel
theorem dX12_wires_62 : decode cX12_wires 62 = .ok (.iconst 1, 1) := by decide +kernel
theorem dX12_wires_63 : decode cX12_wires 63 = .ok (.istore 8, 2) := by decide +kernel
theorem dX12_wires_65 : decode cX12_wires 65 = .ok (.iload 8, 2) := by decide +kernel
theorem dX12_wires_67 : decode cX12_wires 67 = .ok (.aload_n 0, 1) := by decide +kernel
theorem dX12_wires_68 : decode cX12_wires 68 = .ok (.getfield 63, 3) := by decide +kernel
theorem dX12_wires_71 : decode cX12_wires 71 = .ok (.iload_n 1, 1) := by decide +kernel
theorem dX12_wires_72 : decode cX12_wires 72 = .ok (.iaload, 1) := by decide +kernel
theorem dX12_wires_73 : decode cX12_wires 73 = .ok (.if_icmp .ge 217, 3) := by decide +kernel
theorem dX12_wires_76 : decode cX12_wires 76 = .ok (.aload_n 0, 1) := by decide +kernel
theorem dX12_wires_77 : decode cX12_wires 77 = .ok (.getfield 289, 3) := by decide +kernel
theorem dX12_wires_80 : decode cX12_wires 80 = .ok (.bipush 20, 2) := by decide +kernel
theorem dX12_wires_82 : decode cX12_wires 82 = .ok (.if_icmp .ge 208, 3) := by decide +kernel
theorem dX12_wires_85 : decode cX12_wires 85 = .ok (.aload_n 0, 1) := by decide +kernel
theorem dX12_wires_86 : decode cX12_wires 86 = .ok (.getfield 107, 3) := by decide +kernel
theorem dX12_wires_89 : decode cX12_wires 89 = .ok (.bipush (-4), 2) := by decide +kernel
theorem dX12_wires_91 : decode cX12_wires 91 = .ok (.if_icmp .ne 199, 3) := by decide +kernel
theorem dX12_wires_94 : decode cX12_wires 94 = .ok (.aload_n 0, 1) := by decide +kernel
theorem dX12_wires_95 : decode cX12_wires 95 = .ok (.iload_n 1, 1) := by decide +kernel
theorem dX12_wires_96 : decode cX12_wires 96 = .ok (.iload_n 2, 1) := by decide +kernel
theorem dX12_wires_97 : decode cX12_wires 97 = .ok (.iload 8, 2) := by decide +kernel
theorem dX12_wires_99 : decode cX12_wires 99 = .ok (.invokevirtual 294, 3) := by decide +kernel
theorem dX12_wires_102 : decode cX12_wires 102 = .ok (.istore 9, 2) := by decide +kernel
theorem dX12_wires_104 : decode cX12_wires 104 = .ok (.aload_n 0, 1) := by decide +kernel
theorem dX12_wires_105 : decode cX12_wires 105 = .ok (.iload_n 1, 1) := by decide +kernel
theorem dX12_wires_106 : decode cX12_wires 106 = .ok (.iload_n 2, 1) := by decide +kernel
theorem dX12_wires_107 : decode cX12_wires 107 = .ok (.iload 8, 2) := by decide +kernel
theorem dX12_wires_109 : decode cX12_wires 109 = .ok (.iconst 1, 1) := by decide +kernel
theorem dX12_wires_110 : decode cX12_wires 110 = .ok (.isub, 1) := by decide +kernel
theorem dX12_wires_111 : decode cX12_wires 111 = .ok (.invokevirtual 294, 3) := by decide +kernel
theorem dX12_wires_114 : decode cX12_wires 114 = .ok (.istore 10, 2) := by decide +kernel
theorem dX12_wires_116 : decode cX12_wires 116 = .ok (.aload_n 0, 1) := by decide +kernel
theorem dX12_wires_117 : decode cX12_wires 117 = .ok (.iload_n 1, 1) := by decide +kernel
theorem dX12_wires_118 : decode cX12_wires 118 = .ok (.iload_n 3, 1) := by decide +kernel
theorem dX12_wires_119 : decode cX12_wires 119 = .ok (.iload 8, 2) := by decide +kernel
theorem dX12_wires_121 : decode cX12_wires 121 = .ok (.invokevirtual 294, 3) := by decide +kernel
theorem dX12_wires_124 : decode cX12_wires 124 = .ok (.istore 11, 2) := by decide +kernel
theorem dX12_wires_126 : decode cX12_wires 126 = .ok (.aload_n 0, 1) := by decide +kernel
theorem dX12_wires_127 : decode cX12_wires 127 = .ok (.iload_n 1, 1) := by decide +kernel
theorem dX12_wires_128 : decode cX12_wires 128 = .ok (.iload_n 3, 1) := by decide +kernel
theorem dX12_wires_129 : decode cX12_wires 129 = .ok (.iload 8, 2) := by decide +kernel
theorem dX12_wires_131 : decode cX12_wires 131 = .ok (.iconst 1, 1) := by decide +kernel
theorem dX12_wires_132 : decode cX12_wires 132 = .ok (.isub, 1) := by decide +kernel
theorem dX12_wires_133 : decode cX12_wires 133 = .ok (.invokevirtual 294, 3) := by decide +kernel
theorem dX12_wires_136 : decode cX12_wires 136 = .ok (.istore 12, 2) := by decide +kernel
theorem dX12_wires_138 : decode cX12_wires 138 = .ok (.iload 9, 2) := by decide +kernel
theorem dX12_wires_140 : decode cX12_wires 140 = .ok (.iconst 1, 1) := by decide +kernel
theorem dX12_wires_141 : decode cX12_wires 141 = .ok (.if_icmp .ne 28, 3) := by decide +kernel
theorem dX12_wires_144 : decode cX12_wires 144 = .ok (.iload 10, 2) := by decide +kernel
theorem dX12_wires_146 : decode cX12_wires 146 = .ok (.iconst 1, 1) := by decide +kernel
theorem dX12_wires_147 : decode cX12_wires 147 = .ok (.if_icmp .ne 22, 3) := by decide +kernel
theorem dX12_wires_150 : decode cX12_wires 150 = .ok (.iload 11, 2) := by decide +kernel
theorem dX12_wires_152 : decode cX12_wires 152 = .ok (.iload 12, 2) := by decide +kernel
theorem dX12_wires_154 : decode cX12_wires 154 = .ok (.if_icmp .ge 15, 3) := by decide +kernel
theorem dX12_wires_157 : decode cX12_wires 157 = .ok (.iconst 1, 1) := by decide +kernel
theorem dX12_wires_158 : decode cX12_wires 158 = .ok (.istore 4, 2) := by decide +kernel
theorem dX12_wires_160 : decode cX12_wires 160 = .ok (.iconst 0, 1) := by decide +kernel
theorem dX12_wires_161 : decode cX12_wires 161 = .ok (.istore 5, 2) := by decide +kernel
theorem dX12_wires_163 : decode cX12_wires 163 = .ok (.iconst 0, 1) := by decide +kernel
theorem dX12_wires_164 : decode cX12_wires 164 = .ok (.istore 6, 2) := by decide +kernel
theorem dX12_wires_166 : decode cX12_wires 166 = .ok (.goto 118, 3) := by decide +kernel
theorem dX12_wires_169 : decode cX12_wires 169 = .ok (.iload 9, 2) := by decide +kernel
theorem dX12_wires_171 : decode cX12_wires 171 = .ok (.iconst 1, 1) := by decide +kernel
theorem dX12_wires_172 : decode cX12_wires 172 = .ok (.if_icmp .ne 39, 3) := by decide +kernel
theorem dX12_wires_175 : decode cX12_wires 175 = .ok (.iload 10, 2) := by decide +kernel
theorem dX12_wires_177 : decode cX12_wires 177 = .ok (.iconst 1, 1) := by decide +kernel
theorem dX12_wires_178 : decode cX12_wires 178 = .ok (.if_icmp .ne 33, 3) := by decide +kernel
theorem dX12_wires_181 : decode cX12_wires 181 = .ok (.iload 11, 2) := by decide +kernel
theorem dX12_wires_183 : decode cX12_wires 183 = .ok (.iload 12, 2) := by decide +kernel
theorem dX12_wires_185 : decode cX12_wires 185 = .ok (.if_icmp .le 26, 3) := by decide +kernel
theorem dX12_wires_188 : decode cX12_wires 188 = .ok (.iload 4, 2) := by decide +kernel
theorem dX12_wires_190 : decode cX12_wires 190 = .ok (.ifCond .eq 9, 3) := by decide +kernel
theorem dX12_wires_193 : decode cX12_wires 193 = .ok (.iload 5, 2) := by decide +kernel
theorem dX12_wires_195 : decode cX12_wires 195 = .ok (.iconst 1, 1) := by decide +kernel
theorem dX12_wires_196 : decode cX12_wires 196 = .ok (.if_icmp .le 9, 3) := by decide +kernel
theorem dX12_wires_199 : decode cX12_wires 199 = .ok (.aload_n 0, 1) := by decide +kernel
theorem dX12_wires_200 : decode cX12_wires 200 = .ok (.iload 8, 2) := by decide +kernel
theorem dX12_wires_202 : decode cX12_wires 202 = .ok (.putfield 107, 3) := by decide +kernel
theorem dX12_wires_205 : decode cX12_wires 205 = .ok (.iconst 0, 1) := by decide +kernel
theorem dX12_wires_206 : decode cX12_wires 206 = .ok (.istore 4, 2) := by decide +kernel
theorem dX12_wires_208 : decode cX12_wires 208 = .ok (.goto 76, 3) := by decide +kernel
theorem dX12_wires_211 : decode cX12_wires 211 = .ok (.iload 9, 2) := by decide +kernel
theorem dX12_wires_213 : decode cX12_wires 213 = .ok (.iconst 1, 1) := by decide +kernel
theorem dX12_wires_214 : decode cX12_wires 214 = .ok (.if_icmp .ne 70, 3) := by decide +kernel
theorem dX12_wires_217 : decode cX12_wires 217 = .ok (.iload 10, 2) := by decide +kernel
theorem dX12_wires_219 : decode cX12_wires 219 = .ok (.ifCond .ne 65, 3) := by decide +kernel
theorem dX12_wires_222 : decode cX12_wires 222 = .ok (.iload 4, 2) := by decide +kernel
theorem dX12_wires_224 : decode cX12_wires 224 = .ok (.ifCond .eq 60, 3) := by decide +kernel
theorem dX12_wires_227 : decode cX12_wires 227 = .ok (.iload 5, 2) := by decide +kernel
theorem dX12_wires_229 : decode cX12_wires 229 = .ok (.ifCond .ne 8, 3) := by decide +kernel
theorem dX12_wires_232 : decode cX12_wires 232 = .ok (.iload 8, 2) := by decide +kernel
theorem dX12_wires_234 : decode cX12_wires 234 = .ok (.goto 5, 3) := by decide +kernel
theorem dX12_wires_237 : decode cX12_wires 237 = .ok (.iload 7, 2) := by decide +kernel
theorem dX12_wires_239 : decode cX12_wires 239 = .ok (.istore 7, 2) := by decide +kernel
theorem dX12_wires_241 : decode cX12_wires 241 = .ok (.iload 5, 2) := by decide +kernel
theorem dX12_wires_243 : decode cX12_wires 243 = .ok (.bipush 8, 2) := by decide +kernel
theorem dX12_wires_245 : decode cX12_wires 245 = .ok (.if_icmp .ge 18, 3) := by decide +kernel
theorem dX12_wires_248 : decode cX12_wires 248 = .ok (.iload 6, 2) := by decide +kernel
theorem dX12_wires_250 : decode cX12_wires 250 = .ok (.iconst 1, 1) := by decide +kernel
theorem dX12_wires_251 : decode cX12_wires 251 = .ok (.ishl, 1) := by decide +kernel
theorem dX12_wires_252 : decode cX12_wires 252 = .ok (.iload 11, 2) := by decide +kernel
theorem dX12_wires_254 : decode cX12_wires 254 = .ok (.ior, 1) := by decide +kernel
theorem dX12_wires_255 : decode cX12_wires 255 = .ok (.istore 6, 2) := by decide +kernel
theorem dX12_wires_257 : decode cX12_wires 257 = .ok (.iinc 5 1, 3) := by decide +kernel
theorem dX12_wires_260 : decode cX12_wires 260 = .ok (.goto 24, 3) := by decide +kernel
theorem dX12_wires_263 : decode cX12_wires 263 = .ok (.aload_n 0, 1) := by decide +kernel
theorem dX12_wires_264 : decode cX12_wires 264 = .ok (.iload 6, 2) := by decide +kernel
theorem dX12_wires_266 : decode cX12_wires 266 = .ok (.sipush 256, 3) := by decide +kernel
theorem dX12_wires_269 : decode cX12_wires 269 = .ok (.iload 11, 2) := by decide +kernel
theorem dX12_wires_271 : decode cX12_wires 271 = .ok (.imul, 1) := by decide +kernel
theorem dX12_wires_272 : decode cX12_wires 272 = .ok (.iadd, 1) := by decide +kernel
theorem dX12_wires_273 : decode cX12_wires 273 = .ok (.iload 7, 2) := by decide +kernel
theorem dX12_wires_275 : decode cX12_wires 275 = .ok (.invokevirtual 297, 3) := by decide +kernel
theorem dX12_wires_278 : decode cX12_wires 278 = .ok (.iconst 0, 1) := by decide +kernel
theorem dX12_wires_279 : decode cX12_wires 279 = .ok (.istore 5, 2) := by decide +kernel
theorem dX12_wires_281 : decode cX12_wires 281 = .ok (.iconst 0, 1) := by decide +kernel
theorem dX12_wires_282 : decode cX12_wires 282 = .ok (.istore 6, 2) := by decide +kernel
theorem dX12_wires_284 : decode cX12_wires 284 = .ok (.iinc 8 1, 3) := by decide +kernel
theorem dX12_wires_287 : decode cX12_wires 287 = .ok (.goto (-222), 3) := by decide +kernel
theorem dX12_wires_290 : decode cX12_wires 290 = .ok (.aload_n 0, 1) := by decide +kernel
theorem dX12_wires_291 : decode cX12_wires 291 = .ok (.getfield 289, 3) := by decide +kernel
theorem dX12_wires_294 : decode cX12_wires 294 = .ok (.ireturn, 1) := by decide +kernel
theorem dX12_got_0 : decode cX12_got 0 = .ok (.iload_n 1, 1) := by decide +kernel
theorem dX12_got_1 : decode cX12_got 1 = .ok (.i2l, 1) := by decide +kernel
theorem dX12_got_2 : decode cX12_got 2 = .ok (.lconst 0, 1) := by decide +kernel
theorem dX12_got_3 : decode cX12_got 3 = .ok (.aload_n 0, 1) := by decide +kernel
theorem dX12_got_4 : decode cX12_got 4 = .ok (.getfield 289, 3) := by decide +kernel
theorem dX12_got_7 : decode cX12_got 7 = .ok (.iconst 1, 1) := by decide +kernel
theorem dX12_got_8 : decode cX12_got 8 = .ok (.isub, 1) := by decide +kernel
theorem dX12_got_9 : decode cX12_got 9 = .ok (.i2l, 1) := by decide +kernel
theorem dX12_got_10 : decode cX12_got 10 = .ok (.invokestatic 115, 3) := by decide +kernel
theorem dX12_got_13 : decode cX12_got 13 = .ok (.ifCond .eq 12, 3) := by decide +kernel
theorem dX12_got_16 : decode cX12_got 16 = .ok (.aload_n 0, 1) := by decide +kernel
theorem dX12_got_17 : decode cX12_got 17 = .ok (.getfield 101, 3) := by decide +kernel
theorem dX12_got_20 : decode cX12_got 20 = .ok (.iload_n 1, 1) := by decide +kernel
theorem dX12_got_21 : decode cX12_got 21 = .ok (.iaload, 1) := by decide +kernel
theorem dX12_got_22 : decode cX12_got 22 = .ok (.goto 4, 3) := by decide +kernel
theorem dX12_got_25 : decode cX12_got 25 = .ok (.iconst (-1), 1) := by decide +kernel
theorem dX12_got_26 : decode cX12_got 26 = .ok (.ireturn, 1) := by decide +kernel
theorem dX12_when_0 : decode cX12_when 0 = .ok (.iload_n 1, 1) := by decide +kernel
theorem dX12_when_1 : decode cX12_when 1 = .ok (.iconst (-1), 1) := by decide +kernel
theorem dX12_when_2 : decode cX12_when 2 = .ok (.if_icmp .ne 10, 3) := by decide +kernel
theorem dX12_when_5 : decode cX12_when 5 = .ok (.aload_n 0, 1) := by decide +kernel
theorem dX12_when_6 : decode cX12_when 6 = .ok (.getfield 107, 3) := by decide +kernel
theorem dX12_when_9 : decode cX12_when 9 = .ok (.goto 29, 3) := by decide +kernel
theorem dX12_when_12 : decode cX12_when 12 = .ok (.iload_n 1, 1) := by decide +kernel
theorem dX12_when_13 : decode cX12_when 13 = .ok (.i2l, 1) := by decide +kernel
theorem dX12_when_14 : decode cX12_when 14 = .ok (.lconst 0, 1) := by decide +kernel
theorem dX12_when_15 : decode cX12_when 15 = .ok (.aload_n 0, 1) := by decide +kernel
theorem dX12_when_16 : decode cX12_when 16 = .ok (.getfield 289, 3) := by decide +kernel
theorem dX12_when_19 : decode cX12_when 19 = .ok (.iconst 1, 1) := by decide +kernel
theorem dX12_when_20 : decode cX12_when 20 = .ok (.isub, 1) := by decide +kernel
theorem dX12_when_21 : decode cX12_when 21 = .ok (.i2l, 1) := by decide +kernel
theorem dX12_when_22 : decode cX12_when 22 = .ok (.invokestatic 115, 3) := by decide +kernel
theorem dX12_when_25 : decode cX12_when 25 = .ok (.ifCond .eq 12, 3) := by decide +kernel
theorem dX12_when_28 : decode cX12_when 28 = .ok (.aload_n 0, 1) := by decide +kernel
theorem dX12_when_29 : decode cX12_when 29 = .ok (.getfield 104, 3) := by decide +kernel
theorem dX12_when_32 : decode cX12_when 32 = .ok (.iload_n 1, 1) := by decide +kernel
theorem dX12_when_33 : decode cX12_when 33 = .ok (.iaload, 1) := by decide +kernel
theorem dX12_when_34 : decode cX12_when 34 = .ok (.goto 4, 3) := by decide +kernel
theorem dX12_when_37 : decode cX12_when 37 = .ok (.iconst (-1), 1) := by decide +kernel
theorem dX12_when_38 : decode cX12_when 38 = .ok (.ireturn, 1) := by decide +kernel
theorem dX12_frame_0 : decode cX12_frame 0 = .ok (.iload_n 1, 1) := by decide +kernel
theorem dX12_frame_1 : decode cX12_frame 1 = .ok (.ifCond .ge 5, 3) := by decide +kernel
theorem dX12_frame_4 : decode cX12_frame 4 = .ok (.iconst (-1), 1) := by decide +kernel
theorem dX12_frame_5 : decode cX12_frame 5 = .ok (.ireturn, 1) := by decide +kernel
theorem dX12_frame_6 : decode cX12_frame 6 = .ok (.iload_n 1, 1) := by decide +kernel
theorem dX12_frame_7 : decode cX12_frame 7 = .ok (.istore_n 2, 1) := by decide +kernel
theorem dX12_frame_8 : decode cX12_frame 8 = .ok (.iload_n 2, 1) := by decide +kernel
theorem dX12_frame_9 : decode cX12_frame 9 = .ok (.aload_n 0, 1) := by decide +kernel
theorem dX12_frame_10 : decode cX12_frame 10 = .ok (.getfield 289, 3) := by decide +kernel
theorem dX12_frame_13 : decode cX12_frame 13 = .ok (.if_icmp .ge 138, 3) := by decide +kernel
theorem dX12_frame_16 : decode cX12_frame 16 = .ok (.iload_n 2, 1) := by decide +kernel
theorem dX12_frame_17 : decode cX12_frame 17 = .ok (.iconst 1, 1) := by decide +kernel
theorem dX12_frame_18 : decode cX12_frame 18 = .ok (.iadd, 1) := by decide +kernel
theorem dX12_frame_19 : decode cX12_frame 19 = .ok (.aload_n 0, 1) := by decide +kernel
theorem dX12_frame_20 : decode cX12_frame 20 = .ok (.getfield 289, 3) := by decide +kernel
theorem dX12_frame_23 : decode cX12_frame 23 = .ok (.if_icmp .ge 18, 3) := by decide +kernel
theorem dX12_frame_26 : decode cX12_frame 26 = .ok (.aload_n 0, 1) := by decide +kernel
theorem dX12_frame_27 : decode cX12_frame 27 = .ok (.getfield 101, 3) := by decide +kernel
theorem dX12_frame_30 : decode cX12_frame 30 = .ok (.iload_n 2, 1) := by decide +kernel
theorem dX12_frame_31 : decode cX12_frame 31 = .ok (.iconst 1, 1) := by decide +kernel
theorem dX12_frame_32 : decode cX12_frame 32 = .ok (.iadd, 1) := by decide +kernel
theorem dX12_frame_33 : decode cX12_frame 33 = .ok (.iaload, 1) := by decide +kernel
theorem dX12_frame_34 : decode cX12_frame 34 = .ok (.sipush 255, 3) := by decide +kernel
theorem dX12_frame_37 : decode cX12_frame 37 = .ok (.iand, 1) := by decide +kernel
theorem dX12_frame_38 : decode cX12_frame 38 = .ok (.goto 4, 3) := by decide +kernel
theorem dX12_frame_41 : decode cX12_frame 41 = .ok (.iconst 0, 1) := by decide +kernel
theorem dX12_frame_42 : decode cX12_frame 42 = .ok (.istore_n 3, 1) := by decide +kernel
theorem dX12_frame_43 : decode cX12_frame 43 = .ok (.aload_n 0, 1) := by decide +kernel
theorem dX12_frame_44 : decode cX12_frame 44 = .ok (.getfield 101, 3) := by decide +kernel
theorem dX12_frame_47 : decode cX12_frame 47 = .ok (.iload_n 2, 1) := by decide +kernel
theorem dX12_frame_48 : decode cX12_frame 48 = .ok (.iaload, 1) := by decide +kernel
theorem dX12_frame_49 : decode cX12_frame 49 = .ok (.sipush 255, 3) := by decide +kernel
theorem dX12_frame_52 : decode cX12_frame 52 = .ok (.iand, 1) := by decide +kernel
theorem dX12_frame_53 : decode cX12_frame 53 = .ok (.bipush 85, 2) := by decide +kernel
theorem dX12_frame_55 : decode cX12_frame 55 = .ok (.if_icmp .ne 90, 3) := by decide +kernel
theorem dX12_frame_58 : decode cX12_frame 58 = .ok (.iload_n 3, 1) := by decide +kernel
theorem dX12_frame_59 : decode cX12_frame 59 = .ok (.i2l, 1) := by decide +kernel
theorem dX12_frame_60 : decode cX12_frame 60 = .ok (.lconst 1, 1) := by decide +kernel
theorem dX12_frame_61 : decode cX12_frame 61 = .ok (.ldc2_w 300, 3) := by decide +kernel
theorem dX12_frame_64 : decode cX12_frame 64 = .ok (.invokestatic 115, 3) := by decide +kernel
theorem dX12_frame_67 : decode cX12_frame 67 = .ok (.ifCond .eq 78, 3) := by decide +kernel
theorem dX12_frame_70 : decode cX12_frame 70 = .ok (.iload_n 2, 1) := by decide +kernel
theorem dX12_frame_71 : decode cX12_frame 71 = .ok (.iload_n 3, 1) := by decide +kernel
theorem dX12_frame_72 : decode cX12_frame 72 = .ok (.iadd, 1) := by decide +kernel
theorem dX12_frame_73 : decode cX12_frame 73 = .ok (.iconst 2, 1) := by decide +kernel
theorem dX12_frame_74 : decode cX12_frame 74 = .ok (.iadd, 1) := by decide +kernel
theorem dX12_frame_75 : decode cX12_frame 75 = .ok (.aload_n 0, 1) := by decide +kernel
theorem dX12_frame_76 : decode cX12_frame 76 = .ok (.getfield 289, 3) := by decide +kernel
theorem dX12_frame_79 : decode cX12_frame 79 = .ok (.if_icmp .ge 66, 3) := by decide +kernel
theorem dX12_frame_82 : decode cX12_frame 82 = .ok (.iload_n 3, 1) := by decide +kernel
theorem dX12_frame_83 : decode cX12_frame 83 = .ok (.istore 4, 2) := by decide +kernel
theorem dX12_frame_85 : decode cX12_frame 85 = .ok (.iconst 0, 1) := by decide +kernel
theorem dX12_frame_86 : decode cX12_frame 86 = .ok (.istore 5, 2) := by decide +kernel
theorem dX12_frame_88 : decode cX12_frame 88 = .ok (.iload 5, 2) := by decide +kernel
theorem dX12_frame_90 : decode cX12_frame 90 = .ok (.iload_n 3, 1) := by decide +kernel
theorem dX12_frame_91 : decode cX12_frame 91 = .ok (.if_icmp .ge 29, 3) := by decide +kernel
theorem dX12_frame_94 : decode cX12_frame 94 = .ok (.iload 4, 2) := by decide +kernel
theorem dX12_frame_96 : decode cX12_frame 96 = .ok (.aload_n 0, 1) := by decide +kernel
theorem dX12_frame_97 : decode cX12_frame 97 = .ok (.getfield 101, 3) := by decide +kernel
theorem dX12_frame_100 : decode cX12_frame 100 = .ok (.iload_n 2, 1) := by decide +kernel
theorem dX12_frame_101 : decode cX12_frame 101 = .ok (.iconst 2, 1) := by decide +kernel
theorem dX12_frame_102 : decode cX12_frame 102 = .ok (.iadd, 1) := by decide +kernel
theorem dX12_frame_103 : decode cX12_frame 103 = .ok (.iload 5, 2) := by decide +kernel
theorem dX12_frame_105 : decode cX12_frame 105 = .ok (.iadd, 1) := by decide +kernel
theorem dX12_frame_106 : decode cX12_frame 106 = .ok (.iaload, 1) := by decide +kernel
theorem dX12_frame_107 : decode cX12_frame 107 = .ok (.sipush 255, 3) := by decide +kernel
theorem dX12_frame_110 : decode cX12_frame 110 = .ok (.iand, 1) := by decide +kernel
theorem dX12_frame_111 : decode cX12_frame 111 = .ok (.iadd, 1) := by decide +kernel
theorem dX12_frame_112 : decode cX12_frame 112 = .ok (.istore 4, 2) := by decide +kernel
theorem dX12_frame_114 : decode cX12_frame 114 = .ok (.iinc 5 1, 3) := by decide +kernel
theorem dX12_frame_117 : decode cX12_frame 117 = .ok (.goto (-29), 3) := by decide +kernel
theorem dX12_frame_120 : decode cX12_frame 120 = .ok (.iload 4, 2) := by decide +kernel
theorem dX12_frame_122 : decode cX12_frame 122 = .ok (.sipush 255, 3) := by decide +kernel
theorem dX12_frame_125 : decode cX12_frame 125 = .ok (.iand, 1) := by decide +kernel
theorem dX12_frame_126 : decode cX12_frame 126 = .ok (.aload_n 0, 1) := by decide +kernel
theorem dX12_frame_127 : decode cX12_frame 127 = .ok (.getfield 101, 3) := by decide +kernel
theorem dX12_frame_130 : decode cX12_frame 130 = .ok (.iload_n 2, 1) := by decide +kernel
theorem dX12_frame_131 : decode cX12_frame 131 = .ok (.iconst 2, 1) := by decide +kernel
theorem dX12_frame_132 : decode cX12_frame 132 = .ok (.iadd, 1) := by decide +kernel
theorem dX12_frame_133 : decode cX12_frame 133 = .ok (.iload_n 3, 1) := by decide +kernel
theorem dX12_frame_134 : decode cX12_frame 134 = .ok (.iadd, 1) := by decide +kernel
theorem dX12_frame_135 : decode cX12_frame 135 = .ok (.iaload, 1) := by decide +kernel
theorem dX12_frame_136 : decode cX12_frame 136 = .ok (.sipush 255, 3) := by decide +kernel
theorem dX12_frame_139 : decode cX12_frame 139 = .ok (.iand, 1) := by decide +kernel
theorem dX12_frame_140 : decode cX12_frame 140 = .ok (.if_icmp .ne 5, 3) := by decide +kernel
theorem dX12_frame_143 : decode cX12_frame 143 = .ok (.iload_n 2, 1) := by decide +kernel
theorem dX12_frame_144 : decode cX12_frame 144 = .ok (.ireturn, 1) := by decide +kernel
theorem dX12_frame_145 : decode cX12_frame 145 = .ok (.iinc 2 1, 3) := by decide +kernel
theorem dX12_frame_148 : decode cX12_frame 148 = .ok (.goto (-140), 3) := by decide +kernel
theorem dX12_frame_151 : decode cX12_frame 151 = .ok (.bipush (-4), 2) := by decide +kernel
theorem dX12_frame_153 : decode cX12_frame 153 = .ok (.ireturn, 1) := by decide +kernel
theorem dJ9_floorDiv_f86c9_0 : decode cJ9_floorDiv_f86c9 0 = .ok (.lload_n 0, 1) := by decide +kernel
theorem dJ9_floorDiv_f86c9_1 : decode cJ9_floorDiv_f86c9 1 = .ok (.lload_n 2, 1) := by decide +kernel
theorem dJ9_floorDiv_f86c9_2 : decode cJ9_floorDiv_f86c9 2 = .ok (.ldiv, 1) := by decide +kernel
theorem dJ9_floorDiv_f86c9_3 : decode cJ9_floorDiv_f86c9 3 = .ok (.lstore 4, 2) := by decide +kernel
theorem dJ9_floorDiv_f86c9_5 : decode cJ9_floorDiv_f86c9 5 = .ok (.lload_n 0, 1) := by decide +kernel
theorem dJ9_floorDiv_f86c9_6 : decode cJ9_floorDiv_f86c9 6 = .ok (.lload_n 2, 1) := by decide +kernel
theorem dJ9_floorDiv_f86c9_7 : decode cJ9_floorDiv_f86c9 7 = .ok (.lxor, 1) := by decide +kernel
theorem dJ9_floorDiv_f86c9_8 : decode cJ9_floorDiv_f86c9 8 = .ok (.lconst 0, 1) := by decide +kernel
theorem dJ9_floorDiv_f86c9_9 : decode cJ9_floorDiv_f86c9 9 = .ok (.lcmp, 1) := by decide +kernel
theorem dJ9_floorDiv_f86c9_10 : decode cJ9_floorDiv_f86c9 10 = .ok (.ifCond .ge 17, 3) := by decide +kernel
theorem dJ9_floorDiv_f86c9_13 : decode cJ9_floorDiv_f86c9 13 = .ok (.lload 4, 2) := by decide +kernel
theorem dJ9_floorDiv_f86c9_15 : decode cJ9_floorDiv_f86c9 15 = .ok (.lload_n 2, 1) := by decide +kernel
theorem dJ9_floorDiv_f86c9_16 : decode cJ9_floorDiv_f86c9 16 = .ok (.lmul, 1) := by decide +kernel
theorem dJ9_floorDiv_f86c9_17 : decode cJ9_floorDiv_f86c9 17 = .ok (.lload_n 0, 1) := by decide +kernel
theorem dJ9_floorDiv_f86c9_18 : decode cJ9_floorDiv_f86c9 18 = .ok (.lcmp, 1) := by decide +kernel
theorem dJ9_floorDiv_f86c9_19 : decode cJ9_floorDiv_f86c9 19 = .ok (.ifCond .eq 8, 3) := by decide +kernel
theorem dJ9_floorDiv_f86c9_22 : decode cJ9_floorDiv_f86c9 22 = .ok (.lload 4, 2) := by decide +kernel
theorem dJ9_floorDiv_f86c9_24 : decode cJ9_floorDiv_f86c9 24 = .ok (.lconst 1, 1) := by decide +kernel
theorem dJ9_floorDiv_f86c9_25 : decode cJ9_floorDiv_f86c9 25 = .ok (.lsub, 1) := by decide +kernel
theorem dJ9_floorDiv_f86c9_26 : decode cJ9_floorDiv_f86c9 26 = .ok (.lreturn, 1) := by decide +kernel
theorem dJ9_floorDiv_f86c9_27 : decode cJ9_floorDiv_f86c9 27 = .ok (.lload 4, 2) := by decide +kernel
theorem dJ9_floorDiv_f86c9_29 : decode cJ9_floorDiv_f86c9 29 = .ok (.lreturn, 1) := by decide +kernel
theorem dJ9_floorMod_7cf53_0 : decode cJ9_floorMod_7cf53 0 = .ok (.iload_n 0, 1) := by decide +kernel
theorem dJ9_floorMod_7cf53_1 : decode cJ9_floorMod_7cf53 1 = .ok (.iload_n 1, 1) := by decide +kernel
theorem dJ9_floorMod_7cf53_2 : decode cJ9_floorMod_7cf53 2 = .ok (.irem, 1) := by decide +kernel
theorem dJ9_floorMod_7cf53_3 : decode cJ9_floorMod_7cf53 3 = .ok (.istore_n 2, 1) := by decide +kernel
theorem dJ9_floorMod_7cf53_4 : decode cJ9_floorMod_7cf53 4 = .ok (.iload_n 0, 1) := by decide +kernel
theorem dJ9_floorMod_7cf53_5 : decode cJ9_floorMod_7cf53 5 = .ok (.iload_n 1, 1) := by decide +kernel
theorem dJ9_floorMod_7cf53_6 : decode cJ9_floorMod_7cf53 6 = .ok (.ixor, 1) := by decide +kernel
theorem dJ9_floorMod_7cf53_7 : decode cJ9_floorMod_7cf53 7 = .ok (.ifCond .ge 11, 3) := by decide +kernel
theorem dJ9_floorMod_7cf53_10 : decode cJ9_floorMod_7cf53 10 = .ok (.iload_n 2, 1) := by decide +kernel
theorem dJ9_floorMod_7cf53_11 : decode cJ9_floorMod_7cf53 11 = .ok (.ifCond .eq 7, 3) := by decide +kernel
theorem dJ9_floorMod_7cf53_14 : decode cJ9_floorMod_7cf53 14 = .ok (.iload_n 2, 1) := by decide +kernel
theorem dJ9_floorMod_7cf53_15 : decode cJ9_floorMod_7cf53 15 = .ok (.iload_n 1, 1) := by decide +kernel
theorem dJ9_floorMod_7cf53_16 : decode cJ9_floorMod_7cf53 16 = .ok (.iadd, 1) := by decide +kernel
theorem dJ9_floorMod_7cf53_17 : decode cJ9_floorMod_7cf53 17 = .ok (.ireturn, 1) := by decide +kernel
theorem dJ9_floorMod_7cf53_18 : decode cJ9_floorMod_7cf53 18 = .ok (.iload_n 2, 1) := by decide +kernel
theorem dJ9_floorMod_7cf53_19 : decode cJ9_floorMod_7cf53 19 = .ok (.ireturn, 1) := by decide +kernel
theorem dJ9_max_7cf53_0 : decode cJ9_max_7cf53 0 = .ok (.iload_n 0, 1) := by decide +kernel
theorem dJ9_max_7cf53_1 : decode cJ9_max_7cf53 1 = .ok (.iload_n 1, 1) := by decide +kernel
theorem dJ9_max_7cf53_2 : decode cJ9_max_7cf53 2 = .ok (.if_icmp .lt 7, 3) := by decide +kernel
theorem dJ9_max_7cf53_5 : decode cJ9_max_7cf53 5 = .ok (.iload_n 0, 1) := by decide +kernel
theorem dJ9_max_7cf53_6 : decode cJ9_max_7cf53 6 = .ok (.goto 4, 3) := by decide +kernel
theorem dJ9_max_7cf53_9 : decode cJ9_max_7cf53 9 = .ok (.iload_n 1, 1) := by decide +kernel
theorem dJ9_max_7cf53_10 : decode cJ9_max_7cf53 10 = .ok (.ireturn, 1) := by decide +kernel
theorem dJ9_min_7cf53_0 : decode cJ9_min_7cf53 0 = .ok (.iload_n 0, 1) := by decide +kernel
theorem dJ9_min_7cf53_1 : decode cJ9_min_7cf53 1 = .ok (.iload_n 1, 1) := by decide +kernel
theorem dJ9_min_7cf53_2 : decode cJ9_min_7cf53 2 = .ok (.if_icmp .gt 7, 3) := by decide +kernel
theorem dJ9_min_7cf53_5 : decode cJ9_min_7cf53 5 = .ok (.iload_n 0, 1) := by decide +kernel
theorem dJ9_min_7cf53_6 : decode cJ9_min_7cf53 6 = .ok (.goto 4, 3) := by decide +kernel
theorem dJ9_min_7cf53_9 : decode cJ9_min_7cf53 9 = .ok (.iload_n 1, 1) := by decide +kernel
theorem dJ9_min_7cf53_10 : decode cJ9_min_7cf53 10 = .ok (.ireturn, 1) := by decide +kernel
theorem dJ0_length_8abf5_0 : decode cJ0_length_8abf5 0 = .ok (.aload_n 0, 1) := by decide +kernel
theorem dJ0_length_8abf5_1 : decode cJ0_length_8abf5 1 = .ok (.getfield 9, 3) := by decide +kernel
theorem dJ0_length_8abf5_4 : decode cJ0_length_8abf5 4 = .ok (.arraylength, 1) := by decide +kernel
theorem dJ0_length_8abf5_5 : decode cJ0_length_8abf5 5 = .ok (.aload_n 0, 1) := by decide +kernel
theorem dJ0_length_8abf5_6 : decode cJ0_length_8abf5 6 = .ok (.invokevirtual 335, 3) := by decide +kernel
theorem dJ0_length_8abf5_9 : decode cJ0_length_8abf5 9 = .ok (.ishr, 1) := by decide +kernel
theorem dJ0_length_8abf5_10 : decode cJ0_length_8abf5 10 = .ok (.ireturn, 1) := by decide +kernel
theorem dJ0_charAt_5068e_0 : decode cJ0_charAt_5068e 0 = .ok (.aload_n 0, 1) := by decide +kernel
theorem dJ0_charAt_5068e_1 : decode cJ0_charAt_5068e 1 = .ok (.invokevirtual 492, 3) := by decide +kernel
theorem dJ0_charAt_5068e_4 : decode cJ0_charAt_5068e 4 = .ok (.ifCond .eq 12, 3) := by decide +kernel
theorem dJ0_charAt_5068e_7 : decode cJ0_charAt_5068e 7 = .ok (.aload_n 0, 1) := by decide +kernel
theorem dJ0_charAt_5068e_8 : decode cJ0_charAt_5068e 8 = .ok (.getfield 9, 3) := by decide +kernel
theorem dJ0_charAt_5068e_11 : decode cJ0_charAt_5068e 11 = .ok (.iload_n 1, 1) := by decide +kernel
theorem dJ0_charAt_5068e_12 : decode cJ0_charAt_5068e 12 = .ok (.invokestatic 495, 3) := by decide +kernel
theorem dJ0_charAt_5068e_15 : decode cJ0_charAt_5068e 15 = .ok (.ireturn, 1) := by decide +kernel
theorem dJ0_charAt_5068e_16 : decode cJ0_charAt_5068e 16 = .ok (.aload_n 0, 1) := by decide +kernel
theorem dJ0_charAt_5068e_17 : decode cJ0_charAt_5068e 17 = .ok (.getfield 9, 3) := by decide +kernel
theorem dJ0_charAt_5068e_20 : decode cJ0_charAt_5068e 20 = .ok (.iload_n 1, 1) := by decide +kernel
theorem dJ0_charAt_5068e_21 : decode cJ0_charAt_5068e 21 = .ok (.invokestatic 498, 3) := by decide +kernel
theorem dJ0_charAt_5068e_24 : decode cJ0_charAt_5068e 24 = .ok (.ireturn, 1) := by decide +kernel
theorem dJ0_coder_7d493_0 : decode cJ0_coder_7d493 0 = .ok (.getstatic 38, 3) := by decide +kernel
theorem dJ0_coder_7d493_3 : decode cJ0_coder_7d493 3 = .ok (.ifCond .eq 10, 3) := by decide +kernel
theorem dJ0_coder_7d493_6 : decode cJ0_coder_7d493 6 = .ok (.aload_n 0, 1) := by decide +kernel
theorem dJ0_coder_7d493_7 : decode cJ0_coder_7d493 7 = .ok (.getfield 15, 3) := by decide +kernel
theorem dJ0_coder_7d493_10 : decode cJ0_coder_7d493 10 = .ok (.goto 4, 3) := by decide +kernel
theorem dJ0_coder_7d493_13 : decode cJ0_coder_7d493 13 = .ok (.iconst 1, 1) := by decide +kernel
theorem dJ0_coder_7d493_14 : decode cJ0_coder_7d493 14 = .ok (.ireturn, 1) := by decide +kernel
theorem dJ0_isLatin1_aae02_0 : decode cJ0_isLatin1_aae02 0 = .ok (.getstatic 38, 3) := by decide +kernel
theorem dJ0_isLatin1_aae02_3 : decode cJ0_isLatin1_aae02 3 = .ok (.ifCond .eq 14, 3) := by decide +kernel
theorem dJ0_isLatin1_aae02_6 : decode cJ0_isLatin1_aae02 6 = .ok (.aload_n 0, 1) := by decide +kernel
theorem dJ0_isLatin1_aae02_7 : decode cJ0_isLatin1_aae02 7 = .ok (.getfield 15, 3) := by decide +kernel
theorem dJ0_isLatin1_aae02_10 : decode cJ0_isLatin1_aae02 10 = .ok (.ifCond .ne 7, 3) := by decide +kernel
theorem dJ0_isLatin1_aae02_13 : decode cJ0_isLatin1_aae02 13 = .ok (.iconst 1, 1) := by decide +kernel
theorem dJ0_isLatin1_aae02_14 : decode cJ0_isLatin1_aae02 14 = .ok (.goto 4, 3) := by decide +kernel
theorem dJ0_isLatin1_aae02_17 : decode cJ0_isLatin1_aae02 17 = .ok (.iconst 0, 1) := by decide +kernel
theorem dJ0_isLatin1_aae02_18 : decode cJ0_isLatin1_aae02 18 = .ok (.ireturn, 1) := by decide +kernel
theorem dJ0_checkIndex_df160_0 : decode cJ0_checkIndex_df160 0 = .ok (.iload_n 0, 1) := by decide +kernel
theorem dJ0_checkIndex_df160_1 : decode cJ0_checkIndex_df160 1 = .ok (.iload_n 1, 1) := by decide +kernel
theorem dJ0_checkIndex_df160_2 : decode cJ0_checkIndex_df160 2 = .ok (.getstatic 1053, 3) := by decide +kernel
theorem dJ0_checkIndex_df160_5 : decode cJ0_checkIndex_df160 5 = .ok (.invokestatic 1059, 3) := by decide +kernel
theorem dJ0_checkIndex_df160_8 : decode cJ0_checkIndex_df160 8 = .ok (.pop, 1) := by decide +kernel
theorem dJ0_checkIndex_df160_9 : decode cJ0_checkIndex_df160 9 = .ok (.return_, 1) := by decide +kernel
theorem dJ1_charAt_3b067_0 : decode cJ1_charAt_3b067 0 = .ok (.iload_n 1, 1) := by decide +kernel
theorem dJ1_charAt_3b067_1 : decode cJ1_charAt_3b067 1 = .ok (.aload_n 0, 1) := by decide +kernel
theorem dJ1_charAt_3b067_2 : decode cJ1_charAt_3b067 2 = .ok (.arraylength, 1) := by decide +kernel
theorem dJ1_charAt_3b067_3 : decode cJ1_charAt_3b067 3 = .ok (.invokestatic 9, 3) := by decide +kernel
theorem dJ1_charAt_3b067_6 : decode cJ1_charAt_3b067 6 = .ok (.aload_n 0, 1) := by decide +kernel
theorem dJ1_charAt_3b067_7 : decode cJ1_charAt_3b067 7 = .ok (.iload_n 1, 1) := by decide +kernel
theorem dJ1_charAt_3b067_8 : decode cJ1_charAt_3b067 8 = .ok (.baload, 1) := by decide +kernel
theorem dJ1_charAt_3b067_9 : decode cJ1_charAt_3b067 9 = .ok (.sipush 255, 3) := by decide +kernel
theorem dJ1_charAt_3b067_12 : decode cJ1_charAt_3b067 12 = .ok (.iand, 1) := by decide +kernel
theorem dJ1_charAt_3b067_13 : decode cJ1_charAt_3b067 13 = .ok (.i2c, 1) := by decide +kernel
theorem dJ1_charAt_3b067_14 : decode cJ1_charAt_3b067 14 = .ok (.ireturn, 1) := by decide +kernel
theorem dJ2_getChar_3b067_0 : decode cJ2_getChar_3b067 0 = .ok (.getstatic 44, 3) := by decide +kernel
theorem dJ2_getChar_3b067_3 : decode cJ2_getChar_3b067 3 = .ok (.ifCond .ne 25, 3) := by decide +kernel
theorem dJ2_getChar_3b067_6 : decode cJ2_getChar_3b067 6 = .ok (.iload_n 1, 1) := by decide +kernel
theorem dJ2_getChar_3b067_7 : decode cJ2_getChar_3b067 7 = .ok (.ifCond .lt 11, 3) := by decide +kernel
theorem dJ2_getChar_3b067_10 : decode cJ2_getChar_3b067 10 = .ok (.iload_n 1, 1) := by decide +kernel
theorem dJ2_getChar_3b067_11 : decode cJ2_getChar_3b067 11 = .ok (.aload_n 0, 1) := by decide +kernel
theorem dJ2_getChar_3b067_12 : decode cJ2_getChar_3b067 12 = .ok (.invokestatic 48, 3) := by decide +kernel
theorem dJ2_getChar_3b067_15 : decode cJ2_getChar_3b067 15 = .ok (.if_icmp .lt 13, 3) := by decide +kernel
theorem dJ2_getChar_3b067_18 : decode cJ2_getChar_3b067 18 = .ok (.new 52, 3) := by decide +kernel
theorem dJ2_getChar_3b067_21 : decode cJ2_getChar_3b067 21 = .ok (.dup, 1) := by decide +kernel
theorem dJ2_getChar_3b067_22 : decode cJ2_getChar_3b067 22 = .ok (.ldc 54, 2) := by decide +kernel
theorem dJ2_getChar_3b067_24 : decode cJ2_getChar_3b067 24 = .ok (.invokespecial 56, 3) := by decide +kernel
theorem dJ2_getChar_3b067_27 : decode cJ2_getChar_3b067 27 = .ok (.athrow, 1) := by decide +kernel
theorem dJ2_getChar_3b067_28 : decode cJ2_getChar_3b067 28 = .ok (.iload_n 1, 1) := by decide +kernel
theorem dJ2_getChar_3b067_29 : decode cJ2_getChar_3b067 29 = .ok (.iconst 1, 1) := by decide +kernel
theorem dJ2_getChar_3b067_30 : decode cJ2_getChar_3b067 30 = .ok (.ishl, 1) := by decide +kernel
theorem dJ2_getChar_3b067_31 : decode cJ2_getChar_3b067 31 = .ok (.istore_n 1, 1) := by decide +kernel
theorem dJ2_getChar_3b067_32 : decode cJ2_getChar_3b067 32 = .ok (.aload_n 0, 1) := by decide +kernel
theorem dJ2_getChar_3b067_33 : decode cJ2_getChar_3b067 33 = .ok (.iload_n 1, 1) := by decide +kernel
theorem dJ2_getChar_3b067_34 : decode cJ2_getChar_3b067 34 = .ok (.iinc 1 1, 3) := by decide +kernel
theorem dJ2_getChar_3b067_37 : decode cJ2_getChar_3b067 37 = .ok (.baload, 1) := by decide +kernel
theorem dJ2_getChar_3b067_38 : decode cJ2_getChar_3b067 38 = .ok (.sipush 255, 3) := by decide +kernel
theorem dJ2_getChar_3b067_41 : decode cJ2_getChar_3b067 41 = .ok (.iand, 1) := by decide +kernel
theorem dJ2_getChar_3b067_42 : decode cJ2_getChar_3b067 42 = .ok (.getstatic 59, 3) := by decide +kernel
theorem dJ2_getChar_3b067_45 : decode cJ2_getChar_3b067 45 = .ok (.ishl, 1) := by decide +kernel
theorem dJ2_getChar_3b067_46 : decode cJ2_getChar_3b067 46 = .ok (.aload_n 0, 1) := by decide +kernel
theorem dJ2_getChar_3b067_47 : decode cJ2_getChar_3b067 47 = .ok (.iload_n 1, 1) := by decide +kernel
theorem dJ2_getChar_3b067_48 : decode cJ2_getChar_3b067 48 = .ok (.baload, 1) := by decide +kernel
theorem dJ2_getChar_3b067_49 : decode cJ2_getChar_3b067 49 = .ok (.sipush 255, 3) := by decide +kernel
theorem dJ2_getChar_3b067_52 : decode cJ2_getChar_3b067 52 = .ok (.iand, 1) := by decide +kernel
theorem dJ2_getChar_3b067_53 : decode cJ2_getChar_3b067 53 = .ok (.getstatic 63, 3) := by decide +kernel
theorem dJ2_getChar_3b067_56 : decode cJ2_getChar_3b067 56 = .ok (.ishl, 1) := by decide +kernel
theorem dJ2_getChar_3b067_57 : decode cJ2_getChar_3b067 57 = .ok (.ior, 1) := by decide +kernel
theorem dJ2_getChar_3b067_58 : decode cJ2_getChar_3b067 58 = .ok (.i2c, 1) := by decide +kernel
theorem dJ2_getChar_3b067_59 : decode cJ2_getChar_3b067 59 = .ok (.ireturn, 1) := by decide +kernel
theorem dJ2_length_9d52b_0 : decode cJ2_length_9d52b 0 = .ok (.aload_n 0, 1) := by decide +kernel
theorem dJ2_length_9d52b_1 : decode cJ2_length_9d52b 1 = .ok (.arraylength, 1) := by decide +kernel
theorem dJ2_length_9d52b_2 : decode cJ2_length_9d52b 2 = .ok (.iconst 1, 1) := by decide +kernel
theorem dJ2_length_9d52b_3 : decode cJ2_length_9d52b 3 = .ok (.ishr, 1) := by decide +kernel
theorem dJ2_length_9d52b_4 : decode cJ2_length_9d52b 4 = .ok (.ireturn, 1) := by decide +kernel
theorem dJ2_charAt_3b067_0 : decode cJ2_charAt_3b067 0 = .ok (.iload_n 1, 1) := by decide +kernel
theorem dJ2_charAt_3b067_1 : decode cJ2_charAt_3b067 1 = .ok (.aload_n 0, 1) := by decide +kernel
theorem dJ2_charAt_3b067_2 : decode cJ2_charAt_3b067 2 = .ok (.invokestatic 67, 3) := by decide +kernel
theorem dJ2_charAt_3b067_5 : decode cJ2_charAt_3b067 5 = .ok (.aload_n 0, 1) := by decide +kernel
theorem dJ2_charAt_3b067_6 : decode cJ2_charAt_3b067 6 = .ok (.iload_n 1, 1) := by decide +kernel
theorem dJ2_charAt_3b067_7 : decode cJ2_charAt_3b067 7 = .ok (.invokestatic 71, 3) := by decide +kernel
theorem dJ2_charAt_3b067_10 : decode cJ2_charAt_3b067 10 = .ok (.ireturn, 1) := by decide +kernel
theorem dJ2_checkIndex_2214a_0 : decode cJ2_checkIndex_2214a 0 = .ok (.iload_n 0, 1) := by decide +kernel
theorem dJ2_checkIndex_2214a_1 : decode cJ2_checkIndex_2214a 1 = .ok (.aload_n 1, 1) := by decide +kernel
theorem dJ2_checkIndex_2214a_2 : decode cJ2_checkIndex_2214a 2 = .ok (.invokestatic 48, 3) := by decide +kernel
theorem dJ2_checkIndex_2214a_5 : decode cJ2_checkIndex_2214a 5 = .ok (.invokestatic 414, 3) := by decide +kernel
theorem dJ2_checkIndex_2214a_8 : decode cJ2_checkIndex_2214a 8 = .ok (.return_, 1) := by decide +kernel
theorem dJ3_checkIndex_8e157_0 : decode cJ3_checkIndex_8e157 0 = .ok (.iload_n 0, 1) := by decide +kernel
theorem dJ3_checkIndex_8e157_1 : decode cJ3_checkIndex_8e157 1 = .ok (.ifCond .lt 8, 3) := by decide +kernel
theorem dJ3_checkIndex_8e157_4 : decode cJ3_checkIndex_8e157 4 = .ok (.iload_n 0, 1) := by decide +kernel
theorem dJ3_checkIndex_8e157_5 : decode cJ3_checkIndex_8e157 5 = .ok (.iload_n 1, 1) := by decide +kernel
theorem dJ3_checkIndex_8e157_6 : decode cJ3_checkIndex_8e157 6 = .ok (.if_icmp .lt 10, 3) := by decide +kernel
theorem dJ3_checkIndex_8e157_9 : decode cJ3_checkIndex_8e157 9 = .ok (.aload_n 2, 1) := by decide +kernel
theorem dJ3_checkIndex_8e157_10 : decode cJ3_checkIndex_8e157 10 = .ok (.iload_n 0, 1) := by decide +kernel
theorem dJ3_checkIndex_8e157_11 : decode cJ3_checkIndex_8e157 11 = .ok (.iload_n 1, 1) := by decide +kernel
theorem dJ3_checkIndex_8e157_12 : decode cJ3_checkIndex_8e157 12 = .ok (.invokestatic 95, 3) := by decide +kernel
theorem dJ3_checkIndex_8e157_15 : decode cJ3_checkIndex_8e157 15 = .ok (.athrow, 1) := by decide +kernel
theorem dJ3_checkIndex_8e157_16 : decode cJ3_checkIndex_8e157 16 = .ok (.iload_n 0, 1) := by decide +kernel
theorem dJ3_checkIndex_8e157_17 : decode cJ3_checkIndex_8e157 17 = .ok (.ireturn, 1) := by decide +kernel
