theorem dL_below_0 : decode cL_below 0 = .ok (.iload_n 0, 1) := by decide +kernel
theorem dL_below_1 : decode cL_below 1 = .ok (.ldc 7, 2) := by decide +kernel
theorem dL_below_3 : decode cL_below 3 = .ok (.iand, 1) := by decide +kernel
theorem dL_below_4 : decode cL_below 4 = .ok (.iload_n 1, 1) := by decide +kernel
theorem dL_below_5 : decode cL_below 5 = .ok (.irem, 1) := by decide +kernel
theorem dL_below_6 : decode cL_below 6 = .ok (.ireturn, 1) := by decide +kernel
theorem dL_cell_0 : decode cL_cell 0 = .ok (.iload_n 1, 1) := by decide +kernel
theorem dL_cell_1 : decode cL_cell 1 = .ok (.aload_n 0, 1) := by decide +kernel
theorem dL_cell_2 : decode cL_cell 2 = .ok (.arraylength, 1) := by decide +kernel
theorem dL_cell_3 : decode cL_cell 3 = .ok (.if_icmp .ge 9, 3) := by decide +kernel
theorem dL_cell_6 : decode cL_cell 6 = .ok (.aload_n 0, 1) := by decide +kernel
theorem dL_cell_7 : decode cL_cell 7 = .ok (.iload_n 1, 1) := by decide +kernel
theorem dL_cell_8 : decode cL_cell 8 = .ok (.iaload, 1) := by decide +kernel
theorem dL_cell_9 : decode cL_cell 9 = .ok (.goto 9, 3) := by decide +kernel
theorem dL_cell_12 : decode cL_cell 12 = .ok (.ldc 8, 2) := by decide +kernel
theorem dL_cell_14 : decode cL_cell 14 = .ok (.iload_n 1, 1) := by decide +kernel
theorem dL_cell_15 : decode cL_cell 15 = .ok (.iconst 3, 1) := by decide +kernel
theorem dL_cell_16 : decode cL_cell 16 = .ok (.iadd, 1) := by decide +kernel
theorem dL_cell_17 : decode cL_cell 17 = .ok (.imul, 1) := by decide +kernel
theorem dL_cell_18 : decode cL_cell 18 = .ok (.ireturn, 1) := by decide +kernel
theorem dL_build_0 : decode cL_build 0 = .ok (.aload_n 3, 1) := by decide +kernel
theorem dL_build_1 : decode cL_build 1 = .ok (.iconst 0, 1) := by decide +kernel
theorem dL_build_2 : decode cL_build 2 = .ok (.iconst 1, 1) := by decide +kernel
theorem dL_build_3 : decode cL_build 3 = .ok (.aload_n 1, 1) := by decide +kernel
theorem dL_build_4 : decode cL_build 4 = .ok (.iload_n 2, 1) := by decide +kernel
theorem dL_build_5 : decode cL_build 5 = .ok (.invokestatic 9, 3) := by decide +kernel
theorem dL_build_8 : decode cL_build 8 = .ok (.iconst 3, 1) := by decide +kernel
theorem dL_build_9 : decode cL_build 9 = .ok (.invokestatic 15, 3) := by decide +kernel
theorem dL_build_12 : decode cL_build 12 = .ok (.iadd, 1) := by decide +kernel
theorem dL_build_13 : decode cL_build 13 = .ok (.iastore, 1) := by decide +kernel
theorem dL_build_14 : decode cL_build 14 = .ok (.iconst 0, 1) := by decide +kernel
theorem dL_build_15 : decode cL_build 15 = .ok (.istore 7, 2) := by decide +kernel
theorem dL_build_17 : decode cL_build 17 = .ok (.iload 7, 2) := by decide +kernel
theorem dL_build_19 : decode cL_build 19 = .ok (.aload_n 3, 1) := by decide +kernel
theorem dL_build_20 : decode cL_build 20 = .ok (.iconst 0, 1) := by decide +kernel
theorem dL_build_21 : decode cL_build 21 = .ok (.iaload, 1) := by decide +kernel
theorem dL_build_22 : decode cL_build 22 = .ok (.if_icmp .ge 342, 3) := by decide +kernel
theorem dL_build_25 : decode cL_build 25 = .ok (.aload_n 1, 1) := by decide +kernel
theorem dL_build_26 : decode cL_build 26 = .ok (.iload_n 2, 1) := by decide +kernel
theorem dL_build_27 : decode cL_build 27 = .ok (.iconst 1, 1) := by decide +kernel
theorem dL_build_28 : decode cL_build 28 = .ok (.iadd, 1) := by decide +kernel
theorem dL_build_29 : decode cL_build 29 = .ok (.iload 7, 2) := by decide +kernel
theorem dL_build_31 : decode cL_build 31 = .ok (.iadd, 1) := by decide +kernel
theorem dL_build_32 : decode cL_build 32 = .ok (.invokestatic 9, 3) := by decide +kernel
theorem dL_build_35 : decode cL_build 35 = .ok (.istore 8, 2) := by decide +kernel
theorem dL_build_37 : decode cL_build 37 = .ok (.iconst 5, 1) := by decide +kernel
theorem dL_build_38 : decode cL_build 38 = .ok (.newarray .int, 2) := by decide +kernel
theorem dL_build_40 : decode cL_build 40 = .ok (.dup, 1) := by decide +kernel
theorem dL_build_41 : decode cL_build 41 = .ok (.iconst 0, 1) := by decide +kernel
theorem dL_build_42 : decode cL_build 42 = .ok (.iconst 1, 1) := by decide +kernel
theorem dL_build_43 : decode cL_build 43 = .ok (.iastore, 1) := by decide +kernel
theorem dL_build_44 : decode cL_build 44 = .ok (.dup, 1) := by decide +kernel
theorem dL_build_45 : decode cL_build 45 = .ok (.iconst 1, 1) := by decide +kernel
theorem dL_build_46 : decode cL_build 46 = .ok (.bipush 60, 2) := by decide +kernel
theorem dL_build_48 : decode cL_build 48 = .ok (.iastore, 1) := by decide +kernel
theorem dL_build_49 : decode cL_build 49 = .ok (.dup, 1) := by decide +kernel
theorem dL_build_50 : decode cL_build 50 = .ok (.iconst 2, 1) := by decide +kernel
theorem dL_build_51 : decode cL_build 51 = .ok (.bipush 30, 2) := by decide +kernel
theorem dL_build_53 : decode cL_build 53 = .ok (.iastore, 1) := by decide +kernel
theorem dL_build_54 : decode cL_build 54 = .ok (.dup, 1) := by decide +kernel
theorem dL_build_55 : decode cL_build 55 = .ok (.iconst 3, 1) := by decide +kernel
theorem dL_build_56 : decode cL_build 56 = .ok (.bipush 10, 2) := by decide +kernel
theorem dL_build_58 : decode cL_build 58 = .ok (.iastore, 1) := by decide +kernel
theorem dL_build_59 : decode cL_build 59 = .ok (.dup, 1) := by decide +kernel
theorem dL_build_60 : decode cL_build 60 = .ok (.iconst 4, 1) := by decide +kernel
theorem dL_build_61 : decode cL_build 61 = .ok (.sipush 300, 3) := by decide +kernel
theorem dL_build_64 : decode cL_build 64 = .ok (.iastore, 1) := by decide +kernel
theorem dL_build_65 : decode cL_build 65 = .ok (.astore 9, 2) := by decide +kernel
theorem dL_build_67 : decode cL_build 67 = .ok (.aload 4, 2) := by decide +kernel
theorem dL_build_69 : decode cL_build 69 = .ok (.bipush 9, 2) := by decide +kernel
theorem dL_build_71 : decode cL_build 71 = .ok (.iload 7, 2) := by decide +kernel
theorem dL_build_73 : decode cL_build 73 = .ok (.imul, 1) := by decide +kernel
theorem dL_build_74 : decode cL_build 74 = .ok (.bipush 10, 2) := by decide +kernel
theorem dL_build_76 : decode cL_build 76 = .ok (.iload 8, 2) := by decide +kernel
theorem dL_build_78 : decode cL_build 78 = .ok (.bipush 9, 2) := by decide +kernel
theorem dL_build_80 : decode cL_build 80 = .ok (.invokestatic 15, 3) := by decide +kernel
theorem dL_build_83 : decode cL_build 83 = .ok (.imul, 1) := by decide +kernel
theorem dL_build_84 : decode cL_build 84 = .ok (.iastore, 1) := by decide +kernel
theorem dL_build_85 : decode cL_build 85 = .ok (.aload 4, 2) := by decide +kernel
theorem dL_build_87 : decode cL_build 87 = .ok (.bipush 9, 2) := by decide +kernel
theorem dL_build_89 : decode cL_build 89 = .ok (.iload 7, 2) := by decide +kernel
theorem dL_build_91 : decode cL_build 91 = .ok (.imul, 1) := by decide +kernel
theorem dL_build_92 : decode cL_build 92 = .ok (.iconst 1, 1) := by decide +kernel
theorem dL_build_93 : decode cL_build 93 = .ok (.iadd, 1) := by decide +kernel
theorem dL_build_94 : decode cL_build 94 = .ok (.iload 8, 2) := by decide +kernel
theorem dL_build_96 : decode cL_build 96 = .ok (.iconst 3, 1) := by decide +kernel
theorem dL_build_97 : decode cL_build 97 = .ok (.ishr, 1) := by decide +kernel
theorem dL_build_98 : decode cL_build 98 = .ok (.sipush 200, 3) := by decide +kernel
theorem dL_build_101 : decode cL_build 101 = .ok (.invokestatic 15, 3) := by decide +kernel
theorem dL_build_104 : decode cL_build 104 = .ok (.iastore, 1) := by decide +kernel
theorem dL_build_105 : decode cL_build 105 = .ok (.aload 4, 2) := by decide +kernel
theorem dL_build_107 : decode cL_build 107 = .ok (.bipush 9, 2) := by decide +kernel
theorem dL_build_109 : decode cL_build 109 = .ok (.iload 7, 2) := by decide +kernel
theorem dL_build_111 : decode cL_build 111 = .ok (.imul, 1) := by decide +kernel
theorem dL_build_112 : decode cL_build 112 = .ok (.iconst 2, 1) := by decide +kernel
theorem dL_build_113 : decode cL_build 113 = .ok (.iadd, 1) := by decide +kernel
theorem dL_build_114 : decode cL_build 114 = .ok (.iload 8, 2) := by decide +kernel
theorem dL_build_116 : decode cL_build 116 = .ok (.bipush 6, 2) := by decide +kernel
theorem dL_build_118 : decode cL_build 118 = .ok (.ishr, 1) := by decide +kernel
theorem dL_build_119 : decode cL_build 119 = .ok (.bipush 100, 2) := by decide +kernel
theorem dL_build_121 : decode cL_build 121 = .ok (.invokestatic 15, 3) := by decide +kernel
theorem dL_build_124 : decode cL_build 124 = .ok (.iastore, 1) := by decide +kernel
theorem dL_build_125 : decode cL_build 125 = .ok (.aload 4, 2) := by decide +kernel
theorem dL_build_127 : decode cL_build 127 = .ok (.bipush 9, 2) := by decide +kernel
theorem dL_build_129 : decode cL_build 129 = .ok (.iload 7, 2) := by decide +kernel
theorem dL_build_131 : decode cL_build 131 = .ok (.imul, 1) := by decide +kernel
theorem dL_build_132 : decode cL_build 132 = .ok (.iconst 3, 1) := by decide +kernel
theorem dL_build_133 : decode cL_build 133 = .ok (.iadd, 1) := by decide +kernel
theorem dL_build_134 : decode cL_build 134 = .ok (.aload 9, 2) := by decide +kernel
theorem dL_build_136 : decode cL_build 136 = .ok (.iload 8, 2) := by decide +kernel
theorem dL_build_138 : decode cL_build 138 = .ok (.bipush 9, 2) := by decide +kernel
theorem dL_build_140 : decode cL_build 140 = .ok (.ishr, 1) := by decide +kernel
theorem dL_build_141 : decode cL_build 141 = .ok (.iconst 5, 1) := by decide +kernel
theorem dL_build_142 : decode cL_build 142 = .ok (.invokestatic 15, 3) := by decide +kernel
theorem dL_build_145 : decode cL_build 145 = .ok (.iaload, 1) := by decide +kernel
theorem dL_build_146 : decode cL_build 146 = .ok (.iastore, 1) := by decide +kernel
theorem dL_build_147 : decode cL_build 147 = .ok (.aload 4, 2) := by decide +kernel
theorem dL_build_149 : decode cL_build 149 = .ok (.bipush 9, 2) := by decide +kernel
theorem dL_build_151 : decode cL_build 151 = .ok (.iload 7, 2) := by decide +kernel
theorem dL_build_153 : decode cL_build 153 = .ok (.imul, 1) := by decide +kernel
theorem dL_build_154 : decode cL_build 154 = .ok (.iconst 4, 1) := by decide +kernel
theorem dL_build_155 : decode cL_build 155 = .ok (.iadd, 1) := by decide +kernel
theorem dL_build_156 : decode cL_build 156 = .ok (.aload 9, 2) := by decide +kernel
theorem dL_build_158 : decode cL_build 158 = .ok (.iload 8, 2) := by decide +kernel
theorem dL_build_160 : decode cL_build 160 = .ok (.bipush 12, 2) := by decide +kernel
theorem dL_build_162 : decode cL_build 162 = .ok (.ishr, 1) := by decide +kernel
theorem dL_build_163 : decode cL_build 163 = .ok (.iconst 5, 1) := by decide +kernel
theorem dL_build_164 : decode cL_build 164 = .ok (.invokestatic 15, 3) := by decide +kernel
theorem dL_build_167 : decode cL_build 167 = .ok (.iaload, 1) := by decide +kernel
theorem dL_build_168 : decode cL_build 168 = .ok (.iastore, 1) := by decide +kernel
theorem dL_build_169 : decode cL_build 169 = .ok (.aload_n 0, 1) := by decide +kernel
theorem dL_build_170 : decode cL_build 170 = .ok (.aload 4, 2) := by decide +kernel
theorem dL_build_172 : decode cL_build 172 = .ok (.bipush 9, 2) := by decide +kernel
theorem dL_build_174 : decode cL_build 174 = .ok (.iload 7, 2) := by decide +kernel
theorem dL_build_176 : decode cL_build 176 = .ok (.imul, 1) := by decide +kernel
theorem dL_build_177 : decode cL_build 177 = .ok (.iaload, 1) := by decide +kernel
theorem dL_build_178 : decode cL_build 178 = .ok (.aload 4, 2) := by decide +kernel
theorem dL_build_180 : decode cL_build 180 = .ok (.bipush 9, 2) := by decide +kernel
theorem dL_build_182 : decode cL_build 182 = .ok (.iload 7, 2) := by decide +kernel
theorem dL_build_184 : decode cL_build 184 = .ok (.imul, 1) := by decide +kernel
theorem dL_build_185 : decode cL_build 185 = .ok (.iconst 1, 1) := by decide +kernel
theorem dL_build_186 : decode cL_build 186 = .ok (.iadd, 1) := by decide +kernel
theorem dL_build_187 : decode cL_build 187 = .ok (.iaload, 1) := by decide +kernel
theorem dL_build_188 : decode cL_build 188 = .ok (.aload 4, 2) := by decide +kernel
theorem dL_build_190 : decode cL_build 190 = .ok (.bipush 9, 2) := by decide +kernel
theorem dL_build_192 : decode cL_build 192 = .ok (.iload 7, 2) := by decide +kernel
theorem dL_build_194 : decode cL_build 194 = .ok (.imul, 1) := by decide +kernel
theorem dL_build_195 : decode cL_build 195 = .ok (.iconst 2, 1) := by decide +kernel
theorem dL_build_196 : decode cL_build 196 = .ok (.iadd, 1) := by decide +kernel
theorem dL_build_197 : decode cL_build 197 = .ok (.iaload, 1) := by decide +kernel
theorem dL_build_198 : decode cL_build 198 = .ok (.aload 4, 2) := by decide +kernel
theorem dL_build_200 : decode cL_build 200 = .ok (.bipush 9, 2) := by decide +kernel
theorem dL_build_202 : decode cL_build 202 = .ok (.iload 7, 2) := by decide +kernel
theorem dL_build_204 : decode cL_build 204 = .ok (.imul, 1) := by decide +kernel
theorem dL_build_205 : decode cL_build 205 = .ok (.iconst 3, 1) := by decide +kernel
theorem dL_build_206 : decode cL_build 206 = .ok (.iadd, 1) := by decide +kernel
theorem dL_build_207 : decode cL_build 207 = .ok (.iaload, 1) := by decide +kernel
theorem dL_build_208 : decode cL_build 208 = .ok (.aload 4, 2) := by decide +kernel
theorem dL_build_210 : decode cL_build 210 = .ok (.bipush 9, 2) := by decide +kernel
theorem dL_build_212 : decode cL_build 212 = .ok (.iload 7, 2) := by decide +kernel
theorem dL_build_214 : decode cL_build 214 = .ok (.imul, 1) := by decide +kernel
theorem dL_build_215 : decode cL_build 215 = .ok (.iconst 4, 1) := by decide +kernel
theorem dL_build_216 : decode cL_build 216 = .ok (.iadd, 1) := by decide +kernel
theorem dL_build_217 : decode cL_build 217 = .ok (.iaload, 1) := by decide +kernel
theorem dL_build_218 : decode cL_build 218 = .ok (.invokevirtual 19, 3) := by decide +kernel
theorem dL_build_221 : decode cL_build 221 = .ok (.iload 7, 2) := by decide +kernel
theorem dL_build_223 : decode cL_build 223 = .ok (.if_icmp .eq 5, 3) := by decide +kernel
theorem dL_build_226 : decode cL_build 226 = .ok (.iconst 0, 1) := by decide +kernel
theorem dL_build_227 : decode cL_build 227 = .ok (.ireturn, 1) := by decide +kernel
theorem dL_build_228 : decode cL_build 228 = .ok (.iconst 1, 1) := by decide +kernel
theorem dL_build_229 : decode cL_build 229 = .ok (.istore 10, 2) := by decide +kernel
theorem dL_build_231 : decode cL_build 231 = .ok (.iload 10, 2) := by decide +kernel
theorem dL_build_233 : decode cL_build 233 = .ok (.iconst 3, 1) := by decide +kernel
theorem dL_build_234 : decode cL_build 234 = .ok (.if_icmp .ge 124, 3) := by decide +kernel
theorem dL_build_237 : decode cL_build 237 = .ok (.aload 4, 2) := by decide +kernel
theorem dL_build_239 : decode cL_build 239 = .ok (.bipush 9, 2) := by decide +kernel
theorem dL_build_241 : decode cL_build 241 = .ok (.iload 7, 2) := by decide +kernel
theorem dL_build_243 : decode cL_build 243 = .ok (.imul, 1) := by decide +kernel
theorem dL_build_244 : decode cL_build 244 = .ok (.iconst 3, 1) := by decide +kernel
theorem dL_build_245 : decode cL_build 245 = .ok (.iadd, 1) := by decide +kernel
theorem dL_build_246 : decode cL_build 246 = .ok (.iconst 2, 1) := by decide +kernel
theorem dL_build_247 : decode cL_build 247 = .ok (.iload 10, 2) := by decide +kernel
theorem dL_build_249 : decode cL_build 249 = .ok (.imul, 1) := by decide +kernel
theorem dL_build_250 : decode cL_build 250 = .ok (.iadd, 1) := by decide +kernel
theorem dL_build_251 : decode cL_build 251 = .ok (.iload 8, 2) := by decide +kernel
theorem dL_build_253 : decode cL_build 253 = .ok (.iconst 5, 1) := by decide +kernel
theorem dL_build_254 : decode cL_build 254 = .ok (.iload 10, 2) := by decide +kernel
theorem dL_build_256 : decode cL_build 256 = .ok (.imul, 1) := by decide +kernel
theorem dL_build_257 : decode cL_build 257 = .ok (.ishr, 1) := by decide +kernel
theorem dL_build_258 : decode cL_build 258 = .ok (.sipush 700, 3) := by decide +kernel
theorem dL_build_261 : decode cL_build 261 = .ok (.invokestatic 15, 3) := by decide +kernel
theorem dL_build_264 : decode cL_build 264 = .ok (.iastore, 1) := by decide +kernel
theorem dL_build_265 : decode cL_build 265 = .ok (.aload 4, 2) := by decide +kernel
theorem dL_build_267 : decode cL_build 267 = .ok (.bipush 9, 2) := by decide +kernel
theorem dL_build_269 : decode cL_build 269 = .ok (.iload 7, 2) := by decide +kernel
theorem dL_build_271 : decode cL_build 271 = .ok (.imul, 1) := by decide +kernel
theorem dL_build_272 : decode cL_build 272 = .ok (.iconst 4, 1) := by decide +kernel
theorem dL_build_273 : decode cL_build 273 = .ok (.iadd, 1) := by decide +kernel
theorem dL_build_274 : decode cL_build 274 = .ok (.iconst 2, 1) := by decide +kernel
theorem dL_build_275 : decode cL_build 275 = .ok (.iload 10, 2) := by decide +kernel
theorem dL_build_277 : decode cL_build 277 = .ok (.imul, 1) := by decide +kernel
theorem dL_build_278 : decode cL_build 278 = .ok (.iadd, 1) := by decide +kernel
theorem dL_build_279 : decode cL_build 279 = .ok (.iload 8, 2) := by decide +kernel
theorem dL_build_281 : decode cL_build 281 = .ok (.bipush 10, 2) := by decide +kernel
theorem dL_build_283 : decode cL_build 283 = .ok (.iload 10, 2) := by decide +kernel
theorem dL_build_285 : decode cL_build 285 = .ok (.iadd, 1) := by decide +kernel
theorem dL_build_286 : decode cL_build 286 = .ok (.ishr, 1) := by decide +kernel
theorem dL_build_287 : decode cL_build 287 = .ok (.iconst 2, 1) := by decide +kernel
theorem dL_build_288 : decode cL_build 288 = .ok (.invokestatic 15, 3) := by decide +kernel
theorem dL_build_291 : decode cL_build 291 = .ok (.bipush 100, 2) := by decide +kernel
theorem dL_build_293 : decode cL_build 293 = .ok (.imul, 1) := by decide +kernel
theorem dL_build_294 : decode cL_build 294 = .ok (.iload 8, 2) := by decide +kernel
theorem dL_build_296 : decode cL_build 296 = .ok (.bipush 13, 2) := by decide +kernel
theorem dL_build_298 : decode cL_build 298 = .ok (.iload 10, 2) := by decide +kernel
theorem dL_build_300 : decode cL_build 300 = .ok (.iadd, 1) := by decide +kernel
theorem dL_build_301 : decode cL_build 301 = .ok (.ishr, 1) := by decide +kernel
theorem dL_build_302 : decode cL_build 302 = .ok (.bipush 30, 2) := by decide +kernel
theorem dL_build_304 : decode cL_build 304 = .ok (.invokestatic 15, 3) := by decide +kernel
theorem dL_build_307 : decode cL_build 307 = .ok (.imul, 1) := by decide +kernel
theorem dL_build_308 : decode cL_build 308 = .ok (.iastore, 1) := by decide +kernel
theorem dL_build_309 : decode cL_build 309 = .ok (.aload_n 0, 1) := by decide +kernel
theorem dL_build_310 : decode cL_build 310 = .ok (.iload 7, 2) := by decide +kernel
theorem dL_build_312 : decode cL_build 312 = .ok (.iload 10, 2) := by decide +kernel
theorem dL_build_314 : decode cL_build 314 = .ok (.aload 4, 2) := by decide +kernel
theorem dL_build_316 : decode cL_build 316 = .ok (.bipush 9, 2) := by decide +kernel
theorem dL_build_318 : decode cL_build 318 = .ok (.iload 7, 2) := by decide +kernel
theorem dL_build_320 : decode cL_build 320 = .ok (.imul, 1) := by decide +kernel
theorem dL_build_321 : decode cL_build 321 = .ok (.iconst 3, 1) := by decide +kernel
theorem dL_build_322 : decode cL_build 322 = .ok (.iadd, 1) := by decide +kernel
theorem dL_build_323 : decode cL_build 323 = .ok (.iconst 2, 1) := by decide +kernel
theorem dL_build_324 : decode cL_build 324 = .ok (.iload 10, 2) := by decide +kernel
theorem dL_build_326 : decode cL_build 326 = .ok (.imul, 1) := by decide +kernel
theorem dL_build_327 : decode cL_build 327 = .ok (.iadd, 1) := by decide +kernel
theorem dL_build_328 : decode cL_build 328 = .ok (.iaload, 1) := by decide +kernel
theorem dL_build_329 : decode cL_build 329 = .ok (.aload 4, 2) := by decide +kernel
theorem dL_build_331 : decode cL_build 331 = .ok (.bipush 9, 2) := by decide +kernel
theorem dL_build_333 : decode cL_build 333 = .ok (.iload 7, 2) := by decide +kernel
theorem dL_build_335 : decode cL_build 335 = .ok (.imul, 1) := by decide +kernel
theorem dL_build_336 : decode cL_build 336 = .ok (.iconst 4, 1) := by decide +kernel
theorem dL_build_337 : decode cL_build 337 = .ok (.iadd, 1) := by decide +kernel
theorem dL_build_338 : decode cL_build 338 = .ok (.iconst 2, 1) := by decide +kernel
theorem dL_build_339 : decode cL_build 339 = .ok (.iload 10, 2) := by decide +kernel
theorem dL_build_341 : decode cL_build 341 = .ok (.imul, 1) := by decide +kernel
theorem dL_build_342 : decode cL_build 342 = .ok (.iadd, 1) := by decide +kernel
theorem dL_build_343 : decode cL_build 343 = .ok (.iaload, 1) := by decide +kernel
theorem dL_build_344 : decode cL_build 344 = .ok (.invokevirtual 25, 3) := by decide +kernel
theorem dL_build_347 : decode cL_build 347 = .ok (.ifCond .eq 5, 3) := by decide +kernel
theorem dL_build_350 : decode cL_build 350 = .ok (.iconst 0, 1) := by decide +kernel
theorem dL_build_351 : decode cL_build 351 = .ok (.ireturn, 1) := by decide +kernel
theorem dL_build_352 : decode cL_build 352 = .ok (.iinc 10 1, 3) := by decide +kernel
theorem dL_build_355 : decode cL_build 355 = .ok (.goto (-124), 3) := by decide +kernel
theorem dL_build_358 : decode cL_build 358 = .ok (.iinc 7 1, 3) := by decide +kernel
theorem dL_build_361 : decode cL_build 361 = .ok (.goto (-344), 3) := by decide +kernel
theorem dL_build_364 : decode cL_build 364 = .ok (.aload_n 3, 1) := by decide +kernel
theorem dL_build_365 : decode cL_build 365 = .ok (.iconst 1, 1) := by decide +kernel
theorem dL_build_366 : decode cL_build 366 = .ok (.iconst 1, 1) := by decide +kernel
theorem dL_build_367 : decode cL_build 367 = .ok (.aload_n 1, 1) := by decide +kernel
theorem dL_build_368 : decode cL_build 368 = .ok (.iload_n 2, 1) := by decide +kernel
theorem dL_build_369 : decode cL_build 369 = .ok (.invokestatic 9, 3) := by decide +kernel
theorem dL_build_372 : decode cL_build 372 = .ok (.iconst 3, 1) := by decide +kernel
theorem dL_build_373 : decode cL_build 373 = .ok (.ishr, 1) := by decide +kernel
theorem dL_build_374 : decode cL_build 374 = .ok (.iconst 2, 1) := by decide +kernel
theorem dL_build_375 : decode cL_build 375 = .ok (.invokestatic 15, 3) := by decide +kernel
theorem dL_build_378 : decode cL_build 378 = .ok (.iadd, 1) := by decide +kernel
theorem dL_build_379 : decode cL_build 379 = .ok (.iastore, 1) := by decide +kernel
theorem dL_build_380 : decode cL_build 380 = .ok (.iconst 0, 1) := by decide +kernel
theorem dL_build_381 : decode cL_build 381 = .ok (.istore 7, 2) := by decide +kernel
theorem dL_build_383 : decode cL_build 383 = .ok (.iload 7, 2) := by decide +kernel
theorem dL_build_385 : decode cL_build 385 = .ok (.aload_n 3, 1) := by decide +kernel
theorem dL_build_386 : decode cL_build 386 = .ok (.iconst 1, 1) := by decide +kernel
theorem dL_build_387 : decode cL_build 387 = .ok (.iaload, 1) := by decide +kernel
theorem dL_build_388 : decode cL_build 388 = .ok (.if_icmp .ge 142, 3) := by decide +kernel
theorem dL_build_391 : decode cL_build 391 = .ok (.aload_n 1, 1) := by decide +kernel
theorem dL_build_392 : decode cL_build 392 = .ok (.iload_n 2, 1) := by decide +kernel
theorem dL_build_393 : decode cL_build 393 = .ok (.iconst 4, 1) := by decide +kernel
theorem dL_build_394 : decode cL_build 394 = .ok (.iadd, 1) := by decide +kernel
theorem dL_build_395 : decode cL_build 395 = .ok (.iload 7, 2) := by decide +kernel
theorem dL_build_397 : decode cL_build 397 = .ok (.iadd, 1) := by decide +kernel
theorem dL_build_398 : decode cL_build 398 = .ok (.invokestatic 9, 3) := by decide +kernel
theorem dL_build_401 : decode cL_build 401 = .ok (.istore 8, 2) := by decide +kernel
theorem dL_build_403 : decode cL_build 403 = .ok (.aload 5, 2) := by decide +kernel
theorem dL_build_405 : decode cL_build 405 = .ok (.iconst 3, 1) := by decide +kernel
theorem dL_build_406 : decode cL_build 406 = .ok (.iload 7, 2) := by decide +kernel
theorem dL_build_408 : decode cL_build 408 = .ok (.imul, 1) := by decide +kernel
theorem dL_build_409 : decode cL_build 409 = .ok (.iload 8, 2) := by decide +kernel
theorem dL_build_411 : decode cL_build 411 = .ok (.iconst 3, 1) := by decide +kernel
theorem dL_build_412 : decode cL_build 412 = .ok (.invokestatic 15, 3) := by decide +kernel
theorem dL_build_415 : decode cL_build 415 = .ok (.ifCond .ne 7, 3) := by decide +kernel
theorem dL_build_418 : decode cL_build 418 = .ok (.iconst 0, 1) := by decide +kernel
theorem dL_build_419 : decode cL_build 419 = .ok (.goto 13, 3) := by decide +kernel
theorem dL_build_422 : decode cL_build 422 = .ok (.iload 8, 2) := by decide +kernel
theorem dL_build_424 : decode cL_build 424 = .ok (.iconst 2, 1) := by decide +kernel
theorem dL_build_425 : decode cL_build 425 = .ok (.ishr, 1) := by decide +kernel
theorem dL_build_426 : decode cL_build 426 = .ok (.sipush 2500, 3) := by decide +kernel
theorem dL_build_429 : decode cL_build 429 = .ok (.invokestatic 15, 3) := by decide +kernel
theorem dL_build_432 : decode cL_build 432 = .ok (.iastore, 1) := by decide +kernel
theorem dL_build_433 : decode cL_build 433 = .ok (.aload 5, 2) := by decide +kernel
theorem dL_build_435 : decode cL_build 435 = .ok (.iconst 3, 1) := by decide +kernel
theorem dL_build_436 : decode cL_build 436 = .ok (.iload 7, 2) := by decide +kernel
theorem dL_build_438 : decode cL_build 438 = .ok (.imul, 1) := by decide +kernel
theorem dL_build_439 : decode cL_build 439 = .ok (.iconst 1, 1) := by decide +kernel
theorem dL_build_440 : decode cL_build 440 = .ok (.iadd, 1) := by decide +kernel
theorem dL_build_441 : decode cL_build 441 = .ok (.iload 8, 2) := by decide +kernel
theorem dL_build_443 : decode cL_build 443 = .ok (.iconst 5, 1) := by decide +kernel
theorem dL_build_444 : decode cL_build 444 = .ok (.ishr, 1) := by decide +kernel
theorem dL_build_445 : decode cL_build 445 = .ok (.sipush 3000, 3) := by decide +kernel
theorem dL_build_448 : decode cL_build 448 = .ok (.invokestatic 15, 3) := by decide +kernel
theorem dL_build_451 : decode cL_build 451 = .ok (.iastore, 1) := by decide +kernel
theorem dL_build_452 : decode cL_build 452 = .ok (.aload 5, 2) := by decide +kernel
theorem dL_build_454 : decode cL_build 454 = .ok (.iconst 3, 1) := by decide +kernel
theorem dL_build_455 : decode cL_build 455 = .ok (.iload 7, 2) := by decide +kernel
theorem dL_build_457 : decode cL_build 457 = .ok (.imul, 1) := by decide +kernel
theorem dL_build_458 : decode cL_build 458 = .ok (.iconst 2, 1) := by decide +kernel
theorem dL_build_459 : decode cL_build 459 = .ok (.iadd, 1) := by decide +kernel
theorem dL_build_460 : decode cL_build 460 = .ok (.iload 8, 2) := by decide +kernel
theorem dL_build_462 : decode cL_build 462 = .ok (.bipush 8, 2) := by decide +kernel
theorem dL_build_464 : decode cL_build 464 = .ok (.ishr, 1) := by decide +kernel
theorem dL_build_465 : decode cL_build 465 = .ok (.iconst 3, 1) := by decide +kernel
theorem dL_build_466 : decode cL_build 466 = .ok (.invokestatic 15, 3) := by decide +kernel
theorem dL_build_469 : decode cL_build 469 = .ok (.ifCond .ne 16, 3) := by decide +kernel
theorem dL_build_472 : decode cL_build 472 = .ok (.iload 8, 2) := by decide +kernel
theorem dL_build_474 : decode cL_build 474 = .ok (.bipush 10, 2) := by decide +kernel
theorem dL_build_476 : decode cL_build 476 = .ok (.ishr, 1) := by decide +kernel
theorem dL_build_477 : decode cL_build 477 = .ok (.bipush 101, 2) := by decide +kernel
theorem dL_build_479 : decode cL_build 479 = .ok (.invokestatic 15, 3) := by decide +kernel
theorem dL_build_482 : decode cL_build 482 = .ok (.goto 5, 3) := by decide +kernel
theorem dL_build_485 : decode cL_build 485 = .ok (.bipush 10, 2) := by decide +kernel
theorem dL_build_487 : decode cL_build 487 = .ok (.iastore, 1) := by decide +kernel
theorem dL_build_488 : decode cL_build 488 = .ok (.aload_n 0, 1) := by decide +kernel
theorem dL_build_489 : decode cL_build 489 = .ok (.aload 5, 2) := by decide +kernel
theorem dL_build_491 : decode cL_build 491 = .ok (.iconst 3, 1) := by decide +kernel
theorem dL_build_492 : decode cL_build 492 = .ok (.iload 7, 2) := by decide +kernel
theorem dL_build_494 : decode cL_build 494 = .ok (.imul, 1) := by decide +kernel
theorem dL_build_495 : decode cL_build 495 = .ok (.iaload, 1) := by decide +kernel
theorem dL_build_496 : decode cL_build 496 = .ok (.aload 5, 2) := by decide +kernel
theorem dL_build_498 : decode cL_build 498 = .ok (.iconst 3, 1) := by decide +kernel
theorem dL_build_499 : decode cL_build 499 = .ok (.iload 7, 2) := by decide +kernel
theorem dL_build_501 : decode cL_build 501 = .ok (.imul, 1) := by decide +kernel
theorem dL_build_502 : decode cL_build 502 = .ok (.iconst 1, 1) := by decide +kernel
theorem dL_build_503 : decode cL_build 503 = .ok (.iadd, 1) := by decide +kernel
theorem dL_build_504 : decode cL_build 504 = .ok (.iaload, 1) := by decide +kernel
theorem dL_build_505 : decode cL_build 505 = .ok (.aload 5, 2) := by decide +kernel
theorem dL_build_507 : decode cL_build 507 = .ok (.iconst 3, 1) := by decide +kernel
theorem dL_build_508 : decode cL_build 508 = .ok (.iload 7, 2) := by decide +kernel
theorem dL_build_510 : decode cL_build 510 = .ok (.imul, 1) := by decide +kernel
theorem dL_build_511 : decode cL_build 511 = .ok (.iconst 2, 1) := by decide +kernel
theorem dL_build_512 : decode cL_build 512 = .ok (.iadd, 1) := by decide +kernel
theorem dL_build_513 : decode cL_build 513 = .ok (.iaload, 1) := by decide +kernel
theorem dL_build_514 : decode cL_build 514 = .ok (.invokevirtual 29, 3) := by decide +kernel
theorem dL_build_517 : decode cL_build 517 = .ok (.iload 7, 2) := by decide +kernel
theorem dL_build_519 : decode cL_build 519 = .ok (.if_icmp .eq 5, 3) := by decide +kernel
theorem dL_build_522 : decode cL_build 522 = .ok (.iconst 0, 1) := by decide +kernel
theorem dL_build_523 : decode cL_build 523 = .ok (.ireturn, 1) := by decide +kernel
theorem dL_build_524 : decode cL_build 524 = .ok (.iinc 7 1, 3) := by decide +kernel
theorem dL_build_527 : decode cL_build 527 = .ok (.goto (-144), 3) := by decide +kernel
theorem dL_build_530 : decode cL_build 530 = .ok (.aload_n 3, 1) := by decide +kernel
theorem dL_build_531 : decode cL_build 531 = .ok (.iconst 2, 1) := by decide +kernel
theorem dL_build_532 : decode cL_build 532 = .ok (.iconst 1, 1) := by decide +kernel
theorem dL_build_533 : decode cL_build 533 = .ok (.aload_n 1, 1) := by decide +kernel
theorem dL_build_534 : decode cL_build 534 = .ok (.iload_n 2, 1) := by decide +kernel
theorem dL_build_535 : decode cL_build 535 = .ok (.invokestatic 9, 3) := by decide +kernel
theorem dL_build_538 : decode cL_build 538 = .ok (.bipush 6, 2) := by decide +kernel
theorem dL_build_540 : decode cL_build 540 = .ok (.ishr, 1) := by decide +kernel
theorem dL_build_541 : decode cL_build 541 = .ok (.iconst 4, 1) := by decide +kernel
theorem dL_build_542 : decode cL_build 542 = .ok (.invokestatic 15, 3) := by decide +kernel
theorem dL_build_545 : decode cL_build 545 = .ok (.iadd, 1) := by decide +kernel
theorem dL_build_546 : decode cL_build 546 = .ok (.iastore, 1) := by decide +kernel
theorem dL_build_547 : decode cL_build 547 = .ok (.iconst 0, 1) := by decide +kernel
theorem dL_build_548 : decode cL_build 548 = .ok (.istore 7, 2) := by decide +kernel
theorem dL_build_550 : decode cL_build 550 = .ok (.iload 7, 2) := by decide +kernel
theorem dL_build_552 : decode cL_build 552 = .ok (.aload_n 3, 1) := by decide +kernel
theorem dL_build_553 : decode cL_build 553 = .ok (.iconst 2, 1) := by decide +kernel
theorem dL_build_554 : decode cL_build 554 = .ok (.iaload, 1) := by decide +kernel
theorem dL_build_555 : decode cL_build 555 = .ok (.if_icmp .ge 88, 3) := by decide +kernel
theorem dL_build_558 : decode cL_build 558 = .ok (.aload 6, 2) := by decide +kernel
theorem dL_build_560 : decode cL_build 560 = .ok (.iconst 2, 1) := by decide +kernel
theorem dL_build_561 : decode cL_build 561 = .ok (.iload 7, 2) := by decide +kernel
theorem dL_build_563 : decode cL_build 563 = .ok (.imul, 1) := by decide +kernel
theorem dL_build_564 : decode cL_build 564 = .ok (.aload_n 1, 1) := by decide +kernel
theorem dL_build_565 : decode cL_build 565 = .ok (.iload_n 2, 1) := by decide +kernel
theorem dL_build_566 : decode cL_build 566 = .ok (.invokestatic 9, 3) := by decide +kernel
theorem dL_build_569 : decode cL_build 569 = .ok (.bipush 8, 2) := by decide +kernel
theorem dL_build_571 : decode cL_build 571 = .ok (.iload 7, 2) := by decide +kernel
theorem dL_build_573 : decode cL_build 573 = .ok (.iadd, 1) := by decide +kernel
theorem dL_build_574 : decode cL_build 574 = .ok (.ishr, 1) := by decide +kernel
theorem dL_build_575 : decode cL_build 575 = .ok (.aload_n 3, 1) := by decide +kernel
theorem dL_build_576 : decode cL_build 576 = .ok (.iconst 1, 1) := by decide +kernel
theorem dL_build_577 : decode cL_build 577 = .ok (.iaload, 1) := by decide +kernel
theorem dL_build_578 : decode cL_build 578 = .ok (.invokestatic 15, 3) := by decide +kernel
theorem dL_build_581 : decode cL_build 581 = .ok (.iastore, 1) := by decide +kernel
theorem dL_build_582 : decode cL_build 582 = .ok (.aload 6, 2) := by decide +kernel
theorem dL_build_584 : decode cL_build 584 = .ok (.iconst 2, 1) := by decide +kernel
theorem dL_build_585 : decode cL_build 585 = .ok (.iload 7, 2) := by decide +kernel
theorem dL_build_587 : decode cL_build 587 = .ok (.imul, 1) := by decide +kernel
theorem dL_build_588 : decode cL_build 588 = .ok (.iconst 1, 1) := by decide +kernel
theorem dL_build_589 : decode cL_build 589 = .ok (.iadd, 1) := by decide +kernel
theorem dL_build_590 : decode cL_build 590 = .ok (.aload_n 1, 1) := by decide +kernel
theorem dL_build_591 : decode cL_build 591 = .ok (.iload_n 2, 1) := by decide +kernel
theorem dL_build_592 : decode cL_build 592 = .ok (.invokestatic 9, 3) := by decide +kernel
theorem dL_build_595 : decode cL_build 595 = .ok (.bipush 12, 2) := by decide +kernel
theorem dL_build_597 : decode cL_build 597 = .ok (.iconst 2, 1) := by decide +kernel
theorem dL_build_598 : decode cL_build 598 = .ok (.iload 7, 2) := by decide +kernel
theorem dL_build_600 : decode cL_build 600 = .ok (.imul, 1) := by decide +kernel
theorem dL_build_601 : decode cL_build 601 = .ok (.iadd, 1) := by decide +kernel
theorem dL_build_602 : decode cL_build 602 = .ok (.ishr, 1) := by decide +kernel
theorem dL_build_603 : decode cL_build 603 = .ok (.aload_n 3, 1) := by decide +kernel
theorem dL_build_604 : decode cL_build 604 = .ok (.iconst 0, 1) := by decide +kernel
theorem dL_build_605 : decode cL_build 605 = .ok (.iaload, 1) := by decide +kernel
theorem dL_build_606 : decode cL_build 606 = .ok (.invokestatic 15, 3) := by decide +kernel
theorem dL_build_609 : decode cL_build 609 = .ok (.iastore, 1) := by decide +kernel
theorem dL_build_610 : decode cL_build 610 = .ok (.aload_n 0, 1) := by decide +kernel
theorem dL_build_611 : decode cL_build 611 = .ok (.aload 6, 2) := by decide +kernel
theorem dL_build_613 : decode cL_build 613 = .ok (.iconst 2, 1) := by decide +kernel
theorem dL_build_614 : decode cL_build 614 = .ok (.iload 7, 2) := by decide +kernel
theorem dL_build_616 : decode cL_build 616 = .ok (.imul, 1) := by decide +kernel
theorem dL_build_617 : decode cL_build 617 = .ok (.iaload, 1) := by decide +kernel
theorem dL_build_618 : decode cL_build 618 = .ok (.aload 6, 2) := by decide +kernel
theorem dL_build_620 : decode cL_build 620 = .ok (.iconst 2, 1) := by decide +kernel
theorem dL_build_621 : decode cL_build 621 = .ok (.iload 7, 2) := by decide +kernel
theorem dL_build_623 : decode cL_build 623 = .ok (.imul, 1) := by decide +kernel
theorem dL_build_624 : decode cL_build 624 = .ok (.iconst 1, 1) := by decide +kernel
theorem dL_build_625 : decode cL_build 625 = .ok (.iadd, 1) := by decide +kernel
theorem dL_build_626 : decode cL_build 626 = .ok (.iaload, 1) := by decide +kernel
theorem dL_build_627 : decode cL_build 627 = .ok (.invokevirtual 33, 3) := by decide +kernel
theorem dL_build_630 : decode cL_build 630 = .ok (.iload 7, 2) := by decide +kernel
theorem dL_build_632 : decode cL_build 632 = .ok (.if_icmp .eq 5, 3) := by decide +kernel
theorem dL_build_635 : decode cL_build 635 = .ok (.iconst 0, 1) := by decide +kernel
theorem dL_build_636 : decode cL_build 636 = .ok (.ireturn, 1) := by decide +kernel
theorem dL_build_637 : decode cL_build 637 = .ok (.iinc 7 1, 3) := by decide +kernel
theorem dL_build_640 : decode cL_build 640 = .ok (.goto (-90), 3) := by decide +kernel
theorem dL_build_643 : decode cL_build 643 = .ok (.iconst 1, 1) := by decide +kernel
theorem dL_build_644 : decode cL_build 644 = .ok (.ireturn, 1) := by decide +kernel
theorem dL_call_0 : decode cL_call 0 = .ok (.aload_n 1, 1) := by decide +kernel
theorem dL_call_1 : decode cL_call 1 = .ok (.iload_n 2, 1) := by decide +kernel
theorem dL_call_2 : decode cL_call 2 = .ok (.invokestatic 9, 3) := by decide +kernel
theorem dL_call_5 : decode cL_call 5 = .ok (.iload_n 3, 1) := by decide +kernel
theorem dL_call_6 : decode cL_call 6 = .ok (.iconst 1, 1) := by decide +kernel
theorem dL_call_7 : decode cL_call 7 = .ok (.iadd, 1) := by decide +kernel
theorem dL_call_8 : decode cL_call 8 = .ok (.invokestatic 15, 3) := by decide +kernel
theorem dL_call_11 : decode cL_call 11 = .ok (.istore 6, 2) := by decide +kernel
theorem dL_call_13 : decode cL_call 13 = .ok (.iconst 0, 1) := by decide +kernel
theorem dL_call_14 : decode cL_call 14 = .ok (.istore 7, 2) := by decide +kernel
theorem dL_call_16 : decode cL_call 16 = .ok (.iload 7, 2) := by decide +kernel
theorem dL_call_18 : decode cL_call 18 = .ok (.iload 6, 2) := by decide +kernel
theorem dL_call_20 : decode cL_call 20 = .ok (.if_icmp .ge 242, 3) := by decide +kernel
theorem dL_call_23 : decode cL_call 23 = .ok (.aload_n 1, 1) := by decide +kernel
theorem dL_call_24 : decode cL_call 24 = .ok (.iload_n 2, 1) := by decide +kernel
theorem dL_call_25 : decode cL_call 25 = .ok (.iconst 1, 1) := by decide +kernel
theorem dL_call_26 : decode cL_call 26 = .ok (.iadd, 1) := by decide +kernel
theorem dL_call_27 : decode cL_call 27 = .ok (.iload 7, 2) := by decide +kernel
theorem dL_call_29 : decode cL_call 29 = .ok (.bipush 7, 2) := by decide +kernel
theorem dL_call_31 : decode cL_call 31 = .ok (.irem, 1) := by decide +kernel
theorem dL_call_32 : decode cL_call 32 = .ok (.iadd, 1) := by decide +kernel
theorem dL_call_33 : decode cL_call 33 = .ok (.invokestatic 9, 3) := by decide +kernel
theorem dL_call_36 : decode cL_call 36 = .ok (.iload 7, 2) := by decide +kernel
theorem dL_call_38 : decode cL_call 38 = .ok (.bipush 7, 2) := by decide +kernel
theorem dL_call_40 : decode cL_call 40 = .ok (.idiv, 1) := by decide +kernel
theorem dL_call_41 : decode cL_call 41 = .ok (.iconst 5, 1) := by decide +kernel
theorem dL_call_42 : decode cL_call 42 = .ok (.imul, 1) := by decide +kernel
theorem dL_call_43 : decode cL_call 43 = .ok (.ishr, 1) := by decide +kernel
theorem dL_call_44 : decode cL_call 44 = .ok (.iload 7, 2) := by decide +kernel
theorem dL_call_46 : decode cL_call 46 = .ok (.sipush 1009, 3) := by decide +kernel
theorem dL_call_49 : decode cL_call 49 = .ok (.imul, 1) := by decide +kernel
theorem dL_call_50 : decode cL_call 50 = .ok (.ixor, 1) := by decide +kernel
theorem dL_call_51 : decode cL_call 51 = .ok (.istore 8, 2) := by decide +kernel
theorem dL_call_53 : decode cL_call 53 = .ok (.aload 5, 2) := by decide +kernel
theorem dL_call_55 : decode cL_call 55 = .ok (.iconst 4, 1) := by decide +kernel
theorem dL_call_56 : decode cL_call 56 = .ok (.iload 7, 2) := by decide +kernel
theorem dL_call_58 : decode cL_call 58 = .ok (.imul, 1) := by decide +kernel
theorem dL_call_59 : decode cL_call 59 = .ok (.iload 8, 2) := by decide +kernel
theorem dL_call_61 : decode cL_call 61 = .ok (.iload 4, 2) := by decide +kernel
theorem dL_call_63 : decode cL_call 63 = .ok (.invokestatic 15, 3) := by decide +kernel
theorem dL_call_66 : decode cL_call 66 = .ok (.iastore, 1) := by decide +kernel
theorem dL_call_67 : decode cL_call 67 = .ok (.aload 5, 2) := by decide +kernel
theorem dL_call_69 : decode cL_call 69 = .ok (.iconst 4, 1) := by decide +kernel
theorem dL_call_70 : decode cL_call 70 = .ok (.iload 7, 2) := by decide +kernel
theorem dL_call_72 : decode cL_call 72 = .ok (.imul, 1) := by decide +kernel
theorem dL_call_73 : decode cL_call 73 = .ok (.iconst 1, 1) := by decide +kernel
theorem dL_call_74 : decode cL_call 74 = .ok (.iadd, 1) := by decide +kernel
theorem dL_call_75 : decode cL_call 75 = .ok (.iload 8, 2) := by decide +kernel
theorem dL_call_77 : decode cL_call 77 = .ok (.iconst 2, 1) := by decide +kernel
theorem dL_call_78 : decode cL_call 78 = .ok (.ishr, 1) := by decide +kernel
theorem dL_call_79 : decode cL_call 79 = .ok (.iconst 3, 1) := by decide +kernel
theorem dL_call_80 : decode cL_call 80 = .ok (.invokestatic 15, 3) := by decide +kernel
theorem dL_call_83 : decode cL_call 83 = .ok (.ifCond .le 35, 3) := by decide +kernel
theorem dL_call_86 : decode cL_call 86 = .ok (.sipush 1440, 3) := by decide +kernel
theorem dL_call_89 : decode cL_call 89 = .ok (.iload 8, 2) := by decide +kernel
theorem dL_call_91 : decode cL_call 91 = .ok (.iconst 3, 1) := by decide +kernel
theorem dL_call_92 : decode cL_call 92 = .ok (.ishr, 1) := by decide +kernel
theorem dL_call_93 : decode cL_call 93 = .ok (.iconst 3, 1) := by decide +kernel
theorem dL_call_94 : decode cL_call 94 = .ok (.invokestatic 15, 3) := by decide +kernel
theorem dL_call_97 : decode cL_call 97 = .ok (.imul, 1) := by decide +kernel
theorem dL_call_98 : decode cL_call 98 = .ok (.sipush 400, 3) := by decide +kernel
theorem dL_call_101 : decode cL_call 101 = .ok (.iadd, 1) := by decide +kernel
theorem dL_call_102 : decode cL_call 102 = .ok (.bipush 30, 2) := by decide +kernel
theorem dL_call_104 : decode cL_call 104 = .ok (.iload 8, 2) := by decide +kernel
theorem dL_call_106 : decode cL_call 106 = .ok (.iconst 5, 1) := by decide +kernel
theorem dL_call_107 : decode cL_call 107 = .ok (.ishr, 1) := by decide +kernel
theorem dL_call_108 : decode cL_call 108 = .ok (.bipush 30, 2) := by decide +kernel
theorem dL_call_110 : decode cL_call 110 = .ok (.invokestatic 15, 3) := by decide +kernel
theorem dL_call_113 : decode cL_call 113 = .ok (.imul, 1) := by decide +kernel
theorem dL_call_114 : decode cL_call 114 = .ok (.iadd, 1) := by decide +kernel
theorem dL_call_115 : decode cL_call 115 = .ok (.goto 12, 3) := by decide +kernel
theorem dL_call_118 : decode cL_call 118 = .ok (.iload 8, 2) := by decide +kernel
theorem dL_call_120 : decode cL_call 120 = .ok (.iconst 3, 1) := by decide +kernel
theorem dL_call_121 : decode cL_call 121 = .ok (.ishr, 1) := by decide +kernel
theorem dL_call_122 : decode cL_call 122 = .ok (.ldc 36, 2) := by decide +kernel
theorem dL_call_124 : decode cL_call 124 = .ok (.invokestatic 15, 3) := by decide +kernel
theorem dL_call_127 : decode cL_call 127 = .ok (.iastore, 1) := by decide +kernel
theorem dL_call_128 : decode cL_call 128 = .ok (.aload 5, 2) := by decide +kernel
theorem dL_call_130 : decode cL_call 130 = .ok (.iconst 4, 1) := by decide +kernel
theorem dL_call_131 : decode cL_call 131 = .ok (.iload 7, 2) := by decide +kernel
theorem dL_call_133 : decode cL_call 133 = .ok (.imul, 1) := by decide +kernel
theorem dL_call_134 : decode cL_call 134 = .ok (.iconst 2, 1) := by decide +kernel
theorem dL_call_135 : decode cL_call 135 = .ok (.iadd, 1) := by decide +kernel
theorem dL_call_136 : decode cL_call 136 = .ok (.iconst 1, 1) := by decide +kernel
theorem dL_call_137 : decode cL_call 137 = .ok (.iload 8, 2) := by decide +kernel
theorem dL_call_139 : decode cL_call 139 = .ok (.iconst 4, 1) := by decide +kernel
theorem dL_call_140 : decode cL_call 140 = .ok (.ishr, 1) := by decide +kernel
theorem dL_call_141 : decode cL_call 141 = .ok (.iconst 2, 1) := by decide +kernel
theorem dL_call_142 : decode cL_call 142 = .ok (.invokestatic 15, 3) := by decide +kernel
theorem dL_call_145 : decode cL_call 145 = .ok (.ifCond .ne 17, 3) := by decide +kernel
theorem dL_call_148 : decode cL_call 148 = .ok (.iload 8, 2) := by decide +kernel
theorem dL_call_150 : decode cL_call 150 = .ok (.bipush 6, 2) := by decide +kernel
theorem dL_call_152 : decode cL_call 152 = .ok (.ishr, 1) := by decide +kernel
theorem dL_call_153 : decode cL_call 153 = .ok (.sipush 200, 3) := by decide +kernel
theorem dL_call_156 : decode cL_call 156 = .ok (.invokestatic 15, 3) := by decide +kernel
theorem dL_call_159 : decode cL_call 159 = .ok (.goto 14, 3) := by decide +kernel
theorem dL_call_162 : decode cL_call 162 = .ok (.iload 8, 2) := by decide +kernel
theorem dL_call_164 : decode cL_call 164 = .ok (.bipush 6, 2) := by decide +kernel
theorem dL_call_166 : decode cL_call 166 = .ok (.ishr, 1) := by decide +kernel
theorem dL_call_167 : decode cL_call 167 = .ok (.sipush 1900, 3) := by decide +kernel
theorem dL_call_170 : decode cL_call 170 = .ok (.invokestatic 15, 3) := by decide +kernel
theorem dL_call_173 : decode cL_call 173 = .ok (.iadd, 1) := by decide +kernel
theorem dL_call_174 : decode cL_call 174 = .ok (.iastore, 1) := by decide +kernel
theorem dL_call_175 : decode cL_call 175 = .ok (.aload 5, 2) := by decide +kernel
theorem dL_call_177 : decode cL_call 177 = .ok (.iconst 4, 1) := by decide +kernel
theorem dL_call_178 : decode cL_call 178 = .ok (.iload 7, 2) := by decide +kernel
theorem dL_call_180 : decode cL_call 180 = .ok (.imul, 1) := by decide +kernel
theorem dL_call_181 : decode cL_call 181 = .ok (.iconst 3, 1) := by decide +kernel
theorem dL_call_182 : decode cL_call 182 = .ok (.iadd, 1) := by decide +kernel
theorem dL_call_183 : decode cL_call 183 = .ok (.iload 8, 2) := by decide +kernel
theorem dL_call_185 : decode cL_call 185 = .ok (.bipush 8, 2) := by decide +kernel
theorem dL_call_187 : decode cL_call 187 = .ok (.ishr, 1) := by decide +kernel
theorem dL_call_188 : decode cL_call 188 = .ok (.iconst 2, 1) := by decide +kernel
theorem dL_call_189 : decode cL_call 189 = .ok (.invokestatic 15, 3) := by decide +kernel
theorem dL_call_192 : decode cL_call 192 = .ok (.ifCond .ne 7, 3) := by decide +kernel
theorem dL_call_195 : decode cL_call 195 = .ok (.iconst 0, 1) := by decide +kernel
theorem dL_call_196 : decode cL_call 196 = .ok (.goto 14, 3) := by decide +kernel
theorem dL_call_199 : decode cL_call 199 = .ok (.iconst 1, 1) := by decide +kernel
theorem dL_call_200 : decode cL_call 200 = .ok (.iload 8, 2) := by decide +kernel
theorem dL_call_202 : decode cL_call 202 = .ok (.bipush 9, 2) := by decide +kernel
theorem dL_call_204 : decode cL_call 204 = .ok (.ishr, 1) := by decide +kernel
theorem dL_call_205 : decode cL_call 205 = .ok (.iconst 2, 1) := by decide +kernel
theorem dL_call_206 : decode cL_call 206 = .ok (.invokestatic 15, 3) := by decide +kernel
theorem dL_call_209 : decode cL_call 209 = .ok (.iadd, 1) := by decide +kernel
theorem dL_call_210 : decode cL_call 210 = .ok (.iastore, 1) := by decide +kernel
theorem dL_call_211 : decode cL_call 211 = .ok (.aload_n 0, 1) := by decide +kernel
theorem dL_call_212 : decode cL_call 212 = .ok (.aload 5, 2) := by decide +kernel
theorem dL_call_214 : decode cL_call 214 = .ok (.iconst 4, 1) := by decide +kernel
theorem dL_call_215 : decode cL_call 215 = .ok (.iload 7, 2) := by decide +kernel
theorem dL_call_217 : decode cL_call 217 = .ok (.imul, 1) := by decide +kernel
theorem dL_call_218 : decode cL_call 218 = .ok (.iaload, 1) := by decide +kernel
theorem dL_call_219 : decode cL_call 219 = .ok (.aload 5, 2) := by decide +kernel
theorem dL_call_221 : decode cL_call 221 = .ok (.iconst 4, 1) := by decide +kernel
theorem dL_call_222 : decode cL_call 222 = .ok (.iload 7, 2) := by decide +kernel
theorem dL_call_224 : decode cL_call 224 = .ok (.imul, 1) := by decide +kernel
theorem dL_call_225 : decode cL_call 225 = .ok (.iconst 1, 1) := by decide +kernel
theorem dL_call_226 : decode cL_call 226 = .ok (.iadd, 1) := by decide +kernel
theorem dL_call_227 : decode cL_call 227 = .ok (.iaload, 1) := by decide +kernel
theorem dL_call_228 : decode cL_call 228 = .ok (.aload 5, 2) := by decide +kernel
theorem dL_call_230 : decode cL_call 230 = .ok (.iconst 4, 1) := by decide +kernel
theorem dL_call_231 : decode cL_call 231 = .ok (.iload 7, 2) := by decide +kernel
theorem dL_call_233 : decode cL_call 233 = .ok (.imul, 1) := by decide +kernel
theorem dL_call_234 : decode cL_call 234 = .ok (.iconst 2, 1) := by decide +kernel
theorem dL_call_235 : decode cL_call 235 = .ok (.iadd, 1) := by decide +kernel
theorem dL_call_236 : decode cL_call 236 = .ok (.iaload, 1) := by decide +kernel
theorem dL_call_237 : decode cL_call 237 = .ok (.aload 5, 2) := by decide +kernel
theorem dL_call_239 : decode cL_call 239 = .ok (.iconst 4, 1) := by decide +kernel
theorem dL_call_240 : decode cL_call 240 = .ok (.iload 7, 2) := by decide +kernel
theorem dL_call_242 : decode cL_call 242 = .ok (.imul, 1) := by decide +kernel
theorem dL_call_243 : decode cL_call 243 = .ok (.iconst 3, 1) := by decide +kernel
theorem dL_call_244 : decode cL_call 244 = .ok (.iadd, 1) := by decide +kernel
theorem dL_call_245 : decode cL_call 245 = .ok (.iaload, 1) := by decide +kernel
theorem dL_call_246 : decode cL_call 246 = .ok (.invokevirtual 37, 3) := by decide +kernel
theorem dL_call_249 : decode cL_call 249 = .ok (.iload 7, 2) := by decide +kernel
theorem dL_call_251 : decode cL_call 251 = .ok (.if_icmp .eq 5, 3) := by decide +kernel
theorem dL_call_254 : decode cL_call 254 = .ok (.iconst (-1), 1) := by decide +kernel
theorem dL_call_255 : decode cL_call 255 = .ok (.ireturn, 1) := by decide +kernel
theorem dL_call_256 : decode cL_call 256 = .ok (.iinc 7 1, 3) := by decide +kernel
theorem dL_call_259 : decode cL_call 259 = .ok (.goto (-243), 3) := by decide +kernel
theorem dL_call_262 : decode cL_call 262 = .ok (.aload_n 0, 1) := by decide +kernel
theorem dL_call_263 : decode cL_call 263 = .ok (.invokevirtual 40, 3) := by decide +kernel
theorem dL_call_266 : decode cL_call 266 = .ok (.iload 6, 2) := by decide +kernel
theorem dL_call_268 : decode cL_call 268 = .ok (.if_icmp .ne 8, 3) := by decide +kernel
theorem dL_call_271 : decode cL_call 271 = .ok (.iload 6, 2) := by decide +kernel
theorem dL_call_273 : decode cL_call 273 = .ok (.goto 4, 3) := by decide +kernel
theorem dL_call_276 : decode cL_call 276 = .ok (.iconst (-1), 1) := by decide +kernel
theorem dL_call_277 : decode cL_call 277 = .ok (.ireturn, 1) := by decide +kernel
theorem dL_law_0 : decode cL_law 0 = .ok (.new 20, 3) := by decide +kernel
theorem dL_law_3 : decode cL_law 3 = .ok (.dup, 1) := by decide +kernel
theorem dL_law_4 : decode cL_law 4 = .ok (.invokespecial 52, 3) := by decide +kernel
theorem dL_law_7 : decode cL_law 7 = .ok (.astore_n 1, 1) := by decide +kernel
theorem dL_law_8 : decode cL_law 8 = .ok (.iconst 3, 1) := by decide +kernel
theorem dL_law_9 : decode cL_law 9 = .ok (.newarray .int, 2) := by decide +kernel
theorem dL_law_11 : decode cL_law 11 = .ok (.astore_n 2, 1) := by decide +kernel
theorem dL_law_12 : decode cL_law 12 = .ok (.bipush 27, 2) := by decide +kernel
theorem dL_law_14 : decode cL_law 14 = .ok (.newarray .int, 2) := by decide +kernel
theorem dL_law_16 : decode cL_law 16 = .ok (.astore_n 3, 1) := by decide +kernel
theorem dL_law_17 : decode cL_law 17 = .ok (.bipush 6, 2) := by decide +kernel
theorem dL_law_19 : decode cL_law 19 = .ok (.newarray .int, 2) := by decide +kernel
theorem dL_law_21 : decode cL_law 21 = .ok (.astore 4, 2) := by decide +kernel
theorem dL_law_23 : decode cL_law 23 = .ok (.bipush 8, 2) := by decide +kernel
theorem dL_law_25 : decode cL_law 25 = .ok (.newarray .int, 2) := by decide +kernel
theorem dL_law_27 : decode cL_law 27 = .ok (.astore 5, 2) := by decide +kernel
theorem dL_law_29 : decode cL_law 29 = .ok (.bipush 80, 2) := by decide +kernel
theorem dL_law_31 : decode cL_law 31 = .ok (.newarray .int, 2) := by decide +kernel
theorem dL_law_33 : decode cL_law 33 = .ok (.astore 6, 2) := by decide +kernel
theorem dL_law_35 : decode cL_law 35 = .ok (.aload_n 1, 1) := by decide +kernel
theorem dL_law_36 : decode cL_law 36 = .ok (.aload_n 0, 1) := by decide +kernel
theorem dL_law_37 : decode cL_law 37 = .ok (.iconst 0, 1) := by decide +kernel
theorem dL_law_38 : decode cL_law 38 = .ok (.aload_n 2, 1) := by decide +kernel
theorem dL_law_39 : decode cL_law 39 = .ok (.aload_n 3, 1) := by decide +kernel
theorem dL_law_40 : decode cL_law 40 = .ok (.aload 4, 2) := by decide +kernel
theorem dL_law_42 : decode cL_law 42 = .ok (.aload 5, 2) := by decide +kernel
theorem dL_law_44 : decode cL_law 44 = .ok (.invokestatic 53, 3) := by decide +kernel
theorem dL_law_47 : decode cL_law 47 = .ok (.ifCond .ne 5, 3) := by decide +kernel
theorem dL_law_50 : decode cL_law 50 = .ok (.iconst 0, 1) := by decide +kernel
theorem dL_law_51 : decode cL_law 51 = .ok (.ireturn, 1) := by decide +kernel
theorem dL_law_52 : decode cL_law 52 = .ok (.aload_n 1, 1) := by decide +kernel
theorem dL_law_53 : decode cL_law 53 = .ok (.aload_n 0, 1) := by decide +kernel
theorem dL_law_54 : decode cL_law 54 = .ok (.bipush 7, 2) := by decide +kernel
theorem dL_law_56 : decode cL_law 56 = .ok (.bipush 14, 2) := by decide +kernel
theorem dL_law_58 : decode cL_law 58 = .ok (.aload_n 2, 1) := by decide +kernel
theorem dL_law_59 : decode cL_law 59 = .ok (.iconst 2, 1) := by decide +kernel
theorem dL_law_60 : decode cL_law 60 = .ok (.iaload, 1) := by decide +kernel
theorem dL_law_61 : decode cL_law 61 = .ok (.aload 6, 2) := by decide +kernel
theorem dL_law_63 : decode cL_law 63 = .ok (.invokestatic 57, 3) := by decide +kernel
theorem dL_law_66 : decode cL_law 66 = .ok (.istore 7, 2) := by decide +kernel
theorem dL_law_68 : decode cL_law 68 = .ok (.iload 7, 2) := by decide +kernel
theorem dL_law_70 : decode cL_law 70 = .ok (.ifCond .ge 5, 3) := by decide +kernel
theorem dL_law_73 : decode cL_law 73 = .ok (.iconst 0, 1) := by decide +kernel
theorem dL_law_74 : decode cL_law 74 = .ok (.ireturn, 1) := by decide +kernel
theorem dL_law_75 : decode cL_law 75 = .ok (.bipush 20, 2) := by decide +kernel
theorem dL_law_77 : decode cL_law 77 = .ok (.newarray .int, 2) := by decide +kernel
theorem dL_law_79 : decode cL_law 79 = .ok (.astore 8, 2) := by decide +kernel
theorem dL_law_81 : decode cL_law 81 = .ok (.iconst 0, 1) := by decide +kernel
theorem dL_law_82 : decode cL_law 82 = .ok (.istore 9, 2) := by decide +kernel
theorem dL_law_84 : decode cL_law 84 = .ok (.iload 9, 2) := by decide +kernel
theorem dL_law_86 : decode cL_law 86 = .ok (.iload 7, 2) := by decide +kernel
theorem dL_law_88 : decode cL_law 88 = .ok (.if_icmp .ge 21, 3) := by decide +kernel
theorem dL_law_91 : decode cL_law 91 = .ok (.aload 8, 2) := by decide +kernel
theorem dL_law_93 : decode cL_law 93 = .ok (.iload 9, 2) := by decide +kernel
theorem dL_law_95 : decode cL_law 95 = .ok (.aload_n 1, 1) := by decide +kernel
theorem dL_law_96 : decode cL_law 96 = .ok (.iload 9, 2) := by decide +kernel
theorem dL_law_98 : decode cL_law 98 = .ok (.iconst 3, 1) := by decide +kernel
theorem dL_law_99 : decode cL_law 99 = .ok (.invokevirtual 61, 3) := by decide +kernel
theorem dL_law_102 : decode cL_law 102 = .ok (.iastore, 1) := by decide +kernel
theorem dL_law_103 : decode cL_law 103 = .ok (.iinc 9 1, 3) := by decide +kernel
theorem dL_law_106 : decode cL_law 106 = .ok (.goto (-22), 3) := by decide +kernel
theorem dL_law_109 : decode cL_law 109 = .ok (.iconst 0, 1) := by decide +kernel
theorem dL_law_110 : decode cL_law 110 = .ok (.istore 9, 2) := by decide +kernel
theorem dL_law_112 : decode cL_law 112 = .ok (.iload 9, 2) := by decide +kernel
theorem dL_law_114 : decode cL_law 114 = .ok (.iconst 4, 1) := by decide +kernel
theorem dL_law_115 : decode cL_law 115 = .ok (.if_icmp .ge 263, 3) := by decide +kernel
theorem dL_law_118 : decode cL_law 118 = .ok (.aload_n 0, 1) := by decide +kernel
theorem dL_law_119 : decode cL_law 119 = .ok (.bipush 15, 2) := by decide +kernel
theorem dL_law_121 : decode cL_law 121 = .ok (.iload 9, 2) := by decide +kernel
theorem dL_law_123 : decode cL_law 123 = .ok (.iadd, 1) := by decide +kernel
theorem dL_law_124 : decode cL_law 124 = .ok (.invokestatic 9, 3) := by decide +kernel
theorem dL_law_127 : decode cL_law 127 = .ok (.istore 10, 2) := by decide +kernel
theorem dL_law_129 : decode cL_law 129 = .ok (.sipush 1440, 3) := by decide +kernel
theorem dL_law_132 : decode cL_law 132 = .ok (.iload 10, 2) := by decide +kernel
theorem dL_law_134 : decode cL_law 134 = .ok (.iconst 3, 1) := by decide +kernel
theorem dL_law_135 : decode cL_law 135 = .ok (.invokestatic 15, 3) := by decide +kernel
theorem dL_law_138 : decode cL_law 138 = .ok (.imul, 1) := by decide +kernel
theorem dL_law_139 : decode cL_law 139 = .ok (.iload 10, 2) := by decide +kernel
theorem dL_law_141 : decode cL_law 141 = .ok (.iconst 4, 1) := by decide +kernel
theorem dL_law_142 : decode cL_law 142 = .ok (.ishr, 1) := by decide +kernel
theorem dL_law_143 : decode cL_law 143 = .ok (.sipush 1440, 3) := by decide +kernel
theorem dL_law_146 : decode cL_law 146 = .ok (.invokestatic 15, 3) := by decide +kernel
theorem dL_law_149 : decode cL_law 149 = .ok (.iadd, 1) := by decide +kernel
theorem dL_law_150 : decode cL_law 150 = .ok (.istore 11, 2) := by decide +kernel
theorem dL_law_152 : decode cL_law 152 = .ok (.aload_n 1, 1) := by decide +kernel
theorem dL_law_153 : decode cL_law 153 = .ok (.iload 10, 2) := by decide +kernel
theorem dL_law_155 : decode cL_law 155 = .ok (.iconst 2, 1) := by decide +kernel
theorem dL_law_156 : decode cL_law 156 = .ok (.ishr, 1) := by decide +kernel
theorem dL_law_157 : decode cL_law 157 = .ok (.aload_n 2, 1) := by decide +kernel
theorem dL_law_158 : decode cL_law 158 = .ok (.iconst 2, 1) := by decide +kernel
theorem dL_law_159 : decode cL_law 159 = .ok (.iaload, 1) := by decide +kernel
theorem dL_law_160 : decode cL_law 160 = .ok (.invokestatic 15, 3) := by decide +kernel
theorem dL_law_163 : decode cL_law 163 = .ok (.iload 11, 2) := by decide +kernel
theorem dL_law_165 : decode cL_law 165 = .ok (.iconst 1, 1) := by decide +kernel
theorem dL_law_166 : decode cL_law 166 = .ok (.iload 10, 2) := by decide +kernel
theorem dL_law_168 : decode cL_law 168 = .ok (.bipush 6, 2) := by decide +kernel
theorem dL_law_170 : decode cL_law 170 = .ok (.ishr, 1) := by decide +kernel
theorem dL_law_171 : decode cL_law 171 = .ok (.sipush 1500, 3) := by decide +kernel
theorem dL_law_174 : decode cL_law 174 = .ok (.invokestatic 15, 3) := by decide +kernel
theorem dL_law_177 : decode cL_law 177 = .ok (.iadd, 1) := by decide +kernel
theorem dL_law_178 : decode cL_law 178 = .ok (.iload 10, 2) := by decide +kernel
theorem dL_law_180 : decode cL_law 180 = .ok (.bipush 8, 2) := by decide +kernel
theorem dL_law_182 : decode cL_law 182 = .ok (.ishr, 1) := by decide +kernel
theorem dL_law_183 : decode cL_law 183 = .ok (.iconst 3, 1) := by decide +kernel
theorem dL_law_184 : decode cL_law 184 = .ok (.invokestatic 15, 3) := by decide +kernel
theorem dL_law_187 : decode cL_law 187 = .ok (.invokevirtual 37, 3) := by decide +kernel
theorem dL_law_190 : decode cL_law 190 = .ok (.istore 12, 2) := by decide +kernel
theorem dL_law_192 : decode cL_law 192 = .ok (.iload 12, 2) := by decide +kernel
theorem dL_law_194 : decode cL_law 194 = .ok (.iload 7, 2) := by decide +kernel
theorem dL_law_196 : decode cL_law 196 = .ok (.if_icmp .eq 5, 3) := by decide +kernel
theorem dL_law_199 : decode cL_law 199 = .ok (.iconst 0, 1) := by decide +kernel
theorem dL_law_200 : decode cL_law 200 = .ok (.ireturn, 1) := by decide +kernel
theorem dL_law_201 : decode cL_law 201 = .ok (.aload 6, 2) := by decide +kernel
theorem dL_law_203 : decode cL_law 203 = .ok (.iconst 4, 1) := by decide +kernel
theorem dL_law_204 : decode cL_law 204 = .ok (.iload 12, 2) := by decide +kernel
theorem dL_law_206 : decode cL_law 206 = .ok (.imul, 1) := by decide +kernel
theorem dL_law_207 : decode cL_law 207 = .ok (.iconst 1, 1) := by decide +kernel
theorem dL_law_208 : decode cL_law 208 = .ok (.iadd, 1) := by decide +kernel
theorem dL_law_209 : decode cL_law 209 = .ok (.iload 11, 2) := by decide +kernel
theorem dL_law_211 : decode cL_law 211 = .ok (.iastore, 1) := by decide +kernel
theorem dL_law_212 : decode cL_law 212 = .ok (.iinc 7 1, 3) := by decide +kernel
theorem dL_law_215 : decode cL_law 215 = .ok (.iconst 0, 1) := by decide +kernel
theorem dL_law_216 : decode cL_law 216 = .ok (.istore 13, 2) := by decide +kernel
theorem dL_law_218 : decode cL_law 218 = .ok (.iload 13, 2) := by decide +kernel
theorem dL_law_220 : decode cL_law 220 = .ok (.iload 12, 2) := by decide +kernel
theorem dL_law_222 : decode cL_law 222 = .ok (.if_icmp .ge 51, 3) := by decide +kernel
theorem dL_law_225 : decode cL_law 225 = .ok (.aload_n 1, 1) := by decide +kernel
theorem dL_law_226 : decode cL_law 226 = .ok (.iload 13, 2) := by decide +kernel
theorem dL_law_228 : decode cL_law 228 = .ok (.iconst 3, 1) := by decide +kernel
theorem dL_law_229 : decode cL_law 229 = .ok (.invokevirtual 61, 3) := by decide +kernel
theorem dL_law_232 : decode cL_law 232 = .ok (.istore 14, 2) := by decide +kernel
theorem dL_law_234 : decode cL_law 234 = .ok (.aload 6, 2) := by decide +kernel
theorem dL_law_236 : decode cL_law 236 = .ok (.iconst 4, 1) := by decide +kernel
theorem dL_law_237 : decode cL_law 237 = .ok (.iload 13, 2) := by decide +kernel
theorem dL_law_239 : decode cL_law 239 = .ok (.imul, 1) := by decide +kernel
theorem dL_law_240 : decode cL_law 240 = .ok (.iconst 1, 1) := by decide +kernel
theorem dL_law_241 : decode cL_law 241 = .ok (.iadd, 1) := by decide +kernel
theorem dL_law_242 : decode cL_law 242 = .ok (.iaload, 1) := by decide +kernel
theorem dL_law_243 : decode cL_law 243 = .ok (.iload 11, 2) := by decide +kernel
theorem dL_law_245 : decode cL_law 245 = .ok (.if_icmp .gt 15, 3) := by decide +kernel
theorem dL_law_248 : decode cL_law 248 = .ok (.iload 14, 2) := by decide +kernel
theorem dL_law_250 : decode cL_law 250 = .ok (.aload 8, 2) := by decide +kernel
theorem dL_law_252 : decode cL_law 252 = .ok (.iload 13, 2) := by decide +kernel
theorem dL_law_254 : decode cL_law 254 = .ok (.iaload, 1) := by decide +kernel
theorem dL_law_255 : decode cL_law 255 = .ok (.if_icmp .eq 5, 3) := by decide +kernel
theorem dL_law_258 : decode cL_law 258 = .ok (.iconst 0, 1) := by decide +kernel
theorem dL_law_259 : decode cL_law 259 = .ok (.ireturn, 1) := by decide +kernel
theorem dL_law_260 : decode cL_law 260 = .ok (.aload 8, 2) := by decide +kernel
theorem dL_law_262 : decode cL_law 262 = .ok (.iload 13, 2) := by decide +kernel
theorem dL_law_264 : decode cL_law 264 = .ok (.iload 14, 2) := by decide +kernel
theorem dL_law_266 : decode cL_law 266 = .ok (.iastore, 1) := by decide +kernel
theorem dL_law_267 : decode cL_law 267 = .ok (.iinc 13 1, 3) := by decide +kernel
theorem dL_law_270 : decode cL_law 270 = .ok (.goto (-52), 3) := by decide +kernel
theorem dL_law_273 : decode cL_law 273 = .ok (.aload 8, 2) := by decide +kernel
theorem dL_law_275 : decode cL_law 275 = .ok (.iload 12, 2) := by decide +kernel
theorem dL_law_277 : decode cL_law 277 = .ok (.aload_n 1, 1) := by decide +kernel
theorem dL_law_278 : decode cL_law 278 = .ok (.iload 12, 2) := by decide +kernel
theorem dL_law_280 : decode cL_law 280 = .ok (.iconst 3, 1) := by decide +kernel
theorem dL_law_281 : decode cL_law 281 = .ok (.invokevirtual 61, 3) := by decide +kernel
theorem dL_law_284 : decode cL_law 284 = .ok (.iastore, 1) := by decide +kernel
theorem dL_law_285 : decode cL_law 285 = .ok (.iconst (-1), 1) := by decide +kernel
theorem dL_law_286 : decode cL_law 286 = .ok (.istore 13, 2) := by decide +kernel
theorem dL_law_288 : decode cL_law 288 = .ok (.iconst 0, 1) := by decide +kernel
theorem dL_law_289 : decode cL_law 289 = .ok (.istore 14, 2) := by decide +kernel
theorem dL_law_291 : decode cL_law 291 = .ok (.iload 14, 2) := by decide +kernel
theorem dL_law_293 : decode cL_law 293 = .ok (.iload 7, 2) := by decide +kernel
theorem dL_law_295 : decode cL_law 295 = .ok (.if_icmp .ge 77, 3) := by decide +kernel
theorem dL_law_298 : decode cL_law 298 = .ok (.aload_n 1, 1) := by decide +kernel
theorem dL_law_299 : decode cL_law 299 = .ok (.iload 14, 2) := by decide +kernel
theorem dL_law_301 : decode cL_law 301 = .ok (.invokevirtual 64, 3) := by decide +kernel
theorem dL_law_304 : decode cL_law 304 = .ok (.istore 15, 2) := by decide +kernel
theorem dL_law_306 : decode cL_law 306 = .ok (.iload 13, 2) := by decide +kernel
theorem dL_law_308 : decode cL_law 308 = .ok (.ifCond .lt 54, 3) := by decide +kernel
theorem dL_law_311 : decode cL_law 311 = .ok (.aload 6, 2) := by decide +kernel
theorem dL_law_313 : decode cL_law 313 = .ok (.iconst 4, 1) := by decide +kernel
theorem dL_law_314 : decode cL_law 314 = .ok (.iload 15, 2) := by decide +kernel
theorem dL_law_316 : decode cL_law 316 = .ok (.imul, 1) := by decide +kernel
theorem dL_law_317 : decode cL_law 317 = .ok (.iconst 1, 1) := by decide +kernel
theorem dL_law_318 : decode cL_law 318 = .ok (.iadd, 1) := by decide +kernel
theorem dL_law_319 : decode cL_law 319 = .ok (.iaload, 1) := by decide +kernel
theorem dL_law_320 : decode cL_law 320 = .ok (.aload 6, 2) := by decide +kernel
theorem dL_law_322 : decode cL_law 322 = .ok (.iconst 4, 1) := by decide +kernel
theorem dL_law_323 : decode cL_law 323 = .ok (.iload 13, 2) := by decide +kernel
theorem dL_law_325 : decode cL_law 325 = .ok (.imul, 1) := by decide +kernel
theorem dL_law_326 : decode cL_law 326 = .ok (.iconst 1, 1) := by decide +kernel
theorem dL_law_327 : decode cL_law 327 = .ok (.iadd, 1) := by decide +kernel
theorem dL_law_328 : decode cL_law 328 = .ok (.iaload, 1) := by decide +kernel
theorem dL_law_329 : decode cL_law 329 = .ok (.if_icmp .lt 31, 3) := by decide +kernel
theorem dL_law_332 : decode cL_law 332 = .ok (.aload 6, 2) := by decide +kernel
theorem dL_law_334 : decode cL_law 334 = .ok (.iconst 4, 1) := by decide +kernel
theorem dL_law_335 : decode cL_law 335 = .ok (.iload 15, 2) := by decide +kernel
theorem dL_law_337 : decode cL_law 337 = .ok (.imul, 1) := by decide +kernel
theorem dL_law_338 : decode cL_law 338 = .ok (.iconst 1, 1) := by decide +kernel
theorem dL_law_339 : decode cL_law 339 = .ok (.iadd, 1) := by decide +kernel
theorem dL_law_340 : decode cL_law 340 = .ok (.iaload, 1) := by decide +kernel
theorem dL_law_341 : decode cL_law 341 = .ok (.aload 6, 2) := by decide +kernel
theorem dL_law_343 : decode cL_law 343 = .ok (.iconst 4, 1) := by decide +kernel
theorem dL_law_344 : decode cL_law 344 = .ok (.iload 13, 2) := by decide +kernel
theorem dL_law_346 : decode cL_law 346 = .ok (.imul, 1) := by decide +kernel
theorem dL_law_347 : decode cL_law 347 = .ok (.iconst 1, 1) := by decide +kernel
theorem dL_law_348 : decode cL_law 348 = .ok (.iadd, 1) := by decide +kernel
theorem dL_law_349 : decode cL_law 349 = .ok (.iaload, 1) := by decide +kernel
theorem dL_law_350 : decode cL_law 350 = .ok (.if_icmp .ne 12, 3) := by decide +kernel
theorem dL_law_353 : decode cL_law 353 = .ok (.iload 15, 2) := by decide +kernel
theorem dL_law_355 : decode cL_law 355 = .ok (.iload 13, 2) := by decide +kernel
theorem dL_law_357 : decode cL_law 357 = .ok (.if_icmp .ge 5, 3) := by decide +kernel
theorem dL_law_360 : decode cL_law 360 = .ok (.iconst 0, 1) := by decide +kernel
theorem dL_law_361 : decode cL_law 361 = .ok (.ireturn, 1) := by decide +kernel
theorem dL_law_362 : decode cL_law 362 = .ok (.iload 15, 2) := by decide +kernel
theorem dL_law_364 : decode cL_law 364 = .ok (.istore 13, 2) := by decide +kernel
theorem dL_law_366 : decode cL_law 366 = .ok (.iinc 14 1, 3) := by decide +kernel
theorem dL_law_369 : decode cL_law 369 = .ok (.goto (-78), 3) := by decide +kernel
theorem dL_law_372 : decode cL_law 372 = .ok (.iinc 9 1, 3) := by decide +kernel
theorem dL_law_375 : decode cL_law 375 = .ok (.goto (-263), 3) := by decide +kernel
theorem dL_law_378 : decode cL_law 378 = .ok (.iconst 0, 1) := by decide +kernel
theorem dL_law_379 : decode cL_law 379 = .ok (.istore 9, 2) := by decide +kernel
theorem dL_law_381 : decode cL_law 381 = .ok (.iconst 0, 1) := by decide +kernel
theorem dL_law_382 : decode cL_law 382 = .ok (.istore 10, 2) := by decide +kernel
theorem dL_law_384 : decode cL_law 384 = .ok (.iload 10, 2) := by decide +kernel
theorem dL_law_386 : decode cL_law 386 = .ok (.iload 7, 2) := by decide +kernel
theorem dL_law_388 : decode cL_law 388 = .ok (.if_icmp .ge 19, 3) := by decide +kernel
theorem dL_law_391 : decode cL_law 391 = .ok (.iload 9, 2) := by decide +kernel
theorem dL_law_393 : decode cL_law 393 = .ok (.aload 8, 2) := by decide +kernel
theorem dL_law_395 : decode cL_law 395 = .ok (.iload 10, 2) := by decide +kernel
theorem dL_law_397 : decode cL_law 397 = .ok (.iaload, 1) := by decide +kernel
theorem dL_law_398 : decode cL_law 398 = .ok (.iadd, 1) := by decide +kernel
theorem dL_law_399 : decode cL_law 399 = .ok (.istore 9, 2) := by decide +kernel
theorem dL_law_401 : decode cL_law 401 = .ok (.iinc 10 1, 3) := by decide +kernel
theorem dL_law_404 : decode cL_law 404 = .ok (.goto (-20), 3) := by decide +kernel
theorem dL_law_407 : decode cL_law 407 = .ok (.iconst 0, 1) := by decide +kernel
theorem dL_law_408 : decode cL_law 408 = .ok (.istore 10, 2) := by decide +kernel
theorem dL_law_410 : decode cL_law 410 = .ok (.iconst 0, 1) := by decide +kernel
theorem dL_law_411 : decode cL_law 411 = .ok (.istore 11, 2) := by decide +kernel
theorem dL_law_413 : decode cL_law 413 = .ok (.iload 11, 2) := by decide +kernel
theorem dL_law_415 : decode cL_law 415 = .ok (.aload_n 2, 1) := by decide +kernel
theorem dL_law_416 : decode cL_law 416 = .ok (.iconst 2, 1) := by decide +kernel
theorem dL_law_417 : decode cL_law 417 = .ok (.iaload, 1) := by decide +kernel
theorem dL_law_418 : decode cL_law 418 = .ok (.if_icmp .ge 20, 3) := by decide +kernel
theorem dL_law_421 : decode cL_law 421 = .ok (.iload 10, 2) := by decide +kernel
theorem dL_law_423 : decode cL_law 423 = .ok (.aload_n 1, 1) := by decide +kernel
theorem dL_law_424 : decode cL_law 424 = .ok (.iload 11, 2) := by decide +kernel
theorem dL_law_426 : decode cL_law 426 = .ok (.invokevirtual 68, 3) := by decide +kernel
theorem dL_law_429 : decode cL_law 429 = .ok (.iadd, 1) := by decide +kernel
theorem dL_law_430 : decode cL_law 430 = .ok (.istore 10, 2) := by decide +kernel
theorem dL_law_432 : decode cL_law 432 = .ok (.iinc 11 1, 3) := by decide +kernel
theorem dL_law_435 : decode cL_law 435 = .ok (.goto (-22), 3) := by decide +kernel
theorem dL_law_438 : decode cL_law 438 = .ok (.iconst 0, 1) := by decide +kernel
theorem dL_law_439 : decode cL_law 439 = .ok (.istore 11, 2) := by decide +kernel
theorem dL_law_441 : decode cL_law 441 = .ok (.iconst 0, 1) := by decide +kernel
theorem dL_law_442 : decode cL_law 442 = .ok (.istore 12, 2) := by decide +kernel
theorem dL_law_444 : decode cL_law 444 = .ok (.iload 12, 2) := by decide +kernel
theorem dL_law_446 : decode cL_law 446 = .ok (.bipush 30, 2) := by decide +kernel
theorem dL_law_448 : decode cL_law 448 = .ok (.if_icmp .ge 20, 3) := by decide +kernel
theorem dL_law_451 : decode cL_law 451 = .ok (.iload 11, 2) := by decide +kernel
theorem dL_law_453 : decode cL_law 453 = .ok (.aload_n 1, 1) := by decide +kernel
theorem dL_law_454 : decode cL_law 454 = .ok (.iload 12, 2) := by decide +kernel
theorem dL_law_456 : decode cL_law 456 = .ok (.invokevirtual 71, 3) := by decide +kernel
theorem dL_law_459 : decode cL_law 459 = .ok (.iadd, 1) := by decide +kernel
theorem dL_law_460 : decode cL_law 460 = .ok (.istore 11, 2) := by decide +kernel
theorem dL_law_462 : decode cL_law 462 = .ok (.iinc 12 1, 3) := by decide +kernel
theorem dL_law_465 : decode cL_law 465 = .ok (.goto (-21), 3) := by decide +kernel
theorem dL_law_468 : decode cL_law 468 = .ok (.iconst 0, 1) := by decide +kernel
theorem dL_law_469 : decode cL_law 469 = .ok (.istore 12, 2) := by decide +kernel
theorem dL_law_471 : decode cL_law 471 = .ok (.iconst 0, 1) := by decide +kernel
theorem dL_law_472 : decode cL_law 472 = .ok (.istore 13, 2) := by decide +kernel
theorem dL_law_474 : decode cL_law 474 = .ok (.iload 13, 2) := by decide +kernel
theorem dL_law_476 : decode cL_law 476 = .ok (.aload_n 2, 1) := by decide +kernel
theorem dL_law_477 : decode cL_law 477 = .ok (.iconst 1, 1) := by decide +kernel
theorem dL_law_478 : decode cL_law 478 = .ok (.iaload, 1) := by decide +kernel
theorem dL_law_479 : decode cL_law 479 = .ok (.if_icmp .ge 96, 3) := by decide +kernel
theorem dL_law_482 : decode cL_law 482 = .ok (.aload_n 1, 1) := by decide +kernel
theorem dL_law_483 : decode cL_law 483 = .ok (.iload 13, 2) := by decide +kernel
theorem dL_law_485 : decode cL_law 485 = .ok (.invokevirtual 74, 3) := by decide +kernel
theorem dL_law_488 : decode cL_law 488 = .ok (.istore 14, 2) := by decide +kernel
theorem dL_law_490 : decode cL_law 490 = .ok (.iload 12, 2) := by decide +kernel
theorem dL_law_492 : decode cL_law 492 = .ok (.iload 14, 2) := by decide +kernel
theorem dL_law_494 : decode cL_law 494 = .ok (.iadd, 1) := by decide +kernel
theorem dL_law_495 : decode cL_law 495 = .ok (.istore 12, 2) := by decide +kernel
theorem dL_law_497 : decode cL_law 497 = .ok (.aload_n 1, 1) := by decide +kernel
theorem dL_law_498 : decode cL_law 498 = .ok (.iload 13, 2) := by decide +kernel
theorem dL_law_500 : decode cL_law 500 = .ok (.invokevirtual 77, 3) := by decide +kernel
theorem dL_law_503 : decode cL_law 503 = .ok (.istore 15, 2) := by decide +kernel
theorem dL_law_505 : decode cL_law 505 = .ok (.bipush 10, 2) := by decide +kernel
theorem dL_law_507 : decode cL_law 507 = .ok (.iload 15, 2) := by decide +kernel
theorem dL_law_509 : decode cL_law 509 = .ok (.imul, 1) := by decide +kernel
theorem dL_law_510 : decode cL_law 510 = .ok (.iload 14, 2) := by decide +kernel
theorem dL_law_512 : decode cL_law 512 = .ok (.iconst 5, 1) := by decide +kernel
theorem dL_law_513 : decode cL_law 513 = .ok (.iadd, 1) := by decide +kernel
theorem dL_law_514 : decode cL_law 514 = .ok (.if_icmp .gt 53, 3) := by decide +kernel
theorem dL_law_517 : decode cL_law 517 = .ok (.iload 14, 2) := by decide +kernel
theorem dL_law_519 : decode cL_law 519 = .ok (.aload 4, 2) := by decide +kernel
theorem dL_law_521 : decode cL_law 521 = .ok (.iconst 3, 1) := by decide +kernel
theorem dL_law_522 : decode cL_law 522 = .ok (.iload 13, 2) := by decide +kernel
theorem dL_law_524 : decode cL_law 524 = .ok (.imul, 1) := by decide +kernel
theorem dL_law_525 : decode cL_law 525 = .ok (.iconst 1, 1) := by decide +kernel
theorem dL_law_526 : decode cL_law 526 = .ok (.iadd, 1) := by decide +kernel
theorem dL_law_527 : decode cL_law 527 = .ok (.iaload, 1) := by decide +kernel
theorem dL_law_528 : decode cL_law 528 = .ok (.if_icmp .gt 15, 3) := by decide +kernel
theorem dL_law_531 : decode cL_law 531 = .ok (.iload 15, 2) := by decide +kernel
theorem dL_law_533 : decode cL_law 533 = .ok (.iload 14, 2) := by decide +kernel
theorem dL_law_535 : decode cL_law 535 = .ok (.iconst 5, 1) := by decide +kernel
theorem dL_law_536 : decode cL_law 536 = .ok (.iadd, 1) := by decide +kernel
theorem dL_law_537 : decode cL_law 537 = .ok (.bipush 10, 2) := by decide +kernel
theorem dL_law_539 : decode cL_law 539 = .ok (.idiv, 1) := by decide +kernel
theorem dL_law_540 : decode cL_law 540 = .ok (.if_icmp .ne 27, 3) := by decide +kernel
theorem dL_law_543 : decode cL_law 543 = .ok (.bipush 10, 2) := by decide +kernel
theorem dL_law_545 : decode cL_law 545 = .ok (.iload 15, 2) := by decide +kernel
theorem dL_law_547 : decode cL_law 547 = .ok (.imul, 1) := by decide +kernel
theorem dL_law_548 : decode cL_law 548 = .ok (.iload 14, 2) := by decide +kernel
theorem dL_law_550 : decode cL_law 550 = .ok (.aload 4, 2) := by decide +kernel
theorem dL_law_552 : decode cL_law 552 = .ok (.iconst 3, 1) := by decide +kernel
theorem dL_law_553 : decode cL_law 553 = .ok (.iload 13, 2) := by decide +kernel
theorem dL_law_555 : decode cL_law 555 = .ok (.imul, 1) := by decide +kernel
theorem dL_law_556 : decode cL_law 556 = .ok (.iconst 1, 1) := by decide +kernel
theorem dL_law_557 : decode cL_law 557 = .ok (.iadd, 1) := by decide +kernel
theorem dL_law_558 : decode cL_law 558 = .ok (.iaload, 1) := by decide +kernel
theorem dL_law_559 : decode cL_law 559 = .ok (.invokestatic 80, 3) := by decide +kernel
theorem dL_law_562 : decode cL_law 562 = .ok (.iconst 5, 1) := by decide +kernel
theorem dL_law_563 : decode cL_law 563 = .ok (.isub, 1) := by decide +kernel
theorem dL_law_564 : decode cL_law 564 = .ok (.if_icmp .ge 5, 3) := by decide +kernel
theorem dL_law_567 : decode cL_law 567 = .ok (.iconst 0, 1) := by decide +kernel
theorem dL_law_568 : decode cL_law 568 = .ok (.ireturn, 1) := by decide +kernel
theorem dL_law_569 : decode cL_law 569 = .ok (.iinc 13 1, 3) := by decide +kernel
theorem dL_law_572 : decode cL_law 572 = .ok (.goto (-98), 3) := by decide +kernel
theorem dL_law_575 : decode cL_law 575 = .ok (.aload_n 1, 1) := by decide +kernel
theorem dL_law_576 : decode cL_law 576 = .ok (.invokevirtual 85, 3) := by decide +kernel
theorem dL_law_579 : decode cL_law 579 = .ok (.istore 13, 2) := by decide +kernel
theorem dL_law_581 : decode cL_law 581 = .ok (.iconst 0, 1) := by decide +kernel
theorem dL_law_582 : decode cL_law 582 = .ok (.istore 14, 2) := by decide +kernel
theorem dL_law_584 : decode cL_law 584 = .ok (.iload 14, 2) := by decide +kernel
theorem dL_law_586 : decode cL_law 586 = .ok (.iload 7, 2) := by decide +kernel
theorem dL_law_588 : decode cL_law 588 = .ok (.if_icmp .ge 24, 3) := by decide +kernel
theorem dL_law_591 : decode cL_law 591 = .ok (.aload 8, 2) := by decide +kernel
theorem dL_law_593 : decode cL_law 593 = .ok (.iload 14, 2) := by decide +kernel
theorem dL_law_595 : decode cL_law 595 = .ok (.iaload, 1) := by decide +kernel
theorem dL_law_596 : decode cL_law 596 = .ok (.aload 8, 2) := by decide +kernel
theorem dL_law_598 : decode cL_law 598 = .ok (.iload 13, 2) := by decide +kernel
theorem dL_law_600 : decode cL_law 600 = .ok (.iaload, 1) := by decide +kernel
theorem dL_law_601 : decode cL_law 601 = .ok (.if_icmp .le 5, 3) := by decide +kernel
theorem dL_law_604 : decode cL_law 604 = .ok (.iconst 0, 1) := by decide +kernel
theorem dL_law_605 : decode cL_law 605 = .ok (.ireturn, 1) := by decide +kernel
theorem dL_law_606 : decode cL_law 606 = .ok (.iinc 14 1, 3) := by decide +kernel
theorem dL_law_609 : decode cL_law 609 = .ok (.goto (-25), 3) := by decide +kernel
theorem dL_law_612 : decode cL_law 612 = .ok (.iload 9, 2) := by decide +kernel
theorem dL_law_614 : decode cL_law 614 = .ok (.iload 10, 2) := by decide +kernel
theorem dL_law_616 : decode cL_law 616 = .ok (.if_icmp .ne 39, 3) := by decide +kernel
theorem dL_law_619 : decode cL_law 619 = .ok (.iload 9, 2) := by decide +kernel
theorem dL_law_621 : decode cL_law 621 = .ok (.iload 11, 2) := by decide +kernel
theorem dL_law_623 : decode cL_law 623 = .ok (.if_icmp .ne 32, 3) := by decide +kernel
theorem dL_law_626 : decode cL_law 626 = .ok (.iload 9, 2) := by decide +kernel
theorem dL_law_628 : decode cL_law 628 = .ok (.iload 12, 2) := by decide +kernel
theorem dL_law_630 : decode cL_law 630 = .ok (.if_icmp .ne 25, 3) := by decide +kernel
theorem dL_law_633 : decode cL_law 633 = .ok (.aload_n 1, 1) := by decide +kernel
theorem dL_law_634 : decode cL_law 634 = .ok (.invokevirtual 88, 3) := by decide +kernel
theorem dL_law_637 : decode cL_law 637 = .ok (.dconst 0, 1) := by decide +kernel
theorem dL_law_638 : decode cL_law 638 = .ok (.dcmp .l, 1) := by decide +kernel
theorem dL_law_639 : decode cL_law 639 = .ok (.ifCond .lt 16, 3) := by decide +kernel
theorem dL_law_642 : decode cL_law 642 = .ok (.aload_n 1, 1) := by decide +kernel
theorem dL_law_643 : decode cL_law 643 = .ok (.invokevirtual 88, 3) := by decide +kernel
theorem dL_law_646 : decode cL_law 646 = .ok (.dconst 1, 1) := by decide +kernel
theorem dL_law_647 : decode cL_law 647 = .ok (.dcmp .g, 1) := by decide +kernel
theorem dL_law_648 : decode cL_law 648 = .ok (.ifCond .gt 7, 3) := by decide +kernel
theorem dL_law_651 : decode cL_law 651 = .ok (.iconst 1, 1) := by decide +kernel
theorem dL_law_652 : decode cL_law 652 = .ok (.goto 4, 3) := by decide +kernel
theorem dL_law_655 : decode cL_law 655 = .ok (.iconst 0, 1) := by decide +kernel
theorem dL_law_656 : decode cL_law 656 = .ok (.ireturn, 1) := by decide +kernel
