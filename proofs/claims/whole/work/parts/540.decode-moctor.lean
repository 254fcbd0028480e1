/-! the reference's constructor: its instructions: written by wip/whole/gen_moctor.py -/
theorem d_Mo_init_0 : decode b_Mo_init 0 = .ok (.aload_n 0, 1) := by decide +kernel
theorem d_Mo_init_1 : decode b_Mo_init 1 = .ok (.invokespecial 1, 3) := by decide +kernel
theorem d_Mo_init_4 : decode b_Mo_init 4 = .ok (.aload_n 0, 1) := by decide +kernel
theorem d_Mo_init_5 : decode b_Mo_init 5 = .ok (.iconst 5, 1) := by decide +kernel
theorem d_Mo_init_6 : decode b_Mo_init 6 = .ok (.newarray .int, 2) := by decide +kernel
theorem d_Mo_init_8 : decode b_Mo_init 8 = .ok (.dup, 1) := by decide +kernel
theorem d_Mo_init_9 : decode b_Mo_init 9 = .ok (.iconst 0, 1) := by decide +kernel
theorem d_Mo_init_10 : decode b_Mo_init 10 = .ok (.bipush 8, 2) := by decide +kernel
theorem d_Mo_init_12 : decode b_Mo_init 12 = .ok (.iastore, 1) := by decide +kernel
theorem d_Mo_init_13 : decode b_Mo_init 13 = .ok (.dup, 1) := by decide +kernel
theorem d_Mo_init_14 : decode b_Mo_init 14 = .ok (.iconst 1, 1) := by decide +kernel
theorem d_Mo_init_15 : decode b_Mo_init 15 = .ok (.bipush 8, 2) := by decide +kernel
theorem d_Mo_init_17 : decode b_Mo_init 17 = .ok (.iastore, 1) := by decide +kernel
theorem d_Mo_init_18 : decode b_Mo_init 18 = .ok (.dup, 1) := by decide +kernel
theorem d_Mo_init_19 : decode b_Mo_init 19 = .ok (.iconst 2, 1) := by decide +kernel
theorem d_Mo_init_20 : decode b_Mo_init 20 = .ok (.bipush 8, 2) := by decide +kernel
theorem d_Mo_init_22 : decode b_Mo_init 22 = .ok (.iastore, 1) := by decide +kernel
theorem d_Mo_init_23 : decode b_Mo_init 23 = .ok (.dup, 1) := by decide +kernel
theorem d_Mo_init_24 : decode b_Mo_init 24 = .ok (.iconst 3, 1) := by decide +kernel
theorem d_Mo_init_25 : decode b_Mo_init 25 = .ok (.bipush 8, 2) := by decide +kernel
theorem d_Mo_init_27 : decode b_Mo_init 27 = .ok (.iastore, 1) := by decide +kernel
theorem d_Mo_init_28 : decode b_Mo_init 28 = .ok (.dup, 1) := by decide +kernel
theorem d_Mo_init_29 : decode b_Mo_init 29 = .ok (.iconst 4, 1) := by decide +kernel
theorem d_Mo_init_30 : decode b_Mo_init 30 = .ok (.bipush 8, 2) := by decide +kernel
theorem d_Mo_init_32 : decode b_Mo_init 32 = .ok (.iastore, 1) := by decide +kernel
theorem d_Mo_init_33 : decode b_Mo_init 33 = .ok (.putfield 7, 3) := by decide +kernel
theorem d_Mo_init_36 : decode b_Mo_init 36 = .ok (.aload_n 0, 1) := by decide +kernel
theorem d_Mo_init_37 : decode b_Mo_init 37 = .ok (.bipush 20, 2) := by decide +kernel
theorem d_Mo_init_39 : decode b_Mo_init 39 = .ok (.newarray .int, 2) := by decide +kernel
theorem d_Mo_init_41 : decode b_Mo_init 41 = .ok (.dup, 1) := by decide +kernel
theorem d_Mo_init_42 : decode b_Mo_init 42 = .ok (.iconst 0, 1) := by decide +kernel
theorem d_Mo_init_43 : decode b_Mo_init 43 = .ok (.bipush 10, 2) := by decide +kernel
theorem d_Mo_init_45 : decode b_Mo_init 45 = .ok (.iastore, 1) := by decide +kernel
theorem d_Mo_init_46 : decode b_Mo_init 46 = .ok (.dup, 1) := by decide +kernel
theorem d_Mo_init_47 : decode b_Mo_init 47 = .ok (.iconst 1, 1) := by decide +kernel
theorem d_Mo_init_48 : decode b_Mo_init 48 = .ok (.bipush 10, 2) := by decide +kernel
theorem d_Mo_init_50 : decode b_Mo_init 50 = .ok (.iastore, 1) := by decide +kernel
theorem d_Mo_init_51 : decode b_Mo_init 51 = .ok (.dup, 1) := by decide +kernel
theorem d_Mo_init_52 : decode b_Mo_init 52 = .ok (.iconst 2, 1) := by decide +kernel
theorem d_Mo_init_53 : decode b_Mo_init 53 = .ok (.bipush 10, 2) := by decide +kernel
theorem d_Mo_init_55 : decode b_Mo_init 55 = .ok (.iastore, 1) := by decide +kernel
theorem d_Mo_init_56 : decode b_Mo_init 56 = .ok (.dup, 1) := by decide +kernel
theorem d_Mo_init_57 : decode b_Mo_init 57 = .ok (.iconst 3, 1) := by decide +kernel
theorem d_Mo_init_58 : decode b_Mo_init 58 = .ok (.bipush 10, 2) := by decide +kernel
theorem d_Mo_init_60 : decode b_Mo_init 60 = .ok (.iastore, 1) := by decide +kernel
theorem d_Mo_init_61 : decode b_Mo_init 61 = .ok (.dup, 1) := by decide +kernel
theorem d_Mo_init_62 : decode b_Mo_init 62 = .ok (.iconst 4, 1) := by decide +kernel
theorem d_Mo_init_63 : decode b_Mo_init 63 = .ok (.bipush 10, 2) := by decide +kernel
theorem d_Mo_init_65 : decode b_Mo_init 65 = .ok (.iastore, 1) := by decide +kernel
theorem d_Mo_init_66 : decode b_Mo_init 66 = .ok (.dup, 1) := by decide +kernel
theorem d_Mo_init_67 : decode b_Mo_init 67 = .ok (.iconst 5, 1) := by decide +kernel
theorem d_Mo_init_68 : decode b_Mo_init 68 = .ok (.bipush 10, 2) := by decide +kernel
theorem d_Mo_init_70 : decode b_Mo_init 70 = .ok (.iastore, 1) := by decide +kernel
theorem d_Mo_init_71 : decode b_Mo_init 71 = .ok (.dup, 1) := by decide +kernel
theorem d_Mo_init_72 : decode b_Mo_init 72 = .ok (.bipush 6, 2) := by decide +kernel
theorem d_Mo_init_74 : decode b_Mo_init 74 = .ok (.bipush 10, 2) := by decide +kernel
theorem d_Mo_init_76 : decode b_Mo_init 76 = .ok (.iastore, 1) := by decide +kernel
theorem d_Mo_init_77 : decode b_Mo_init 77 = .ok (.dup, 1) := by decide +kernel
theorem d_Mo_init_78 : decode b_Mo_init 78 = .ok (.bipush 7, 2) := by decide +kernel
theorem d_Mo_init_80 : decode b_Mo_init 80 = .ok (.bipush 10, 2) := by decide +kernel
theorem d_Mo_init_82 : decode b_Mo_init 82 = .ok (.iastore, 1) := by decide +kernel
theorem d_Mo_init_83 : decode b_Mo_init 83 = .ok (.dup, 1) := by decide +kernel
theorem d_Mo_init_84 : decode b_Mo_init 84 = .ok (.bipush 8, 2) := by decide +kernel
theorem d_Mo_init_86 : decode b_Mo_init 86 = .ok (.bipush 10, 2) := by decide +kernel
theorem d_Mo_init_88 : decode b_Mo_init 88 = .ok (.iastore, 1) := by decide +kernel
theorem d_Mo_init_89 : decode b_Mo_init 89 = .ok (.dup, 1) := by decide +kernel
theorem d_Mo_init_90 : decode b_Mo_init 90 = .ok (.bipush 9, 2) := by decide +kernel
theorem d_Mo_init_92 : decode b_Mo_init 92 = .ok (.bipush 10, 2) := by decide +kernel
theorem d_Mo_init_94 : decode b_Mo_init 94 = .ok (.iastore, 1) := by decide +kernel
theorem d_Mo_init_95 : decode b_Mo_init 95 = .ok (.dup, 1) := by decide +kernel
theorem d_Mo_init_96 : decode b_Mo_init 96 = .ok (.bipush 10, 2) := by decide +kernel
theorem d_Mo_init_98 : decode b_Mo_init 98 = .ok (.bipush 10, 2) := by decide +kernel
theorem d_Mo_init_100 : decode b_Mo_init 100 = .ok (.iastore, 1) := by decide +kernel
theorem d_Mo_init_101 : decode b_Mo_init 101 = .ok (.dup, 1) := by decide +kernel
theorem d_Mo_init_102 : decode b_Mo_init 102 = .ok (.bipush 11, 2) := by decide +kernel
theorem d_Mo_init_104 : decode b_Mo_init 104 = .ok (.bipush 10, 2) := by decide +kernel
theorem d_Mo_init_106 : decode b_Mo_init 106 = .ok (.iastore, 1) := by decide +kernel
theorem d_Mo_init_107 : decode b_Mo_init 107 = .ok (.dup, 1) := by decide +kernel
theorem d_Mo_init_108 : decode b_Mo_init 108 = .ok (.bipush 12, 2) := by decide +kernel
theorem d_Mo_init_110 : decode b_Mo_init 110 = .ok (.bipush 10, 2) := by decide +kernel
theorem d_Mo_init_112 : decode b_Mo_init 112 = .ok (.iastore, 1) := by decide +kernel
theorem d_Mo_init_113 : decode b_Mo_init 113 = .ok (.dup, 1) := by decide +kernel
theorem d_Mo_init_114 : decode b_Mo_init 114 = .ok (.bipush 13, 2) := by decide +kernel
theorem d_Mo_init_116 : decode b_Mo_init 116 = .ok (.bipush 10, 2) := by decide +kernel
theorem d_Mo_init_118 : decode b_Mo_init 118 = .ok (.iastore, 1) := by decide +kernel
theorem d_Mo_init_119 : decode b_Mo_init 119 = .ok (.dup, 1) := by decide +kernel
theorem d_Mo_init_120 : decode b_Mo_init 120 = .ok (.bipush 14, 2) := by decide +kernel
theorem d_Mo_init_122 : decode b_Mo_init 122 = .ok (.bipush 10, 2) := by decide +kernel
theorem d_Mo_init_124 : decode b_Mo_init 124 = .ok (.iastore, 1) := by decide +kernel
theorem d_Mo_init_125 : decode b_Mo_init 125 = .ok (.dup, 1) := by decide +kernel
theorem d_Mo_init_126 : decode b_Mo_init 126 = .ok (.bipush 15, 2) := by decide +kernel
theorem d_Mo_init_128 : decode b_Mo_init 128 = .ok (.bipush 10, 2) := by decide +kernel
theorem d_Mo_init_130 : decode b_Mo_init 130 = .ok (.iastore, 1) := by decide +kernel
theorem d_Mo_init_131 : decode b_Mo_init 131 = .ok (.dup, 1) := by decide +kernel
theorem d_Mo_init_132 : decode b_Mo_init 132 = .ok (.bipush 16, 2) := by decide +kernel
theorem d_Mo_init_134 : decode b_Mo_init 134 = .ok (.bipush 10, 2) := by decide +kernel
theorem d_Mo_init_136 : decode b_Mo_init 136 = .ok (.iastore, 1) := by decide +kernel
theorem d_Mo_init_137 : decode b_Mo_init 137 = .ok (.dup, 1) := by decide +kernel
theorem d_Mo_init_138 : decode b_Mo_init 138 = .ok (.bipush 17, 2) := by decide +kernel
theorem d_Mo_init_140 : decode b_Mo_init 140 = .ok (.bipush 10, 2) := by decide +kernel
theorem d_Mo_init_142 : decode b_Mo_init 142 = .ok (.iastore, 1) := by decide +kernel
theorem d_Mo_init_143 : decode b_Mo_init 143 = .ok (.dup, 1) := by decide +kernel
theorem d_Mo_init_144 : decode b_Mo_init 144 = .ok (.bipush 18, 2) := by decide +kernel
theorem d_Mo_init_146 : decode b_Mo_init 146 = .ok (.bipush 10, 2) := by decide +kernel
theorem d_Mo_init_148 : decode b_Mo_init 148 = .ok (.iastore, 1) := by decide +kernel
theorem d_Mo_init_149 : decode b_Mo_init 149 = .ok (.dup, 1) := by decide +kernel
theorem d_Mo_init_150 : decode b_Mo_init 150 = .ok (.bipush 19, 2) := by decide +kernel
theorem d_Mo_init_152 : decode b_Mo_init 152 = .ok (.bipush 10, 2) := by decide +kernel
theorem d_Mo_init_154 : decode b_Mo_init 154 = .ok (.iastore, 1) := by decide +kernel
theorem d_Mo_init_155 : decode b_Mo_init 155 = .ok (.putfield 13, 3) := by decide +kernel
theorem d_Mo_init_158 : decode b_Mo_init 158 = .ok (.aload_n 0, 1) := by decide +kernel
theorem d_Mo_init_159 : decode b_Mo_init 159 = .ok (.bipush 20, 2) := by decide +kernel
theorem d_Mo_init_161 : decode b_Mo_init 161 = .ok (.newarray .int, 2) := by decide +kernel
theorem d_Mo_init_163 : decode b_Mo_init 163 = .ok (.dup, 1) := by decide +kernel
theorem d_Mo_init_164 : decode b_Mo_init 164 = .ok (.iconst 0, 1) := by decide +kernel
theorem d_Mo_init_165 : decode b_Mo_init 165 = .ok (.iconst 3, 1) := by decide +kernel
theorem d_Mo_init_166 : decode b_Mo_init 166 = .ok (.iastore, 1) := by decide +kernel
theorem d_Mo_init_167 : decode b_Mo_init 167 = .ok (.dup, 1) := by decide +kernel
theorem d_Mo_init_168 : decode b_Mo_init 168 = .ok (.iconst 1, 1) := by decide +kernel
theorem d_Mo_init_169 : decode b_Mo_init 169 = .ok (.iconst 3, 1) := by decide +kernel
theorem d_Mo_init_170 : decode b_Mo_init 170 = .ok (.iastore, 1) := by decide +kernel
theorem d_Mo_init_171 : decode b_Mo_init 171 = .ok (.dup, 1) := by decide +kernel
theorem d_Mo_init_172 : decode b_Mo_init 172 = .ok (.iconst 2, 1) := by decide +kernel
theorem d_Mo_init_173 : decode b_Mo_init 173 = .ok (.iconst 3, 1) := by decide +kernel
theorem d_Mo_init_174 : decode b_Mo_init 174 = .ok (.iastore, 1) := by decide +kernel
theorem d_Mo_init_175 : decode b_Mo_init 175 = .ok (.dup, 1) := by decide +kernel
theorem d_Mo_init_176 : decode b_Mo_init 176 = .ok (.iconst 3, 1) := by decide +kernel
theorem d_Mo_init_177 : decode b_Mo_init 177 = .ok (.iconst 3, 1) := by decide +kernel
theorem d_Mo_init_178 : decode b_Mo_init 178 = .ok (.iastore, 1) := by decide +kernel
theorem d_Mo_init_179 : decode b_Mo_init 179 = .ok (.dup, 1) := by decide +kernel
theorem d_Mo_init_180 : decode b_Mo_init 180 = .ok (.iconst 4, 1) := by decide +kernel
theorem d_Mo_init_181 : decode b_Mo_init 181 = .ok (.iconst 3, 1) := by decide +kernel
theorem d_Mo_init_182 : decode b_Mo_init 182 = .ok (.iastore, 1) := by decide +kernel
theorem d_Mo_init_183 : decode b_Mo_init 183 = .ok (.dup, 1) := by decide +kernel
theorem d_Mo_init_184 : decode b_Mo_init 184 = .ok (.iconst 5, 1) := by decide +kernel
theorem d_Mo_init_185 : decode b_Mo_init 185 = .ok (.iconst 3, 1) := by decide +kernel
theorem d_Mo_init_186 : decode b_Mo_init 186 = .ok (.iastore, 1) := by decide +kernel
theorem d_Mo_init_187 : decode b_Mo_init 187 = .ok (.dup, 1) := by decide +kernel
theorem d_Mo_init_188 : decode b_Mo_init 188 = .ok (.bipush 6, 2) := by decide +kernel
theorem d_Mo_init_190 : decode b_Mo_init 190 = .ok (.iconst 3, 1) := by decide +kernel
theorem d_Mo_init_191 : decode b_Mo_init 191 = .ok (.iastore, 1) := by decide +kernel
theorem d_Mo_init_192 : decode b_Mo_init 192 = .ok (.dup, 1) := by decide +kernel
theorem d_Mo_init_193 : decode b_Mo_init 193 = .ok (.bipush 7, 2) := by decide +kernel
theorem d_Mo_init_195 : decode b_Mo_init 195 = .ok (.iconst 3, 1) := by decide +kernel
theorem d_Mo_init_196 : decode b_Mo_init 196 = .ok (.iastore, 1) := by decide +kernel
theorem d_Mo_init_197 : decode b_Mo_init 197 = .ok (.dup, 1) := by decide +kernel
theorem d_Mo_init_198 : decode b_Mo_init 198 = .ok (.bipush 8, 2) := by decide +kernel
theorem d_Mo_init_200 : decode b_Mo_init 200 = .ok (.iconst 3, 1) := by decide +kernel
theorem d_Mo_init_201 : decode b_Mo_init 201 = .ok (.iastore, 1) := by decide +kernel
theorem d_Mo_init_202 : decode b_Mo_init 202 = .ok (.dup, 1) := by decide +kernel
theorem d_Mo_init_203 : decode b_Mo_init 203 = .ok (.bipush 9, 2) := by decide +kernel
theorem d_Mo_init_205 : decode b_Mo_init 205 = .ok (.iconst 3, 1) := by decide +kernel
theorem d_Mo_init_206 : decode b_Mo_init 206 = .ok (.iastore, 1) := by decide +kernel
theorem d_Mo_init_207 : decode b_Mo_init 207 = .ok (.dup, 1) := by decide +kernel
theorem d_Mo_init_208 : decode b_Mo_init 208 = .ok (.bipush 10, 2) := by decide +kernel
theorem d_Mo_init_210 : decode b_Mo_init 210 = .ok (.iconst 3, 1) := by decide +kernel
theorem d_Mo_init_211 : decode b_Mo_init 211 = .ok (.iastore, 1) := by decide +kernel
theorem d_Mo_init_212 : decode b_Mo_init 212 = .ok (.dup, 1) := by decide +kernel
theorem d_Mo_init_213 : decode b_Mo_init 213 = .ok (.bipush 11, 2) := by decide +kernel
theorem d_Mo_init_215 : decode b_Mo_init 215 = .ok (.iconst 3, 1) := by decide +kernel
theorem d_Mo_init_216 : decode b_Mo_init 216 = .ok (.iastore, 1) := by decide +kernel
theorem d_Mo_init_217 : decode b_Mo_init 217 = .ok (.dup, 1) := by decide +kernel
theorem d_Mo_init_218 : decode b_Mo_init 218 = .ok (.bipush 12, 2) := by decide +kernel
theorem d_Mo_init_220 : decode b_Mo_init 220 = .ok (.iconst 3, 1) := by decide +kernel
theorem d_Mo_init_221 : decode b_Mo_init 221 = .ok (.iastore, 1) := by decide +kernel
theorem d_Mo_init_222 : decode b_Mo_init 222 = .ok (.dup, 1) := by decide +kernel
theorem d_Mo_init_223 : decode b_Mo_init 223 = .ok (.bipush 13, 2) := by decide +kernel
theorem d_Mo_init_225 : decode b_Mo_init 225 = .ok (.iconst 3, 1) := by decide +kernel
theorem d_Mo_init_226 : decode b_Mo_init 226 = .ok (.iastore, 1) := by decide +kernel
theorem d_Mo_init_227 : decode b_Mo_init 227 = .ok (.dup, 1) := by decide +kernel
theorem d_Mo_init_228 : decode b_Mo_init 228 = .ok (.bipush 14, 2) := by decide +kernel
theorem d_Mo_init_230 : decode b_Mo_init 230 = .ok (.iconst 3, 1) := by decide +kernel
theorem d_Mo_init_231 : decode b_Mo_init 231 = .ok (.iastore, 1) := by decide +kernel
theorem d_Mo_init_232 : decode b_Mo_init 232 = .ok (.dup, 1) := by decide +kernel
theorem d_Mo_init_233 : decode b_Mo_init 233 = .ok (.bipush 15, 2) := by decide +kernel
theorem d_Mo_init_235 : decode b_Mo_init 235 = .ok (.iconst 3, 1) := by decide +kernel
theorem d_Mo_init_236 : decode b_Mo_init 236 = .ok (.iastore, 1) := by decide +kernel
theorem d_Mo_init_237 : decode b_Mo_init 237 = .ok (.dup, 1) := by decide +kernel
theorem d_Mo_init_238 : decode b_Mo_init 238 = .ok (.bipush 16, 2) := by decide +kernel
theorem d_Mo_init_240 : decode b_Mo_init 240 = .ok (.iconst 3, 1) := by decide +kernel
theorem d_Mo_init_241 : decode b_Mo_init 241 = .ok (.iastore, 1) := by decide +kernel
theorem d_Mo_init_242 : decode b_Mo_init 242 = .ok (.dup, 1) := by decide +kernel
theorem d_Mo_init_243 : decode b_Mo_init 243 = .ok (.bipush 17, 2) := by decide +kernel
theorem d_Mo_init_245 : decode b_Mo_init 245 = .ok (.iconst 3, 1) := by decide +kernel
theorem d_Mo_init_246 : decode b_Mo_init 246 = .ok (.iastore, 1) := by decide +kernel
theorem d_Mo_init_247 : decode b_Mo_init 247 = .ok (.dup, 1) := by decide +kernel
theorem d_Mo_init_248 : decode b_Mo_init 248 = .ok (.bipush 18, 2) := by decide +kernel
theorem d_Mo_init_250 : decode b_Mo_init 250 = .ok (.iconst 3, 1) := by decide +kernel
theorem d_Mo_init_251 : decode b_Mo_init 251 = .ok (.iastore, 1) := by decide +kernel
theorem d_Mo_init_252 : decode b_Mo_init 252 = .ok (.dup, 1) := by decide +kernel
theorem d_Mo_init_253 : decode b_Mo_init 253 = .ok (.bipush 19, 2) := by decide +kernel
theorem d_Mo_init_255 : decode b_Mo_init 255 = .ok (.iconst 3, 1) := by decide +kernel
theorem d_Mo_init_256 : decode b_Mo_init 256 = .ok (.iastore, 1) := by decide +kernel
theorem d_Mo_init_257 : decode b_Mo_init 257 = .ok (.putfield 16, 3) := by decide +kernel
theorem d_Mo_init_260 : decode b_Mo_init 260 = .ok (.aload_n 0, 1) := by decide +kernel
theorem d_Mo_init_261 : decode b_Mo_init 261 = .ok (.bipush 20, 2) := by decide +kernel
theorem d_Mo_init_263 : decode b_Mo_init 263 = .ok (.newarray .int, 2) := by decide +kernel
theorem d_Mo_init_265 : decode b_Mo_init 265 = .ok (.putfield 19, 3) := by decide +kernel
theorem d_Mo_init_268 : decode b_Mo_init 268 = .ok (.aload_n 0, 1) := by decide +kernel
theorem d_Mo_init_269 : decode b_Mo_init 269 = .ok (.bipush 20, 2) := by decide +kernel
theorem d_Mo_init_271 : decode b_Mo_init 271 = .ok (.newarray .int, 2) := by decide +kernel
theorem d_Mo_init_273 : decode b_Mo_init 273 = .ok (.putfield 22, 3) := by decide +kernel
theorem d_Mo_init_276 : decode b_Mo_init 276 = .ok (.aload_n 0, 1) := by decide +kernel
theorem d_Mo_init_277 : decode b_Mo_init 277 = .ok (.bipush 20, 2) := by decide +kernel
theorem d_Mo_init_279 : decode b_Mo_init 279 = .ok (.newarray .int, 2) := by decide +kernel
theorem d_Mo_init_281 : decode b_Mo_init 281 = .ok (.putfield 25, 3) := by decide +kernel
theorem d_Mo_init_284 : decode b_Mo_init 284 = .ok (.aload_n 0, 1) := by decide +kernel
theorem d_Mo_init_285 : decode b_Mo_init 285 = .ok (.bipush 20, 2) := by decide +kernel
theorem d_Mo_init_287 : decode b_Mo_init 287 = .ok (.newarray .boolean, 2) := by decide +kernel
theorem d_Mo_init_289 : decode b_Mo_init 289 = .ok (.putfield 28, 3) := by decide +kernel
theorem d_Mo_init_292 : decode b_Mo_init 292 = .ok (.aload_n 0, 1) := by decide +kernel
theorem d_Mo_init_293 : decode b_Mo_init 293 = .ok (.bipush 20, 2) := by decide +kernel
theorem d_Mo_init_295 : decode b_Mo_init 295 = .ok (.newarray .boolean, 2) := by decide +kernel
theorem d_Mo_init_297 : decode b_Mo_init 297 = .ok (.putfield 32, 3) := by decide +kernel
theorem d_Mo_init_300 : decode b_Mo_init 300 = .ok (.aload_n 0, 1) := by decide +kernel
theorem d_Mo_init_301 : decode b_Mo_init 301 = .ok (.bipush 20, 2) := by decide +kernel
theorem d_Mo_init_303 : decode b_Mo_init 303 = .ok (.newarray .int, 2) := by decide +kernel
theorem d_Mo_init_305 : decode b_Mo_init 305 = .ok (.putfield 35, 3) := by decide +kernel
theorem d_Mo_init_308 : decode b_Mo_init 308 = .ok (.aload_n 0, 1) := by decide +kernel
theorem d_Mo_init_309 : decode b_Mo_init 309 = .ok (.bipush 20, 2) := by decide +kernel
theorem d_Mo_init_311 : decode b_Mo_init 311 = .ok (.newarray .long, 2) := by decide +kernel
theorem d_Mo_init_313 : decode b_Mo_init 313 = .ok (.putfield 38, 3) := by decide +kernel
theorem d_Mo_init_316 : decode b_Mo_init 316 = .ok (.aload_n 0, 1) := by decide +kernel
theorem d_Mo_init_317 : decode b_Mo_init 317 = .ok (.bipush 20, 2) := by decide +kernel
theorem d_Mo_init_319 : decode b_Mo_init 319 = .ok (.newarray .int, 2) := by decide +kernel
theorem d_Mo_init_321 : decode b_Mo_init 321 = .ok (.putfield 42, 3) := by decide +kernel
theorem d_Mo_init_324 : decode b_Mo_init 324 = .ok (.aload_n 0, 1) := by decide +kernel
theorem d_Mo_init_325 : decode b_Mo_init 325 = .ok (.bipush 20, 2) := by decide +kernel
theorem d_Mo_init_327 : decode b_Mo_init 327 = .ok (.newarray .int, 2) := by decide +kernel
theorem d_Mo_init_329 : decode b_Mo_init 329 = .ok (.putfield 45, 3) := by decide +kernel
theorem d_Mo_init_332 : decode b_Mo_init 332 = .ok (.aload_n 0, 1) := by decide +kernel
theorem d_Mo_init_333 : decode b_Mo_init 333 = .ok (.bipush 20, 2) := by decide +kernel
theorem d_Mo_init_335 : decode b_Mo_init 335 = .ok (.newarray .int, 2) := by decide +kernel
theorem d_Mo_init_337 : decode b_Mo_init 337 = .ok (.putfield 48, 3) := by decide +kernel
theorem d_Mo_init_340 : decode b_Mo_init 340 = .ok (.aload_n 0, 1) := by decide +kernel
theorem d_Mo_init_341 : decode b_Mo_init 341 = .ok (.sipush 260, 3) := by decide +kernel
theorem d_Mo_init_344 : decode b_Mo_init 344 = .ok (.newarray .int, 2) := by decide +kernel
theorem d_Mo_init_346 : decode b_Mo_init 346 = .ok (.putfield 51, 3) := by decide +kernel
theorem d_Mo_init_349 : decode b_Mo_init 349 = .ok (.aload_n 0, 1) := by decide +kernel
theorem d_Mo_init_350 : decode b_Mo_init 350 = .ok (.sipush 260, 3) := by decide +kernel
theorem d_Mo_init_353 : decode b_Mo_init 353 = .ok (.newarray .long, 2) := by decide +kernel
theorem d_Mo_init_355 : decode b_Mo_init 355 = .ok (.putfield 54, 3) := by decide +kernel
theorem d_Mo_init_358 : decode b_Mo_init 358 = .ok (.aload_n 0, 1) := by decide +kernel
theorem d_Mo_init_359 : decode b_Mo_init 359 = .ok (.sipush 260, 3) := by decide +kernel
theorem d_Mo_init_362 : decode b_Mo_init 362 = .ok (.newarray .int, 2) := by decide +kernel
theorem d_Mo_init_364 : decode b_Mo_init 364 = .ok (.putfield 57, 3) := by decide +kernel
theorem d_Mo_init_367 : decode b_Mo_init 367 = .ok (.aload_n 0, 1) := by decide +kernel
theorem d_Mo_init_368 : decode b_Mo_init 368 = .ok (.sipush 260, 3) := by decide +kernel
theorem d_Mo_init_371 : decode b_Mo_init 371 = .ok (.newarray .boolean, 2) := by decide +kernel
theorem d_Mo_init_373 : decode b_Mo_init 373 = .ok (.putfield 60, 3) := by decide +kernel
theorem d_Mo_init_376 : decode b_Mo_init 376 = .ok (.aload_n 0, 1) := by decide +kernel
theorem d_Mo_init_377 : decode b_Mo_init 377 = .ok (.sipush 260, 3) := by decide +kernel
theorem d_Mo_init_380 : decode b_Mo_init 380 = .ok (.newarray .int, 2) := by decide +kernel
theorem d_Mo_init_382 : decode b_Mo_init 382 = .ok (.putfield 63, 3) := by decide +kernel
theorem d_Mo_init_385 : decode b_Mo_init 385 = .ok (.aload_n 0, 1) := by decide +kernel
theorem d_Mo_init_386 : decode b_Mo_init 386 = .ok (.sipush 260, 3) := by decide +kernel
theorem d_Mo_init_389 : decode b_Mo_init 389 = .ok (.newarray .int, 2) := by decide +kernel
theorem d_Mo_init_391 : decode b_Mo_init 391 = .ok (.putfield 66, 3) := by decide +kernel
theorem d_Mo_init_394 : decode b_Mo_init 394 = .ok (.aload_n 0, 1) := by decide +kernel
theorem d_Mo_init_395 : decode b_Mo_init 395 = .ok (.sipush 260, 3) := by decide +kernel
theorem d_Mo_init_398 : decode b_Mo_init 398 = .ok (.newarray .int, 2) := by decide +kernel
theorem d_Mo_init_400 : decode b_Mo_init 400 = .ok (.putfield 69, 3) := by decide +kernel
theorem d_Mo_init_403 : decode b_Mo_init 403 = .ok (.aload_n 0, 1) := by decide +kernel
theorem d_Mo_init_404 : decode b_Mo_init 404 = .ok (.sipush 260, 3) := by decide +kernel
theorem d_Mo_init_407 : decode b_Mo_init 407 = .ok (.newarray .int, 2) := by decide +kernel
theorem d_Mo_init_409 : decode b_Mo_init 409 = .ok (.putfield 72, 3) := by decide +kernel
theorem d_Mo_init_412 : decode b_Mo_init 412 = .ok (.aload_n 0, 1) := by decide +kernel
theorem d_Mo_init_413 : decode b_Mo_init 413 = .ok (.iconst 5, 1) := by decide +kernel
theorem d_Mo_init_414 : decode b_Mo_init 414 = .ok (.newarray .long, 2) := by decide +kernel
theorem d_Mo_init_416 : decode b_Mo_init 416 = .ok (.putfield 75, 3) := by decide +kernel
theorem d_Mo_init_419 : decode b_Mo_init 419 = .ok (.aload_n 0, 1) := by decide +kernel
theorem d_Mo_init_420 : decode b_Mo_init 420 = .ok (.iconst 5, 1) := by decide +kernel
theorem d_Mo_init_421 : decode b_Mo_init 421 = .ok (.newarray .int, 2) := by decide +kernel
theorem d_Mo_init_423 : decode b_Mo_init 423 = .ok (.putfield 78, 3) := by decide +kernel
theorem d_Mo_init_426 : decode b_Mo_init 426 = .ok (.aload_n 0, 1) := by decide +kernel
theorem d_Mo_init_427 : decode b_Mo_init 427 = .ok (.iconst 5, 1) := by decide +kernel
theorem d_Mo_init_428 : decode b_Mo_init 428 = .ok (.newarray .int, 2) := by decide +kernel
theorem d_Mo_init_430 : decode b_Mo_init 430 = .ok (.dup, 1) := by decide +kernel
theorem d_Mo_init_431 : decode b_Mo_init 431 = .ok (.iconst 0, 1) := by decide +kernel
theorem d_Mo_init_432 : decode b_Mo_init 432 = .ok (.iconst (-1), 1) := by decide +kernel
theorem d_Mo_init_433 : decode b_Mo_init 433 = .ok (.iastore, 1) := by decide +kernel
theorem d_Mo_init_434 : decode b_Mo_init 434 = .ok (.dup, 1) := by decide +kernel
theorem d_Mo_init_435 : decode b_Mo_init 435 = .ok (.iconst 1, 1) := by decide +kernel
theorem d_Mo_init_436 : decode b_Mo_init 436 = .ok (.iconst (-1), 1) := by decide +kernel
theorem d_Mo_init_437 : decode b_Mo_init 437 = .ok (.iastore, 1) := by decide +kernel
theorem d_Mo_init_438 : decode b_Mo_init 438 = .ok (.dup, 1) := by decide +kernel
theorem d_Mo_init_439 : decode b_Mo_init 439 = .ok (.iconst 2, 1) := by decide +kernel
theorem d_Mo_init_440 : decode b_Mo_init 440 = .ok (.iconst (-1), 1) := by decide +kernel
theorem d_Mo_init_441 : decode b_Mo_init 441 = .ok (.iastore, 1) := by decide +kernel
theorem d_Mo_init_442 : decode b_Mo_init 442 = .ok (.dup, 1) := by decide +kernel
theorem d_Mo_init_443 : decode b_Mo_init 443 = .ok (.iconst 3, 1) := by decide +kernel
theorem d_Mo_init_444 : decode b_Mo_init 444 = .ok (.iconst (-1), 1) := by decide +kernel
theorem d_Mo_init_445 : decode b_Mo_init 445 = .ok (.iastore, 1) := by decide +kernel
theorem d_Mo_init_446 : decode b_Mo_init 446 = .ok (.dup, 1) := by decide +kernel
theorem d_Mo_init_447 : decode b_Mo_init 447 = .ok (.iconst 4, 1) := by decide +kernel
theorem d_Mo_init_448 : decode b_Mo_init 448 = .ok (.iconst (-1), 1) := by decide +kernel
theorem d_Mo_init_449 : decode b_Mo_init 449 = .ok (.iastore, 1) := by decide +kernel
theorem d_Mo_init_450 : decode b_Mo_init 450 = .ok (.putfield 81, 3) := by decide +kernel
theorem d_Mo_init_453 : decode b_Mo_init 453 = .ok (.aload_n 0, 1) := by decide +kernel
theorem d_Mo_init_454 : decode b_Mo_init 454 = .ok (.bipush 80, 2) := by decide +kernel
theorem d_Mo_init_456 : decode b_Mo_init 456 = .ok (.newarray .int, 2) := by decide +kernel
theorem d_Mo_init_458 : decode b_Mo_init 458 = .ok (.putfield 84, 3) := by decide +kernel
theorem d_Mo_init_461 : decode b_Mo_init 461 = .ok (.aload_n 0, 1) := by decide +kernel
theorem d_Mo_init_462 : decode b_Mo_init 462 = .ok (.bipush 80, 2) := by decide +kernel
theorem d_Mo_init_464 : decode b_Mo_init 464 = .ok (.newarray .int, 2) := by decide +kernel
theorem d_Mo_init_466 : decode b_Mo_init 466 = .ok (.putfield 87, 3) := by decide +kernel
theorem d_Mo_init_469 : decode b_Mo_init 469 = .ok (.aload_n 0, 1) := by decide +kernel
theorem d_Mo_init_470 : decode b_Mo_init 470 = .ok (.bipush 8, 2) := by decide +kernel
theorem d_Mo_init_472 : decode b_Mo_init 472 = .ok (.newarray .int, 2) := by decide +kernel
theorem d_Mo_init_474 : decode b_Mo_init 474 = .ok (.dup, 1) := by decide +kernel
theorem d_Mo_init_475 : decode b_Mo_init 475 = .ok (.iconst 0, 1) := by decide +kernel
theorem d_Mo_init_476 : decode b_Mo_init 476 = .ok (.iconst (-1), 1) := by decide +kernel
theorem d_Mo_init_477 : decode b_Mo_init 477 = .ok (.iastore, 1) := by decide +kernel
theorem d_Mo_init_478 : decode b_Mo_init 478 = .ok (.dup, 1) := by decide +kernel
theorem d_Mo_init_479 : decode b_Mo_init 479 = .ok (.iconst 1, 1) := by decide +kernel
theorem d_Mo_init_480 : decode b_Mo_init 480 = .ok (.iconst (-1), 1) := by decide +kernel
theorem d_Mo_init_481 : decode b_Mo_init 481 = .ok (.iastore, 1) := by decide +kernel
theorem d_Mo_init_482 : decode b_Mo_init 482 = .ok (.dup, 1) := by decide +kernel
theorem d_Mo_init_483 : decode b_Mo_init 483 = .ok (.iconst 2, 1) := by decide +kernel
theorem d_Mo_init_484 : decode b_Mo_init 484 = .ok (.iconst (-1), 1) := by decide +kernel
theorem d_Mo_init_485 : decode b_Mo_init 485 = .ok (.iastore, 1) := by decide +kernel
theorem d_Mo_init_486 : decode b_Mo_init 486 = .ok (.dup, 1) := by decide +kernel
theorem d_Mo_init_487 : decode b_Mo_init 487 = .ok (.iconst 3, 1) := by decide +kernel
theorem d_Mo_init_488 : decode b_Mo_init 488 = .ok (.iconst (-1), 1) := by decide +kernel
theorem d_Mo_init_489 : decode b_Mo_init 489 = .ok (.iastore, 1) := by decide +kernel
theorem d_Mo_init_490 : decode b_Mo_init 490 = .ok (.dup, 1) := by decide +kernel
theorem d_Mo_init_491 : decode b_Mo_init 491 = .ok (.iconst 4, 1) := by decide +kernel
theorem d_Mo_init_492 : decode b_Mo_init 492 = .ok (.iconst (-1), 1) := by decide +kernel
theorem d_Mo_init_493 : decode b_Mo_init 493 = .ok (.iastore, 1) := by decide +kernel
theorem d_Mo_init_494 : decode b_Mo_init 494 = .ok (.dup, 1) := by decide +kernel
theorem d_Mo_init_495 : decode b_Mo_init 495 = .ok (.iconst 5, 1) := by decide +kernel
theorem d_Mo_init_496 : decode b_Mo_init 496 = .ok (.iconst (-1), 1) := by decide +kernel
theorem d_Mo_init_497 : decode b_Mo_init 497 = .ok (.iastore, 1) := by decide +kernel
theorem d_Mo_init_498 : decode b_Mo_init 498 = .ok (.dup, 1) := by decide +kernel
theorem d_Mo_init_499 : decode b_Mo_init 499 = .ok (.bipush 6, 2) := by decide +kernel
theorem d_Mo_init_501 : decode b_Mo_init 501 = .ok (.iconst (-1), 1) := by decide +kernel
theorem d_Mo_init_502 : decode b_Mo_init 502 = .ok (.iastore, 1) := by decide +kernel
theorem d_Mo_init_503 : decode b_Mo_init 503 = .ok (.dup, 1) := by decide +kernel
theorem d_Mo_init_504 : decode b_Mo_init 504 = .ok (.bipush 7, 2) := by decide +kernel
theorem d_Mo_init_506 : decode b_Mo_init 506 = .ok (.iconst (-1), 1) := by decide +kernel
theorem d_Mo_init_507 : decode b_Mo_init 507 = .ok (.iastore, 1) := by decide +kernel
theorem d_Mo_init_508 : decode b_Mo_init 508 = .ok (.putfield 90, 3) := by decide +kernel
theorem d_Mo_init_511 : decode b_Mo_init 511 = .ok (.aload_n 0, 1) := by decide +kernel
theorem d_Mo_init_512 : decode b_Mo_init 512 = .ok (.bipush 8, 2) := by decide +kernel
theorem d_Mo_init_514 : decode b_Mo_init 514 = .ok (.newarray .int, 2) := by decide +kernel
theorem d_Mo_init_516 : decode b_Mo_init 516 = .ok (.putfield 93, 3) := by decide +kernel
theorem d_Mo_init_519 : decode b_Mo_init 519 = .ok (.aload_n 0, 1) := by decide +kernel
theorem d_Mo_init_520 : decode b_Mo_init 520 = .ok (.bipush 8, 2) := by decide +kernel
theorem d_Mo_init_522 : decode b_Mo_init 522 = .ok (.newarray .int, 2) := by decide +kernel
theorem d_Mo_init_524 : decode b_Mo_init 524 = .ok (.putfield 96, 3) := by decide +kernel
theorem d_Mo_init_527 : decode b_Mo_init 527 = .ok (.aload_n 0, 1) := by decide +kernel
theorem d_Mo_init_528 : decode b_Mo_init 528 = .ok (.sipush 320, 3) := by decide +kernel
theorem d_Mo_init_531 : decode b_Mo_init 531 = .ok (.newarray .long, 2) := by decide +kernel
theorem d_Mo_init_533 : decode b_Mo_init 533 = .ok (.putfield 99, 3) := by decide +kernel
theorem d_Mo_init_536 : decode b_Mo_init 536 = .ok (.iconst 0, 1) := by decide +kernel
theorem d_Mo_init_537 : decode b_Mo_init 537 = .ok (.istore_n 1, 1) := by decide +kernel
theorem d_Mo_init_538 : decode b_Mo_init 538 = .ok (.iload_n 1, 1) := by decide +kernel
theorem d_Mo_init_539 : decode b_Mo_init 539 = .ok (.iconst 5, 1) := by decide +kernel
theorem d_Mo_init_540 : decode b_Mo_init 540 = .ok (.if_icmp .ge 32, 3) := by decide +kernel
theorem d_Mo_init_543 : decode b_Mo_init 543 = .ok (.aload_n 0, 1) := by decide +kernel
theorem d_Mo_init_544 : decode b_Mo_init 544 = .ok (.getfield 75, 3) := by decide +kernel
theorem d_Mo_init_547 : decode b_Mo_init 547 = .ok (.iload_n 1, 1) := by decide +kernel
theorem d_Mo_init_548 : decode b_Mo_init 548 = .ok (.ldc2_w 102, 3) := by decide +kernel
theorem d_Mo_init_551 : decode b_Mo_init 551 = .ok (.iload_n 1, 1) := by decide +kernel
theorem d_Mo_init_552 : decode b_Mo_init 552 = .ok (.i2l, 1) := by decide +kernel
theorem d_Mo_init_553 : decode b_Mo_init 553 = .ok (.ladd, 1) := by decide +kernel
theorem d_Mo_init_554 : decode b_Mo_init 554 = .ok (.lconst 0, 1) := by decide +kernel
theorem d_Mo_init_555 : decode b_Mo_init 555 = .ok (.ldc2_w 102, 3) := by decide +kernel
theorem d_Mo_init_558 : decode b_Mo_init 558 = .ok (.iload_n 1, 1) := by decide +kernel
theorem d_Mo_init_559 : decode b_Mo_init 559 = .ok (.i2l, 1) := by decide +kernel
theorem d_Mo_init_560 : decode b_Mo_init 560 = .ok (.ladd, 1) := by decide +kernel
theorem d_Mo_init_561 : decode b_Mo_init 561 = .ok (.lconst 0, 1) := by decide +kernel
theorem d_Mo_init_562 : decode b_Mo_init 562 = .ok (.invokestatic 104, 3) := by decide +kernel
theorem d_Mo_init_565 : decode b_Mo_init 565 = .ok (.lastore, 1) := by decide +kernel
theorem d_Mo_init_566 : decode b_Mo_init 566 = .ok (.iinc 1 1, 3) := by decide +kernel
theorem d_Mo_init_569 : decode b_Mo_init 569 = .ok (.goto (-31), 3) := by decide +kernel
theorem d_Mo_init_572 : decode b_Mo_init 572 = .ok (.return_, 1) := by decide +kernel
