/-! BLOCKS, printed by wip/whole/gen11.py -/
-- X12_init
theorem r120_0 : j_at 120 0 = some (0, .aload_n 0, 1, []) := by decide +kernel
theorem r120_1 : j_at 120 1 = some (1, .invokespecial 1, 3, [5, 1, 703, 97, 98]) := by decide +kernel
theorem r120_4 : j_at 120 4 = some (4, .aload_n 0, 1, []) := by decide +kernel
theorem r120_5 : j_at 120 5 = some (5, .iconst 0, 1, []) := by decide +kernel
theorem r120_6 : j_at 120 6 = some (6, .putfield 7, 3, [704, 12, 0, 0, 0, 0, 12]) := by decide +kernel
theorem r120_9 : j_at 120 9 = some (9, .aload_n 0, 1, []) := by decide +kernel
theorem r120_10 : j_at 120 10 = some (10, .iconst 0, 1, []) := by decide +kernel
theorem r120_11 : j_at 120 11 = some (11, .putfield 13, 3, [705, 12, 0, 1, 0, 0, 12]) := by decide +kernel
theorem r120_14 : j_at 120 14 = some (14, .aload_n 0, 1, []) := by decide +kernel
theorem r120_15 : j_at 120 15 = some (15, .iconst 0, 1, []) := by decide +kernel
theorem r120_16 : j_at 120 16 = some (16, .putfield 16, 3, [706, 12, 0, 2, 0, 0, 12]) := by decide +kernel
theorem r120_19 : j_at 120 19 = some (19, .aload_n 0, 1, []) := by decide +kernel
theorem r120_20 : j_at 120 20 = some (20, .iconst 0, 1, []) := by decide +kernel
theorem r120_21 : j_at 120 21 = some (21, .putfield 19, 3, [707, 12, 0, 3, 0, 0, 12]) := by decide +kernel
theorem r120_24 : j_at 120 24 = some (24, .aload_n 0, 1, []) := by decide +kernel
theorem r120_25 : j_at 120 25 = some (25, .bipush 7, 2, []) := by decide +kernel
theorem r120_27 : j_at 120 27 = some (27, .newarray .int, 2, [136, 0]) := by decide +kernel
theorem r120_29 : j_at 120 29 = some (29, .putfield 22, 3, [708, 12, 2, 4, 0, 1, 12]) := by decide +kernel
theorem r120_32 : j_at 120 32 = some (32, .aload_n 0, 1, []) := by decide +kernel
theorem r120_33 : j_at 120 33 = some (33, .bipush 7, 2, []) := by decide +kernel
theorem r120_35 : j_at 120 35 = some (35, .newarray .int, 2, [136, 0]) := by decide +kernel
theorem r120_37 : j_at 120 37 = some (37, .putfield 26, 3, [709, 12, 2, 5, 0, 1, 12]) := by decide +kernel
theorem r120_40 : j_at 120 40 = some (40, .aload_n 0, 1, []) := by decide +kernel
theorem r120_41 : j_at 120 41 = some (41, .bipush 7, 2, []) := by decide +kernel
theorem r120_43 : j_at 120 43 = some (43, .newarray .int, 2, [136, 0]) := by decide +kernel
theorem r120_45 : j_at 120 45 = some (45, .putfield 29, 3, [710, 12, 2, 6, 0, 1, 12]) := by decide +kernel
theorem r120_48 : j_at 120 48 = some (48, .aload_n 0, 1, []) := by decide +kernel
theorem r120_49 : j_at 120 49 = some (49, .bipush 56, 2, []) := by decide +kernel
theorem r120_51 : j_at 120 51 = some (51, .newarray .int, 2, [136, 0]) := by decide +kernel
theorem r120_53 : j_at 120 53 = some (53, .putfield 32, 3, [711, 12, 2, 7, 0, 1, 12]) := by decide +kernel
theorem r120_56 : j_at 120 56 = some (56, .aload_n 0, 1, []) := by decide +kernel
theorem r120_57 : j_at 120 57 = some (57, .iconst 0, 1, []) := by decide +kernel
theorem r120_58 : j_at 120 58 = some (58, .putfield 35, 3, [712, 12, 0, 8, 0, 0, 12]) := by decide +kernel
theorem r120_61 : j_at 120 61 = some (61, .aload_n 0, 1, []) := by decide +kernel
theorem r120_62 : j_at 120 62 = some (62, .iconst (-1), 1, []) := by decide +kernel
theorem r120_63 : j_at 120 63 = some (63, .putfield 38, 3, [713, 12, 0, 9, 0, 0, 12]) := by decide +kernel
theorem r120_66 : j_at 120 66 = some (66, .aload_n 0, 1, []) := by decide +kernel
theorem r120_67 : j_at 120 67 = some (67, .iconst 0, 1, []) := by decide +kernel
theorem r120_68 : j_at 120 68 = some (68, .putfield 41, 3, [714, 12, 0, 10, 0, 0, 12]) := by decide +kernel
theorem r120_71 : j_at 120 71 = some (71, .aload_n 0, 1, []) := by decide +kernel
theorem r120_72 : j_at 120 72 = some (72, .iconst 0, 1, []) := by decide +kernel
theorem r120_73 : j_at 120 73 = some (73, .putfield 44, 3, [715, 12, 0, 11, 0, 0, 12]) := by decide +kernel
theorem r120_76 : j_at 120 76 = some (76, .aload_n 0, 1, []) := by decide +kernel
theorem r120_77 : j_at 120 77 = some (77, .iconst 0, 1, []) := by decide +kernel
theorem r120_78 : j_at 120 78 = some (78, .putfield 47, 3, [716, 12, 0, 12, 0, 0, 12]) := by decide +kernel
theorem r120_81 : j_at 120 81 = some (81, .aload_n 0, 1, []) := by decide +kernel
theorem r120_82 : j_at 120 82 = some (82, .bipush 100, 2, []) := by decide +kernel
theorem r120_84 : j_at 120 84 = some (84, .newarray .int, 2, [136, 0]) := by decide +kernel
theorem r120_86 : j_at 120 86 = some (86, .putfield 50, 3, [717, 12, 2, 13, 0, 1, 12]) := by decide +kernel
theorem r120_89 : j_at 120 89 = some (89, .aload_n 0, 1, []) := by decide +kernel
theorem r120_90 : j_at 120 90 = some (90, .bipush 6, 2, []) := by decide +kernel
theorem r120_92 : j_at 120 92 = some (92, .newarray .int, 2, [136, 0]) := by decide +kernel
theorem r120_94 : j_at 120 94 = some (94, .putfield 53, 3, [718, 12, 2, 14, 0, 1, 12]) := by decide +kernel
theorem r120_97 : j_at 120 97 = some (97, .aload_n 0, 1, []) := by decide +kernel
theorem r120_98 : j_at 120 98 = some (98, .bipush 60, 2, []) := by decide +kernel
theorem r120_100 : j_at 120 100 = some (100, .newarray .int, 2, [136, 0]) := by decide +kernel
theorem r120_102 : j_at 120 102 = some (102, .putfield 56, 3, [719, 12, 2, 15, 0, 1, 12]) := by decide +kernel
theorem r120_105 : j_at 120 105 = some (105, .aload_n 0, 1, []) := by decide +kernel
theorem r120_106 : j_at 120 106 = some (106, .bipush 60, 2, []) := by decide +kernel
theorem r120_108 : j_at 120 108 = some (108, .newarray .int, 2, [136, 0]) := by decide +kernel
theorem r120_110 : j_at 120 110 = some (110, .putfield 59, 3, [720, 12, 2, 16, 0, 1, 12]) := by decide +kernel
theorem r120_113 : j_at 120 113 = some (113, .aload_n 0, 1, []) := by decide +kernel
theorem r120_114 : j_at 120 114 = some (114, .bipush 60, 2, []) := by decide +kernel
theorem r120_116 : j_at 120 116 = some (116, .newarray .int, 2, [136, 0]) := by decide +kernel
theorem r120_118 : j_at 120 118 = some (118, .putfield 62, 3, [721, 12, 2, 17, 0, 1, 12]) := by decide +kernel
theorem r120_121 : j_at 120 121 = some (121, .aload_n 0, 1, []) := by decide +kernel
theorem r120_122 : j_at 120 122 = some (122, .bipush 60, 2, []) := by decide +kernel
theorem r120_124 : j_at 120 124 = some (124, .newarray .int, 2, [136, 0]) := by decide +kernel
theorem r120_126 : j_at 120 126 = some (126, .putfield 65, 3, [722, 12, 2, 18, 0, 1, 12]) := by decide +kernel
theorem r120_129 : j_at 120 129 = some (129, .aload_n 0, 1, []) := by decide +kernel
theorem r120_130 : j_at 120 130 = some (130, .sipush 600, 3, []) := by decide +kernel
theorem r120_133 : j_at 120 133 = some (133, .newarray .int, 2, [136, 0]) := by decide +kernel
theorem r120_135 : j_at 120 135 = some (135, .putfield 68, 3, [723, 12, 2, 19, 0, 1, 12]) := by decide +kernel
theorem r120_138 : j_at 120 138 = some (138, .aload_n 0, 1, []) := by decide +kernel
theorem r120_139 : j_at 120 139 = some (139, .bipush 101, 2, []) := by decide +kernel
theorem r120_141 : j_at 120 141 = some (141, .newarray .int, 2, [136, 0]) := by decide +kernel
theorem r120_143 : j_at 120 143 = some (143, .putfield 71, 3, [724, 12, 2, 20, 0, 1, 12]) := by decide +kernel
theorem r120_146 : j_at 120 146 = some (146, .aload_n 0, 1, []) := by decide +kernel
theorem r120_147 : j_at 120 147 = some (147, .iconst 0, 1, []) := by decide +kernel
theorem r120_148 : j_at 120 148 = some (148, .putfield 74, 3, [725, 12, 0, 21, 0, 0, 12]) := by decide +kernel
theorem r120_151 : j_at 120 151 = some (151, .aload_n 0, 1, []) := by decide +kernel
theorem r120_152 : j_at 120 152 = some (152, .iconst 0, 1, []) := by decide +kernel
theorem r120_153 : j_at 120 153 = some (153, .putfield 77, 3, [726, 12, 0, 22, 0, 0, 12]) := by decide +kernel
theorem r120_156 : j_at 120 156 = some (156, .aload_n 0, 1, []) := by decide +kernel
theorem r120_157 : j_at 120 157 = some (157, .iconst 0, 1, []) := by decide +kernel
theorem r120_158 : j_at 120 158 = some (158, .putfield 80, 3, [727, 12, 0, 23, 0, 0, 12]) := by decide +kernel
theorem r120_161 : j_at 120 161 = some (161, .aload_n 0, 1, []) := by decide +kernel
theorem r120_162 : j_at 120 162 = some (162, .bipush 12, 2, []) := by decide +kernel
theorem r120_164 : j_at 120 164 = some (164, .newarray .int, 2, [136, 0]) := by decide +kernel
theorem r120_166 : j_at 120 166 = some (166, .dup, 1, []) := by decide +kernel
theorem r120_167 : j_at 120 167 = some (167, .iconst 0, 1, []) := by decide +kernel
theorem r120_168 : j_at 120 168 = some (168, .bipush 108, 2, []) := by decide +kernel
theorem r120_170 : j_at 120 170 = some (170, .iastore, 1, []) := by decide +kernel
theorem r120_171 : j_at 120 171 = some (171, .dup, 1, []) := by decide +kernel
theorem r120_172 : j_at 120 172 = some (172, .iconst 1, 1, []) := by decide +kernel
theorem r120_173 : j_at 120 173 = some (173, .bipush 105, 2, []) := by decide +kernel
theorem r120_175 : j_at 120 175 = some (175, .iastore, 1, []) := by decide +kernel
theorem r120_176 : j_at 120 176 = some (176, .dup, 1, []) := by decide +kernel
theorem r120_177 : j_at 120 177 = some (177, .iconst 2, 1, []) := by decide +kernel
theorem r120_178 : j_at 120 178 = some (178, .bipush 101, 2, []) := by decide +kernel
theorem r120_180 : j_at 120 180 = some (180, .iastore, 1, []) := by decide +kernel
theorem r120_181 : j_at 120 181 = some (181, .dup, 1, []) := by decide +kernel
theorem r120_182 : j_at 120 182 = some (182, .iconst 3, 1, []) := by decide +kernel
theorem r120_183 : j_at 120 183 = some (183, .bipush 115, 2, []) := by decide +kernel
theorem r120_185 : j_at 120 185 = some (185, .iastore, 1, []) := by decide +kernel
theorem r120_186 : j_at 120 186 = some (186, .dup, 1, []) := by decide +kernel
theorem r120_187 : j_at 120 187 = some (187, .iconst 4, 1, []) := by decide +kernel
theorem r120_188 : j_at 120 188 = some (188, .bipush 119, 2, []) := by decide +kernel
theorem r120_190 : j_at 120 190 = some (190, .iastore, 1, []) := by decide +kernel
theorem r120_191 : j_at 120 191 = some (191, .dup, 1, []) := by decide +kernel
theorem r120_192 : j_at 120 192 = some (192, .iconst 5, 1, []) := by decide +kernel
theorem r120_193 : j_at 120 193 = some (193, .bipush 111, 2, []) := by decide +kernel
theorem r120_195 : j_at 120 195 = some (195, .iastore, 1, []) := by decide +kernel
theorem r120_196 : j_at 120 196 = some (196, .dup, 1, []) := by decide +kernel
theorem r120_197 : j_at 120 197 = some (197, .bipush 6, 2, []) := by decide +kernel
theorem r120_199 : j_at 120 199 = some (199, .bipush 114, 2, []) := by decide +kernel
theorem r120_201 : j_at 120 201 = some (201, .iastore, 1, []) := by decide +kernel
theorem r120_202 : j_at 120 202 = some (202, .dup, 1, []) := by decide +kernel
theorem r120_203 : j_at 120 203 = some (203, .bipush 7, 2, []) := by decide +kernel
theorem r120_205 : j_at 120 205 = some (205, .bipush 116, 2, []) := by decide +kernel
theorem r120_207 : j_at 120 207 = some (207, .iastore, 1, []) := by decide +kernel
theorem r120_208 : j_at 120 208 = some (208, .dup, 1, []) := by decide +kernel
theorem r120_209 : j_at 120 209 = some (209, .bipush 8, 2, []) := by decide +kernel
theorem r120_211 : j_at 120 211 = some (211, .bipush 104, 2, []) := by decide +kernel
theorem r120_213 : j_at 120 213 = some (213, .iastore, 1, []) := by decide +kernel
theorem r120_214 : j_at 120 214 = some (214, .dup, 1, []) := by decide +kernel
theorem r120_215 : j_at 120 215 = some (215, .bipush 9, 2, []) := by decide +kernel
theorem r120_217 : j_at 120 217 = some (217, .bipush 102, 2, []) := by decide +kernel
theorem r120_219 : j_at 120 219 = some (219, .iastore, 1, []) := by decide +kernel
theorem r120_220 : j_at 120 220 = some (220, .dup, 1, []) := by decide +kernel
theorem r120_221 : j_at 120 221 = some (221, .bipush 10, 2, []) := by decide +kernel
theorem r120_223 : j_at 120 223 = some (223, .bipush 97, 2, []) := by decide +kernel
theorem r120_225 : j_at 120 225 = some (225, .iastore, 1, []) := by decide +kernel
theorem r120_226 : j_at 120 226 = some (226, .dup, 1, []) := by decide +kernel
theorem r120_227 : j_at 120 227 = some (227, .bipush 11, 2, []) := by decide +kernel
theorem r120_229 : j_at 120 229 = some (229, .bipush 114, 2, []) := by decide +kernel
theorem r120_231 : j_at 120 231 = some (231, .iastore, 1, []) := by decide +kernel
theorem r120_232 : j_at 120 232 = some (232, .putfield 83, 3, [728, 12, 2, 24, 0, 1, 12]) := by decide +kernel
theorem r120_235 : j_at 120 235 = some (235, .aload_n 0, 1, []) := by decide +kernel
theorem r120_236 : j_at 120 236 = some (236, .bipush 100, 2, []) := by decide +kernel
theorem r120_238 : j_at 120 238 = some (238, .newarray .boolean, 2, [821, 3]) := by decide +kernel
theorem r120_240 : j_at 120 240 = some (240, .putfield 86, 3, [729, 12, 2, 25, 0, 1, 12]) := by decide +kernel
theorem r120_243 : j_at 120 243 = some (243, .aload_n 0, 1, []) := by decide +kernel
theorem r120_244 : j_at 120 244 = some (244, .bipush 7, 2, []) := by decide +kernel
theorem r120_246 : j_at 120 246 = some (246, .newarray .int, 2, [136, 0]) := by decide +kernel
theorem r120_248 : j_at 120 248 = some (248, .putfield 90, 3, [730, 12, 2, 26, 0, 1, 12]) := by decide +kernel
theorem r120_251 : j_at 120 251 = some (251, .aload_n 0, 1, []) := by decide +kernel
theorem r120_252 : j_at 120 252 = some (252, .iconst 0, 1, []) := by decide +kernel
theorem r120_253 : j_at 120 253 = some (253, .putfield 93, 3, [731, 12, 0, 27, 0, 0, 12]) := by decide +kernel
theorem r120_256 : j_at 120 256 = some (256, .aload_n 0, 1, []) := by decide +kernel
theorem r120_257 : j_at 120 257 = some (257, .bipush 12, 2, []) := by decide +kernel
theorem r120_259 : j_at 120 259 = some (259, .newarray .int, 2, [136, 0]) := by decide +kernel
theorem r120_261 : j_at 120 261 = some (261, .putfield 96, 3, [732, 12, 2, 28, 0, 1, 12]) := by decide +kernel
theorem r120_264 : j_at 120 264 = some (264, .aload_n 0, 1, []) := by decide +kernel
theorem r120_265 : j_at 120 265 = some (265, .bipush 13, 2, []) := by decide +kernel
theorem r120_267 : j_at 120 267 = some (267, .newarray .int, 2, [136, 0]) := by decide +kernel
theorem r120_269 : j_at 120 269 = some (269, .putfield 99, 3, [733, 12, 2, 29, 0, 1, 12]) := by decide +kernel
theorem r120_272 : j_at 120 272 = some (272, .aload_n 0, 1, []) := by decide +kernel
theorem r120_273 : j_at 120 273 = some (273, .bipush 7, 2, []) := by decide +kernel
theorem r120_275 : j_at 120 275 = some (275, .newarray .int, 2, [136, 0]) := by decide +kernel
theorem r120_277 : j_at 120 277 = some (277, .putfield 102, 3, [734, 12, 2, 30, 0, 1, 12]) := by decide +kernel
theorem r120_280 : j_at 120 280 = some (280, .aload_n 0, 1, []) := by decide +kernel
theorem r120_281 : j_at 120 281 = some (281, .bipush 7, 2, []) := by decide +kernel
theorem r120_283 : j_at 120 283 = some (283, .newarray .int, 2, [136, 0]) := by decide +kernel
theorem r120_285 : j_at 120 285 = some (285, .putfield 105, 3, [735, 12, 2, 31, 0, 1, 12]) := by decide +kernel
theorem r120_288 : j_at 120 288 = some (288, .aload_n 0, 1, []) := by decide +kernel
theorem r120_289 : j_at 120 289 = some (289, .bipush 7, 2, []) := by decide +kernel
theorem r120_291 : j_at 120 291 = some (291, .newarray .long, 2, [182, 1]) := by decide +kernel
theorem r120_293 : j_at 120 293 = some (293, .putfield 108, 3, [736, 12, 2, 32, 0, 1, 12]) := by decide +kernel
theorem r120_296 : j_at 120 296 = some (296, .aload_n 0, 1, []) := by decide +kernel
theorem r120_297 : j_at 120 297 = some (297, .bipush 7, 2, []) := by decide +kernel
theorem r120_299 : j_at 120 299 = some (299, .newarray .long, 2, [182, 1]) := by decide +kernel
theorem r120_301 : j_at 120 301 = some (301, .putfield 112, 3, [737, 12, 2, 33, 0, 1, 12]) := by decide +kernel
theorem r120_304 : j_at 120 304 = some (304, .aload_n 0, 1, []) := by decide +kernel
theorem r120_305 : j_at 120 305 = some (305, .lconst 0, 1, []) := by decide +kernel
theorem r120_306 : j_at 120 306 = some (306, .putfield 115, 3, [738, 12, 1, 34, 0, 0, 12]) := by decide +kernel
theorem r120_309 : j_at 120 309 = some (309, .aload_n 0, 1, []) := by decide +kernel
theorem r120_310 : j_at 120 310 = some (310, .lconst 1, 1, []) := by decide +kernel
theorem r120_311 : j_at 120 311 = some (311, .putfield 119, 3, [739, 12, 1, 35, 0, 0, 12]) := by decide +kernel
theorem r120_314 : j_at 120 314 = some (314, .aload_n 0, 1, []) := by decide +kernel
theorem r120_315 : j_at 120 315 = some (315, .iconst 0, 1, []) := by decide +kernel
theorem r120_316 : j_at 120 316 = some (316, .putfield 122, 3, [740, 12, 0, 36, 0, 0, 12]) := by decide +kernel
theorem r120_319 : j_at 120 319 = some (319, .aload_n 0, 1, []) := by decide +kernel
theorem r120_320 : j_at 120 320 = some (320, .bipush 12, 2, []) := by decide +kernel
theorem r120_322 : j_at 120 322 = some (322, .newarray .int, 2, [136, 0]) := by decide +kernel
theorem r120_324 : j_at 120 324 = some (324, .putfield 125, 3, [741, 12, 2, 37, 0, 1, 12]) := by decide +kernel
theorem r120_327 : j_at 120 327 = some (327, .aload_n 0, 1, []) := by decide +kernel
theorem r120_328 : j_at 120 328 = some (328, .iconst 0, 1, []) := by decide +kernel
theorem r120_329 : j_at 120 329 = some (329, .putfield 128, 3, [742, 12, 3, 38, 0, 0, 12]) := by decide +kernel
theorem r120_332 : j_at 120 332 = some (332, .aload_n 0, 1, []) := by decide +kernel
theorem r120_333 : j_at 120 333 = some (333, .iconst (-1), 1, []) := by decide +kernel
theorem r120_334 : j_at 120 334 = some (334, .putfield 132, 3, [743, 12, 0, 39, 0, 0, 12]) := by decide +kernel
theorem r120_337 : j_at 120 337 = some (337, .aload_n 0, 1, []) := by decide +kernel
theorem r120_338 : j_at 120 338 = some (338, .iconst 0, 1, []) := by decide +kernel
theorem r120_339 : j_at 120 339 = some (339, .putfield 135, 3, [744, 12, 0, 40, 0, 0, 12]) := by decide +kernel
theorem r120_342 : j_at 120 342 = some (342, .aload_n 0, 1, []) := by decide +kernel
theorem r120_343 : j_at 120 343 = some (343, .iconst 0, 1, []) := by decide +kernel
theorem r120_344 : j_at 120 344 = some (344, .putfield 138, 3, [745, 12, 0, 41, 0, 0, 12]) := by decide +kernel
theorem r120_347 : j_at 120 347 = some (347, .aload_n 0, 1, []) := by decide +kernel
theorem r120_348 : j_at 120 348 = some (348, .iconst 0, 1, []) := by decide +kernel
theorem r120_349 : j_at 120 349 = some (349, .putfield 141, 3, [746, 12, 0, 42, 0, 0, 12]) := by decide +kernel
theorem r120_352 : j_at 120 352 = some (352, .aload_n 0, 1, []) := by decide +kernel
theorem r120_353 : j_at 120 353 = some (353, .iconst 0, 1, []) := by decide +kernel
theorem r120_354 : j_at 120 354 = some (354, .putfield 144, 3, [747, 12, 0, 43, 0, 0, 12]) := by decide +kernel
theorem r120_357 : j_at 120 357 = some (357, .aload_n 0, 1, []) := by decide +kernel
theorem r120_358 : j_at 120 358 = some (358, .iconst 0, 1, []) := by decide +kernel
theorem r120_359 : j_at 120 359 = some (359, .putfield 147, 3, [748, 12, 0, 44, 0, 0, 12]) := by decide +kernel
theorem r120_362 : j_at 120 362 = some (362, .aload_n 0, 1, []) := by decide +kernel
theorem r120_363 : j_at 120 363 = some (363, .iconst 0, 1, []) := by decide +kernel
theorem r120_364 : j_at 120 364 = some (364, .putfield 150, 3, [749, 12, 0, 45, 0, 0, 12]) := by decide +kernel
theorem r120_367 : j_at 120 367 = some (367, .aload_n 0, 1, []) := by decide +kernel
theorem r120_368 : j_at 120 368 = some (368, .bipush 7, 2, []) := by decide +kernel
theorem r120_370 : j_at 120 370 = some (370, .newarray .int, 2, [136, 0]) := by decide +kernel
theorem r120_372 : j_at 120 372 = some (372, .putfield 153, 3, [750, 12, 2, 46, 0, 1, 12]) := by decide +kernel
theorem r120_375 : j_at 120 375 = some (375, .aload_n 0, 1, []) := by decide +kernel
theorem r120_376 : j_at 120 376 = some (376, .bipush 7, 2, []) := by decide +kernel
theorem r120_378 : j_at 120 378 = some (378, .newarray .int, 2, [136, 0]) := by decide +kernel
theorem r120_380 : j_at 120 380 = some (380, .putfield 156, 3, [751, 12, 2, 47, 0, 1, 12]) := by decide +kernel
theorem r120_383 : j_at 120 383 = some (383, .aload_n 0, 1, []) := by decide +kernel
theorem r120_384 : j_at 120 384 = some (384, .bipush 7, 2, []) := by decide +kernel
theorem r120_386 : j_at 120 386 = some (386, .newarray .int, 2, [136, 0]) := by decide +kernel
theorem r120_388 : j_at 120 388 = some (388, .putfield 159, 3, [752, 12, 2, 48, 0, 1, 12]) := by decide +kernel
theorem r120_391 : j_at 120 391 = some (391, .aload_n 0, 1, []) := by decide +kernel
theorem r120_392 : j_at 120 392 = some (392, .bipush 56, 2, []) := by decide +kernel
theorem r120_394 : j_at 120 394 = some (394, .newarray .int, 2, [136, 0]) := by decide +kernel
theorem r120_396 : j_at 120 396 = some (396, .putfield 162, 3, [753, 12, 2, 49, 0, 1, 12]) := by decide +kernel
theorem r120_399 : j_at 120 399 = some (399, .aload_n 0, 1, []) := by decide +kernel
theorem r120_400 : j_at 120 400 = some (400, .bipush 12, 2, []) := by decide +kernel
theorem r120_402 : j_at 120 402 = some (402, .newarray .int, 2, [136, 0]) := by decide +kernel
theorem r120_404 : j_at 120 404 = some (404, .putfield 165, 3, [754, 12, 2, 50, 0, 1, 12]) := by decide +kernel
theorem r120_407 : j_at 120 407 = some (407, .aload_n 0, 1, []) := by decide +kernel
theorem r120_408 : j_at 120 408 = some (408, .bipush 12, 2, []) := by decide +kernel
theorem r120_410 : j_at 120 410 = some (410, .newarray .int, 2, [136, 0]) := by decide +kernel
theorem r120_412 : j_at 120 412 = some (412, .putfield 168, 3, [755, 12, 2, 51, 0, 1, 12]) := by decide +kernel
theorem r120_415 : j_at 120 415 = some (415, .aload_n 0, 1, []) := by decide +kernel
theorem r120_416 : j_at 120 416 = some (416, .iconst 0, 1, []) := by decide +kernel
theorem r120_417 : j_at 120 417 = some (417, .putfield 171, 3, [756, 12, 0, 52, 0, 0, 12]) := by decide +kernel
theorem r120_420 : j_at 120 420 = some (420, .aload_n 0, 1, []) := by decide +kernel
theorem r120_421 : j_at 120 421 = some (421, .bipush 20, 2, []) := by decide +kernel
theorem r120_423 : j_at 120 423 = some (423, .newarray .int, 2, [136, 0]) := by decide +kernel
theorem r120_425 : j_at 120 425 = some (425, .putfield 174, 3, [757, 12, 2, 53, 0, 1, 12]) := by decide +kernel
theorem r120_428 : j_at 120 428 = some (428, .aload_n 0, 1, []) := by decide +kernel
theorem r120_429 : j_at 120 429 = some (429, .bipush 6, 2, []) := by decide +kernel
theorem r120_431 : j_at 120 431 = some (431, .newarray .int, 2, [136, 0]) := by decide +kernel
theorem r120_433 : j_at 120 433 = some (433, .dup, 1, []) := by decide +kernel
theorem r120_434 : j_at 120 434 = some (434, .iconst 0, 1, []) := by decide +kernel
theorem r120_435 : j_at 120 435 = some (435, .iconst (-1), 1, []) := by decide +kernel
theorem r120_436 : j_at 120 436 = some (436, .iastore, 1, []) := by decide +kernel
theorem r120_437 : j_at 120 437 = some (437, .dup, 1, []) := by decide +kernel
theorem r120_438 : j_at 120 438 = some (438, .iconst 1, 1, []) := by decide +kernel
theorem r120_439 : j_at 120 439 = some (439, .iconst (-1), 1, []) := by decide +kernel
theorem r120_440 : j_at 120 440 = some (440, .iastore, 1, []) := by decide +kernel
theorem r120_441 : j_at 120 441 = some (441, .dup, 1, []) := by decide +kernel
theorem r120_442 : j_at 120 442 = some (442, .iconst 2, 1, []) := by decide +kernel
theorem r120_443 : j_at 120 443 = some (443, .iconst (-1), 1, []) := by decide +kernel
theorem r120_444 : j_at 120 444 = some (444, .iastore, 1, []) := by decide +kernel
theorem r120_445 : j_at 120 445 = some (445, .dup, 1, []) := by decide +kernel
theorem r120_446 : j_at 120 446 = some (446, .iconst 3, 1, []) := by decide +kernel
theorem r120_447 : j_at 120 447 = some (447, .iconst (-1), 1, []) := by decide +kernel
theorem r120_448 : j_at 120 448 = some (448, .iastore, 1, []) := by decide +kernel
theorem r120_449 : j_at 120 449 = some (449, .dup, 1, []) := by decide +kernel
theorem r120_450 : j_at 120 450 = some (450, .iconst 4, 1, []) := by decide +kernel
theorem r120_451 : j_at 120 451 = some (451, .iconst (-1), 1, []) := by decide +kernel
theorem r120_452 : j_at 120 452 = some (452, .iastore, 1, []) := by decide +kernel
theorem r120_453 : j_at 120 453 = some (453, .dup, 1, []) := by decide +kernel
theorem r120_454 : j_at 120 454 = some (454, .iconst 5, 1, []) := by decide +kernel
theorem r120_455 : j_at 120 455 = some (455, .iconst (-1), 1, []) := by decide +kernel
theorem r120_456 : j_at 120 456 = some (456, .iastore, 1, []) := by decide +kernel
theorem r120_457 : j_at 120 457 = some (457, .putfield 177, 3, [758, 12, 2, 54, 0, 1, 12]) := by decide +kernel
theorem r120_460 : j_at 120 460 = some (460, .aload_n 0, 1, []) := by decide +kernel
theorem r120_461 : j_at 120 461 = some (461, .bipush 6, 2, []) := by decide +kernel
theorem r120_463 : j_at 120 463 = some (463, .newarray .int, 2, [136, 0]) := by decide +kernel
theorem r120_465 : j_at 120 465 = some (465, .putfield 180, 3, [759, 12, 2, 55, 0, 1, 12]) := by decide +kernel
theorem r120_468 : j_at 120 468 = some (468, .aload_n 0, 1, []) := by decide +kernel
theorem r120_469 : j_at 120 469 = some (469, .sipush 360, 3, []) := by decide +kernel
theorem r120_472 : j_at 120 472 = some (472, .newarray .long, 2, [182, 1]) := by decide +kernel
theorem r120_474 : j_at 120 474 = some (474, .putfield 183, 3, [760, 12, 2, 56, 0, 1, 12]) := by decide +kernel
theorem r120_477 : j_at 120 477 = some (477, .aload_n 0, 1, []) := by decide +kernel
theorem r120_478 : j_at 120 478 = some (478, .bipush 60, 2, []) := by decide +kernel
theorem r120_480 : j_at 120 480 = some (480, .newarray .long, 2, [182, 1]) := by decide +kernel
theorem r120_482 : j_at 120 482 = some (482, .putfield 186, 3, [761, 12, 2, 57, 0, 1, 12]) := by decide +kernel
theorem r120_485 : j_at 120 485 = some (485, .return_, 1, []) := by decide +kernel
theorem b120_0 {b : Nat} {x0 : Value} {H : j_H} {Q : Option Value → j_H → Prop} (h0 : j_vc H x0 = 12) (h1 : ¬ (x0 : Value) = .ref 11) : j_wp b 120 0 [x0] [] H Q = j_wp b 120 9 [x0] [] (j_sI H (j_pa x0) 0 (Int32.ofInt 0)) Q := Eq.trans (s_aload_n r120_0 rfl (j_isr_vc h0 rfl)) (Eq.trans (s_oinit r120_1 (j_vc_lt h0 rfl) h1 rfl) (Eq.trans (s_aload_n r120_4 rfl (j_isr_vc h0 rfl)) (Eq.trans (s_iconst r120_5) (s_put r120_6 (j_al1 h0 rfl) rfl j_putI))))
theorem b120_9 {b : Nat} {x0 : Value} {H : j_H} {Q : Option Value → j_H → Prop} (h0 : j_vc H x0 = 12) : j_wp b 120 9 [x0] [] H Q = j_wp b 120 14 [x0] [] (j_sI H (j_pa x0) 1 (Int32.ofInt 0)) Q := Eq.trans (s_aload_n r120_9 rfl (j_isr_vc h0 rfl)) (Eq.trans (s_iconst r120_10) (s_put r120_11 (j_al1 h0 rfl) rfl j_putI))
theorem b120_14 {b : Nat} {x0 : Value} {H : j_H} {Q : Option Value → j_H → Prop} (h0 : j_vc H x0 = 12) : j_wp b 120 14 [x0] [] H Q = j_wp b 120 19 [x0] [] (j_sI H (j_pa x0) 2 (Int32.ofInt 0)) Q := Eq.trans (s_aload_n r120_14 rfl (j_isr_vc h0 rfl)) (Eq.trans (s_iconst r120_15) (s_put r120_16 (j_al1 h0 rfl) rfl j_putI))
theorem b120_19 {b : Nat} {x0 : Value} {H : j_H} {Q : Option Value → j_H → Prop} (h0 : j_vc H x0 = 12) : j_wp b 120 19 [x0] [] H Q = j_wp b 120 24 [x0] [] (j_sI H (j_pa x0) 3 (Int32.ofInt 0)) Q := Eq.trans (s_aload_n r120_19 rfl (j_isr_vc h0 rfl)) (Eq.trans (s_iconst r120_20) (s_put r120_21 (j_al1 h0 rfl) rfl j_putI))
theorem b120_24 {b : Nat} {x0 : Value} {H : j_H} {Q : Option Value → j_H → Prop} (h0 : j_vc H x0 = 12) : j_wp b 120 24 [x0] [] H Q = j_wp b 120 32 [x0] [] (j_sR (j_nw H (.inr (0, j_ix (Int32.ofInt 7)))) (j_pa x0) 4 (some H.1.length)) Q := Eq.trans (s_aload_n r120_24 rfl (j_isr_vc h0 rfl)) (Eq.trans (s_bipush r120_25) (Eq.trans (s_newa r120_27 (by decide)) (s_put r120_29 (j_al1 (j_vcn h0) rfl) rfl (j_putR rfl))))
theorem b120_32 {b : Nat} {x0 : Value} {H : j_H} {Q : Option Value → j_H → Prop} (h0 : j_vc H x0 = 12) : j_wp b 120 32 [x0] [] H Q = j_wp b 120 40 [x0] [] (j_sR (j_nw H (.inr (0, j_ix (Int32.ofInt 7)))) (j_pa x0) 5 (some H.1.length)) Q := Eq.trans (s_aload_n r120_32 rfl (j_isr_vc h0 rfl)) (Eq.trans (s_bipush r120_33) (Eq.trans (s_newa r120_35 (by decide)) (s_put r120_37 (j_al1 (j_vcn h0) rfl) rfl (j_putR rfl))))
theorem b120_40 {b : Nat} {x0 : Value} {H : j_H} {Q : Option Value → j_H → Prop} (h0 : j_vc H x0 = 12) : j_wp b 120 40 [x0] [] H Q = j_wp b 120 48 [x0] [] (j_sR (j_nw H (.inr (0, j_ix (Int32.ofInt 7)))) (j_pa x0) 6 (some H.1.length)) Q := Eq.trans (s_aload_n r120_40 rfl (j_isr_vc h0 rfl)) (Eq.trans (s_bipush r120_41) (Eq.trans (s_newa r120_43 (by decide)) (s_put r120_45 (j_al1 (j_vcn h0) rfl) rfl (j_putR rfl))))
theorem b120_48 {b : Nat} {x0 : Value} {H : j_H} {Q : Option Value → j_H → Prop} (h0 : j_vc H x0 = 12) : j_wp b 120 48 [x0] [] H Q = j_wp b 120 56 [x0] [] (j_sR (j_nw H (.inr (0, j_ix (Int32.ofInt 56)))) (j_pa x0) 7 (some H.1.length)) Q := Eq.trans (s_aload_n r120_48 rfl (j_isr_vc h0 rfl)) (Eq.trans (s_bipush r120_49) (Eq.trans (s_newa r120_51 (by decide)) (s_put r120_53 (j_al1 (j_vcn h0) rfl) rfl (j_putR rfl))))
theorem b120_56 {b : Nat} {x0 : Value} {H : j_H} {Q : Option Value → j_H → Prop} (h0 : j_vc H x0 = 12) : j_wp b 120 56 [x0] [] H Q = j_wp b 120 61 [x0] [] (j_sI H (j_pa x0) 8 (Int32.ofInt 0)) Q := Eq.trans (s_aload_n r120_56 rfl (j_isr_vc h0 rfl)) (Eq.trans (s_iconst r120_57) (s_put r120_58 (j_al1 h0 rfl) rfl j_putI))
theorem b120_61 {b : Nat} {x0 : Value} {H : j_H} {Q : Option Value → j_H → Prop} (h0 : j_vc H x0 = 12) : j_wp b 120 61 [x0] [] H Q = j_wp b 120 66 [x0] [] (j_sI H (j_pa x0) 9 (Int32.ofInt (-1))) Q := Eq.trans (s_aload_n r120_61 rfl (j_isr_vc h0 rfl)) (Eq.trans (s_iconst r120_62) (s_put r120_63 (j_al1 h0 rfl) rfl j_putI))
theorem b120_66 {b : Nat} {x0 : Value} {H : j_H} {Q : Option Value → j_H → Prop} (h0 : j_vc H x0 = 12) : j_wp b 120 66 [x0] [] H Q = j_wp b 120 71 [x0] [] (j_sI H (j_pa x0) 10 (Int32.ofInt 0)) Q := Eq.trans (s_aload_n r120_66 rfl (j_isr_vc h0 rfl)) (Eq.trans (s_iconst r120_67) (s_put r120_68 (j_al1 h0 rfl) rfl j_putI))
theorem b120_71 {b : Nat} {x0 : Value} {H : j_H} {Q : Option Value → j_H → Prop} (h0 : j_vc H x0 = 12) : j_wp b 120 71 [x0] [] H Q = j_wp b 120 76 [x0] [] (j_sI H (j_pa x0) 11 (Int32.ofInt 0)) Q := Eq.trans (s_aload_n r120_71 rfl (j_isr_vc h0 rfl)) (Eq.trans (s_iconst r120_72) (s_put r120_73 (j_al1 h0 rfl) rfl j_putI))
theorem b120_76 {b : Nat} {x0 : Value} {H : j_H} {Q : Option Value → j_H → Prop} (h0 : j_vc H x0 = 12) : j_wp b 120 76 [x0] [] H Q = j_wp b 120 81 [x0] [] (j_sI H (j_pa x0) 12 (Int32.ofInt 0)) Q := Eq.trans (s_aload_n r120_76 rfl (j_isr_vc h0 rfl)) (Eq.trans (s_iconst r120_77) (s_put r120_78 (j_al1 h0 rfl) rfl j_putI))
theorem b120_81 {b : Nat} {x0 : Value} {H : j_H} {Q : Option Value → j_H → Prop} (h0 : j_vc H x0 = 12) : j_wp b 120 81 [x0] [] H Q = j_wp b 120 89 [x0] [] (j_sR (j_nw H (.inr (0, j_ix (Int32.ofInt 100)))) (j_pa x0) 13 (some H.1.length)) Q := Eq.trans (s_aload_n r120_81 rfl (j_isr_vc h0 rfl)) (Eq.trans (s_bipush r120_82) (Eq.trans (s_newa r120_84 (by decide)) (s_put r120_86 (j_al1 (j_vcn h0) rfl) rfl (j_putR rfl))))
theorem b120_89 {b : Nat} {x0 : Value} {H : j_H} {Q : Option Value → j_H → Prop} (h0 : j_vc H x0 = 12) : j_wp b 120 89 [x0] [] H Q = j_wp b 120 97 [x0] [] (j_sR (j_nw H (.inr (0, j_ix (Int32.ofInt 6)))) (j_pa x0) 14 (some H.1.length)) Q := Eq.trans (s_aload_n r120_89 rfl (j_isr_vc h0 rfl)) (Eq.trans (s_bipush r120_90) (Eq.trans (s_newa r120_92 (by decide)) (s_put r120_94 (j_al1 (j_vcn h0) rfl) rfl (j_putR rfl))))
theorem b120_97 {b : Nat} {x0 : Value} {H : j_H} {Q : Option Value → j_H → Prop} (h0 : j_vc H x0 = 12) : j_wp b 120 97 [x0] [] H Q = j_wp b 120 105 [x0] [] (j_sR (j_nw H (.inr (0, j_ix (Int32.ofInt 60)))) (j_pa x0) 15 (some H.1.length)) Q := Eq.trans (s_aload_n r120_97 rfl (j_isr_vc h0 rfl)) (Eq.trans (s_bipush r120_98) (Eq.trans (s_newa r120_100 (by decide)) (s_put r120_102 (j_al1 (j_vcn h0) rfl) rfl (j_putR rfl))))
theorem b120_105 {b : Nat} {x0 : Value} {H : j_H} {Q : Option Value → j_H → Prop} (h0 : j_vc H x0 = 12) : j_wp b 120 105 [x0] [] H Q = j_wp b 120 113 [x0] [] (j_sR (j_nw H (.inr (0, j_ix (Int32.ofInt 60)))) (j_pa x0) 16 (some H.1.length)) Q := Eq.trans (s_aload_n r120_105 rfl (j_isr_vc h0 rfl)) (Eq.trans (s_bipush r120_106) (Eq.trans (s_newa r120_108 (by decide)) (s_put r120_110 (j_al1 (j_vcn h0) rfl) rfl (j_putR rfl))))
theorem b120_113 {b : Nat} {x0 : Value} {H : j_H} {Q : Option Value → j_H → Prop} (h0 : j_vc H x0 = 12) : j_wp b 120 113 [x0] [] H Q = j_wp b 120 121 [x0] [] (j_sR (j_nw H (.inr (0, j_ix (Int32.ofInt 60)))) (j_pa x0) 17 (some H.1.length)) Q := Eq.trans (s_aload_n r120_113 rfl (j_isr_vc h0 rfl)) (Eq.trans (s_bipush r120_114) (Eq.trans (s_newa r120_116 (by decide)) (s_put r120_118 (j_al1 (j_vcn h0) rfl) rfl (j_putR rfl))))
theorem b120_121 {b : Nat} {x0 : Value} {H : j_H} {Q : Option Value → j_H → Prop} (h0 : j_vc H x0 = 12) : j_wp b 120 121 [x0] [] H Q = j_wp b 120 129 [x0] [] (j_sR (j_nw H (.inr (0, j_ix (Int32.ofInt 60)))) (j_pa x0) 18 (some H.1.length)) Q := Eq.trans (s_aload_n r120_121 rfl (j_isr_vc h0 rfl)) (Eq.trans (s_bipush r120_122) (Eq.trans (s_newa r120_124 (by decide)) (s_put r120_126 (j_al1 (j_vcn h0) rfl) rfl (j_putR rfl))))
theorem b120_129 {b : Nat} {x0 : Value} {H : j_H} {Q : Option Value → j_H → Prop} (h0 : j_vc H x0 = 12) : j_wp b 120 129 [x0] [] H Q = j_wp b 120 138 [x0] [] (j_sR (j_nw H (.inr (0, j_ix (Int32.ofInt 600)))) (j_pa x0) 19 (some H.1.length)) Q := Eq.trans (s_aload_n r120_129 rfl (j_isr_vc h0 rfl)) (Eq.trans (s_sipush r120_130) (Eq.trans (s_newa r120_133 (by decide)) (s_put r120_135 (j_al1 (j_vcn h0) rfl) rfl (j_putR rfl))))
theorem b120_138 {b : Nat} {x0 : Value} {H : j_H} {Q : Option Value → j_H → Prop} (h0 : j_vc H x0 = 12) : j_wp b 120 138 [x0] [] H Q = j_wp b 120 146 [x0] [] (j_sR (j_nw H (.inr (0, j_ix (Int32.ofInt 101)))) (j_pa x0) 20 (some H.1.length)) Q := Eq.trans (s_aload_n r120_138 rfl (j_isr_vc h0 rfl)) (Eq.trans (s_bipush r120_139) (Eq.trans (s_newa r120_141 (by decide)) (s_put r120_143 (j_al1 (j_vcn h0) rfl) rfl (j_putR rfl))))
theorem b120_146 {b : Nat} {x0 : Value} {H : j_H} {Q : Option Value → j_H → Prop} (h0 : j_vc H x0 = 12) : j_wp b 120 146 [x0] [] H Q = j_wp b 120 151 [x0] [] (j_sI H (j_pa x0) 21 (Int32.ofInt 0)) Q := Eq.trans (s_aload_n r120_146 rfl (j_isr_vc h0 rfl)) (Eq.trans (s_iconst r120_147) (s_put r120_148 (j_al1 h0 rfl) rfl j_putI))
theorem b120_151 {b : Nat} {x0 : Value} {H : j_H} {Q : Option Value → j_H → Prop} (h0 : j_vc H x0 = 12) : j_wp b 120 151 [x0] [] H Q = j_wp b 120 156 [x0] [] (j_sI H (j_pa x0) 22 (Int32.ofInt 0)) Q := Eq.trans (s_aload_n r120_151 rfl (j_isr_vc h0 rfl)) (Eq.trans (s_iconst r120_152) (s_put r120_153 (j_al1 h0 rfl) rfl j_putI))
theorem b120_156 {b : Nat} {x0 : Value} {H : j_H} {Q : Option Value → j_H → Prop} (h0 : j_vc H x0 = 12) : j_wp b 120 156 [x0] [] H Q = j_wp b 120 161 [x0] [] (j_sI H (j_pa x0) 23 (Int32.ofInt 0)) Q := Eq.trans (s_aload_n r120_156 rfl (j_isr_vc h0 rfl)) (Eq.trans (s_iconst r120_157) (s_put r120_158 (j_al1 h0 rfl) rfl j_putI))
theorem b120_161 {b : Nat} {x0 : Value} {H : j_H} {Q : Option Value → j_H → Prop} (h0 : j_isr x0 = true) : j_wp b 120 161 [x0] [] H Q = j_wp b 120 171 [x0] [.ref H.1.length, x0] (j_sI (j_nw H (.inr (0, j_ix (Int32.ofInt 12)))) H.1.length (j_ix (Int32.ofInt 0)) (Int32.ofInt 108)) Q := Eq.trans (s_aload_n r120_161 rfl h0) (Eq.trans (s_bipush r120_162) (Eq.trans (s_newa r120_164 (by decide)) (Eq.trans (s_dupa r120_166 (j_vt_lt (j_vtw _ _ _) rfl)) (Eq.trans (s_iconst r120_167) (Eq.trans (s_bipush r120_168) (s_iast r120_170 (j_vtw _ _ _) (j_ib_of (n := j_vl _ _) (z := 0) rfl (by decide) (by rw [j_vlw]; decide))))))))
theorem b120_171 {b : Nat} {x0 : Value} {y0 : Value} {y1 : Value} {H : j_H} {Q : Option Value → j_H → Prop} (h0 : j_vt H y0 = 0) (h1 : 1 < ((j_vl H y0 : Nat) : Int)) : j_wp b 120 171 [x0] [y0, y1] H Q = j_wp b 120 176 [x0] [y0, y1] (j_sI H (j_pa y0) (j_ix (Int32.ofInt 1)) (Int32.ofInt 105)) Q := Eq.trans (s_dupa r120_171 (j_vt_lt h0 rfl)) (Eq.trans (s_iconst r120_172) (Eq.trans (s_bipush r120_173) (s_iast r120_175 h0 (j_ib_of (z := 1) rfl (by decide) h1))))
theorem b120_176 {b : Nat} {x0 : Value} {y0 : Value} {y1 : Value} {H : j_H} {Q : Option Value → j_H → Prop} (h0 : j_vt H y0 = 0) (h1 : 2 < ((j_vl H y0 : Nat) : Int)) : j_wp b 120 176 [x0] [y0, y1] H Q = j_wp b 120 181 [x0] [y0, y1] (j_sI H (j_pa y0) (j_ix (Int32.ofInt 2)) (Int32.ofInt 101)) Q := Eq.trans (s_dupa r120_176 (j_vt_lt h0 rfl)) (Eq.trans (s_iconst r120_177) (Eq.trans (s_bipush r120_178) (s_iast r120_180 h0 (j_ib_of (z := 2) rfl (by decide) h1))))
theorem b120_181 {b : Nat} {x0 : Value} {y0 : Value} {y1 : Value} {H : j_H} {Q : Option Value → j_H → Prop} (h0 : j_vt H y0 = 0) (h1 : 3 < ((j_vl H y0 : Nat) : Int)) : j_wp b 120 181 [x0] [y0, y1] H Q = j_wp b 120 186 [x0] [y0, y1] (j_sI H (j_pa y0) (j_ix (Int32.ofInt 3)) (Int32.ofInt 115)) Q := Eq.trans (s_dupa r120_181 (j_vt_lt h0 rfl)) (Eq.trans (s_iconst r120_182) (Eq.trans (s_bipush r120_183) (s_iast r120_185 h0 (j_ib_of (z := 3) rfl (by decide) h1))))
theorem b120_186 {b : Nat} {x0 : Value} {y0 : Value} {y1 : Value} {H : j_H} {Q : Option Value → j_H → Prop} (h0 : j_vt H y0 = 0) (h1 : 4 < ((j_vl H y0 : Nat) : Int)) : j_wp b 120 186 [x0] [y0, y1] H Q = j_wp b 120 191 [x0] [y0, y1] (j_sI H (j_pa y0) (j_ix (Int32.ofInt 4)) (Int32.ofInt 119)) Q := Eq.trans (s_dupa r120_186 (j_vt_lt h0 rfl)) (Eq.trans (s_iconst r120_187) (Eq.trans (s_bipush r120_188) (s_iast r120_190 h0 (j_ib_of (z := 4) rfl (by decide) h1))))
theorem b120_191 {b : Nat} {x0 : Value} {y0 : Value} {y1 : Value} {H : j_H} {Q : Option Value → j_H → Prop} (h0 : j_vt H y0 = 0) (h1 : 5 < ((j_vl H y0 : Nat) : Int)) : j_wp b 120 191 [x0] [y0, y1] H Q = j_wp b 120 196 [x0] [y0, y1] (j_sI H (j_pa y0) (j_ix (Int32.ofInt 5)) (Int32.ofInt 111)) Q := Eq.trans (s_dupa r120_191 (j_vt_lt h0 rfl)) (Eq.trans (s_iconst r120_192) (Eq.trans (s_bipush r120_193) (s_iast r120_195 h0 (j_ib_of (z := 5) rfl (by decide) h1))))
theorem b120_196 {b : Nat} {x0 : Value} {y0 : Value} {y1 : Value} {H : j_H} {Q : Option Value → j_H → Prop} (h0 : j_vt H y0 = 0) (h1 : 6 < ((j_vl H y0 : Nat) : Int)) : j_wp b 120 196 [x0] [y0, y1] H Q = j_wp b 120 202 [x0] [y0, y1] (j_sI H (j_pa y0) (j_ix (Int32.ofInt 6)) (Int32.ofInt 114)) Q := Eq.trans (s_dupa r120_196 (j_vt_lt h0 rfl)) (Eq.trans (s_bipush r120_197) (Eq.trans (s_bipush r120_199) (s_iast r120_201 h0 (j_ib_of (z := 6) rfl (by decide) h1))))
theorem b120_202 {b : Nat} {x0 : Value} {y0 : Value} {y1 : Value} {H : j_H} {Q : Option Value → j_H → Prop} (h0 : j_vt H y0 = 0) (h1 : 7 < ((j_vl H y0 : Nat) : Int)) : j_wp b 120 202 [x0] [y0, y1] H Q = j_wp b 120 208 [x0] [y0, y1] (j_sI H (j_pa y0) (j_ix (Int32.ofInt 7)) (Int32.ofInt 116)) Q := Eq.trans (s_dupa r120_202 (j_vt_lt h0 rfl)) (Eq.trans (s_bipush r120_203) (Eq.trans (s_bipush r120_205) (s_iast r120_207 h0 (j_ib_of (z := 7) rfl (by decide) h1))))
theorem b120_208 {b : Nat} {x0 : Value} {y0 : Value} {y1 : Value} {H : j_H} {Q : Option Value → j_H → Prop} (h0 : j_vt H y0 = 0) (h1 : 8 < ((j_vl H y0 : Nat) : Int)) : j_wp b 120 208 [x0] [y0, y1] H Q = j_wp b 120 214 [x0] [y0, y1] (j_sI H (j_pa y0) (j_ix (Int32.ofInt 8)) (Int32.ofInt 104)) Q := Eq.trans (s_dupa r120_208 (j_vt_lt h0 rfl)) (Eq.trans (s_bipush r120_209) (Eq.trans (s_bipush r120_211) (s_iast r120_213 h0 (j_ib_of (z := 8) rfl (by decide) h1))))
theorem b120_214 {b : Nat} {x0 : Value} {y0 : Value} {y1 : Value} {H : j_H} {Q : Option Value → j_H → Prop} (h0 : j_vt H y0 = 0) (h1 : 9 < ((j_vl H y0 : Nat) : Int)) : j_wp b 120 214 [x0] [y0, y1] H Q = j_wp b 120 220 [x0] [y0, y1] (j_sI H (j_pa y0) (j_ix (Int32.ofInt 9)) (Int32.ofInt 102)) Q := Eq.trans (s_dupa r120_214 (j_vt_lt h0 rfl)) (Eq.trans (s_bipush r120_215) (Eq.trans (s_bipush r120_217) (s_iast r120_219 h0 (j_ib_of (z := 9) rfl (by decide) h1))))
theorem b120_220 {b : Nat} {x0 : Value} {y0 : Value} {y1 : Value} {H : j_H} {Q : Option Value → j_H → Prop} (h0 : j_vt H y0 = 0) (h1 : 10 < ((j_vl H y0 : Nat) : Int)) : j_wp b 120 220 [x0] [y0, y1] H Q = j_wp b 120 226 [x0] [y0, y1] (j_sI H (j_pa y0) (j_ix (Int32.ofInt 10)) (Int32.ofInt 97)) Q := Eq.trans (s_dupa r120_220 (j_vt_lt h0 rfl)) (Eq.trans (s_bipush r120_221) (Eq.trans (s_bipush r120_223) (s_iast r120_225 h0 (j_ib_of (z := 10) rfl (by decide) h1))))
theorem b120_226 {b : Nat} {x0 : Value} {y0 : Value} {y1 : Value} {H : j_H} {Q : Option Value → j_H → Prop} (h0 : j_vt H y0 = 0) (h1 : 11 < ((j_vl H y0 : Nat) : Int)) : j_wp b 120 226 [x0] [y0, y1] H Q = j_wp b 120 232 [x0] [y0, y1] (j_sI H (j_pa y0) (j_ix (Int32.ofInt 11)) (Int32.ofInt 114)) Q := Eq.trans (s_dupa r120_226 (j_vt_lt h0 rfl)) (Eq.trans (s_bipush r120_227) (Eq.trans (s_bipush r120_229) (s_iast r120_231 h0 (j_ib_of (z := 11) rfl (by decide) h1))))
theorem b120_232 {b : Nat} {x0 : Value} {y0 : Value} {y1 : Value} {H : j_H} {Q : Option Value → j_H → Prop} (h0 : j_vc H y1 = 12) (h1 : j_isr y0 = true) : j_wp b 120 232 [x0] [y0, y1] H Q = j_wp b 120 235 [x0] [] (j_sR H (j_pa y1) 24 (j_po y0)) Q := s_put r120_232 (j_al1 h0 rfl) rfl (j_putR h1)
theorem b120_235 {b : Nat} {x0 : Value} {H : j_H} {Q : Option Value → j_H → Prop} (h0 : j_vc H x0 = 12) : j_wp b 120 235 [x0] [] H Q = j_wp b 120 243 [x0] [] (j_sR (j_nw H (.inr (3, j_ix (Int32.ofInt 100)))) (j_pa x0) 25 (some H.1.length)) Q := Eq.trans (s_aload_n r120_235 rfl (j_isr_vc h0 rfl)) (Eq.trans (s_bipush r120_236) (Eq.trans (s_newa r120_238 (by decide)) (s_put r120_240 (j_al1 (j_vcn h0) rfl) rfl (j_putR rfl))))
theorem b120_243 {b : Nat} {x0 : Value} {H : j_H} {Q : Option Value → j_H → Prop} (h0 : j_vc H x0 = 12) : j_wp b 120 243 [x0] [] H Q = j_wp b 120 251 [x0] [] (j_sR (j_nw H (.inr (0, j_ix (Int32.ofInt 7)))) (j_pa x0) 26 (some H.1.length)) Q := Eq.trans (s_aload_n r120_243 rfl (j_isr_vc h0 rfl)) (Eq.trans (s_bipush r120_244) (Eq.trans (s_newa r120_246 (by decide)) (s_put r120_248 (j_al1 (j_vcn h0) rfl) rfl (j_putR rfl))))
theorem b120_251 {b : Nat} {x0 : Value} {H : j_H} {Q : Option Value → j_H → Prop} (h0 : j_vc H x0 = 12) : j_wp b 120 251 [x0] [] H Q = j_wp b 120 256 [x0] [] (j_sI H (j_pa x0) 27 (Int32.ofInt 0)) Q := Eq.trans (s_aload_n r120_251 rfl (j_isr_vc h0 rfl)) (Eq.trans (s_iconst r120_252) (s_put r120_253 (j_al1 h0 rfl) rfl j_putI))
theorem b120_256 {b : Nat} {x0 : Value} {H : j_H} {Q : Option Value → j_H → Prop} (h0 : j_vc H x0 = 12) : j_wp b 120 256 [x0] [] H Q = j_wp b 120 264 [x0] [] (j_sR (j_nw H (.inr (0, j_ix (Int32.ofInt 12)))) (j_pa x0) 28 (some H.1.length)) Q := Eq.trans (s_aload_n r120_256 rfl (j_isr_vc h0 rfl)) (Eq.trans (s_bipush r120_257) (Eq.trans (s_newa r120_259 (by decide)) (s_put r120_261 (j_al1 (j_vcn h0) rfl) rfl (j_putR rfl))))
theorem b120_264 {b : Nat} {x0 : Value} {H : j_H} {Q : Option Value → j_H → Prop} (h0 : j_vc H x0 = 12) : j_wp b 120 264 [x0] [] H Q = j_wp b 120 272 [x0] [] (j_sR (j_nw H (.inr (0, j_ix (Int32.ofInt 13)))) (j_pa x0) 29 (some H.1.length)) Q := Eq.trans (s_aload_n r120_264 rfl (j_isr_vc h0 rfl)) (Eq.trans (s_bipush r120_265) (Eq.trans (s_newa r120_267 (by decide)) (s_put r120_269 (j_al1 (j_vcn h0) rfl) rfl (j_putR rfl))))
theorem b120_272 {b : Nat} {x0 : Value} {H : j_H} {Q : Option Value → j_H → Prop} (h0 : j_vc H x0 = 12) : j_wp b 120 272 [x0] [] H Q = j_wp b 120 280 [x0] [] (j_sR (j_nw H (.inr (0, j_ix (Int32.ofInt 7)))) (j_pa x0) 30 (some H.1.length)) Q := Eq.trans (s_aload_n r120_272 rfl (j_isr_vc h0 rfl)) (Eq.trans (s_bipush r120_273) (Eq.trans (s_newa r120_275 (by decide)) (s_put r120_277 (j_al1 (j_vcn h0) rfl) rfl (j_putR rfl))))
theorem b120_280 {b : Nat} {x0 : Value} {H : j_H} {Q : Option Value → j_H → Prop} (h0 : j_vc H x0 = 12) : j_wp b 120 280 [x0] [] H Q = j_wp b 120 288 [x0] [] (j_sR (j_nw H (.inr (0, j_ix (Int32.ofInt 7)))) (j_pa x0) 31 (some H.1.length)) Q := Eq.trans (s_aload_n r120_280 rfl (j_isr_vc h0 rfl)) (Eq.trans (s_bipush r120_281) (Eq.trans (s_newa r120_283 (by decide)) (s_put r120_285 (j_al1 (j_vcn h0) rfl) rfl (j_putR rfl))))
theorem b120_288 {b : Nat} {x0 : Value} {H : j_H} {Q : Option Value → j_H → Prop} (h0 : j_vc H x0 = 12) : j_wp b 120 288 [x0] [] H Q = j_wp b 120 296 [x0] [] (j_sR (j_nw H (.inr (1, j_ix (Int32.ofInt 7)))) (j_pa x0) 32 (some H.1.length)) Q := Eq.trans (s_aload_n r120_288 rfl (j_isr_vc h0 rfl)) (Eq.trans (s_bipush r120_289) (Eq.trans (s_newa r120_291 (by decide)) (s_put r120_293 (j_al1 (j_vcn h0) rfl) rfl (j_putR rfl))))
theorem b120_296 {b : Nat} {x0 : Value} {H : j_H} {Q : Option Value → j_H → Prop} (h0 : j_vc H x0 = 12) : j_wp b 120 296 [x0] [] H Q = j_wp b 120 304 [x0] [] (j_sR (j_nw H (.inr (1, j_ix (Int32.ofInt 7)))) (j_pa x0) 33 (some H.1.length)) Q := Eq.trans (s_aload_n r120_296 rfl (j_isr_vc h0 rfl)) (Eq.trans (s_bipush r120_297) (Eq.trans (s_newa r120_299 (by decide)) (s_put r120_301 (j_al1 (j_vcn h0) rfl) rfl (j_putR rfl))))
theorem b120_304 {b : Nat} {x0 : Value} {H : j_H} {Q : Option Value → j_H → Prop} (h0 : j_vc H x0 = 12) : j_wp b 120 304 [x0] [] H Q = j_wp b 120 309 [x0] [] (j_sL H (j_pa x0) 34 (Int64.ofInt 0)) Q := Eq.trans (s_aload_n r120_304 rfl (j_isr_vc h0 rfl)) (Eq.trans (s_lconst r120_305 rfl) (s_put r120_306 (j_al1 h0 rfl) rfl j_putL))
theorem b120_309 {b : Nat} {x0 : Value} {H : j_H} {Q : Option Value → j_H → Prop} (h0 : j_vc H x0 = 12) : j_wp b 120 309 [x0] [] H Q = j_wp b 120 314 [x0] [] (j_sL H (j_pa x0) 35 (Int64.ofInt 1)) Q := Eq.trans (s_aload_n r120_309 rfl (j_isr_vc h0 rfl)) (Eq.trans (s_lconst r120_310 rfl) (s_put r120_311 (j_al1 h0 rfl) rfl j_putL))
theorem b120_314 {b : Nat} {x0 : Value} {H : j_H} {Q : Option Value → j_H → Prop} (h0 : j_vc H x0 = 12) : j_wp b 120 314 [x0] [] H Q = j_wp b 120 319 [x0] [] (j_sI H (j_pa x0) 36 (Int32.ofInt 0)) Q := Eq.trans (s_aload_n r120_314 rfl (j_isr_vc h0 rfl)) (Eq.trans (s_iconst r120_315) (s_put r120_316 (j_al1 h0 rfl) rfl j_putI))
theorem b120_319 {b : Nat} {x0 : Value} {H : j_H} {Q : Option Value → j_H → Prop} (h0 : j_vc H x0 = 12) : j_wp b 120 319 [x0] [] H Q = j_wp b 120 327 [x0] [] (j_sR (j_nw H (.inr (0, j_ix (Int32.ofInt 12)))) (j_pa x0) 37 (some H.1.length)) Q := Eq.trans (s_aload_n r120_319 rfl (j_isr_vc h0 rfl)) (Eq.trans (s_bipush r120_320) (Eq.trans (s_newa r120_322 (by decide)) (s_put r120_324 (j_al1 (j_vcn h0) rfl) rfl (j_putR rfl))))
theorem b120_327 {b : Nat} {x0 : Value} {H : j_H} {Q : Option Value → j_H → Prop} (h0 : j_vc H x0 = 12) : j_wp b 120 327 [x0] [] H Q = j_wp b 120 332 [x0] [] (j_sI H (j_pa x0) 38 (Int32.ofInt 0)) Q := Eq.trans (s_aload_n r120_327 rfl (j_isr_vc h0 rfl)) (Eq.trans (s_iconst r120_328) (s_put r120_329 (j_al1 h0 rfl) rfl (j_putZ (j_b01 (z := 0) rfl (by decide)))))
theorem b120_332 {b : Nat} {x0 : Value} {H : j_H} {Q : Option Value → j_H → Prop} (h0 : j_vc H x0 = 12) : j_wp b 120 332 [x0] [] H Q = j_wp b 120 337 [x0] [] (j_sI H (j_pa x0) 39 (Int32.ofInt (-1))) Q := Eq.trans (s_aload_n r120_332 rfl (j_isr_vc h0 rfl)) (Eq.trans (s_iconst r120_333) (s_put r120_334 (j_al1 h0 rfl) rfl j_putI))
theorem b120_337 {b : Nat} {x0 : Value} {H : j_H} {Q : Option Value → j_H → Prop} (h0 : j_vc H x0 = 12) : j_wp b 120 337 [x0] [] H Q = j_wp b 120 342 [x0] [] (j_sI H (j_pa x0) 40 (Int32.ofInt 0)) Q := Eq.trans (s_aload_n r120_337 rfl (j_isr_vc h0 rfl)) (Eq.trans (s_iconst r120_338) (s_put r120_339 (j_al1 h0 rfl) rfl j_putI))
theorem b120_342 {b : Nat} {x0 : Value} {H : j_H} {Q : Option Value → j_H → Prop} (h0 : j_vc H x0 = 12) : j_wp b 120 342 [x0] [] H Q = j_wp b 120 347 [x0] [] (j_sI H (j_pa x0) 41 (Int32.ofInt 0)) Q := Eq.trans (s_aload_n r120_342 rfl (j_isr_vc h0 rfl)) (Eq.trans (s_iconst r120_343) (s_put r120_344 (j_al1 h0 rfl) rfl j_putI))
theorem b120_347 {b : Nat} {x0 : Value} {H : j_H} {Q : Option Value → j_H → Prop} (h0 : j_vc H x0 = 12) : j_wp b 120 347 [x0] [] H Q = j_wp b 120 352 [x0] [] (j_sI H (j_pa x0) 42 (Int32.ofInt 0)) Q := Eq.trans (s_aload_n r120_347 rfl (j_isr_vc h0 rfl)) (Eq.trans (s_iconst r120_348) (s_put r120_349 (j_al1 h0 rfl) rfl j_putI))
theorem b120_352 {b : Nat} {x0 : Value} {H : j_H} {Q : Option Value → j_H → Prop} (h0 : j_vc H x0 = 12) : j_wp b 120 352 [x0] [] H Q = j_wp b 120 357 [x0] [] (j_sI H (j_pa x0) 43 (Int32.ofInt 0)) Q := Eq.trans (s_aload_n r120_352 rfl (j_isr_vc h0 rfl)) (Eq.trans (s_iconst r120_353) (s_put r120_354 (j_al1 h0 rfl) rfl j_putI))
theorem b120_357 {b : Nat} {x0 : Value} {H : j_H} {Q : Option Value → j_H → Prop} (h0 : j_vc H x0 = 12) : j_wp b 120 357 [x0] [] H Q = j_wp b 120 362 [x0] [] (j_sI H (j_pa x0) 44 (Int32.ofInt 0)) Q := Eq.trans (s_aload_n r120_357 rfl (j_isr_vc h0 rfl)) (Eq.trans (s_iconst r120_358) (s_put r120_359 (j_al1 h0 rfl) rfl j_putI))
theorem b120_362 {b : Nat} {x0 : Value} {H : j_H} {Q : Option Value → j_H → Prop} (h0 : j_vc H x0 = 12) : j_wp b 120 362 [x0] [] H Q = j_wp b 120 367 [x0] [] (j_sI H (j_pa x0) 45 (Int32.ofInt 0)) Q := Eq.trans (s_aload_n r120_362 rfl (j_isr_vc h0 rfl)) (Eq.trans (s_iconst r120_363) (s_put r120_364 (j_al1 h0 rfl) rfl j_putI))
theorem b120_367 {b : Nat} {x0 : Value} {H : j_H} {Q : Option Value → j_H → Prop} (h0 : j_vc H x0 = 12) : j_wp b 120 367 [x0] [] H Q = j_wp b 120 375 [x0] [] (j_sR (j_nw H (.inr (0, j_ix (Int32.ofInt 7)))) (j_pa x0) 46 (some H.1.length)) Q := Eq.trans (s_aload_n r120_367 rfl (j_isr_vc h0 rfl)) (Eq.trans (s_bipush r120_368) (Eq.trans (s_newa r120_370 (by decide)) (s_put r120_372 (j_al1 (j_vcn h0) rfl) rfl (j_putR rfl))))
theorem b120_375 {b : Nat} {x0 : Value} {H : j_H} {Q : Option Value → j_H → Prop} (h0 : j_vc H x0 = 12) : j_wp b 120 375 [x0] [] H Q = j_wp b 120 383 [x0] [] (j_sR (j_nw H (.inr (0, j_ix (Int32.ofInt 7)))) (j_pa x0) 47 (some H.1.length)) Q := Eq.trans (s_aload_n r120_375 rfl (j_isr_vc h0 rfl)) (Eq.trans (s_bipush r120_376) (Eq.trans (s_newa r120_378 (by decide)) (s_put r120_380 (j_al1 (j_vcn h0) rfl) rfl (j_putR rfl))))
theorem b120_383 {b : Nat} {x0 : Value} {H : j_H} {Q : Option Value → j_H → Prop} (h0 : j_vc H x0 = 12) : j_wp b 120 383 [x0] [] H Q = j_wp b 120 391 [x0] [] (j_sR (j_nw H (.inr (0, j_ix (Int32.ofInt 7)))) (j_pa x0) 48 (some H.1.length)) Q := Eq.trans (s_aload_n r120_383 rfl (j_isr_vc h0 rfl)) (Eq.trans (s_bipush r120_384) (Eq.trans (s_newa r120_386 (by decide)) (s_put r120_388 (j_al1 (j_vcn h0) rfl) rfl (j_putR rfl))))
theorem b120_391 {b : Nat} {x0 : Value} {H : j_H} {Q : Option Value → j_H → Prop} (h0 : j_vc H x0 = 12) : j_wp b 120 391 [x0] [] H Q = j_wp b 120 399 [x0] [] (j_sR (j_nw H (.inr (0, j_ix (Int32.ofInt 56)))) (j_pa x0) 49 (some H.1.length)) Q := Eq.trans (s_aload_n r120_391 rfl (j_isr_vc h0 rfl)) (Eq.trans (s_bipush r120_392) (Eq.trans (s_newa r120_394 (by decide)) (s_put r120_396 (j_al1 (j_vcn h0) rfl) rfl (j_putR rfl))))
theorem b120_399 {b : Nat} {x0 : Value} {H : j_H} {Q : Option Value → j_H → Prop} (h0 : j_vc H x0 = 12) : j_wp b 120 399 [x0] [] H Q = j_wp b 120 407 [x0] [] (j_sR (j_nw H (.inr (0, j_ix (Int32.ofInt 12)))) (j_pa x0) 50 (some H.1.length)) Q := Eq.trans (s_aload_n r120_399 rfl (j_isr_vc h0 rfl)) (Eq.trans (s_bipush r120_400) (Eq.trans (s_newa r120_402 (by decide)) (s_put r120_404 (j_al1 (j_vcn h0) rfl) rfl (j_putR rfl))))
theorem b120_407 {b : Nat} {x0 : Value} {H : j_H} {Q : Option Value → j_H → Prop} (h0 : j_vc H x0 = 12) : j_wp b 120 407 [x0] [] H Q = j_wp b 120 415 [x0] [] (j_sR (j_nw H (.inr (0, j_ix (Int32.ofInt 12)))) (j_pa x0) 51 (some H.1.length)) Q := Eq.trans (s_aload_n r120_407 rfl (j_isr_vc h0 rfl)) (Eq.trans (s_bipush r120_408) (Eq.trans (s_newa r120_410 (by decide)) (s_put r120_412 (j_al1 (j_vcn h0) rfl) rfl (j_putR rfl))))
theorem b120_415 {b : Nat} {x0 : Value} {H : j_H} {Q : Option Value → j_H → Prop} (h0 : j_vc H x0 = 12) : j_wp b 120 415 [x0] [] H Q = j_wp b 120 420 [x0] [] (j_sI H (j_pa x0) 52 (Int32.ofInt 0)) Q := Eq.trans (s_aload_n r120_415 rfl (j_isr_vc h0 rfl)) (Eq.trans (s_iconst r120_416) (s_put r120_417 (j_al1 h0 rfl) rfl j_putI))
theorem b120_420 {b : Nat} {x0 : Value} {H : j_H} {Q : Option Value → j_H → Prop} (h0 : j_vc H x0 = 12) : j_wp b 120 420 [x0] [] H Q = j_wp b 120 428 [x0] [] (j_sR (j_nw H (.inr (0, j_ix (Int32.ofInt 20)))) (j_pa x0) 53 (some H.1.length)) Q := Eq.trans (s_aload_n r120_420 rfl (j_isr_vc h0 rfl)) (Eq.trans (s_bipush r120_421) (Eq.trans (s_newa r120_423 (by decide)) (s_put r120_425 (j_al1 (j_vcn h0) rfl) rfl (j_putR rfl))))
theorem b120_428 {b : Nat} {x0 : Value} {H : j_H} {Q : Option Value → j_H → Prop} (h0 : j_isr x0 = true) : j_wp b 120 428 [x0] [] H Q = j_wp b 120 437 [x0] [.ref H.1.length, x0] (j_sI (j_nw H (.inr (0, j_ix (Int32.ofInt 6)))) H.1.length (j_ix (Int32.ofInt 0)) (Int32.ofInt (-1))) Q := Eq.trans (s_aload_n r120_428 rfl h0) (Eq.trans (s_bipush r120_429) (Eq.trans (s_newa r120_431 (by decide)) (Eq.trans (s_dupa r120_433 (j_vt_lt (j_vtw _ _ _) rfl)) (Eq.trans (s_iconst r120_434) (Eq.trans (s_iconst r120_435) (s_iast r120_436 (j_vtw _ _ _) (j_ib_of (n := j_vl _ _) (z := 0) rfl (by decide) (by rw [j_vlw]; decide))))))))
theorem b120_437 {b : Nat} {x0 : Value} {y0 : Value} {y1 : Value} {H : j_H} {Q : Option Value → j_H → Prop} (h0 : j_vt H y0 = 0) (h1 : 1 < ((j_vl H y0 : Nat) : Int)) : j_wp b 120 437 [x0] [y0, y1] H Q = j_wp b 120 441 [x0] [y0, y1] (j_sI H (j_pa y0) (j_ix (Int32.ofInt 1)) (Int32.ofInt (-1))) Q := Eq.trans (s_dupa r120_437 (j_vt_lt h0 rfl)) (Eq.trans (s_iconst r120_438) (Eq.trans (s_iconst r120_439) (s_iast r120_440 h0 (j_ib_of (z := 1) rfl (by decide) h1))))
theorem b120_441 {b : Nat} {x0 : Value} {y0 : Value} {y1 : Value} {H : j_H} {Q : Option Value → j_H → Prop} (h0 : j_vt H y0 = 0) (h1 : 2 < ((j_vl H y0 : Nat) : Int)) : j_wp b 120 441 [x0] [y0, y1] H Q = j_wp b 120 445 [x0] [y0, y1] (j_sI H (j_pa y0) (j_ix (Int32.ofInt 2)) (Int32.ofInt (-1))) Q := Eq.trans (s_dupa r120_441 (j_vt_lt h0 rfl)) (Eq.trans (s_iconst r120_442) (Eq.trans (s_iconst r120_443) (s_iast r120_444 h0 (j_ib_of (z := 2) rfl (by decide) h1))))
theorem b120_445 {b : Nat} {x0 : Value} {y0 : Value} {y1 : Value} {H : j_H} {Q : Option Value → j_H → Prop} (h0 : j_vt H y0 = 0) (h1 : 3 < ((j_vl H y0 : Nat) : Int)) : j_wp b 120 445 [x0] [y0, y1] H Q = j_wp b 120 449 [x0] [y0, y1] (j_sI H (j_pa y0) (j_ix (Int32.ofInt 3)) (Int32.ofInt (-1))) Q := Eq.trans (s_dupa r120_445 (j_vt_lt h0 rfl)) (Eq.trans (s_iconst r120_446) (Eq.trans (s_iconst r120_447) (s_iast r120_448 h0 (j_ib_of (z := 3) rfl (by decide) h1))))
theorem b120_449 {b : Nat} {x0 : Value} {y0 : Value} {y1 : Value} {H : j_H} {Q : Option Value → j_H → Prop} (h0 : j_vt H y0 = 0) (h1 : 4 < ((j_vl H y0 : Nat) : Int)) : j_wp b 120 449 [x0] [y0, y1] H Q = j_wp b 120 453 [x0] [y0, y1] (j_sI H (j_pa y0) (j_ix (Int32.ofInt 4)) (Int32.ofInt (-1))) Q := Eq.trans (s_dupa r120_449 (j_vt_lt h0 rfl)) (Eq.trans (s_iconst r120_450) (Eq.trans (s_iconst r120_451) (s_iast r120_452 h0 (j_ib_of (z := 4) rfl (by decide) h1))))
theorem b120_453 {b : Nat} {x0 : Value} {y0 : Value} {y1 : Value} {H : j_H} {Q : Option Value → j_H → Prop} (h0 : j_vt H y0 = 0) (h1 : 5 < ((j_vl H y0 : Nat) : Int)) : j_wp b 120 453 [x0] [y0, y1] H Q = j_wp b 120 457 [x0] [y0, y1] (j_sI H (j_pa y0) (j_ix (Int32.ofInt 5)) (Int32.ofInt (-1))) Q := Eq.trans (s_dupa r120_453 (j_vt_lt h0 rfl)) (Eq.trans (s_iconst r120_454) (Eq.trans (s_iconst r120_455) (s_iast r120_456 h0 (j_ib_of (z := 5) rfl (by decide) h1))))
theorem b120_457 {b : Nat} {x0 : Value} {y0 : Value} {y1 : Value} {H : j_H} {Q : Option Value → j_H → Prop} (h0 : j_vc H y1 = 12) (h1 : j_isr y0 = true) : j_wp b 120 457 [x0] [y0, y1] H Q = j_wp b 120 460 [x0] [] (j_sR H (j_pa y1) 54 (j_po y0)) Q := s_put r120_457 (j_al1 h0 rfl) rfl (j_putR h1)
theorem b120_460 {b : Nat} {x0 : Value} {H : j_H} {Q : Option Value → j_H → Prop} (h0 : j_vc H x0 = 12) : j_wp b 120 460 [x0] [] H Q = j_wp b 120 468 [x0] [] (j_sR (j_nw H (.inr (0, j_ix (Int32.ofInt 6)))) (j_pa x0) 55 (some H.1.length)) Q := Eq.trans (s_aload_n r120_460 rfl (j_isr_vc h0 rfl)) (Eq.trans (s_bipush r120_461) (Eq.trans (s_newa r120_463 (by decide)) (s_put r120_465 (j_al1 (j_vcn h0) rfl) rfl (j_putR rfl))))
theorem b120_468 {b : Nat} {x0 : Value} {H : j_H} {Q : Option Value → j_H → Prop} (h0 : j_vc H x0 = 12) : j_wp b 120 468 [x0] [] H Q = j_wp b 120 477 [x0] [] (j_sR (j_nw H (.inr (1, j_ix (Int32.ofInt 360)))) (j_pa x0) 56 (some H.1.length)) Q := Eq.trans (s_aload_n r120_468 rfl (j_isr_vc h0 rfl)) (Eq.trans (s_sipush r120_469) (Eq.trans (s_newa r120_472 (by decide)) (s_put r120_474 (j_al1 (j_vcn h0) rfl) rfl (j_putR rfl))))
theorem b120_477 {b : Nat} {x0 : Value} {H : j_H} {Q : Option Value → j_H → Prop} (h0 : j_vc H x0 = 12) : j_wp b 120 477 [x0] [] H Q = j_wp b 120 485 [x0] [] (j_sR (j_nw H (.inr (1, j_ix (Int32.ofInt 60)))) (j_pa x0) 57 (some H.1.length)) Q := Eq.trans (s_aload_n r120_477 rfl (j_isr_vc h0 rfl)) (Eq.trans (s_bipush r120_478) (Eq.trans (s_newa r120_480 (by decide)) (s_put r120_482 (j_al1 (j_vcn h0) rfl) rfl (j_putR rfl))))
theorem b120_485 {b : Nat} {x0 : Value} {H : j_H} {Q : Option Value → j_H → Prop}  : j_wp b 120 485 [x0] [] H Q = Q none H := s_return r120_485 rfl
-- X12_in
theorem r121_0 : j_at 121 0 = some (0, .iload_n 1, 1, []) := by decide +kernel
theorem r121_1 : j_at 121 1 = some (1, .iload_n 2, 1, []) := by decide +kernel
theorem r121_2 : j_at 121 2 = some (2, .if_icmp .lt 12, 3, []) := by decide +kernel
theorem r121_5 : j_at 121 5 = some (5, .iload_n 1, 1, []) := by decide +kernel
theorem r121_6 : j_at 121 6 = some (6, .iload_n 3, 1, []) := by decide +kernel
theorem r121_7 : j_at 121 7 = some (7, .if_icmp .gt 7, 3, []) := by decide +kernel
theorem r121_10 : j_at 121 10 = some (10, .iconst 1, 1, []) := by decide +kernel
theorem r121_11 : j_at 121 11 = some (11, .goto 4, 3, []) := by decide +kernel
theorem r121_14 : j_at 121 14 = some (14, .iconst 0, 1, []) := by decide +kernel
theorem r121_15 : j_at 121 15 = some (15, .ireturn, 1, []) := by decide +kernel
theorem b121_0 {b : Nat} {x0 : Value} {x1 : Int32} {x2 : Int32} {x3 : Int32} {H : j_H} {Q : Option Value → j_H → Prop}  : j_wp b 121 0 [x0, .int x1, .int x2, .int x3] [] H Q = (if x1.toInt < x2.toInt then j_wp b 121 14 [x0, .int x1, .int x2, .int x3] [] H Q else j_wp b 121 5 [x0, .int x1, .int x2, .int x3] [] H Q) := Eq.trans (s_iload_n r121_0 rfl) (Eq.trans (s_iload_n r121_1 rfl) (s_iclt r121_2 rfl rfl rfl))
theorem b121_5 {b : Nat} {x0 : Value} {x1 : Int32} {x2 : Int32} {x3 : Int32} {H : j_H} {Q : Option Value → j_H → Prop}  : j_wp b 121 5 [x0, .int x1, .int x2, .int x3] [] H Q = (if x3.toInt < x1.toInt then j_wp b 121 14 [x0, .int x1, .int x2, .int x3] [] H Q else j_wp b 121 10 [x0, .int x1, .int x2, .int x3] [] H Q) := Eq.trans (s_iload_n r121_5 rfl) (Eq.trans (s_iload_n r121_6 rfl) (s_icgt r121_7 rfl rfl rfl))
theorem b121_10 {b : Nat} {x0 : Value} {x1 : Int32} {x2 : Int32} {x3 : Int32} {H : j_H} {Q : Option Value → j_H → Prop}  : j_wp b 121 10 [x0, .int x1, .int x2, .int x3] [] H Q = j_wp b 121 15 [x0, .int x1, .int x2, .int x3] [.int (Int32.ofInt 1)] H Q := Eq.trans (s_iconst r121_10) (s_goto r121_11 rfl)
theorem b121_14 {b : Nat} {x0 : Value} {x1 : Int32} {x2 : Int32} {x3 : Int32} {H : j_H} {Q : Option Value → j_H → Prop}  : j_wp b 121 14 [x0, .int x1, .int x2, .int x3] [] H Q = j_wp b 121 15 [x0, .int x1, .int x2, .int x3] [.int (Int32.ofInt 0)] H Q := s_iconst r121_14
theorem b121_15 {b : Nat} {x0 : Value} {x1 : Int32} {x2 : Int32} {x3 : Int32} {y0 : Int32} {H : j_H} {Q : Option Value → j_H → Prop} (h0 : y0.toInt = 0 ∨ y0.toInt = 1) : j_wp b 121 15 [x0, .int x1, .int x2, .int x3] [.int y0] H Q = Q (some (.int y0)) H := s_ireturn r121_15 (j_rok4 (z := y0.toInt) rfl rfl h0)
-- X12_has
theorem r122_0 : j_at 122 0 = some (0, .iload_n 1, 1, []) := by decide +kernel
theorem r122_1 : j_at 122 1 = some (1, .iload_n 2, 1, []) := by decide +kernel
theorem r122_2 : j_at 122 2 = some (2, .ishr, 1, []) := by decide +kernel
theorem r122_3 : j_at 122 3 = some (3, .iconst 1, 1, []) := by decide +kernel
theorem r122_4 : j_at 122 4 = some (4, .iand, 1, []) := by decide +kernel
theorem r122_5 : j_at 122 5 = some (5, .iconst 1, 1, []) := by decide +kernel
theorem r122_6 : j_at 122 6 = some (6, .if_icmp .ne 7, 3, []) := by decide +kernel
theorem r122_9 : j_at 122 9 = some (9, .iconst 1, 1, []) := by decide +kernel
theorem r122_10 : j_at 122 10 = some (10, .goto 4, 3, []) := by decide +kernel
theorem r122_13 : j_at 122 13 = some (13, .iconst 0, 1, []) := by decide +kernel
theorem r122_14 : j_at 122 14 = some (14, .ireturn, 1, []) := by decide +kernel
theorem b122_0 {b : Nat} {x0 : Value} {x1 : Int32} {x2 : Int32} {H : j_H} {Q : Option Value → j_H → Prop}  : j_wp b 122 0 [x0, .int x1, .int x2] [] H Q = (if ¬ ((j_shr x1 x2) &&& (Int32.ofInt 1)).toInt = 1 then j_wp b 122 13 [x0, .int x1, .int x2] [] H Q else j_wp b 122 9 [x0, .int x1, .int x2] [] H Q) := Eq.trans (s_iload_n r122_0 rfl) (Eq.trans (s_iload_n r122_1 rfl) (Eq.trans (s_ishr r122_2) (Eq.trans (s_iconst r122_3) (Eq.trans (s_iand r122_4) (Eq.trans (s_iconst r122_5) (s_icne r122_6 rfl rfl rfl))))))
theorem b122_9 {b : Nat} {x0 : Value} {x1 : Int32} {x2 : Int32} {H : j_H} {Q : Option Value → j_H → Prop}  : j_wp b 122 9 [x0, .int x1, .int x2] [] H Q = j_wp b 122 14 [x0, .int x1, .int x2] [.int (Int32.ofInt 1)] H Q := Eq.trans (s_iconst r122_9) (s_goto r122_10 rfl)
theorem b122_13 {b : Nat} {x0 : Value} {x1 : Int32} {x2 : Int32} {H : j_H} {Q : Option Value → j_H → Prop}  : j_wp b 122 13 [x0, .int x1, .int x2] [] H Q = j_wp b 122 14 [x0, .int x1, .int x2] [.int (Int32.ofInt 0)] H Q := s_iconst r122_13
theorem b122_14 {b : Nat} {x0 : Value} {x1 : Int32} {x2 : Int32} {y0 : Int32} {H : j_H} {Q : Option Value → j_H → Prop} (h0 : y0.toInt = 0 ∨ y0.toInt = 1) : j_wp b 122 14 [x0, .int x1, .int x2] [.int y0] H Q = Q (some (.int y0)) H := s_ireturn r122_14 (j_rok4 (z := y0.toInt) rfl rfl h0)
-- X12_ones
theorem r123_0 : j_at 123 0 = some (0, .iconst 0, 1, []) := by decide +kernel
theorem r123_1 : j_at 123 1 = some (1, .istore_n 2, 1, []) := by decide +kernel
theorem r123_2 : j_at 123 2 = some (2, .iload_n 1, 1, []) := by decide +kernel
theorem r123_3 : j_at 123 3 = some (3, .istore_n 3, 1, []) := by decide +kernel
theorem r123_4 : j_at 123 4 = some (4, .iload_n 3, 1, []) := by decide +kernel
theorem r123_5 : j_at 123 5 = some (5, .ifCond .eq 15, 3, []) := by decide +kernel
theorem r123_8 : j_at 123 8 = some (8, .iinc 2 1, 3, []) := by decide +kernel
theorem r123_11 : j_at 123 11 = some (11, .iload_n 3, 1, []) := by decide +kernel
theorem r123_12 : j_at 123 12 = some (12, .iload_n 3, 1, []) := by decide +kernel
theorem r123_13 : j_at 123 13 = some (13, .iconst 1, 1, []) := by decide +kernel
theorem r123_14 : j_at 123 14 = some (14, .isub, 1, []) := by decide +kernel
theorem r123_15 : j_at 123 15 = some (15, .iand, 1, []) := by decide +kernel
theorem r123_16 : j_at 123 16 = some (16, .istore_n 3, 1, []) := by decide +kernel
theorem r123_17 : j_at 123 17 = some (17, .goto (-13), 3, []) := by decide +kernel
theorem r123_20 : j_at 123 20 = some (20, .iload_n 2, 1, []) := by decide +kernel
theorem r123_21 : j_at 123 21 = some (21, .ireturn, 1, []) := by decide +kernel
theorem b123_0 {b : Nat} {x0 : Value} {x1 : Int32} {u2 : Value} {u3 : Value} {H : j_H} {Q : Option Value → j_H → Prop}  : j_wp b 123 0 [x0, .int x1, u2, u3] [] H Q = j_wp b 123 4 [x0, .int x1, .int (Int32.ofInt 0), .int x1] [] H Q := Eq.trans (s_iconst r123_0) (Eq.trans (s_istore_n r123_1 (Nat.le_of_ble_eq_true rfl) rfl) (Eq.trans (s_iload_n r123_2 rfl) (s_istore_n r123_3 (Nat.le_of_ble_eq_true rfl) rfl)))
theorem b123_4 {b : Nat} {x0 : Value} {x1 : Int32} {x2 : Int32} {x3 : Int32} {H : j_H} {Q : Option Value → j_H → Prop}  : j_wp b 123 4 [x0, .int x1, .int x2, .int x3] [] H Q = (if x3.toInt = 0 then j_wp b 123 20 [x0, .int x1, .int x2, .int x3] [] H Q else j_wp b 123 8 [x0, .int x1, .int x2, .int x3] [] H Q) := Eq.trans (s_iload_n r123_4 rfl) (s_ifeq r123_5 rfl rfl)
theorem b123_8 {b : Nat} {x0 : Value} {x1 : Int32} {x2 : Int32} {x3 : Int32} {H : j_H} {Q : Option Value → j_H → Prop}  : j_wp b 123 8 [x0, .int x1, .int x2, .int x3] [] H Q = j_wp b 123 4 [x0, .int x1, .int (x2 + Int32.ofInt 1), .int (x3 &&& (x3 - (Int32.ofInt 1)))] [] H Q := Eq.trans (s_iinc r123_8 rfl rfl) (Eq.trans (s_iload_n r123_11 rfl) (Eq.trans (s_iload_n r123_12 rfl) (Eq.trans (s_iconst r123_13) (Eq.trans (s_isub r123_14) (Eq.trans (s_iand r123_15) (Eq.trans (s_istore_n r123_16 (Nat.le_of_ble_eq_true rfl) rfl) (s_goto r123_17 rfl)))))))
theorem b123_20 {b : Nat} {x0 : Value} {x1 : Int32} {x2 : Int32} {x3 : Int32} {H : j_H} {Q : Option Value → j_H → Prop}  : j_wp b 123 20 [x0, .int x1, .int x2, .int x3] [] H Q = Q (some (.int x2)) H := Eq.trans (s_iload_n r123_20 rfl) (s_ireturn r123_21 (j_rok1 rfl))
-- X12_isGuest
theorem r124_0 : j_at 124 0 = some (0, .aload_n 0, 1, []) := by decide +kernel
theorem r124_1 : j_at 124 1 = some (1, .iload_n 1, 1, []) := by decide +kernel
theorem r124_2 : j_at 124 2 = some (2, .iconst 0, 1, []) := by decide +kernel
theorem r124_3 : j_at 124 3 = some (3, .aload_n 0, 1, []) := by decide +kernel
theorem r124_4 : j_at 124 4 = some (4, .getfield 7, 3, [704, 12, 0, 0, 0, 12]) := by decide +kernel
theorem r124_7 : j_at 124 7 = some (7, .iconst 1, 1, []) := by decide +kernel
theorem r124_8 : j_at 124 8 = some (8, .isub, 1, []) := by decide +kernel
theorem r124_9 : j_at 124 9 = some (9, .invokevirtual 189, 3, [2, 4, 121, 825, 826, 26, 77, 0, 12]) := by decide +kernel
theorem r124_12 : j_at 124 12 = some (12, .ireturn, 1, []) := by decide +kernel
theorem b124_0 {b : Nat} {x0 : Value} {x1 : Int32} {H : j_H} {Q : Option Value → j_H → Prop} (h0 : j_vc H x0 = 12) : j_wp (b + 1) 124 0 [x0, .int x1] [] H Q = j_wp b 121 0 [x0, .int x1, .int (Int32.ofInt 0), .int ((j_I H (j_pa x0) 0) - (Int32.ofInt 1))] [] H (j_k (b + 1) 124 12 [x0, .int x1] [] Q) := Eq.trans (s_aload_n r124_0 rfl (j_isr_vc h0 rfl)) (Eq.trans (s_iload_n r124_1 rfl) (Eq.trans (s_iconst r124_2) (Eq.trans (s_aload_n r124_3 rfl (j_isr_vc h0 rfl)) (Eq.trans (s_getfi r124_4 (j_al1 h0 rfl) rfl rfl rfl) (Eq.trans (s_iconst r124_7) (Eq.trans (s_isub r124_8) (j_cll (as := [x0, .int x1, .int (Int32.ofInt 0), .int ((j_I H (j_pa x0) 0) - (Int32.ofInt 1))]) (es := [x0, .int x1, .int (Int32.ofInt 0), .int ((j_I H (j_pa x0) 0) - (Int32.ofInt 1))]) (s_c2 r124_9 rfl h0 rfl rfl (j_dok (s := [.int ((j_I H (j_pa x0) 0) - (Int32.ofInt 1)), .int (Int32.ofInt 0), .int x1, x0]) (as := [x0, .int x1, .int (Int32.ofInt 0), .int ((j_I H (j_pa x0) 0) - (Int32.ofInt 1))]) (rest := []) (es := [x0, .int x1, .int (Int32.ofInt 0), .int ((j_I H (j_pa x0) 0) - (Int32.ofInt 1))]) rfl rfl rfl rfl (j_slc (j_c1r (j_isr_vc h0 rfl)) rfl) rfl)) (j_slc (j_c1r (j_isr_vc h0 rfl)) rfl) rfl)))))))
theorem b124_12 {b : Nat} {x0 : Value} {x1 : Int32} {y0 : Int32} {H : j_H} {Q : Option Value → j_H → Prop} (h0 : y0.toInt = 0 ∨ y0.toInt = 1) : j_wp b 124 12 [x0, .int x1] [.int y0] H Q = Q (some (.int y0)) H := s_ireturn r124_12 (j_rok4 (z := y0.toInt) rfl rfl h0)
-- X12_guest
theorem r125_0 : j_at 125 0 = some (0, .aload_n 0, 1, []) := by decide +kernel
theorem r125_1 : j_at 125 1 = some (1, .iload_n 1, 1, []) := by decide +kernel
theorem r125_2 : j_at 125 2 = some (2, .iconst 0, 1, []) := by decide +kernel
theorem r125_3 : j_at 125 3 = some (3, .bipush 6, 2, []) := by decide +kernel
theorem r125_5 : j_at 125 5 = some (5, .invokevirtual 189, 3, [2, 4, 121, 825, 826, 26, 77, 0, 12]) := by decide +kernel
theorem r125_8 : j_at 125 8 = some (8, .ifCond .ne 5, 3, []) := by decide +kernel
theorem r125_11 : j_at 125 11 = some (11, .iconst (-1), 1, []) := by decide +kernel
theorem r125_12 : j_at 125 12 = some (12, .ireturn, 1, []) := by decide +kernel
theorem r125_13 : j_at 125 13 = some (13, .aload_n 0, 1, []) := by decide +kernel
theorem r125_14 : j_at 125 14 = some (14, .iload_n 2, 1, []) := by decide +kernel
theorem r125_15 : j_at 125 15 = some (15, .iconst 0, 1, []) := by decide +kernel
theorem r125_16 : j_at 125 16 = some (16, .bipush 9, 2, []) := by decide +kernel
theorem r125_18 : j_at 125 18 = some (18, .invokevirtual 189, 3, [2, 4, 121, 825, 826, 26, 77, 0, 12]) := by decide +kernel
theorem r125_21 : j_at 125 21 = some (21, .ifCond .eq 15, 3, []) := by decide +kernel
theorem r125_24 : j_at 125 24 = some (24, .aload_n 0, 1, []) := by decide +kernel
theorem r125_25 : j_at 125 25 = some (25, .iload_n 3, 1, []) := by decide +kernel
theorem r125_26 : j_at 125 26 = some (26, .iconst 0, 1, []) := by decide +kernel
theorem r125_27 : j_at 125 27 = some (27, .sipush 255, 3, []) := by decide +kernel
theorem r125_30 : j_at 125 30 = some (30, .invokevirtual 189, 3, [2, 4, 121, 825, 826, 26, 77, 0, 12]) := by decide +kernel
theorem r125_33 : j_at 125 33 = some (33, .ifCond .ne 6, 3, []) := by decide +kernel
theorem r125_36 : j_at 125 36 = some (36, .bipush (-2), 2, []) := by decide +kernel
theorem r125_38 : j_at 125 38 = some (38, .ireturn, 1, []) := by decide +kernel
theorem r125_39 : j_at 125 39 = some (39, .aload_n 0, 1, []) := by decide +kernel
theorem r125_40 : j_at 125 40 = some (40, .getfield 7, 3, [704, 12, 0, 0, 0, 12]) := by decide +kernel
theorem r125_43 : j_at 125 43 = some (43, .bipush 7, 2, []) := by decide +kernel
theorem r125_45 : j_at 125 45 = some (45, .if_icmp .ne 6, 3, []) := by decide +kernel
theorem r125_48 : j_at 125 48 = some (48, .bipush (-4), 2, []) := by decide +kernel
theorem r125_50 : j_at 125 50 = some (50, .ireturn, 1, []) := by decide +kernel
theorem r125_51 : j_at 125 51 = some (51, .aload_n 0, 1, []) := by decide +kernel
theorem r125_52 : j_at 125 52 = some (52, .getfield 22, 3, [708, 12, 2, 4, 0, 12]) := by decide +kernel
theorem r125_55 : j_at 125 55 = some (55, .aload_n 0, 1, []) := by decide +kernel
theorem r125_56 : j_at 125 56 = some (56, .getfield 7, 3, [704, 12, 0, 0, 0, 12]) := by decide +kernel
theorem r125_59 : j_at 125 59 = some (59, .iload_n 1, 1, []) := by decide +kernel
theorem r125_60 : j_at 125 60 = some (60, .iastore, 1, []) := by decide +kernel
theorem r125_61 : j_at 125 61 = some (61, .aload_n 0, 1, []) := by decide +kernel
theorem r125_62 : j_at 125 62 = some (62, .getfield 26, 3, [709, 12, 2, 5, 0, 12]) := by decide +kernel
theorem r125_65 : j_at 125 65 = some (65, .aload_n 0, 1, []) := by decide +kernel
theorem r125_66 : j_at 125 66 = some (66, .getfield 7, 3, [704, 12, 0, 0, 0, 12]) := by decide +kernel
theorem r125_69 : j_at 125 69 = some (69, .iload_n 2, 1, []) := by decide +kernel
theorem r125_70 : j_at 125 70 = some (70, .iastore, 1, []) := by decide +kernel
theorem r125_71 : j_at 125 71 = some (71, .aload_n 0, 1, []) := by decide +kernel
theorem r125_72 : j_at 125 72 = some (72, .getfield 29, 3, [710, 12, 2, 6, 0, 12]) := by decide +kernel
theorem r125_75 : j_at 125 75 = some (75, .aload_n 0, 1, []) := by decide +kernel
theorem r125_76 : j_at 125 76 = some (76, .getfield 7, 3, [704, 12, 0, 0, 0, 12]) := by decide +kernel
theorem r125_79 : j_at 125 79 = some (79, .iload_n 3, 1, []) := by decide +kernel
theorem r125_80 : j_at 125 80 = some (80, .iastore, 1, []) := by decide +kernel
theorem r125_81 : j_at 125 81 = some (81, .iconst 0, 1, []) := by decide +kernel
theorem r125_82 : j_at 125 82 = some (82, .istore 4, 2, []) := by decide +kernel
theorem r125_84 : j_at 125 84 = some (84, .iload 4, 2, []) := by decide +kernel
theorem r125_86 : j_at 125 86 = some (86, .bipush 8, 2, []) := by decide +kernel
theorem r125_88 : j_at 125 88 = some (88, .if_icmp .ge 25, 3, []) := by decide +kernel
theorem r125_91 : j_at 125 91 = some (91, .aload_n 0, 1, []) := by decide +kernel
theorem r125_92 : j_at 125 92 = some (92, .getfield 32, 3, [711, 12, 2, 7, 0, 12]) := by decide +kernel
theorem r125_95 : j_at 125 95 = some (95, .bipush 8, 2, []) := by decide +kernel
theorem r125_97 : j_at 125 97 = some (97, .aload_n 0, 1, []) := by decide +kernel
theorem r125_98 : j_at 125 98 = some (98, .getfield 7, 3, [704, 12, 0, 0, 0, 12]) := by decide +kernel
theorem r125_101 : j_at 125 101 = some (101, .imul, 1, []) := by decide +kernel
theorem r125_102 : j_at 125 102 = some (102, .iload 4, 2, []) := by decide +kernel
theorem r125_104 : j_at 125 104 = some (104, .iadd, 1, []) := by decide +kernel
theorem r125_105 : j_at 125 105 = some (105, .iconst 0, 1, []) := by decide +kernel
theorem r125_106 : j_at 125 106 = some (106, .iastore, 1, []) := by decide +kernel
theorem r125_107 : j_at 125 107 = some (107, .iinc 4 1, 3, []) := by decide +kernel
theorem r125_110 : j_at 125 110 = some (110, .goto (-26), 3, []) := by decide +kernel
theorem r125_113 : j_at 125 113 = some (113, .aload_n 0, 1, []) := by decide +kernel
theorem r125_114 : j_at 125 114 = some (114, .dup, 1, []) := by decide +kernel
theorem r125_115 : j_at 125 115 = some (115, .getfield 7, 3, [704, 12, 0, 0, 0, 12]) := by decide +kernel
theorem r125_118 : j_at 125 118 = some (118, .iconst 1, 1, []) := by decide +kernel
theorem r125_119 : j_at 125 119 = some (119, .iadd, 1, []) := by decide +kernel
theorem r125_120 : j_at 125 120 = some (120, .putfield 7, 3, [704, 12, 0, 0, 0, 0, 12]) := by decide +kernel
theorem r125_123 : j_at 125 123 = some (123, .aload_n 0, 1, []) := by decide +kernel
theorem r125_124 : j_at 125 124 = some (124, .getfield 7, 3, [704, 12, 0, 0, 0, 12]) := by decide +kernel
theorem r125_127 : j_at 125 127 = some (127, .iconst 1, 1, []) := by decide +kernel
theorem r125_128 : j_at 125 128 = some (128, .isub, 1, []) := by decide +kernel
theorem r125_129 : j_at 125 129 = some (129, .ireturn, 1, []) := by decide +kernel
theorem b125_0 {b : Nat} {x0 : Value} {x1 : Int32} {x2 : Int32} {x3 : Int32} {u4 : Value} {H : j_H} {Q : Option Value → j_H → Prop} (h0 : j_vc H x0 = 12) : j_wp (b + 1) 125 0 [x0, .int x1, .int x2, .int x3, u4] [] H Q = j_wp b 121 0 [x0, .int x1, .int (Int32.ofInt 0), .int (Int32.ofInt 6)] [] H (j_k (b + 1) 125 8 [x0, .int x1, .int x2, .int x3, u4] [] Q) := Eq.trans (s_aload_n r125_0 rfl (j_isr_vc h0 rfl)) (Eq.trans (s_iload_n r125_1 rfl) (Eq.trans (s_iconst r125_2) (Eq.trans (s_bipush r125_3) (j_cll (as := [x0, .int x1, .int (Int32.ofInt 0), .int (Int32.ofInt 6)]) (es := [x0, .int x1, .int (Int32.ofInt 0), .int (Int32.ofInt 6)]) (s_c2 r125_5 rfl h0 rfl rfl (j_dok (s := [.int (Int32.ofInt 6), .int (Int32.ofInt 0), .int x1, x0]) (as := [x0, .int x1, .int (Int32.ofInt 0), .int (Int32.ofInt 6)]) (rest := []) (es := [x0, .int x1, .int (Int32.ofInt 0), .int (Int32.ofInt 6)]) rfl rfl rfl rfl (j_slc (j_c1r (j_isr_vc h0 rfl)) rfl) rfl)) (j_slc (j_c1r (j_isr_vc h0 rfl)) rfl) rfl))))
theorem b125_8 {b : Nat} {x0 : Value} {x1 : Int32} {x2 : Int32} {x3 : Int32} {u4 : Value} {y0 : Int32} {H : j_H} {Q : Option Value → j_H → Prop}  : j_wp b 125 8 [x0, .int x1, .int x2, .int x3, u4] [.int y0] H Q = (if ¬ y0.toInt = 0 then j_wp b 125 13 [x0, .int x1, .int x2, .int x3, u4] [] H Q else j_wp b 125 11 [x0, .int x1, .int x2, .int x3, u4] [] H Q) := s_ifne r125_8 rfl rfl
theorem b125_11 {b : Nat} {x0 : Value} {x1 : Int32} {x2 : Int32} {x3 : Int32} {u4 : Value} {H : j_H} {Q : Option Value → j_H → Prop}  : j_wp b 125 11 [x0, .int x1, .int x2, .int x3, u4] [] H Q = Q (some (.int (Int32.ofInt (-1)))) H := Eq.trans (s_iconst r125_11) (s_ireturn r125_12 (j_rok1 rfl))
theorem b125_13 {b : Nat} {x0 : Value} {x1 : Int32} {x2 : Int32} {x3 : Int32} {u4 : Value} {H : j_H} {Q : Option Value → j_H → Prop} (h0 : j_vc H x0 = 12) : j_wp (b + 1) 125 13 [x0, .int x1, .int x2, .int x3, u4] [] H Q = j_wp b 121 0 [x0, .int x2, .int (Int32.ofInt 0), .int (Int32.ofInt 9)] [] H (j_k (b + 1) 125 21 [x0, .int x1, .int x2, .int x3, u4] [] Q) := Eq.trans (s_aload_n r125_13 rfl (j_isr_vc h0 rfl)) (Eq.trans (s_iload_n r125_14 rfl) (Eq.trans (s_iconst r125_15) (Eq.trans (s_bipush r125_16) (j_cll (as := [x0, .int x2, .int (Int32.ofInt 0), .int (Int32.ofInt 9)]) (es := [x0, .int x2, .int (Int32.ofInt 0), .int (Int32.ofInt 9)]) (s_c2 r125_18 rfl h0 rfl rfl (j_dok (s := [.int (Int32.ofInt 9), .int (Int32.ofInt 0), .int x2, x0]) (as := [x0, .int x2, .int (Int32.ofInt 0), .int (Int32.ofInt 9)]) (rest := []) (es := [x0, .int x2, .int (Int32.ofInt 0), .int (Int32.ofInt 9)]) rfl rfl rfl rfl (j_slc (j_c1r (j_isr_vc h0 rfl)) rfl) rfl)) (j_slc (j_c1r (j_isr_vc h0 rfl)) rfl) rfl))))
theorem b125_21 {b : Nat} {x0 : Value} {x1 : Int32} {x2 : Int32} {x3 : Int32} {u4 : Value} {y0 : Int32} {H : j_H} {Q : Option Value → j_H → Prop}  : j_wp b 125 21 [x0, .int x1, .int x2, .int x3, u4] [.int y0] H Q = (if y0.toInt = 0 then j_wp b 125 36 [x0, .int x1, .int x2, .int x3, u4] [] H Q else j_wp b 125 24 [x0, .int x1, .int x2, .int x3, u4] [] H Q) := s_ifeq r125_21 rfl rfl
theorem b125_24 {b : Nat} {x0 : Value} {x1 : Int32} {x2 : Int32} {x3 : Int32} {u4 : Value} {H : j_H} {Q : Option Value → j_H → Prop} (h0 : j_vc H x0 = 12) : j_wp (b + 1) 125 24 [x0, .int x1, .int x2, .int x3, u4] [] H Q = j_wp b 121 0 [x0, .int x3, .int (Int32.ofInt 0), .int (Int32.ofInt 255)] [] H (j_k (b + 1) 125 33 [x0, .int x1, .int x2, .int x3, u4] [] Q) := Eq.trans (s_aload_n r125_24 rfl (j_isr_vc h0 rfl)) (Eq.trans (s_iload_n r125_25 rfl) (Eq.trans (s_iconst r125_26) (Eq.trans (s_sipush r125_27) (j_cll (as := [x0, .int x3, .int (Int32.ofInt 0), .int (Int32.ofInt 255)]) (es := [x0, .int x3, .int (Int32.ofInt 0), .int (Int32.ofInt 255)]) (s_c2 r125_30 rfl h0 rfl rfl (j_dok (s := [.int (Int32.ofInt 255), .int (Int32.ofInt 0), .int x3, x0]) (as := [x0, .int x3, .int (Int32.ofInt 0), .int (Int32.ofInt 255)]) (rest := []) (es := [x0, .int x3, .int (Int32.ofInt 0), .int (Int32.ofInt 255)]) rfl rfl rfl rfl (j_slc (j_c1r (j_isr_vc h0 rfl)) rfl) rfl)) (j_slc (j_c1r (j_isr_vc h0 rfl)) rfl) rfl))))
theorem b125_33 {b : Nat} {x0 : Value} {x1 : Int32} {x2 : Int32} {x3 : Int32} {u4 : Value} {y0 : Int32} {H : j_H} {Q : Option Value → j_H → Prop}  : j_wp b 125 33 [x0, .int x1, .int x2, .int x3, u4] [.int y0] H Q = (if ¬ y0.toInt = 0 then j_wp b 125 39 [x0, .int x1, .int x2, .int x3, u4] [] H Q else j_wp b 125 36 [x0, .int x1, .int x2, .int x3, u4] [] H Q) := s_ifne r125_33 rfl rfl
theorem b125_36 {b : Nat} {x0 : Value} {x1 : Int32} {x2 : Int32} {x3 : Int32} {u4 : Value} {H : j_H} {Q : Option Value → j_H → Prop}  : j_wp b 125 36 [x0, .int x1, .int x2, .int x3, u4] [] H Q = Q (some (.int (Int32.ofInt (-2)))) H := Eq.trans (s_bipush r125_36) (s_ireturn r125_38 (j_rok1 rfl))
theorem b125_39 {b : Nat} {x0 : Value} {x1 : Int32} {x2 : Int32} {x3 : Int32} {u4 : Value} {H : j_H} {Q : Option Value → j_H → Prop} (h0 : j_vc H x0 = 12) : j_wp b 125 39 [x0, .int x1, .int x2, .int x3, u4] [] H Q = (if ¬ (j_I H (j_pa x0) 0).toInt = 7 then j_wp b 125 51 [x0, .int x1, .int x2, .int x3, u4] [] H Q else j_wp b 125 48 [x0, .int x1, .int x2, .int x3, u4] [] H Q) := Eq.trans (s_aload_n r125_39 rfl (j_isr_vc h0 rfl)) (Eq.trans (s_getfi r125_40 (j_al1 h0 rfl) rfl rfl rfl) (Eq.trans (s_bipush r125_43) (s_icne r125_45 rfl rfl rfl)))
theorem b125_48 {b : Nat} {x0 : Value} {x1 : Int32} {x2 : Int32} {x3 : Int32} {u4 : Value} {H : j_H} {Q : Option Value → j_H → Prop}  : j_wp b 125 48 [x0, .int x1, .int x2, .int x3, u4] [] H Q = Q (some (.int (Int32.ofInt (-4)))) H := Eq.trans (s_bipush r125_48) (s_ireturn r125_50 (j_rok1 rfl))
theorem b125_51 {b : Nat} {x0 : Value} {x1 : Int32} {x2 : Int32} {x3 : Int32} {u4 : Value} {H : j_H} {Q : Option Value → j_H → Prop} (h0 : j_vc H x0 = 12) (h1 : j_vt H (va_rf (j_R H (j_pa x0) 4)) = 0) (h2 : 0 ≤ (j_I H (j_pa x0) 0).toInt) (h3 : (j_I H (j_pa x0) 0).toInt < ((j_vl H (va_rf (j_R H (j_pa x0) 4)) : Nat) : Int)) : j_wp b 125 51 [x0, .int x1, .int x2, .int x3, u4] [] H Q = j_wp b 125 61 [x0, .int x1, .int x2, .int x3, u4] [] (j_sI H (j_pa (va_rf (j_R H (j_pa x0) 4))) (j_ix (j_I H (j_pa x0) 0)) x1) Q := Eq.trans (s_aload_n r125_51 rfl (j_isr_vc h0 rfl)) (Eq.trans (s_getfr r125_52 (j_al1 h0 rfl) rfl) (Eq.trans (s_aload_n r125_55 rfl (j_isr_vc h0 rfl)) (Eq.trans (s_getfi r125_56 (j_al1 h0 rfl) rfl rfl rfl) (Eq.trans (s_iload_n r125_59 rfl) (s_iast r125_60 h1 (j_ib_of (z := (j_I H (j_pa x0) 0).toInt) rfl h2 h3))))))
theorem b125_61 {b : Nat} {x0 : Value} {x1 : Int32} {x2 : Int32} {x3 : Int32} {u4 : Value} {H : j_H} {Q : Option Value → j_H → Prop} (h0 : j_vc H x0 = 12) (h1 : j_vt H (va_rf (j_R H (j_pa x0) 5)) = 0) (h2 : 0 ≤ (j_I H (j_pa x0) 0).toInt) (h3 : (j_I H (j_pa x0) 0).toInt < ((j_vl H (va_rf (j_R H (j_pa x0) 5)) : Nat) : Int)) : j_wp b 125 61 [x0, .int x1, .int x2, .int x3, u4] [] H Q = j_wp b 125 71 [x0, .int x1, .int x2, .int x3, u4] [] (j_sI H (j_pa (va_rf (j_R H (j_pa x0) 5))) (j_ix (j_I H (j_pa x0) 0)) x2) Q := Eq.trans (s_aload_n r125_61 rfl (j_isr_vc h0 rfl)) (Eq.trans (s_getfr r125_62 (j_al1 h0 rfl) rfl) (Eq.trans (s_aload_n r125_65 rfl (j_isr_vc h0 rfl)) (Eq.trans (s_getfi r125_66 (j_al1 h0 rfl) rfl rfl rfl) (Eq.trans (s_iload_n r125_69 rfl) (s_iast r125_70 h1 (j_ib_of (z := (j_I H (j_pa x0) 0).toInt) rfl h2 h3))))))
theorem b125_71 {b : Nat} {x0 : Value} {x1 : Int32} {x2 : Int32} {x3 : Int32} {u4 : Value} {H : j_H} {Q : Option Value → j_H → Prop} (h0 : j_vc H x0 = 12) (h1 : j_vt H (va_rf (j_R H (j_pa x0) 6)) = 0) (h2 : 0 ≤ (j_I H (j_pa x0) 0).toInt) (h3 : (j_I H (j_pa x0) 0).toInt < ((j_vl H (va_rf (j_R H (j_pa x0) 6)) : Nat) : Int)) : j_wp b 125 71 [x0, .int x1, .int x2, .int x3, u4] [] H Q = j_wp b 125 81 [x0, .int x1, .int x2, .int x3, u4] [] (j_sI H (j_pa (va_rf (j_R H (j_pa x0) 6))) (j_ix (j_I H (j_pa x0) 0)) x3) Q := Eq.trans (s_aload_n r125_71 rfl (j_isr_vc h0 rfl)) (Eq.trans (s_getfr r125_72 (j_al1 h0 rfl) rfl) (Eq.trans (s_aload_n r125_75 rfl (j_isr_vc h0 rfl)) (Eq.trans (s_getfi r125_76 (j_al1 h0 rfl) rfl rfl rfl) (Eq.trans (s_iload_n r125_79 rfl) (s_iast r125_80 h1 (j_ib_of (z := (j_I H (j_pa x0) 0).toInt) rfl h2 h3))))))
theorem b125_81 {b : Nat} {x0 : Value} {x1 : Int32} {x2 : Int32} {x3 : Int32} {u4 : Value} {H : j_H} {Q : Option Value → j_H → Prop}  : j_wp b 125 81 [x0, .int x1, .int x2, .int x3, u4] [] H Q = j_wp b 125 84 [x0, .int x1, .int x2, .int x3, .int (Int32.ofInt 0)] [] H Q := Eq.trans (s_iconst r125_81) (s_istore r125_82 (Nat.le_of_ble_eq_true rfl) rfl)
theorem b125_84 {b : Nat} {x0 : Value} {x1 : Int32} {x2 : Int32} {x3 : Int32} {x4 : Int32} {H : j_H} {Q : Option Value → j_H → Prop}  : j_wp b 125 84 [x0, .int x1, .int x2, .int x3, .int x4] [] H Q = (if 8 ≤ x4.toInt then j_wp b 125 113 [x0, .int x1, .int x2, .int x3, .int x4] [] H Q else j_wp b 125 91 [x0, .int x1, .int x2, .int x3, .int x4] [] H Q) := Eq.trans (s_iload r125_84 rfl) (Eq.trans (s_bipush r125_86) (s_icge r125_88 rfl rfl rfl))
theorem b125_91 {b : Nat} {x0 : Value} {x1 : Int32} {x2 : Int32} {x3 : Int32} {x4 : Int32} {H : j_H} {Q : Option Value → j_H → Prop} (h0 : j_vc H x0 = 12) (h1 : j_vt H (va_rf (j_R H (j_pa x0) 7)) = 0) (h2 : 0 ≤ (((Int32.ofInt 8) * (j_I H (j_pa x0) 0)) + x4).toInt) (h3 : (((Int32.ofInt 8) * (j_I H (j_pa x0) 0)) + x4).toInt < ((j_vl H (va_rf (j_R H (j_pa x0) 7)) : Nat) : Int)) : j_wp b 125 91 [x0, .int x1, .int x2, .int x3, .int x4] [] H Q = j_wp b 125 107 [x0, .int x1, .int x2, .int x3, .int x4] [] (j_sI H (j_pa (va_rf (j_R H (j_pa x0) 7))) (j_ix (((Int32.ofInt 8) * (j_I H (j_pa x0) 0)) + x4)) (Int32.ofInt 0)) Q := Eq.trans (s_aload_n r125_91 rfl (j_isr_vc h0 rfl)) (Eq.trans (s_getfr r125_92 (j_al1 h0 rfl) rfl) (Eq.trans (s_bipush r125_95) (Eq.trans (s_aload_n r125_97 rfl (j_isr_vc h0 rfl)) (Eq.trans (s_getfi r125_98 (j_al1 h0 rfl) rfl rfl rfl) (Eq.trans (s_imul r125_101) (Eq.trans (s_iload r125_102 rfl) (Eq.trans (s_iadd r125_104) (Eq.trans (s_iconst r125_105) (s_iast r125_106 h1 (j_ib_of (z := (((Int32.ofInt 8) * (j_I H (j_pa x0) 0)) + x4).toInt) rfl h2 h3))))))))))
theorem b125_107 {b : Nat} {x0 : Value} {x1 : Int32} {x2 : Int32} {x3 : Int32} {x4 : Int32} {H : j_H} {Q : Option Value → j_H → Prop}  : j_wp b 125 107 [x0, .int x1, .int x2, .int x3, .int x4] [] H Q = j_wp b 125 84 [x0, .int x1, .int x2, .int x3, .int (x4 + Int32.ofInt 1)] [] H Q := Eq.trans (s_iinc r125_107 rfl rfl) (s_goto r125_110 rfl)
theorem b125_113 {b : Nat} {x0 : Value} {x1 : Int32} {x2 : Int32} {x3 : Int32} {x4 : Int32} {H : j_H} {Q : Option Value → j_H → Prop} (h0 : j_vc H x0 = 12) : j_wp b 125 113 [x0, .int x1, .int x2, .int x3, .int x4] [] H Q = j_wp b 125 123 [x0, .int x1, .int x2, .int x3, .int x4] [] (j_sI H (j_pa x0) 0 ((j_I H (j_pa x0) 0) + (Int32.ofInt 1))) Q := Eq.trans (s_aload_n r125_113 rfl (j_isr_vc h0 rfl)) (Eq.trans (s_dup r125_114 (j_vc_lt h0 rfl)) (Eq.trans (s_getfi r125_115 (j_al1 h0 rfl) rfl rfl rfl) (Eq.trans (s_iconst r125_118) (Eq.trans (s_iadd r125_119) (s_put r125_120 (j_al1 h0 rfl) rfl j_putI)))))
theorem b125_123 {b : Nat} {x0 : Value} {x1 : Int32} {x2 : Int32} {x3 : Int32} {x4 : Int32} {H : j_H} {Q : Option Value → j_H → Prop} (h0 : j_vc H x0 = 12) : j_wp b 125 123 [x0, .int x1, .int x2, .int x3, .int x4] [] H Q = Q (some (.int ((j_I H (j_pa x0) 0) - (Int32.ofInt 1)))) H := Eq.trans (s_aload_n r125_123 rfl (j_isr_vc h0 rfl)) (Eq.trans (s_getfi r125_124 (j_al1 h0 rfl) rfl rfl rfl) (Eq.trans (s_iconst r125_127) (Eq.trans (s_isub r125_128) (s_ireturn r125_129 (j_rok1 rfl)))))
-- X12_fact
theorem r126_0 : j_at 126 0 = some (0, .aload_n 0, 1, []) := by decide +kernel
theorem r126_1 : j_at 126 1 = some (1, .iload_n 1, 1, []) := by decide +kernel
theorem r126_2 : j_at 126 2 = some (2, .iconst 0, 1, []) := by decide +kernel
theorem r126_3 : j_at 126 3 = some (3, .bipush 7, 2, []) := by decide +kernel
theorem r126_5 : j_at 126 5 = some (5, .invokevirtual 189, 3, [2, 4, 121, 825, 826, 26, 77, 0, 12]) := by decide +kernel
theorem r126_8 : j_at 126 8 = some (8, .ifCond .ne 5, 3, []) := by decide +kernel
theorem r126_11 : j_at 126 11 = some (11, .iconst (-1), 1, []) := by decide +kernel
theorem r126_12 : j_at 126 12 = some (12, .ireturn, 1, []) := by decide +kernel
theorem r126_13 : j_at 126 13 = some (13, .aload_n 0, 1, []) := by decide +kernel
theorem r126_14 : j_at 126 14 = some (14, .getfield 13, 3, [705, 12, 0, 1, 0, 12]) := by decide +kernel
theorem r126_17 : j_at 126 17 = some (17, .iload_n 1, 1, []) := by decide +kernel
theorem r126_18 : j_at 126 18 = some (18, .ishr, 1, []) := by decide +kernel
theorem r126_19 : j_at 126 19 = some (19, .iconst 1, 1, []) := by decide +kernel
theorem r126_20 : j_at 126 20 = some (20, .iand, 1, []) := by decide +kernel
theorem r126_21 : j_at 126 21 = some (21, .istore_n 3, 1, []) := by decide +kernel
theorem r126_22 : j_at 126 22 = some (22, .aload_n 0, 1, []) := by decide +kernel
theorem r126_23 : j_at 126 23 = some (23, .iload_n 2, 1, []) := by decide +kernel
theorem r126_24 : j_at 126 24 = some (24, .ifCond .eq 14, 3, []) := by decide +kernel
theorem r126_27 : j_at 126 27 = some (27, .aload_n 0, 1, []) := by decide +kernel
theorem r126_28 : j_at 126 28 = some (28, .getfield 13, 3, [705, 12, 0, 1, 0, 12]) := by decide +kernel
theorem r126_31 : j_at 126 31 = some (31, .iconst 1, 1, []) := by decide +kernel
theorem r126_32 : j_at 126 32 = some (32, .iload_n 1, 1, []) := by decide +kernel
theorem r126_33 : j_at 126 33 = some (33, .ishl, 1, []) := by decide +kernel
theorem r126_34 : j_at 126 34 = some (34, .ior, 1, []) := by decide +kernel
theorem r126_35 : j_at 126 35 = some (35, .goto 13, 3, []) := by decide +kernel
theorem r126_38 : j_at 126 38 = some (38, .aload_n 0, 1, []) := by decide +kernel
theorem r126_39 : j_at 126 39 = some (39, .getfield 13, 3, [705, 12, 0, 1, 0, 12]) := by decide +kernel
theorem r126_42 : j_at 126 42 = some (42, .iconst 1, 1, []) := by decide +kernel
theorem r126_43 : j_at 126 43 = some (43, .iload_n 1, 1, []) := by decide +kernel
theorem r126_44 : j_at 126 44 = some (44, .ishl, 1, []) := by decide +kernel
theorem r126_45 : j_at 126 45 = some (45, .iconst (-1), 1, []) := by decide +kernel
theorem r126_46 : j_at 126 46 = some (46, .ixor, 1, []) := by decide +kernel
theorem r126_47 : j_at 126 47 = some (47, .iand, 1, []) := by decide +kernel
theorem r126_48 : j_at 126 48 = some (48, .putfield 13, 3, [705, 12, 0, 1, 0, 0, 12]) := by decide +kernel
theorem r126_51 : j_at 126 51 = some (51, .iload_n 3, 1, []) := by decide +kernel
theorem r126_52 : j_at 126 52 = some (52, .ireturn, 1, []) := by decide +kernel
theorem b126_0 {b : Nat} {x0 : Value} {x1 : Int32} {x2 : Int32} {u3 : Value} {H : j_H} {Q : Option Value → j_H → Prop} (h0 : j_vc H x0 = 12) : j_wp (b + 1) 126 0 [x0, .int x1, .int x2, u3] [] H Q = j_wp b 121 0 [x0, .int x1, .int (Int32.ofInt 0), .int (Int32.ofInt 7)] [] H (j_k (b + 1) 126 8 [x0, .int x1, .int x2, u3] [] Q) := Eq.trans (s_aload_n r126_0 rfl (j_isr_vc h0 rfl)) (Eq.trans (s_iload_n r126_1 rfl) (Eq.trans (s_iconst r126_2) (Eq.trans (s_bipush r126_3) (j_cll (as := [x0, .int x1, .int (Int32.ofInt 0), .int (Int32.ofInt 7)]) (es := [x0, .int x1, .int (Int32.ofInt 0), .int (Int32.ofInt 7)]) (s_c2 r126_5 rfl h0 rfl rfl (j_dok (s := [.int (Int32.ofInt 7), .int (Int32.ofInt 0), .int x1, x0]) (as := [x0, .int x1, .int (Int32.ofInt 0), .int (Int32.ofInt 7)]) (rest := []) (es := [x0, .int x1, .int (Int32.ofInt 0), .int (Int32.ofInt 7)]) rfl rfl rfl rfl (j_slc (j_c1r (j_isr_vc h0 rfl)) rfl) rfl)) (j_slc (j_c1r (j_isr_vc h0 rfl)) rfl) rfl))))
theorem b126_8 {b : Nat} {x0 : Value} {x1 : Int32} {x2 : Int32} {u3 : Value} {y0 : Int32} {H : j_H} {Q : Option Value → j_H → Prop}  : j_wp b 126 8 [x0, .int x1, .int x2, u3] [.int y0] H Q = (if ¬ y0.toInt = 0 then j_wp b 126 13 [x0, .int x1, .int x2, u3] [] H Q else j_wp b 126 11 [x0, .int x1, .int x2, u3] [] H Q) := s_ifne r126_8 rfl rfl
theorem b126_11 {b : Nat} {x0 : Value} {x1 : Int32} {x2 : Int32} {u3 : Value} {H : j_H} {Q : Option Value → j_H → Prop}  : j_wp b 126 11 [x0, .int x1, .int x2, u3] [] H Q = Q (some (.int (Int32.ofInt (-1)))) H := Eq.trans (s_iconst r126_11) (s_ireturn r126_12 (j_rok1 rfl))
theorem b126_13 {b : Nat} {x0 : Value} {x1 : Int32} {x2 : Int32} {u3 : Value} {H : j_H} {Q : Option Value → j_H → Prop} (h0 : j_vc H x0 = 12) : j_wp b 126 13 [x0, .int x1, .int x2, u3] [] H Q = (if x2.toInt = 0 then j_wp b 126 38 [x0, .int x1, .int x2, .int ((j_shr (j_I H (j_pa x0) 1) x1) &&& (Int32.ofInt 1))] [x0] H Q else j_wp b 126 27 [x0, .int x1, .int x2, .int ((j_shr (j_I H (j_pa x0) 1) x1) &&& (Int32.ofInt 1))] [x0] H Q) := Eq.trans (s_aload_n r126_13 rfl (j_isr_vc h0 rfl)) (Eq.trans (s_getfi r126_14 (j_al1 h0 rfl) rfl rfl rfl) (Eq.trans (s_iload_n r126_17 rfl) (Eq.trans (s_ishr r126_18) (Eq.trans (s_iconst r126_19) (Eq.trans (s_iand r126_20) (Eq.trans (s_istore_n r126_21 (Nat.le_of_ble_eq_true rfl) rfl) (Eq.trans (s_aload_n r126_22 rfl (j_isr_vc h0 rfl)) (Eq.trans (s_iload_n r126_23 rfl) (s_ifeq r126_24 rfl rfl)))))))))
theorem b126_27 {b : Nat} {x0 : Value} {x1 : Int32} {x2 : Int32} {x3 : Int32} {y0 : Value} {H : j_H} {Q : Option Value → j_H → Prop} (h0 : j_vc H x0 = 12) : j_wp b 126 27 [x0, .int x1, .int x2, .int x3] [y0] H Q = j_wp b 126 48 [x0, .int x1, .int x2, .int x3] [.int ((j_I H (j_pa x0) 1) ||| (j_shl (Int32.ofInt 1) x1)), y0] H Q := Eq.trans (s_aload_n r126_27 rfl (j_isr_vc h0 rfl)) (Eq.trans (s_getfi r126_28 (j_al1 h0 rfl) rfl rfl rfl) (Eq.trans (s_iconst r126_31) (Eq.trans (s_iload_n r126_32 rfl) (Eq.trans (s_ishl r126_33) (Eq.trans (s_ior r126_34) (s_goto r126_35 rfl))))))
theorem b126_38 {b : Nat} {x0 : Value} {x1 : Int32} {x2 : Int32} {x3 : Int32} {y0 : Value} {H : j_H} {Q : Option Value → j_H → Prop} (h0 : j_vc H x0 = 12) : j_wp b 126 38 [x0, .int x1, .int x2, .int x3] [y0] H Q = j_wp b 126 48 [x0, .int x1, .int x2, .int x3] [.int ((j_I H (j_pa x0) 1) &&& ((j_shl (Int32.ofInt 1) x1) ^^^ (Int32.ofInt (-1)))), y0] H Q := Eq.trans (s_aload_n r126_38 rfl (j_isr_vc h0 rfl)) (Eq.trans (s_getfi r126_39 (j_al1 h0 rfl) rfl rfl rfl) (Eq.trans (s_iconst r126_42) (Eq.trans (s_iload_n r126_43 rfl) (Eq.trans (s_ishl r126_44) (Eq.trans (s_iconst r126_45) (Eq.trans (s_ixor r126_46) (s_iand r126_47)))))))
theorem b126_48 {b : Nat} {x0 : Value} {x1 : Int32} {x2 : Int32} {x3 : Int32} {y0 : Int32} {y1 : Value} {H : j_H} {Q : Option Value → j_H → Prop} (h0 : j_vc H y1 = 12) : j_wp b 126 48 [x0, .int x1, .int x2, .int x3] [.int y0, y1] H Q = j_wp b 126 51 [x0, .int x1, .int x2, .int x3] [] (j_sI H (j_pa y1) 1 y0) Q := s_put r126_48 (j_al1 h0 rfl) rfl j_putI
theorem b126_51 {b : Nat} {x0 : Value} {x1 : Int32} {x2 : Int32} {x3 : Int32} {H : j_H} {Q : Option Value → j_H → Prop}  : j_wp b 126 51 [x0, .int x1, .int x2, .int x3] [] H Q = Q (some (.int x3)) H := Eq.trans (s_iload_n r126_51 rfl) (s_ireturn r126_52 (j_rok1 rfl))
-- X12_hat
theorem r127_0 : j_at 127 0 = some (0, .aload_n 0, 1, []) := by decide +kernel
theorem r127_1 : j_at 127 1 = some (1, .iload_n 1, 1, []) := by decide +kernel
theorem r127_2 : j_at 127 2 = some (2, .invokevirtual 193, 3, [2, 2, 124, 833, 834, 27, 77, 0, 12]) := by decide +kernel
theorem r127_5 : j_at 127 5 = some (5, .ifCond .ne 5, 3, []) := by decide +kernel
theorem r127_8 : j_at 127 8 = some (8, .iconst (-1), 1, []) := by decide +kernel
theorem r127_9 : j_at 127 9 = some (9, .ireturn, 1, []) := by decide +kernel
theorem r127_10 : j_at 127 10 = some (10, .aload_n 0, 1, []) := by decide +kernel
theorem r127_11 : j_at 127 11 = some (11, .getfield 16, 3, [706, 12, 0, 2, 0, 12]) := by decide +kernel
theorem r127_14 : j_at 127 14 = some (14, .istore_n 2, 1, []) := by decide +kernel
theorem r127_15 : j_at 127 15 = some (15, .aload_n 0, 1, []) := by decide +kernel
theorem r127_16 : j_at 127 16 = some (16, .iload_n 1, 1, []) := by decide +kernel
theorem r127_17 : j_at 127 17 = some (17, .putfield 16, 3, [706, 12, 0, 2, 0, 0, 12]) := by decide +kernel
theorem r127_20 : j_at 127 20 = some (20, .iload_n 2, 1, []) := by decide +kernel
theorem r127_21 : j_at 127 21 = some (21, .ireturn, 1, []) := by decide +kernel
theorem b127_0 {b : Nat} {x0 : Value} {x1 : Int32} {u2 : Value} {H : j_H} {Q : Option Value → j_H → Prop} (h0 : j_vc H x0 = 12) : j_wp (b + 1) 127 0 [x0, .int x1, u2] [] H Q = j_wp b 124 0 [x0, .int x1] [] H (j_k (b + 1) 127 5 [x0, .int x1, u2] [] Q) := Eq.trans (s_aload_n r127_0 rfl (j_isr_vc h0 rfl)) (Eq.trans (s_iload_n r127_1 rfl) (j_cll (as := [x0, .int x1]) (es := [x0, .int x1]) (s_c2 r127_2 rfl h0 rfl rfl (j_dok (s := [.int x1, x0]) (as := [x0, .int x1]) (rest := []) (es := [x0, .int x1]) rfl rfl rfl rfl (j_slc (j_c1r (j_isr_vc h0 rfl)) rfl) rfl)) (j_slc (j_c1r (j_isr_vc h0 rfl)) rfl) rfl))
theorem b127_5 {b : Nat} {x0 : Value} {x1 : Int32} {u2 : Value} {y0 : Int32} {H : j_H} {Q : Option Value → j_H → Prop}  : j_wp b 127 5 [x0, .int x1, u2] [.int y0] H Q = (if ¬ y0.toInt = 0 then j_wp b 127 10 [x0, .int x1, u2] [] H Q else j_wp b 127 8 [x0, .int x1, u2] [] H Q) := s_ifne r127_5 rfl rfl
theorem b127_8 {b : Nat} {x0 : Value} {x1 : Int32} {u2 : Value} {H : j_H} {Q : Option Value → j_H → Prop}  : j_wp b 127 8 [x0, .int x1, u2] [] H Q = Q (some (.int (Int32.ofInt (-1)))) H := Eq.trans (s_iconst r127_8) (s_ireturn r127_9 (j_rok1 rfl))
theorem b127_10 {b : Nat} {x0 : Value} {x1 : Int32} {u2 : Value} {H : j_H} {Q : Option Value → j_H → Prop} (h0 : j_vc H x0 = 12) : j_wp b 127 10 [x0, .int x1, u2] [] H Q = j_wp b 127 20 [x0, .int x1, .int (j_I H (j_pa x0) 2)] [] (j_sI H (j_pa x0) 2 x1) Q := Eq.trans (s_aload_n r127_10 rfl (j_isr_vc h0 rfl)) (Eq.trans (s_getfi r127_11 (j_al1 h0 rfl) rfl rfl rfl) (Eq.trans (s_istore_n r127_14 (Nat.le_of_ble_eq_true rfl) rfl) (Eq.trans (s_aload_n r127_15 rfl (j_isr_vc h0 rfl)) (Eq.trans (s_iload_n r127_16 rfl) (s_put r127_17 (j_al1 h0 rfl) rfl j_putI)))))
theorem b127_20 {b : Nat} {x0 : Value} {x1 : Int32} {x2 : Int32} {H : j_H} {Q : Option Value → j_H → Prop}  : j_wp b 127 20 [x0, .int x1, .int x2] [] H Q = Q (some (.int x2)) H := Eq.trans (s_iload_n r127_20 rfl) (s_ireturn r127_21 (j_rok1 rfl))
-- X12_row
theorem r128_0 : j_at 128 0 = some (0, .aload_n 0, 1, []) := by decide +kernel
theorem r128_1 : j_at 128 1 = some (1, .iload_n 1, 1, []) := by decide +kernel
theorem r128_2 : j_at 128 2 = some (2, .invokevirtual 193, 3, [2, 2, 124, 833, 834, 27, 77, 0, 12]) := by decide +kernel
theorem r128_5 : j_at 128 5 = some (5, .ifCond .eq 14, 3, []) := by decide +kernel
theorem r128_8 : j_at 128 8 = some (8, .aload_n 0, 1, []) := by decide +kernel
theorem r128_9 : j_at 128 9 = some (9, .iload_n 2, 1, []) := by decide +kernel
theorem r128_10 : j_at 128 10 = some (10, .iconst 0, 1, []) := by decide +kernel
theorem r128_11 : j_at 128 11 = some (11, .bipush 7, 2, []) := by decide +kernel
theorem r128_13 : j_at 128 13 = some (13, .invokevirtual 189, 3, [2, 4, 121, 825, 826, 26, 77, 0, 12]) := by decide +kernel
theorem r128_16 : j_at 128 16 = some (16, .ifCond .ne 5, 3, []) := by decide +kernel
theorem r128_19 : j_at 128 19 = some (19, .iconst (-1), 1, []) := by decide +kernel
theorem r128_20 : j_at 128 20 = some (20, .ireturn, 1, []) := by decide +kernel
theorem r128_21 : j_at 128 21 = some (21, .aload_n 0, 1, []) := by decide +kernel
theorem r128_22 : j_at 128 22 = some (22, .iload_n 3, 1, []) := by decide +kernel
theorem r128_23 : j_at 128 23 = some (23, .iconst 0, 1, []) := by decide +kernel
theorem r128_24 : j_at 128 24 = some (24, .iconst 1, 1, []) := by decide +kernel
theorem r128_25 : j_at 128 25 = some (25, .invokevirtual 189, 3, [2, 4, 121, 825, 826, 26, 77, 0, 12]) := by decide +kernel
theorem r128_28 : j_at 128 28 = some (28, .ifCond .ne 6, 3, []) := by decide +kernel
theorem r128_31 : j_at 128 31 = some (31, .bipush (-2), 2, []) := by decide +kernel
theorem r128_33 : j_at 128 33 = some (33, .ireturn, 1, []) := by decide +kernel
theorem r128_34 : j_at 128 34 = some (34, .aload_n 0, 1, []) := by decide +kernel
theorem r128_35 : j_at 128 35 = some (35, .getfield 22, 3, [708, 12, 2, 4, 0, 12]) := by decide +kernel
theorem r128_38 : j_at 128 38 = some (38, .iload_n 1, 1, []) := by decide +kernel
theorem r128_39 : j_at 128 39 = some (39, .iaload, 1, []) := by decide +kernel
theorem r128_40 : j_at 128 40 = some (40, .bipush 6, 2, []) := by decide +kernel
theorem r128_42 : j_at 128 42 = some (42, .if_icmp .eq 6, 3, []) := by decide +kernel
theorem r128_45 : j_at 128 45 = some (45, .bipush (-3), 2, []) := by decide +kernel
theorem r128_47 : j_at 128 47 = some (47, .ireturn, 1, []) := by decide +kernel
theorem r128_48 : j_at 128 48 = some (48, .aload_n 0, 1, []) := by decide +kernel
theorem r128_49 : j_at 128 49 = some (49, .getfield 32, 3, [711, 12, 2, 7, 0, 12]) := by decide +kernel
theorem r128_52 : j_at 128 52 = some (52, .bipush 8, 2, []) := by decide +kernel
theorem r128_54 : j_at 128 54 = some (54, .iload_n 1, 1, []) := by decide +kernel
theorem r128_55 : j_at 128 55 = some (55, .imul, 1, []) := by decide +kernel
theorem r128_56 : j_at 128 56 = some (56, .iload_n 2, 1, []) := by decide +kernel
theorem r128_57 : j_at 128 57 = some (57, .iadd, 1, []) := by decide +kernel
theorem r128_58 : j_at 128 58 = some (58, .iaload, 1, []) := by decide +kernel
theorem r128_59 : j_at 128 59 = some (59, .istore 4, 2, []) := by decide +kernel
theorem r128_61 : j_at 128 61 = some (61, .aload_n 0, 1, []) := by decide +kernel
theorem r128_62 : j_at 128 62 = some (62, .getfield 32, 3, [711, 12, 2, 7, 0, 12]) := by decide +kernel
theorem r128_65 : j_at 128 65 = some (65, .bipush 8, 2, []) := by decide +kernel
theorem r128_67 : j_at 128 67 = some (67, .iload_n 1, 1, []) := by decide +kernel
theorem r128_68 : j_at 128 68 = some (68, .imul, 1, []) := by decide +kernel
theorem r128_69 : j_at 128 69 = some (69, .iload_n 2, 1, []) := by decide +kernel
theorem r128_70 : j_at 128 70 = some (70, .iadd, 1, []) := by decide +kernel
theorem r128_71 : j_at 128 71 = some (71, .iload_n 3, 1, []) := by decide +kernel
theorem r128_72 : j_at 128 72 = some (72, .iastore, 1, []) := by decide +kernel
theorem r128_73 : j_at 128 73 = some (73, .iload 4, 2, []) := by decide +kernel
theorem r128_75 : j_at 128 75 = some (75, .ireturn, 1, []) := by decide +kernel
theorem b128_0 {b : Nat} {x0 : Value} {x1 : Int32} {x2 : Int32} {x3 : Int32} {u4 : Value} {H : j_H} {Q : Option Value → j_H → Prop} (h0 : j_vc H x0 = 12) : j_wp (b + 1) 128 0 [x0, .int x1, .int x2, .int x3, u4] [] H Q = j_wp b 124 0 [x0, .int x1] [] H (j_k (b + 1) 128 5 [x0, .int x1, .int x2, .int x3, u4] [] Q) := Eq.trans (s_aload_n r128_0 rfl (j_isr_vc h0 rfl)) (Eq.trans (s_iload_n r128_1 rfl) (j_cll (as := [x0, .int x1]) (es := [x0, .int x1]) (s_c2 r128_2 rfl h0 rfl rfl (j_dok (s := [.int x1, x0]) (as := [x0, .int x1]) (rest := []) (es := [x0, .int x1]) rfl rfl rfl rfl (j_slc (j_c1r (j_isr_vc h0 rfl)) rfl) rfl)) (j_slc (j_c1r (j_isr_vc h0 rfl)) rfl) rfl))
theorem b128_5 {b : Nat} {x0 : Value} {x1 : Int32} {x2 : Int32} {x3 : Int32} {u4 : Value} {y0 : Int32} {H : j_H} {Q : Option Value → j_H → Prop}  : j_wp b 128 5 [x0, .int x1, .int x2, .int x3, u4] [.int y0] H Q = (if y0.toInt = 0 then j_wp b 128 19 [x0, .int x1, .int x2, .int x3, u4] [] H Q else j_wp b 128 8 [x0, .int x1, .int x2, .int x3, u4] [] H Q) := s_ifeq r128_5 rfl rfl
theorem b128_8 {b : Nat} {x0 : Value} {x1 : Int32} {x2 : Int32} {x3 : Int32} {u4 : Value} {H : j_H} {Q : Option Value → j_H → Prop} (h0 : j_vc H x0 = 12) : j_wp (b + 1) 128 8 [x0, .int x1, .int x2, .int x3, u4] [] H Q = j_wp b 121 0 [x0, .int x2, .int (Int32.ofInt 0), .int (Int32.ofInt 7)] [] H (j_k (b + 1) 128 16 [x0, .int x1, .int x2, .int x3, u4] [] Q) := Eq.trans (s_aload_n r128_8 rfl (j_isr_vc h0 rfl)) (Eq.trans (s_iload_n r128_9 rfl) (Eq.trans (s_iconst r128_10) (Eq.trans (s_bipush r128_11) (j_cll (as := [x0, .int x2, .int (Int32.ofInt 0), .int (Int32.ofInt 7)]) (es := [x0, .int x2, .int (Int32.ofInt 0), .int (Int32.ofInt 7)]) (s_c2 r128_13 rfl h0 rfl rfl (j_dok (s := [.int (Int32.ofInt 7), .int (Int32.ofInt 0), .int x2, x0]) (as := [x0, .int x2, .int (Int32.ofInt 0), .int (Int32.ofInt 7)]) (rest := []) (es := [x0, .int x2, .int (Int32.ofInt 0), .int (Int32.ofInt 7)]) rfl rfl rfl rfl (j_slc (j_c1r (j_isr_vc h0 rfl)) rfl) rfl)) (j_slc (j_c1r (j_isr_vc h0 rfl)) rfl) rfl))))
theorem b128_16 {b : Nat} {x0 : Value} {x1 : Int32} {x2 : Int32} {x3 : Int32} {u4 : Value} {y0 : Int32} {H : j_H} {Q : Option Value → j_H → Prop}  : j_wp b 128 16 [x0, .int x1, .int x2, .int x3, u4] [.int y0] H Q = (if ¬ y0.toInt = 0 then j_wp b 128 21 [x0, .int x1, .int x2, .int x3, u4] [] H Q else j_wp b 128 19 [x0, .int x1, .int x2, .int x3, u4] [] H Q) := s_ifne r128_16 rfl rfl
theorem b128_19 {b : Nat} {x0 : Value} {x1 : Int32} {x2 : Int32} {x3 : Int32} {u4 : Value} {H : j_H} {Q : Option Value → j_H → Prop}  : j_wp b 128 19 [x0, .int x1, .int x2, .int x3, u4] [] H Q = Q (some (.int (Int32.ofInt (-1)))) H := Eq.trans (s_iconst r128_19) (s_ireturn r128_20 (j_rok1 rfl))
theorem b128_21 {b : Nat} {x0 : Value} {x1 : Int32} {x2 : Int32} {x3 : Int32} {u4 : Value} {H : j_H} {Q : Option Value → j_H → Prop} (h0 : j_vc H x0 = 12) : j_wp (b + 1) 128 21 [x0, .int x1, .int x2, .int x3, u4] [] H Q = j_wp b 121 0 [x0, .int x3, .int (Int32.ofInt 0), .int (Int32.ofInt 1)] [] H (j_k (b + 1) 128 28 [x0, .int x1, .int x2, .int x3, u4] [] Q) := Eq.trans (s_aload_n r128_21 rfl (j_isr_vc h0 rfl)) (Eq.trans (s_iload_n r128_22 rfl) (Eq.trans (s_iconst r128_23) (Eq.trans (s_iconst r128_24) (j_cll (as := [x0, .int x3, .int (Int32.ofInt 0), .int (Int32.ofInt 1)]) (es := [x0, .int x3, .int (Int32.ofInt 0), .int (Int32.ofInt 1)]) (s_c2 r128_25 rfl h0 rfl rfl (j_dok (s := [.int (Int32.ofInt 1), .int (Int32.ofInt 0), .int x3, x0]) (as := [x0, .int x3, .int (Int32.ofInt 0), .int (Int32.ofInt 1)]) (rest := []) (es := [x0, .int x3, .int (Int32.ofInt 0), .int (Int32.ofInt 1)]) rfl rfl rfl rfl (j_slc (j_c1r (j_isr_vc h0 rfl)) rfl) rfl)) (j_slc (j_c1r (j_isr_vc h0 rfl)) rfl) rfl))))
theorem b128_28 {b : Nat} {x0 : Value} {x1 : Int32} {x2 : Int32} {x3 : Int32} {u4 : Value} {y0 : Int32} {H : j_H} {Q : Option Value → j_H → Prop}  : j_wp b 128 28 [x0, .int x1, .int x2, .int x3, u4] [.int y0] H Q = (if ¬ y0.toInt = 0 then j_wp b 128 34 [x0, .int x1, .int x2, .int x3, u4] [] H Q else j_wp b 128 31 [x0, .int x1, .int x2, .int x3, u4] [] H Q) := s_ifne r128_28 rfl rfl
theorem b128_31 {b : Nat} {x0 : Value} {x1 : Int32} {x2 : Int32} {x3 : Int32} {u4 : Value} {H : j_H} {Q : Option Value → j_H → Prop}  : j_wp b 128 31 [x0, .int x1, .int x2, .int x3, u4] [] H Q = Q (some (.int (Int32.ofInt (-2)))) H := Eq.trans (s_bipush r128_31) (s_ireturn r128_33 (j_rok1 rfl))
theorem b128_34 {b : Nat} {x0 : Value} {x1 : Int32} {x2 : Int32} {x3 : Int32} {u4 : Value} {H : j_H} {Q : Option Value → j_H → Prop} (h0 : j_vc H x0 = 12) (h1 : j_vt H (va_rf (j_R H (j_pa x0) 4)) = 0) (h2 : 0 ≤ x1.toInt) (h3 : x1.toInt < ((j_vl H (va_rf (j_R H (j_pa x0) 4)) : Nat) : Int)) : j_wp b 128 34 [x0, .int x1, .int x2, .int x3, u4] [] H Q = (if (j_I H (j_pa (va_rf (j_R H (j_pa x0) 4))) (j_ix x1)).toInt = 6 then j_wp b 128 48 [x0, .int x1, .int x2, .int x3, u4] [] H Q else j_wp b 128 45 [x0, .int x1, .int x2, .int x3, u4] [] H Q) := Eq.trans (s_aload_n r128_34 rfl (j_isr_vc h0 rfl)) (Eq.trans (s_getfr r128_35 (j_al1 h0 rfl) rfl) (Eq.trans (s_iload_n r128_38 rfl) (Eq.trans (s_iald r128_39 h1 (by decide) (j_ib_of (z := x1.toInt) rfl h2 h3)) (Eq.trans (s_bipush r128_40) (s_iceq r128_42 rfl rfl rfl)))))
theorem b128_45 {b : Nat} {x0 : Value} {x1 : Int32} {x2 : Int32} {x3 : Int32} {u4 : Value} {H : j_H} {Q : Option Value → j_H → Prop}  : j_wp b 128 45 [x0, .int x1, .int x2, .int x3, u4] [] H Q = Q (some (.int (Int32.ofInt (-3)))) H := Eq.trans (s_bipush r128_45) (s_ireturn r128_47 (j_rok1 rfl))
theorem b128_48 {b : Nat} {x0 : Value} {x1 : Int32} {x2 : Int32} {x3 : Int32} {u4 : Value} {H : j_H} {Q : Option Value → j_H → Prop} (h0 : j_vc H x0 = 12) (h1 : j_vt H (va_rf (j_R H (j_pa x0) 7)) = 0) (h2 : 0 ≤ (((Int32.ofInt 8) * x1) + x2).toInt) (h3 : (((Int32.ofInt 8) * x1) + x2).toInt < ((j_vl H (va_rf (j_R H (j_pa x0) 7)) : Nat) : Int)) : j_wp b 128 48 [x0, .int x1, .int x2, .int x3, u4] [] H Q = j_wp b 128 73 [x0, .int x1, .int x2, .int x3, .int (j_I H (j_pa (va_rf (j_R H (j_pa x0) 7))) (j_ix (((Int32.ofInt 8) * x1) + x2)))] [] (j_sI H (j_pa (va_rf (j_R H (j_pa x0) 7))) (j_ix (((Int32.ofInt 8) * x1) + x2)) x3) Q := Eq.trans (s_aload_n r128_48 rfl (j_isr_vc h0 rfl)) (Eq.trans (s_getfr r128_49 (j_al1 h0 rfl) rfl) (Eq.trans (s_bipush r128_52) (Eq.trans (s_iload_n r128_54 rfl) (Eq.trans (s_imul r128_55) (Eq.trans (s_iload_n r128_56 rfl) (Eq.trans (s_iadd r128_57) (Eq.trans (s_iald r128_58 h1 (by decide) (j_ib_of (z := (((Int32.ofInt 8) * x1) + x2).toInt) rfl h2 h3)) (Eq.trans (s_istore r128_59 (Nat.le_of_ble_eq_true rfl) rfl) (Eq.trans (s_aload_n r128_61 rfl (j_isr_vc h0 rfl)) (Eq.trans (s_getfr r128_62 (j_al1 h0 rfl) rfl) (Eq.trans (s_bipush r128_65) (Eq.trans (s_iload_n r128_67 rfl) (Eq.trans (s_imul r128_68) (Eq.trans (s_iload_n r128_69 rfl) (Eq.trans (s_iadd r128_70) (Eq.trans (s_iload_n r128_71 rfl) (s_iast r128_72 h1 (j_ib_of (z := (((Int32.ofInt 8) * x1) + x2).toInt) rfl h2 h3))))))))))))))))))
theorem b128_73 {b : Nat} {x0 : Value} {x1 : Int32} {x2 : Int32} {x3 : Int32} {x4 : Int32} {H : j_H} {Q : Option Value → j_H → Prop}  : j_wp b 128 73 [x0, .int x1, .int x2, .int x3, .int x4] [] H Q = Q (some (.int x4)) H := Eq.trans (s_iload r128_73 rfl) (s_ireturn r128_75 (j_rok1 rfl))
-- X12_feed
theorem r129_0 : j_at 129 0 = some (0, .aload_n 0, 1, []) := by decide +kernel
theorem r129_1 : j_at 129 1 = some (1, .iload_n 1, 1, []) := by decide +kernel
theorem r129_2 : j_at 129 2 = some (2, .iconst 0, 1, []) := by decide +kernel
theorem r129_3 : j_at 129 3 = some (3, .bipush 127, 2, []) := by decide +kernel
theorem r129_5 : j_at 129 5 = some (5, .invokevirtual 189, 3, [2, 4, 121, 825, 826, 26, 77, 0, 12]) := by decide +kernel
theorem r129_8 : j_at 129 8 = some (8, .ifCond .ne 6, 3, []) := by decide +kernel
theorem r129_11 : j_at 129 11 = some (11, .bipush (-2), 2, []) := by decide +kernel
theorem r129_13 : j_at 129 13 = some (13, .ireturn, 1, []) := by decide +kernel
theorem r129_14 : j_at 129 14 = some (14, .aload_n 0, 1, []) := by decide +kernel
theorem r129_15 : j_at 129 15 = some (15, .getfield 41, 3, [714, 12, 0, 10, 0, 12]) := by decide +kernel
theorem r129_18 : j_at 129 18 = some (18, .bipush 100, 2, []) := by decide +kernel
theorem r129_20 : j_at 129 20 = some (20, .if_icmp .ne 6, 3, []) := by decide +kernel
theorem r129_23 : j_at 129 23 = some (23, .bipush (-4), 2, []) := by decide +kernel
theorem r129_25 : j_at 129 25 = some (25, .ireturn, 1, []) := by decide +kernel
theorem r129_26 : j_at 129 26 = some (26, .aload_n 0, 1, []) := by decide +kernel
theorem r129_27 : j_at 129 27 = some (27, .getfield 50, 3, [717, 12, 2, 13, 0, 12]) := by decide +kernel
theorem r129_30 : j_at 129 30 = some (30, .aload_n 0, 1, []) := by decide +kernel
theorem r129_31 : j_at 129 31 = some (31, .getfield 41, 3, [714, 12, 0, 10, 0, 12]) := by decide +kernel
theorem r129_34 : j_at 129 34 = some (34, .iload_n 1, 1, []) := by decide +kernel
theorem r129_35 : j_at 129 35 = some (35, .iastore, 1, []) := by decide +kernel
theorem r129_36 : j_at 129 36 = some (36, .aload_n 0, 1, []) := by decide +kernel
theorem r129_37 : j_at 129 37 = some (37, .dup, 1, []) := by decide +kernel
theorem r129_38 : j_at 129 38 = some (38, .getfield 41, 3, [714, 12, 0, 10, 0, 12]) := by decide +kernel
theorem r129_41 : j_at 129 41 = some (41, .iconst 1, 1, []) := by decide +kernel
theorem r129_42 : j_at 129 42 = some (42, .iadd, 1, []) := by decide +kernel
theorem r129_43 : j_at 129 43 = some (43, .putfield 41, 3, [714, 12, 0, 10, 0, 0, 12]) := by decide +kernel
theorem r129_46 : j_at 129 46 = some (46, .aload_n 0, 1, []) := by decide +kernel
theorem r129_47 : j_at 129 47 = some (47, .getfield 41, 3, [714, 12, 0, 10, 0, 12]) := by decide +kernel
theorem r129_50 : j_at 129 50 = some (50, .ireturn, 1, []) := by decide +kernel
theorem b129_0 {b : Nat} {x0 : Value} {x1 : Int32} {H : j_H} {Q : Option Value → j_H → Prop} (h0 : j_vc H x0 = 12) : j_wp (b + 1) 129 0 [x0, .int x1] [] H Q = j_wp b 121 0 [x0, .int x1, .int (Int32.ofInt 0), .int (Int32.ofInt 127)] [] H (j_k (b + 1) 129 8 [x0, .int x1] [] Q) := Eq.trans (s_aload_n r129_0 rfl (j_isr_vc h0 rfl)) (Eq.trans (s_iload_n r129_1 rfl) (Eq.trans (s_iconst r129_2) (Eq.trans (s_bipush r129_3) (j_cll (as := [x0, .int x1, .int (Int32.ofInt 0), .int (Int32.ofInt 127)]) (es := [x0, .int x1, .int (Int32.ofInt 0), .int (Int32.ofInt 127)]) (s_c2 r129_5 rfl h0 rfl rfl (j_dok (s := [.int (Int32.ofInt 127), .int (Int32.ofInt 0), .int x1, x0]) (as := [x0, .int x1, .int (Int32.ofInt 0), .int (Int32.ofInt 127)]) (rest := []) (es := [x0, .int x1, .int (Int32.ofInt 0), .int (Int32.ofInt 127)]) rfl rfl rfl rfl (j_slc (j_c1r (j_isr_vc h0 rfl)) rfl) rfl)) (j_slc (j_c1r (j_isr_vc h0 rfl)) rfl) rfl))))
theorem b129_8 {b : Nat} {x0 : Value} {x1 : Int32} {y0 : Int32} {H : j_H} {Q : Option Value → j_H → Prop}  : j_wp b 129 8 [x0, .int x1] [.int y0] H Q = (if ¬ y0.toInt = 0 then j_wp b 129 14 [x0, .int x1] [] H Q else j_wp b 129 11 [x0, .int x1] [] H Q) := s_ifne r129_8 rfl rfl
theorem b129_11 {b : Nat} {x0 : Value} {x1 : Int32} {H : j_H} {Q : Option Value → j_H → Prop}  : j_wp b 129 11 [x0, .int x1] [] H Q = Q (some (.int (Int32.ofInt (-2)))) H := Eq.trans (s_bipush r129_11) (s_ireturn r129_13 (j_rok1 rfl))
theorem b129_14 {b : Nat} {x0 : Value} {x1 : Int32} {H : j_H} {Q : Option Value → j_H → Prop} (h0 : j_vc H x0 = 12) : j_wp b 129 14 [x0, .int x1] [] H Q = (if ¬ (j_I H (j_pa x0) 10).toInt = 100 then j_wp b 129 26 [x0, .int x1] [] H Q else j_wp b 129 23 [x0, .int x1] [] H Q) := Eq.trans (s_aload_n r129_14 rfl (j_isr_vc h0 rfl)) (Eq.trans (s_getfi r129_15 (j_al1 h0 rfl) rfl rfl rfl) (Eq.trans (s_bipush r129_18) (s_icne r129_20 rfl rfl rfl)))
theorem b129_23 {b : Nat} {x0 : Value} {x1 : Int32} {H : j_H} {Q : Option Value → j_H → Prop}  : j_wp b 129 23 [x0, .int x1] [] H Q = Q (some (.int (Int32.ofInt (-4)))) H := Eq.trans (s_bipush r129_23) (s_ireturn r129_25 (j_rok1 rfl))
theorem b129_26 {b : Nat} {x0 : Value} {x1 : Int32} {H : j_H} {Q : Option Value → j_H → Prop} (h0 : j_vc H x0 = 12) (h1 : j_vt H (va_rf (j_R H (j_pa x0) 13)) = 0) (h2 : 0 ≤ (j_I H (j_pa x0) 10).toInt) (h3 : (j_I H (j_pa x0) 10).toInt < ((j_vl H (va_rf (j_R H (j_pa x0) 13)) : Nat) : Int)) : j_wp b 129 26 [x0, .int x1] [] H Q = j_wp b 129 36 [x0, .int x1] [] (j_sI H (j_pa (va_rf (j_R H (j_pa x0) 13))) (j_ix (j_I H (j_pa x0) 10)) x1) Q := Eq.trans (s_aload_n r129_26 rfl (j_isr_vc h0 rfl)) (Eq.trans (s_getfr r129_27 (j_al1 h0 rfl) rfl) (Eq.trans (s_aload_n r129_30 rfl (j_isr_vc h0 rfl)) (Eq.trans (s_getfi r129_31 (j_al1 h0 rfl) rfl rfl rfl) (Eq.trans (s_iload_n r129_34 rfl) (s_iast r129_35 h1 (j_ib_of (z := (j_I H (j_pa x0) 10).toInt) rfl h2 h3))))))
theorem b129_36 {b : Nat} {x0 : Value} {x1 : Int32} {H : j_H} {Q : Option Value → j_H → Prop} (h0 : j_vc H x0 = 12) : j_wp b 129 36 [x0, .int x1] [] H Q = j_wp b 129 46 [x0, .int x1] [] (j_sI H (j_pa x0) 10 ((j_I H (j_pa x0) 10) + (Int32.ofInt 1))) Q := Eq.trans (s_aload_n r129_36 rfl (j_isr_vc h0 rfl)) (Eq.trans (s_dup r129_37 (j_vc_lt h0 rfl)) (Eq.trans (s_getfi r129_38 (j_al1 h0 rfl) rfl rfl rfl) (Eq.trans (s_iconst r129_41) (Eq.trans (s_iadd r129_42) (s_put r129_43 (j_al1 h0 rfl) rfl j_putI)))))
theorem b129_46 {b : Nat} {x0 : Value} {x1 : Int32} {H : j_H} {Q : Option Value → j_H → Prop} (h0 : j_vc H x0 = 12) : j_wp b 129 46 [x0, .int x1] [] H Q = Q (some (.int (j_I H (j_pa x0) 10))) H := Eq.trans (s_aload_n r129_46 rfl (j_isr_vc h0 rfl)) (Eq.trans (s_getfi r129_47 (j_al1 h0 rfl) rfl rfl rfl) (s_ireturn r129_50 (j_rok1 rfl)))
-- X12_next
theorem r130_0 : j_at 130 0 = some (0, .aload_n 0, 1, []) := by decide +kernel
theorem r130_1 : j_at 130 1 = some (1, .getfield 44, 3, [715, 12, 0, 11, 0, 12]) := by decide +kernel
theorem r130_4 : j_at 130 4 = some (4, .aload_n 0, 1, []) := by decide +kernel
theorem r130_5 : j_at 130 5 = some (5, .getfield 41, 3, [714, 12, 0, 10, 0, 12]) := by decide +kernel
theorem r130_8 : j_at 130 8 = some (8, .if_icmp .ge 15, 3, []) := by decide +kernel
theorem r130_11 : j_at 130 11 = some (11, .aload_n 0, 1, []) := by decide +kernel
theorem r130_12 : j_at 130 12 = some (12, .getfield 50, 3, [717, 12, 2, 13, 0, 12]) := by decide +kernel
theorem r130_15 : j_at 130 15 = some (15, .aload_n 0, 1, []) := by decide +kernel
theorem r130_16 : j_at 130 16 = some (16, .getfield 44, 3, [715, 12, 0, 11, 0, 12]) := by decide +kernel
theorem r130_19 : j_at 130 19 = some (19, .iaload, 1, []) := by decide +kernel
theorem r130_20 : j_at 130 20 = some (20, .goto 4, 3, []) := by decide +kernel
theorem r130_23 : j_at 130 23 = some (23, .iconst (-1), 1, []) := by decide +kernel
theorem r130_24 : j_at 130 24 = some (24, .ireturn, 1, []) := by decide +kernel
theorem b130_0 {b : Nat} {x0 : Value} {H : j_H} {Q : Option Value → j_H → Prop} (h0 : j_vc H x0 = 12) : j_wp b 130 0 [x0] [] H Q = (if (j_I H (j_pa x0) 10).toInt ≤ (j_I H (j_pa x0) 11).toInt then j_wp b 130 23 [x0] [] H Q else j_wp b 130 11 [x0] [] H Q) := Eq.trans (s_aload_n r130_0 rfl (j_isr_vc h0 rfl)) (Eq.trans (s_getfi r130_1 (j_al1 h0 rfl) rfl rfl rfl) (Eq.trans (s_aload_n r130_4 rfl (j_isr_vc h0 rfl)) (Eq.trans (s_getfi r130_5 (j_al1 h0 rfl) rfl rfl rfl) (s_icge r130_8 rfl rfl rfl))))
theorem b130_11 {b : Nat} {x0 : Value} {H : j_H} {Q : Option Value → j_H → Prop} (h0 : j_vc H x0 = 12) (h1 : j_vt H (va_rf (j_R H (j_pa x0) 13)) = 0) (h2 : 0 ≤ (j_I H (j_pa x0) 11).toInt) (h3 : (j_I H (j_pa x0) 11).toInt < ((j_vl H (va_rf (j_R H (j_pa x0) 13)) : Nat) : Int)) : j_wp b 130 11 [x0] [] H Q = j_wp b 130 24 [x0] [.int (j_I H (j_pa (va_rf (j_R H (j_pa x0) 13))) (j_ix (j_I H (j_pa x0) 11)))] H Q := Eq.trans (s_aload_n r130_11 rfl (j_isr_vc h0 rfl)) (Eq.trans (s_getfr r130_12 (j_al1 h0 rfl) rfl) (Eq.trans (s_aload_n r130_15 rfl (j_isr_vc h0 rfl)) (Eq.trans (s_getfi r130_16 (j_al1 h0 rfl) rfl rfl rfl) (Eq.trans (s_iald r130_19 h1 (by decide) (j_ib_of (z := (j_I H (j_pa x0) 11).toInt) rfl h2 h3)) (s_goto r130_20 rfl)))))
theorem b130_23 {b : Nat} {x0 : Value} {H : j_H} {Q : Option Value → j_H → Prop}  : j_wp b 130 23 [x0] [] H Q = j_wp b 130 24 [x0] [.int (Int32.ofInt (-1))] H Q := s_iconst r130_23
theorem b130_24 {b : Nat} {x0 : Value} {y0 : Int32} {H : j_H} {Q : Option Value → j_H → Prop}  : j_wp b 130 24 [x0] [.int y0] H Q = Q (some (.int y0)) H := s_ireturn r130_24 (j_rok1 rfl)
-- X12_takes
theorem r131_0 : j_at 131 0 = some (0, .aload_n 0, 1, []) := by decide +kernel
theorem r131_1 : j_at 131 1 = some (1, .invokevirtual 197, 3, [2, 1, 130, 850, 851, 31, 77, 0, 12]) := by decide +kernel
theorem r131_4 : j_at 131 4 = some (4, .iload_n 1, 1, []) := by decide +kernel
theorem r131_5 : j_at 131 5 = some (5, .if_icmp .eq 5, 3, []) := by decide +kernel
theorem r131_8 : j_at 131 8 = some (8, .iconst 0, 1, []) := by decide +kernel
theorem r131_9 : j_at 131 9 = some (9, .ireturn, 1, []) := by decide +kernel
theorem r131_10 : j_at 131 10 = some (10, .aload_n 0, 1, []) := by decide +kernel
theorem r131_11 : j_at 131 11 = some (11, .dup, 1, []) := by decide +kernel
theorem r131_12 : j_at 131 12 = some (12, .getfield 44, 3, [715, 12, 0, 11, 0, 12]) := by decide +kernel
theorem r131_15 : j_at 131 15 = some (15, .iconst 1, 1, []) := by decide +kernel
theorem r131_16 : j_at 131 16 = some (16, .iadd, 1, []) := by decide +kernel
theorem r131_17 : j_at 131 17 = some (17, .putfield 44, 3, [715, 12, 0, 11, 0, 0, 12]) := by decide +kernel
theorem r131_20 : j_at 131 20 = some (20, .iconst 1, 1, []) := by decide +kernel
theorem r131_21 : j_at 131 21 = some (21, .ireturn, 1, []) := by decide +kernel
theorem b131_0 {b : Nat} {x0 : Value} {x1 : Int32} {H : j_H} {Q : Option Value → j_H → Prop} (h0 : j_vc H x0 = 12) : j_wp (b + 1) 131 0 [x0, .int x1] [] H Q = j_wp b 130 0 [x0] [] H (j_k (b + 1) 131 4 [x0, .int x1] [] Q) := Eq.trans (s_aload_n r131_0 rfl (j_isr_vc h0 rfl)) (j_cll (as := [x0]) (es := [x0]) (s_c2 r131_1 rfl h0 rfl rfl (j_dok (s := [x0]) (as := [x0]) (rest := []) (es := [x0]) rfl rfl rfl rfl (j_slc (j_c1r (j_isr_vc h0 rfl)) rfl) rfl)) (j_slc (j_c1r (j_isr_vc h0 rfl)) rfl) rfl)
theorem b131_4 {b : Nat} {x0 : Value} {x1 : Int32} {y0 : Int32} {H : j_H} {Q : Option Value → j_H → Prop}  : j_wp b 131 4 [x0, .int x1] [.int y0] H Q = (if y0.toInt = x1.toInt then j_wp b 131 10 [x0, .int x1] [] H Q else j_wp b 131 8 [x0, .int x1] [] H Q) := Eq.trans (s_iload_n r131_4 rfl) (s_iceq r131_5 rfl rfl rfl)
theorem b131_8 {b : Nat} {x0 : Value} {x1 : Int32} {H : j_H} {Q : Option Value → j_H → Prop}  : j_wp b 131 8 [x0, .int x1] [] H Q = Q (some (.int (Int32.ofInt 0))) H := Eq.trans (s_iconst r131_8) (s_ireturn r131_9 (j_rok4 (z := 0) rfl rfl (by decide)))
theorem b131_10 {b : Nat} {x0 : Value} {x1 : Int32} {H : j_H} {Q : Option Value → j_H → Prop} (h0 : j_vc H x0 = 12) : j_wp b 131 10 [x0, .int x1] [] H Q = j_wp b 131 20 [x0, .int x1] [] (j_sI H (j_pa x0) 11 ((j_I H (j_pa x0) 11) + (Int32.ofInt 1))) Q := Eq.trans (s_aload_n r131_10 rfl (j_isr_vc h0 rfl)) (Eq.trans (s_dup r131_11 (j_vc_lt h0 rfl)) (Eq.trans (s_getfi r131_12 (j_al1 h0 rfl) rfl rfl rfl) (Eq.trans (s_iconst r131_15) (Eq.trans (s_iadd r131_16) (s_put r131_17 (j_al1 h0 rfl) rfl j_putI)))))
theorem b131_20 {b : Nat} {x0 : Value} {x1 : Int32} {H : j_H} {Q : Option Value → j_H → Prop}  : j_wp b 131 20 [x0, .int x1] [] H Q = Q (some (.int (Int32.ofInt 1))) H := Eq.trans (s_iconst r131_20) (s_ireturn r131_21 (j_rok4 (z := 1) rfl rfl (by decide)))
-- X12_takesWord
theorem r132_0 : j_at 132 0 = some (0, .iconst 0, 1, []) := by decide +kernel
theorem r132_1 : j_at 132 1 = some (1, .istore_n 3, 1, []) := by decide +kernel
theorem r132_2 : j_at 132 2 = some (2, .iload_n 3, 1, []) := by decide +kernel
theorem r132_3 : j_at 132 3 = some (3, .iload_n 2, 1, []) := by decide +kernel
theorem r132_4 : j_at 132 4 = some (4, .if_icmp .ge 26, 3, []) := by decide +kernel
theorem r132_7 : j_at 132 7 = some (7, .aload_n 0, 1, []) := by decide +kernel
theorem r132_8 : j_at 132 8 = some (8, .aload_n 0, 1, []) := by decide +kernel
theorem r132_9 : j_at 132 9 = some (9, .getfield 83, 3, [728, 12, 2, 24, 0, 12]) := by decide +kernel
theorem r132_12 : j_at 132 12 = some (12, .iload_n 1, 1, []) := by decide +kernel
theorem r132_13 : j_at 132 13 = some (13, .iload_n 3, 1, []) := by decide +kernel
theorem r132_14 : j_at 132 14 = some (14, .iadd, 1, []) := by decide +kernel
theorem r132_15 : j_at 132 15 = some (15, .iaload, 1, []) := by decide +kernel
theorem r132_16 : j_at 132 16 = some (16, .invokevirtual 201, 3, [2, 2, 131, 854, 855, 33, 77, 0, 12]) := by decide +kernel
theorem r132_19 : j_at 132 19 = some (19, .ifCond .ne 5, 3, []) := by decide +kernel
theorem r132_22 : j_at 132 22 = some (22, .iconst 0, 1, []) := by decide +kernel
theorem r132_23 : j_at 132 23 = some (23, .ireturn, 1, []) := by decide +kernel
theorem r132_24 : j_at 132 24 = some (24, .iinc 3 1, 3, []) := by decide +kernel
theorem r132_27 : j_at 132 27 = some (27, .goto (-25), 3, []) := by decide +kernel
theorem r132_30 : j_at 132 30 = some (30, .aload_n 0, 1, []) := by decide +kernel
theorem r132_31 : j_at 132 31 = some (31, .bipush 32, 2, []) := by decide +kernel
theorem r132_33 : j_at 132 33 = some (33, .invokevirtual 201, 3, [2, 2, 131, 854, 855, 33, 77, 0, 12]) := by decide +kernel
theorem r132_36 : j_at 132 36 = some (36, .ireturn, 1, []) := by decide +kernel
theorem b132_0 {b : Nat} {x0 : Value} {x1 : Int32} {x2 : Int32} {u3 : Value} {H : j_H} {Q : Option Value → j_H → Prop}  : j_wp b 132 0 [x0, .int x1, .int x2, u3] [] H Q = j_wp b 132 2 [x0, .int x1, .int x2, .int (Int32.ofInt 0)] [] H Q := Eq.trans (s_iconst r132_0) (s_istore_n r132_1 (Nat.le_of_ble_eq_true rfl) rfl)
theorem b132_2 {b : Nat} {x0 : Value} {x1 : Int32} {x2 : Int32} {x3 : Int32} {H : j_H} {Q : Option Value → j_H → Prop}  : j_wp b 132 2 [x0, .int x1, .int x2, .int x3] [] H Q = (if x2.toInt ≤ x3.toInt then j_wp b 132 30 [x0, .int x1, .int x2, .int x3] [] H Q else j_wp b 132 7 [x0, .int x1, .int x2, .int x3] [] H Q) := Eq.trans (s_iload_n r132_2 rfl) (Eq.trans (s_iload_n r132_3 rfl) (s_icge r132_4 rfl rfl rfl))
theorem b132_7 {b : Nat} {x0 : Value} {x1 : Int32} {x2 : Int32} {x3 : Int32} {H : j_H} {Q : Option Value → j_H → Prop} (h0 : j_vc H x0 = 12) (h1 : j_vt H (va_rf (j_R H (j_pa x0) 24)) = 0) (h2 : 0 ≤ (x1 + x3).toInt) (h3 : (x1 + x3).toInt < ((j_vl H (va_rf (j_R H (j_pa x0) 24)) : Nat) : Int)) : j_wp (b + 1) 132 7 [x0, .int x1, .int x2, .int x3] [] H Q = j_wp b 131 0 [x0, .int (j_I H (j_pa (va_rf (j_R H (j_pa x0) 24))) (j_ix (x1 + x3)))] [] H (j_k (b + 1) 132 19 [x0, .int x1, .int x2, .int x3] [] Q) := Eq.trans (s_aload_n r132_7 rfl (j_isr_vc h0 rfl)) (Eq.trans (s_aload_n r132_8 rfl (j_isr_vc h0 rfl)) (Eq.trans (s_getfr r132_9 (j_al1 h0 rfl) rfl) (Eq.trans (s_iload_n r132_12 rfl) (Eq.trans (s_iload_n r132_13 rfl) (Eq.trans (s_iadd r132_14) (Eq.trans (s_iald r132_15 h1 (by decide) (j_ib_of (z := (x1 + x3).toInt) rfl h2 h3)) (j_cll (as := [x0, .int (j_I H (j_pa (va_rf (j_R H (j_pa x0) 24))) (j_ix (x1 + x3)))]) (es := [x0, .int (j_I H (j_pa (va_rf (j_R H (j_pa x0) 24))) (j_ix (x1 + x3)))]) (s_c2 r132_16 rfl h0 rfl rfl (j_dok (s := [.int (j_I H (j_pa (va_rf (j_R H (j_pa x0) 24))) (j_ix (x1 + x3))), x0]) (as := [x0, .int (j_I H (j_pa (va_rf (j_R H (j_pa x0) 24))) (j_ix (x1 + x3)))]) (rest := []) (es := [x0, .int (j_I H (j_pa (va_rf (j_R H (j_pa x0) 24))) (j_ix (x1 + x3)))]) rfl rfl rfl rfl (j_slc (j_c1r (j_isr_vc h0 rfl)) rfl) rfl)) (j_slc (j_c1r (j_isr_vc h0 rfl)) rfl) rfl)))))))
theorem b132_19 {b : Nat} {x0 : Value} {x1 : Int32} {x2 : Int32} {x3 : Int32} {y0 : Int32} {H : j_H} {Q : Option Value → j_H → Prop}  : j_wp b 132 19 [x0, .int x1, .int x2, .int x3] [.int y0] H Q = (if ¬ y0.toInt = 0 then j_wp b 132 24 [x0, .int x1, .int x2, .int x3] [] H Q else j_wp b 132 22 [x0, .int x1, .int x2, .int x3] [] H Q) := s_ifne r132_19 rfl rfl
theorem b132_22 {b : Nat} {x0 : Value} {x1 : Int32} {x2 : Int32} {x3 : Int32} {H : j_H} {Q : Option Value → j_H → Prop}  : j_wp b 132 22 [x0, .int x1, .int x2, .int x3] [] H Q = Q (some (.int (Int32.ofInt 0))) H := Eq.trans (s_iconst r132_22) (s_ireturn r132_23 (j_rok4 (z := 0) rfl rfl (by decide)))
theorem b132_24 {b : Nat} {x0 : Value} {x1 : Int32} {x2 : Int32} {x3 : Int32} {H : j_H} {Q : Option Value → j_H → Prop}  : j_wp b 132 24 [x0, .int x1, .int x2, .int x3] [] H Q = j_wp b 132 2 [x0, .int x1, .int x2, .int (x3 + Int32.ofInt 1)] [] H Q := Eq.trans (s_iinc r132_24 rfl rfl) (s_goto r132_27 rfl)
theorem b132_30 {b : Nat} {x0 : Value} {x1 : Int32} {x2 : Int32} {x3 : Int32} {H : j_H} {Q : Option Value → j_H → Prop} (h0 : j_vc H x0 = 12) : j_wp (b + 1) 132 30 [x0, .int x1, .int x2, .int x3] [] H Q = j_wp b 131 0 [x0, .int (Int32.ofInt 32)] [] H (j_k (b + 1) 132 36 [x0, .int x1, .int x2, .int x3] [] Q) := Eq.trans (s_aload_n r132_30 rfl (j_isr_vc h0 rfl)) (Eq.trans (s_bipush r132_31) (j_cll (as := [x0, .int (Int32.ofInt 32)]) (es := [x0, .int (Int32.ofInt 32)]) (s_c2 r132_33 rfl h0 rfl rfl (j_dok (s := [.int (Int32.ofInt 32), x0]) (as := [x0, .int (Int32.ofInt 32)]) (rest := []) (es := [x0, .int (Int32.ofInt 32)]) rfl rfl rfl rfl (j_slc (j_c1r (j_isr_vc h0 rfl)) rfl) rfl)) (j_slc (j_c1r (j_isr_vc h0 rfl)) rfl) rfl))
theorem b132_36 {b : Nat} {x0 : Value} {x1 : Int32} {x2 : Int32} {x3 : Int32} {y0 : Int32} {H : j_H} {Q : Option Value → j_H → Prop} (h0 : y0.toInt = 0 ∨ y0.toInt = 1) : j_wp b 132 36 [x0, .int x1, .int x2, .int x3] [.int y0] H Q = Q (some (.int y0)) H := s_ireturn r132_36 (j_rok4 (z := y0.toInt) rfl rfl h0)
-- X12_isDigit
theorem r133_0 : j_at 133 0 = some (0, .aload_n 0, 1, []) := by decide +kernel
theorem r133_1 : j_at 133 1 = some (1, .aload_n 0, 1, []) := by decide +kernel
theorem r133_2 : j_at 133 2 = some (2, .invokevirtual 197, 3, [2, 1, 130, 850, 851, 31, 77, 0, 12]) := by decide +kernel
theorem r133_5 : j_at 133 5 = some (5, .bipush 48, 2, []) := by decide +kernel
theorem r133_7 : j_at 133 7 = some (7, .bipush 57, 2, []) := by decide +kernel
theorem r133_9 : j_at 133 9 = some (9, .invokevirtual 189, 3, [2, 4, 121, 825, 826, 26, 77, 0, 12]) := by decide +kernel
theorem r133_12 : j_at 133 12 = some (12, .ireturn, 1, []) := by decide +kernel
theorem b133_0 {b : Nat} {x0 : Value} {H : j_H} {Q : Option Value → j_H → Prop} (h0 : j_vc H x0 = 12) : j_wp (b + 1) 133 0 [x0] [] H Q = j_wp b 130 0 [x0] [] H (j_k (b + 1) 133 5 [x0] [x0] Q) := Eq.trans (s_aload_n r133_0 rfl (j_isr_vc h0 rfl)) (Eq.trans (s_aload_n r133_1 rfl (j_isr_vc h0 rfl)) (j_cll (as := [x0]) (es := [x0]) (s_c2 r133_2 rfl h0 rfl rfl (j_dok (s := [x0, x0]) (as := [x0]) (rest := [x0]) (es := [x0]) rfl rfl rfl rfl (j_slc (j_c1r (j_isr_vc h0 rfl)) rfl) rfl)) (j_slc (j_c1r (j_isr_vc h0 rfl)) rfl) rfl))
theorem b133_5 {b : Nat} {x0 : Value} {y0 : Int32} {y1 : Value} {H : j_H} {Q : Option Value → j_H → Prop} (h0 : j_vc H y1 = 12) : j_wp (b + 1) 133 5 [x0] [.int y0, y1] H Q = j_wp b 121 0 [y1, .int y0, .int (Int32.ofInt 48), .int (Int32.ofInt 57)] [] H (j_k (b + 1) 133 12 [x0] [] Q) := Eq.trans (s_bipush r133_5) (Eq.trans (s_bipush r133_7) (j_cll (as := [y1, .int y0, .int (Int32.ofInt 48), .int (Int32.ofInt 57)]) (es := [y1, .int y0, .int (Int32.ofInt 48), .int (Int32.ofInt 57)]) (s_c2 r133_9 rfl h0 rfl rfl (j_dok (s := [.int (Int32.ofInt 57), .int (Int32.ofInt 48), .int y0, y1]) (as := [y1, .int y0, .int (Int32.ofInt 48), .int (Int32.ofInt 57)]) (rest := []) (es := [y1, .int y0, .int (Int32.ofInt 48), .int (Int32.ofInt 57)]) rfl rfl rfl rfl (j_slc (j_c1r (j_isr_vc h0 rfl)) rfl) rfl)) (j_slc (j_c1r (j_isr_vc h0 rfl)) rfl) rfl))
theorem b133_12 {b : Nat} {x0 : Value} {y0 : Int32} {H : j_H} {Q : Option Value → j_H → Prop} (h0 : y0.toInt = 0 ∨ y0.toInt = 1) : j_wp b 133 12 [x0] [.int y0] H Q = Q (some (.int y0)) H := s_ireturn r133_12 (j_rok4 (z := y0.toInt) rfl rfl h0)
-- X12_takesNumber
theorem r134_0 : j_at 134 0 = some (0, .aload_n 0, 1, []) := by decide +kernel
theorem r134_1 : j_at 134 1 = some (1, .invokevirtual 204, 3, [2, 1, 133, 858, 859, 35, 77, 0, 12]) := by decide +kernel
theorem r134_4 : j_at 134 4 = some (4, .ifCond .ne 5, 3, []) := by decide +kernel
theorem r134_7 : j_at 134 7 = some (7, .iconst 0, 1, []) := by decide +kernel
theorem r134_8 : j_at 134 8 = some (8, .ireturn, 1, []) := by decide +kernel
theorem r134_9 : j_at 134 9 = some (9, .aload_n 0, 1, []) := by decide +kernel
theorem r134_10 : j_at 134 10 = some (10, .iconst 0, 1, []) := by decide +kernel
theorem r134_11 : j_at 134 11 = some (11, .putfield 47, 3, [716, 12, 0, 12, 0, 0, 12]) := by decide +kernel
theorem r134_14 : j_at 134 14 = some (14, .iconst 0, 1, []) := by decide +kernel
theorem r134_15 : j_at 134 15 = some (15, .istore_n 1, 1, []) := by decide +kernel
theorem r134_16 : j_at 134 16 = some (16, .iload_n 1, 1, []) := by decide +kernel
theorem r134_17 : j_at 134 17 = some (17, .iconst 2, 1, []) := by decide +kernel
theorem r134_18 : j_at 134 18 = some (18, .if_icmp .ge 45, 3, []) := by decide +kernel
theorem r134_21 : j_at 134 21 = some (21, .aload_n 0, 1, []) := by decide +kernel
theorem r134_22 : j_at 134 22 = some (22, .invokevirtual 204, 3, [2, 1, 133, 858, 859, 35, 77, 0, 12]) := by decide +kernel
theorem r134_25 : j_at 134 25 = some (25, .ifCond .eq 38, 3, []) := by decide +kernel
theorem r134_28 : j_at 134 28 = some (28, .aload_n 0, 1, []) := by decide +kernel
theorem r134_29 : j_at 134 29 = some (29, .bipush 10, 2, []) := by decide +kernel
theorem r134_31 : j_at 134 31 = some (31, .aload_n 0, 1, []) := by decide +kernel
theorem r134_32 : j_at 134 32 = some (32, .getfield 47, 3, [716, 12, 0, 12, 0, 12]) := by decide +kernel
theorem r134_35 : j_at 134 35 = some (35, .imul, 1, []) := by decide +kernel
theorem r134_36 : j_at 134 36 = some (36, .aload_n 0, 1, []) := by decide +kernel
theorem r134_37 : j_at 134 37 = some (37, .invokevirtual 197, 3, [2, 1, 130, 850, 851, 31, 77, 0, 12]) := by decide +kernel
theorem r134_40 : j_at 134 40 = some (40, .iadd, 1, []) := by decide +kernel
theorem r134_41 : j_at 134 41 = some (41, .bipush 48, 2, []) := by decide +kernel
theorem r134_43 : j_at 134 43 = some (43, .isub, 1, []) := by decide +kernel
theorem r134_44 : j_at 134 44 = some (44, .putfield 47, 3, [716, 12, 0, 12, 0, 0, 12]) := by decide +kernel
theorem r134_47 : j_at 134 47 = some (47, .aload_n 0, 1, []) := by decide +kernel
theorem r134_48 : j_at 134 48 = some (48, .dup, 1, []) := by decide +kernel
theorem r134_49 : j_at 134 49 = some (49, .getfield 44, 3, [715, 12, 0, 11, 0, 12]) := by decide +kernel
theorem r134_52 : j_at 134 52 = some (52, .iconst 1, 1, []) := by decide +kernel
theorem r134_53 : j_at 134 53 = some (53, .iadd, 1, []) := by decide +kernel
theorem r134_54 : j_at 134 54 = some (54, .putfield 44, 3, [715, 12, 0, 11, 0, 0, 12]) := by decide +kernel
theorem r134_57 : j_at 134 57 = some (57, .iinc 1 1, 3, []) := by decide +kernel
theorem r134_60 : j_at 134 60 = some (60, .goto (-44), 3, []) := by decide +kernel
theorem r134_63 : j_at 134 63 = some (63, .iconst 1, 1, []) := by decide +kernel
theorem r134_64 : j_at 134 64 = some (64, .ireturn, 1, []) := by decide +kernel
theorem b134_0 {b : Nat} {x0 : Value} {u1 : Value} {H : j_H} {Q : Option Value → j_H → Prop} (h0 : j_vc H x0 = 12) : j_wp (b + 1) 134 0 [x0, u1] [] H Q = j_wp b 133 0 [x0] [] H (j_k (b + 1) 134 4 [x0, u1] [] Q) := Eq.trans (s_aload_n r134_0 rfl (j_isr_vc h0 rfl)) (j_cll (as := [x0]) (es := [x0]) (s_c2 r134_1 rfl h0 rfl rfl (j_dok (s := [x0]) (as := [x0]) (rest := []) (es := [x0]) rfl rfl rfl rfl (j_slc (j_c1r (j_isr_vc h0 rfl)) rfl) rfl)) (j_slc (j_c1r (j_isr_vc h0 rfl)) rfl) rfl)
theorem b134_4 {b : Nat} {x0 : Value} {u1 : Value} {y0 : Int32} {H : j_H} {Q : Option Value → j_H → Prop}  : j_wp b 134 4 [x0, u1] [.int y0] H Q = (if ¬ y0.toInt = 0 then j_wp b 134 9 [x0, u1] [] H Q else j_wp b 134 7 [x0, u1] [] H Q) := s_ifne r134_4 rfl rfl
theorem b134_7 {b : Nat} {x0 : Value} {u1 : Value} {H : j_H} {Q : Option Value → j_H → Prop}  : j_wp b 134 7 [x0, u1] [] H Q = Q (some (.int (Int32.ofInt 0))) H := Eq.trans (s_iconst r134_7) (s_ireturn r134_8 (j_rok4 (z := 0) rfl rfl (by decide)))
theorem b134_9 {b : Nat} {x0 : Value} {u1 : Value} {H : j_H} {Q : Option Value → j_H → Prop} (h0 : j_vc H x0 = 12) : j_wp b 134 9 [x0, u1] [] H Q = j_wp b 134 14 [x0, u1] [] (j_sI H (j_pa x0) 12 (Int32.ofInt 0)) Q := Eq.trans (s_aload_n r134_9 rfl (j_isr_vc h0 rfl)) (Eq.trans (s_iconst r134_10) (s_put r134_11 (j_al1 h0 rfl) rfl j_putI))
theorem b134_14 {b : Nat} {x0 : Value} {u1 : Value} {H : j_H} {Q : Option Value → j_H → Prop} (h0 : j_isr x0 = true) : j_wp b 134 14 [x0, u1] [] H Q = j_wp b 134 16 [x0, .int (Int32.ofInt 0)] [] H Q := Eq.trans (s_iconst r134_14) (s_istore_n r134_15 (Nat.le_of_ble_eq_true rfl) (j_stc (j_c1r h0) rfl))
theorem b134_16 {b : Nat} {x0 : Value} {x1 : Int32} {H : j_H} {Q : Option Value → j_H → Prop}  : j_wp b 134 16 [x0, .int x1] [] H Q = (if 2 ≤ x1.toInt then j_wp b 134 63 [x0, .int x1] [] H Q else j_wp b 134 21 [x0, .int x1] [] H Q) := Eq.trans (s_iload_n r134_16 rfl) (Eq.trans (s_iconst r134_17) (s_icge r134_18 rfl rfl rfl))
theorem b134_21 {b : Nat} {x0 : Value} {x1 : Int32} {H : j_H} {Q : Option Value → j_H → Prop} (h0 : j_vc H x0 = 12) : j_wp (b + 1) 134 21 [x0, .int x1] [] H Q = j_wp b 133 0 [x0] [] H (j_k (b + 1) 134 25 [x0, .int x1] [] Q) := Eq.trans (s_aload_n r134_21 rfl (j_isr_vc h0 rfl)) (j_cll (as := [x0]) (es := [x0]) (s_c2 r134_22 rfl h0 rfl rfl (j_dok (s := [x0]) (as := [x0]) (rest := []) (es := [x0]) rfl rfl rfl rfl (j_slc (j_c1r (j_isr_vc h0 rfl)) rfl) rfl)) (j_slc (j_c1r (j_isr_vc h0 rfl)) rfl) rfl)
theorem b134_25 {b : Nat} {x0 : Value} {x1 : Int32} {y0 : Int32} {H : j_H} {Q : Option Value → j_H → Prop}  : j_wp b 134 25 [x0, .int x1] [.int y0] H Q = (if y0.toInt = 0 then j_wp b 134 63 [x0, .int x1] [] H Q else j_wp b 134 28 [x0, .int x1] [] H Q) := s_ifeq r134_25 rfl rfl
theorem b134_28 {b : Nat} {x0 : Value} {x1 : Int32} {H : j_H} {Q : Option Value → j_H → Prop} (h0 : j_vc H x0 = 12) : j_wp (b + 1) 134 28 [x0, .int x1] [] H Q = j_wp b 130 0 [x0] [] H (j_k (b + 1) 134 40 [x0, .int x1] [.int ((Int32.ofInt 10) * (j_I H (j_pa x0) 12)), x0] Q) := Eq.trans (s_aload_n r134_28 rfl (j_isr_vc h0 rfl)) (Eq.trans (s_bipush r134_29) (Eq.trans (s_aload_n r134_31 rfl (j_isr_vc h0 rfl)) (Eq.trans (s_getfi r134_32 (j_al1 h0 rfl) rfl rfl rfl) (Eq.trans (s_imul r134_35) (Eq.trans (s_aload_n r134_36 rfl (j_isr_vc h0 rfl)) (j_cll (as := [x0]) (es := [x0]) (s_c2 r134_37 rfl h0 rfl rfl (j_dok (s := [x0, .int ((Int32.ofInt 10) * (j_I H (j_pa x0) 12)), x0]) (as := [x0]) (rest := [.int ((Int32.ofInt 10) * (j_I H (j_pa x0) 12)), x0]) (es := [x0]) rfl rfl rfl rfl (j_slc (j_c1r (j_isr_vc h0 rfl)) rfl) rfl)) (j_slc (j_c1r (j_isr_vc h0 rfl)) rfl) rfl))))))
theorem b134_40 {b : Nat} {x0 : Value} {x1 : Int32} {y0 : Int32} {y1 : Int32} {y2 : Value} {H : j_H} {Q : Option Value → j_H → Prop} (h0 : j_vc H y2 = 12) : j_wp b 134 40 [x0, .int x1] [.int y0, .int y1, y2] H Q = j_wp b 134 47 [x0, .int x1] [] (j_sI H (j_pa y2) 12 ((y1 + y0) - (Int32.ofInt 48))) Q := Eq.trans (s_iadd r134_40) (Eq.trans (s_bipush r134_41) (Eq.trans (s_isub r134_43) (s_put r134_44 (j_al1 h0 rfl) rfl j_putI)))
theorem b134_47 {b : Nat} {x0 : Value} {x1 : Int32} {H : j_H} {Q : Option Value → j_H → Prop} (h0 : j_vc H x0 = 12) : j_wp b 134 47 [x0, .int x1] [] H Q = j_wp b 134 57 [x0, .int x1] [] (j_sI H (j_pa x0) 11 ((j_I H (j_pa x0) 11) + (Int32.ofInt 1))) Q := Eq.trans (s_aload_n r134_47 rfl (j_isr_vc h0 rfl)) (Eq.trans (s_dup r134_48 (j_vc_lt h0 rfl)) (Eq.trans (s_getfi r134_49 (j_al1 h0 rfl) rfl rfl rfl) (Eq.trans (s_iconst r134_52) (Eq.trans (s_iadd r134_53) (s_put r134_54 (j_al1 h0 rfl) rfl j_putI)))))
theorem b134_57 {b : Nat} {x0 : Value} {x1 : Int32} {H : j_H} {Q : Option Value → j_H → Prop}  : j_wp b 134 57 [x0, .int x1] [] H Q = j_wp b 134 16 [x0, .int (x1 + Int32.ofInt 1)] [] H Q := Eq.trans (s_iinc r134_57 rfl rfl) (s_goto r134_60 rfl)
theorem b134_63 {b : Nat} {x0 : Value} {x1 : Int32} {H : j_H} {Q : Option Value → j_H → Prop}  : j_wp b 134 63 [x0, .int x1] [] H Q = Q (some (.int (Int32.ofInt 1))) H := Eq.trans (s_iconst r134_63) (s_ireturn r134_64 (j_rok4 (z := 1) rfl rfl (by decide)))
-- X12_emits
theorem r135_0 : j_at 135 0 = some (0, .aload_n 0, 1, []) := by decide +kernel
theorem r135_1 : j_at 135 1 = some (1, .getfield 68, 3, [723, 12, 2, 19, 0, 12]) := by decide +kernel
theorem r135_4 : j_at 135 4 = some (4, .aload_n 0, 1, []) := by decide +kernel
theorem r135_5 : j_at 135 5 = some (5, .getfield 74, 3, [725, 12, 0, 21, 0, 12]) := by decide +kernel
theorem r135_8 : j_at 135 8 = some (8, .iload_n 1, 1, []) := by decide +kernel
theorem r135_9 : j_at 135 9 = some (9, .iastore, 1, []) := by decide +kernel
theorem r135_10 : j_at 135 10 = some (10, .aload_n 0, 1, []) := by decide +kernel
theorem r135_11 : j_at 135 11 = some (11, .dup, 1, []) := by decide +kernel
theorem r135_12 : j_at 135 12 = some (12, .getfield 74, 3, [725, 12, 0, 21, 0, 12]) := by decide +kernel
theorem r135_15 : j_at 135 15 = some (15, .iconst 1, 1, []) := by decide +kernel
theorem r135_16 : j_at 135 16 = some (16, .iadd, 1, []) := by decide +kernel
theorem r135_17 : j_at 135 17 = some (17, .putfield 74, 3, [725, 12, 0, 21, 0, 0, 12]) := by decide +kernel
theorem r135_20 : j_at 135 20 = some (20, .return_, 1, []) := by decide +kernel
theorem b135_0 {b : Nat} {x0 : Value} {x1 : Int32} {H : j_H} {Q : Option Value → j_H → Prop} (h0 : j_vc H x0 = 12) (h1 : j_vt H (va_rf (j_R H (j_pa x0) 19)) = 0) (h2 : 0 ≤ (j_I H (j_pa x0) 21).toInt) (h3 : (j_I H (j_pa x0) 21).toInt < ((j_vl H (va_rf (j_R H (j_pa x0) 19)) : Nat) : Int)) : j_wp b 135 0 [x0, .int x1] [] H Q = j_wp b 135 10 [x0, .int x1] [] (j_sI H (j_pa (va_rf (j_R H (j_pa x0) 19))) (j_ix (j_I H (j_pa x0) 21)) x1) Q := Eq.trans (s_aload_n r135_0 rfl (j_isr_vc h0 rfl)) (Eq.trans (s_getfr r135_1 (j_al1 h0 rfl) rfl) (Eq.trans (s_aload_n r135_4 rfl (j_isr_vc h0 rfl)) (Eq.trans (s_getfi r135_5 (j_al1 h0 rfl) rfl rfl rfl) (Eq.trans (s_iload_n r135_8 rfl) (s_iast r135_9 h1 (j_ib_of (z := (j_I H (j_pa x0) 21).toInt) rfl h2 h3))))))
theorem b135_10 {b : Nat} {x0 : Value} {x1 : Int32} {H : j_H} {Q : Option Value → j_H → Prop} (h0 : j_vc H x0 = 12) : j_wp b 135 10 [x0, .int x1] [] H Q = j_wp b 135 20 [x0, .int x1] [] (j_sI H (j_pa x0) 21 ((j_I H (j_pa x0) 21) + (Int32.ofInt 1))) Q := Eq.trans (s_aload_n r135_10 rfl (j_isr_vc h0 rfl)) (Eq.trans (s_dup r135_11 (j_vc_lt h0 rfl)) (Eq.trans (s_getfi r135_12 (j_al1 h0 rfl) rfl rfl rfl) (Eq.trans (s_iconst r135_15) (Eq.trans (s_iadd r135_16) (s_put r135_17 (j_al1 h0 rfl) rfl j_putI)))))
theorem b135_20 {b : Nat} {x0 : Value} {x1 : Int32} {H : j_H} {Q : Option Value → j_H → Prop}  : j_wp b 135 20 [x0, .int x1] [] H Q = Q none H := s_return r135_20 rfl
-- X12_whole
theorem r136_0 : j_at 136 0 = some (0, .aload_n 0, 1, []) := by decide +kernel
theorem r136_1 : j_at 136 1 = some (1, .getfield 77, 3, [726, 12, 0, 22, 0, 12]) := by decide +kernel
theorem r136_4 : j_at 136 4 = some (4, .ifCond .le 48, 3, []) := by decide +kernel
theorem r136_7 : j_at 136 7 = some (7, .aload_n 0, 1, []) := by decide +kernel
theorem r136_8 : j_at 136 8 = some (8, .getfield 71, 3, [724, 12, 2, 20, 0, 12]) := by decide +kernel
theorem r136_11 : j_at 136 11 = some (11, .aload_n 0, 1, []) := by decide +kernel
theorem r136_12 : j_at 136 12 = some (12, .getfield 77, 3, [726, 12, 0, 22, 0, 12]) := by decide +kernel
theorem r136_15 : j_at 136 15 = some (15, .iconst 1, 1, []) := by decide +kernel
theorem r136_16 : j_at 136 16 = some (16, .isub, 1, []) := by decide +kernel
theorem r136_17 : j_at 136 17 = some (17, .iaload, 1, []) := by decide +kernel
theorem r136_18 : j_at 136 18 = some (18, .bipush 33, 2, []) := by decide +kernel
theorem r136_20 : j_at 136 20 = some (20, .if_icmp .ne 32, 3, []) := by decide +kernel
theorem r136_23 : j_at 136 23 = some (23, .aload_n 0, 1, []) := by decide +kernel
theorem r136_24 : j_at 136 24 = some (24, .bipush (-33), 2, []) := by decide +kernel
theorem r136_26 : j_at 136 26 = some (26, .invokevirtual 208, 3, [2, 2, 135, 866, 867, 39, 77, 0, 12]) := by decide +kernel
theorem r136_29 : j_at 136 29 = some (29, .aload_n 0, 1, []) := by decide +kernel
theorem r136_30 : j_at 136 30 = some (30, .dup, 1, []) := by decide +kernel
theorem r136_31 : j_at 136 31 = some (31, .getfield 77, 3, [726, 12, 0, 22, 0, 12]) := by decide +kernel
theorem r136_34 : j_at 136 34 = some (34, .iconst 1, 1, []) := by decide +kernel
theorem r136_35 : j_at 136 35 = some (35, .isub, 1, []) := by decide +kernel
theorem r136_36 : j_at 136 36 = some (36, .putfield 77, 3, [726, 12, 0, 22, 0, 0, 12]) := by decide +kernel
theorem r136_39 : j_at 136 39 = some (39, .aload_n 0, 1, []) := by decide +kernel
theorem r136_40 : j_at 136 40 = some (40, .dup, 1, []) := by decide +kernel
theorem r136_41 : j_at 136 41 = some (41, .getfield 80, 3, [727, 12, 0, 23, 0, 12]) := by decide +kernel
theorem r136_44 : j_at 136 44 = some (44, .iconst 1, 1, []) := by decide +kernel
theorem r136_45 : j_at 136 45 = some (45, .isub, 1, []) := by decide +kernel
theorem r136_46 : j_at 136 46 = some (46, .putfield 80, 3, [727, 12, 0, 23, 0, 0, 12]) := by decide +kernel
theorem r136_49 : j_at 136 49 = some (49, .goto (-49), 3, []) := by decide +kernel
theorem r136_52 : j_at 136 52 = some (52, .return_, 1, []) := by decide +kernel
theorem b136_0 {b : Nat} {x0 : Value} {H : j_H} {Q : Option Value → j_H → Prop} (h0 : j_vc H x0 = 12) : j_wp b 136 0 [x0] [] H Q = (if (j_I H (j_pa x0) 22).toInt ≤ 0 then j_wp b 136 52 [x0] [] H Q else j_wp b 136 7 [x0] [] H Q) := Eq.trans (s_aload_n r136_0 rfl (j_isr_vc h0 rfl)) (Eq.trans (s_getfi r136_1 (j_al1 h0 rfl) rfl rfl rfl) (s_ifle r136_4 rfl rfl))
theorem b136_7 {b : Nat} {x0 : Value} {H : j_H} {Q : Option Value → j_H → Prop} (h0 : j_vc H x0 = 12) (h1 : j_vt H (va_rf (j_R H (j_pa x0) 20)) = 0) (h2 : 0 ≤ ((j_I H (j_pa x0) 22) - (Int32.ofInt 1)).toInt) (h3 : ((j_I H (j_pa x0) 22) - (Int32.ofInt 1)).toInt < ((j_vl H (va_rf (j_R H (j_pa x0) 20)) : Nat) : Int)) : j_wp b 136 7 [x0] [] H Q = (if ¬ (j_I H (j_pa (va_rf (j_R H (j_pa x0) 20))) (j_ix ((j_I H (j_pa x0) 22) - (Int32.ofInt 1)))).toInt = 33 then j_wp b 136 52 [x0] [] H Q else j_wp b 136 23 [x0] [] H Q) := Eq.trans (s_aload_n r136_7 rfl (j_isr_vc h0 rfl)) (Eq.trans (s_getfr r136_8 (j_al1 h0 rfl) rfl) (Eq.trans (s_aload_n r136_11 rfl (j_isr_vc h0 rfl)) (Eq.trans (s_getfi r136_12 (j_al1 h0 rfl) rfl rfl rfl) (Eq.trans (s_iconst r136_15) (Eq.trans (s_isub r136_16) (Eq.trans (s_iald r136_17 h1 (by decide) (j_ib_of (z := ((j_I H (j_pa x0) 22) - (Int32.ofInt 1)).toInt) rfl h2 h3)) (Eq.trans (s_bipush r136_18) (s_icne r136_20 rfl rfl rfl))))))))
theorem b136_23 {b : Nat} {x0 : Value} {H : j_H} {Q : Option Value → j_H → Prop} (h0 : j_vc H x0 = 12) : j_wp (b + 1) 136 23 [x0] [] H Q = j_wp b 135 0 [x0, .int (Int32.ofInt (-33))] [] H (j_k (b + 1) 136 29 [x0] [] Q) := Eq.trans (s_aload_n r136_23 rfl (j_isr_vc h0 rfl)) (Eq.trans (s_bipush r136_24) (j_cll (as := [x0, .int (Int32.ofInt (-33))]) (es := [x0, .int (Int32.ofInt (-33))]) (s_c2 r136_26 rfl h0 rfl rfl (j_dok (s := [.int (Int32.ofInt (-33)), x0]) (as := [x0, .int (Int32.ofInt (-33))]) (rest := []) (es := [x0, .int (Int32.ofInt (-33))]) rfl rfl rfl rfl (j_slc (j_c1r (j_isr_vc h0 rfl)) rfl) rfl)) (j_slc (j_c1r (j_isr_vc h0 rfl)) rfl) rfl))
theorem b136_29 {b : Nat} {x0 : Value} {H : j_H} {Q : Option Value → j_H → Prop} (h0 : j_vc H x0 = 12) : j_wp b 136 29 [x0] [] H Q = j_wp b 136 39 [x0] [] (j_sI H (j_pa x0) 22 ((j_I H (j_pa x0) 22) - (Int32.ofInt 1))) Q := Eq.trans (s_aload_n r136_29 rfl (j_isr_vc h0 rfl)) (Eq.trans (s_dup r136_30 (j_vc_lt h0 rfl)) (Eq.trans (s_getfi r136_31 (j_al1 h0 rfl) rfl rfl rfl) (Eq.trans (s_iconst r136_34) (Eq.trans (s_isub r136_35) (s_put r136_36 (j_al1 h0 rfl) rfl j_putI)))))
theorem b136_39 {b : Nat} {x0 : Value} {H : j_H} {Q : Option Value → j_H → Prop} (h0 : j_vc H x0 = 12) : j_wp b 136 39 [x0] [] H Q = j_wp b 136 49 [x0] [] (j_sI H (j_pa x0) 23 ((j_I H (j_pa x0) 23) - (Int32.ofInt 1))) Q := Eq.trans (s_aload_n r136_39 rfl (j_isr_vc h0 rfl)) (Eq.trans (s_dup r136_40 (j_vc_lt h0 rfl)) (Eq.trans (s_getfi r136_41 (j_al1 h0 rfl) rfl rfl rfl) (Eq.trans (s_iconst r136_44) (Eq.trans (s_isub r136_45) (s_put r136_46 (j_al1 h0 rfl) rfl j_putI)))))
theorem b136_49 {b : Nat} {x0 : Value} {H : j_H} {Q : Option Value → j_H → Prop}  : j_wp b 136 49 [x0] [] H Q = j_wp b 136 0 [x0] [] H Q := s_goto r136_49 rfl
theorem b136_52 {b : Nat} {x0 : Value} {H : j_H} {Q : Option Value → j_H → Prop}  : j_wp b 136 52 [x0] [] H Q = Q none H := s_return r136_52 rfl
-- X12_settle
theorem r137_0 : j_at 137 0 = some (0, .aload_n 0, 1, []) := by decide +kernel
theorem r137_1 : j_at 137 1 = some (1, .getfield 77, 3, [726, 12, 0, 22, 0, 12]) := by decide +kernel
theorem r137_4 : j_at 137 4 = some (4, .ifCond .le 68, 3, []) := by decide +kernel
theorem r137_7 : j_at 137 7 = some (7, .aload_n 0, 1, []) := by decide +kernel
theorem r137_8 : j_at 137 8 = some (8, .getfield 71, 3, [724, 12, 2, 20, 0, 12]) := by decide +kernel
theorem r137_11 : j_at 137 11 = some (11, .aload_n 0, 1, []) := by decide +kernel
theorem r137_12 : j_at 137 12 = some (12, .getfield 77, 3, [726, 12, 0, 22, 0, 12]) := by decide +kernel
theorem r137_15 : j_at 137 15 = some (15, .iconst 1, 1, []) := by decide +kernel
theorem r137_16 : j_at 137 16 = some (16, .isub, 1, []) := by decide +kernel
theorem r137_17 : j_at 137 17 = some (17, .iaload, 1, []) := by decide +kernel
theorem r137_18 : j_at 137 18 = some (18, .bipush 38, 2, []) := by decide +kernel
theorem r137_20 : j_at 137 20 = some (20, .if_icmp .eq 25, 3, []) := by decide +kernel
theorem r137_23 : j_at 137 23 = some (23, .aload_n 0, 1, []) := by decide +kernel
theorem r137_24 : j_at 137 24 = some (24, .getfield 71, 3, [724, 12, 2, 20, 0, 12]) := by decide +kernel
theorem r137_27 : j_at 137 27 = some (27, .aload_n 0, 1, []) := by decide +kernel
theorem r137_28 : j_at 137 28 = some (28, .getfield 77, 3, [726, 12, 0, 22, 0, 12]) := by decide +kernel
theorem r137_31 : j_at 137 31 = some (31, .iconst 1, 1, []) := by decide +kernel
theorem r137_32 : j_at 137 32 = some (32, .isub, 1, []) := by decide +kernel
theorem r137_33 : j_at 137 33 = some (33, .iaload, 1, []) := by decide +kernel
theorem r137_34 : j_at 137 34 = some (34, .bipush 124, 2, []) := by decide +kernel
theorem r137_36 : j_at 137 36 = some (36, .if_icmp .ne 36, 3, []) := by decide +kernel
theorem r137_39 : j_at 137 39 = some (39, .iload_n 1, 1, []) := by decide +kernel
theorem r137_40 : j_at 137 40 = some (40, .bipush 38, 2, []) := by decide +kernel
theorem r137_42 : j_at 137 42 = some (42, .if_icmp .eq 30, 3, []) := by decide +kernel
theorem r137_45 : j_at 137 45 = some (45, .aload_n 0, 1, []) := by decide +kernel
theorem r137_46 : j_at 137 46 = some (46, .dup, 1, []) := by decide +kernel
theorem r137_47 : j_at 137 47 = some (47, .getfield 77, 3, [726, 12, 0, 22, 0, 12]) := by decide +kernel
theorem r137_50 : j_at 137 50 = some (50, .iconst 1, 1, []) := by decide +kernel
theorem r137_51 : j_at 137 51 = some (51, .isub, 1, []) := by decide +kernel
theorem r137_52 : j_at 137 52 = some (52, .putfield 77, 3, [726, 12, 0, 22, 0, 0, 12]) := by decide +kernel
theorem r137_55 : j_at 137 55 = some (55, .aload_n 0, 1, []) := by decide +kernel
theorem r137_56 : j_at 137 56 = some (56, .aload_n 0, 1, []) := by decide +kernel
theorem r137_57 : j_at 137 57 = some (57, .getfield 71, 3, [724, 12, 2, 20, 0, 12]) := by decide +kernel
theorem r137_60 : j_at 137 60 = some (60, .aload_n 0, 1, []) := by decide +kernel
theorem r137_61 : j_at 137 61 = some (61, .getfield 77, 3, [726, 12, 0, 22, 0, 12]) := by decide +kernel
theorem r137_64 : j_at 137 64 = some (64, .iaload, 1, []) := by decide +kernel
theorem r137_65 : j_at 137 65 = some (65, .ineg, 1, []) := by decide +kernel
theorem r137_66 : j_at 137 66 = some (66, .invokevirtual 208, 3, [2, 2, 135, 866, 867, 39, 77, 0, 12]) := by decide +kernel
theorem r137_69 : j_at 137 69 = some (69, .goto (-69), 3, []) := by decide +kernel
theorem r137_72 : j_at 137 72 = some (72, .return_, 1, []) := by decide +kernel
theorem b137_0 {b : Nat} {x0 : Value} {x1 : Int32} {H : j_H} {Q : Option Value → j_H → Prop} (h0 : j_vc H x0 = 12) : j_wp b 137 0 [x0, .int x1] [] H Q = (if (j_I H (j_pa x0) 22).toInt ≤ 0 then j_wp b 137 72 [x0, .int x1] [] H Q else j_wp b 137 7 [x0, .int x1] [] H Q) := Eq.trans (s_aload_n r137_0 rfl (j_isr_vc h0 rfl)) (Eq.trans (s_getfi r137_1 (j_al1 h0 rfl) rfl rfl rfl) (s_ifle r137_4 rfl rfl))
theorem b137_7 {b : Nat} {x0 : Value} {x1 : Int32} {H : j_H} {Q : Option Value → j_H → Prop} (h0 : j_vc H x0 = 12) (h1 : j_vt H (va_rf (j_R H (j_pa x0) 20)) = 0) (h2 : 0 ≤ ((j_I H (j_pa x0) 22) - (Int32.ofInt 1)).toInt) (h3 : ((j_I H (j_pa x0) 22) - (Int32.ofInt 1)).toInt < ((j_vl H (va_rf (j_R H (j_pa x0) 20)) : Nat) : Int)) : j_wp b 137 7 [x0, .int x1] [] H Q = (if (j_I H (j_pa (va_rf (j_R H (j_pa x0) 20))) (j_ix ((j_I H (j_pa x0) 22) - (Int32.ofInt 1)))).toInt = 38 then j_wp b 137 45 [x0, .int x1] [] H Q else j_wp b 137 23 [x0, .int x1] [] H Q) := Eq.trans (s_aload_n r137_7 rfl (j_isr_vc h0 rfl)) (Eq.trans (s_getfr r137_8 (j_al1 h0 rfl) rfl) (Eq.trans (s_aload_n r137_11 rfl (j_isr_vc h0 rfl)) (Eq.trans (s_getfi r137_12 (j_al1 h0 rfl) rfl rfl rfl) (Eq.trans (s_iconst r137_15) (Eq.trans (s_isub r137_16) (Eq.trans (s_iald r137_17 h1 (by decide) (j_ib_of (z := ((j_I H (j_pa x0) 22) - (Int32.ofInt 1)).toInt) rfl h2 h3)) (Eq.trans (s_bipush r137_18) (s_iceq r137_20 rfl rfl rfl))))))))
theorem b137_23 {b : Nat} {x0 : Value} {x1 : Int32} {H : j_H} {Q : Option Value → j_H → Prop} (h0 : j_vc H x0 = 12) (h1 : j_vt H (va_rf (j_R H (j_pa x0) 20)) = 0) (h2 : 0 ≤ ((j_I H (j_pa x0) 22) - (Int32.ofInt 1)).toInt) (h3 : ((j_I H (j_pa x0) 22) - (Int32.ofInt 1)).toInt < ((j_vl H (va_rf (j_R H (j_pa x0) 20)) : Nat) : Int)) : j_wp b 137 23 [x0, .int x1] [] H Q = (if ¬ (j_I H (j_pa (va_rf (j_R H (j_pa x0) 20))) (j_ix ((j_I H (j_pa x0) 22) - (Int32.ofInt 1)))).toInt = 124 then j_wp b 137 72 [x0, .int x1] [] H Q else j_wp b 137 39 [x0, .int x1] [] H Q) := Eq.trans (s_aload_n r137_23 rfl (j_isr_vc h0 rfl)) (Eq.trans (s_getfr r137_24 (j_al1 h0 rfl) rfl) (Eq.trans (s_aload_n r137_27 rfl (j_isr_vc h0 rfl)) (Eq.trans (s_getfi r137_28 (j_al1 h0 rfl) rfl rfl rfl) (Eq.trans (s_iconst r137_31) (Eq.trans (s_isub r137_32) (Eq.trans (s_iald r137_33 h1 (by decide) (j_ib_of (z := ((j_I H (j_pa x0) 22) - (Int32.ofInt 1)).toInt) rfl h2 h3)) (Eq.trans (s_bipush r137_34) (s_icne r137_36 rfl rfl rfl))))))))
theorem b137_39 {b : Nat} {x0 : Value} {x1 : Int32} {H : j_H} {Q : Option Value → j_H → Prop}  : j_wp b 137 39 [x0, .int x1] [] H Q = (if x1.toInt = 38 then j_wp b 137 72 [x0, .int x1] [] H Q else j_wp b 137 45 [x0, .int x1] [] H Q) := Eq.trans (s_iload_n r137_39 rfl) (Eq.trans (s_bipush r137_40) (s_iceq r137_42 rfl rfl rfl))
theorem b137_45 {b : Nat} {x0 : Value} {x1 : Int32} {H : j_H} {Q : Option Value → j_H → Prop} (h0 : j_vc H x0 = 12) : j_wp b 137 45 [x0, .int x1] [] H Q = j_wp b 137 55 [x0, .int x1] [] (j_sI H (j_pa x0) 22 ((j_I H (j_pa x0) 22) - (Int32.ofInt 1))) Q := Eq.trans (s_aload_n r137_45 rfl (j_isr_vc h0 rfl)) (Eq.trans (s_dup r137_46 (j_vc_lt h0 rfl)) (Eq.trans (s_getfi r137_47 (j_al1 h0 rfl) rfl rfl rfl) (Eq.trans (s_iconst r137_50) (Eq.trans (s_isub r137_51) (s_put r137_52 (j_al1 h0 rfl) rfl j_putI)))))
theorem b137_55 {b : Nat} {x0 : Value} {x1 : Int32} {H : j_H} {Q : Option Value → j_H → Prop} (h0 : j_vc H x0 = 12) (h1 : j_vt H (va_rf (j_R H (j_pa x0) 20)) = 0) (h2 : 0 ≤ (j_I H (j_pa x0) 22).toInt) (h3 : (j_I H (j_pa x0) 22).toInt < ((j_vl H (va_rf (j_R H (j_pa x0) 20)) : Nat) : Int)) : j_wp (b + 1) 137 55 [x0, .int x1] [] H Q = j_wp b 135 0 [x0, .int (-(j_I H (j_pa (va_rf (j_R H (j_pa x0) 20))) (j_ix (j_I H (j_pa x0) 22))))] [] H (j_k (b + 1) 137 69 [x0, .int x1] [] Q) := Eq.trans (s_aload_n r137_55 rfl (j_isr_vc h0 rfl)) (Eq.trans (s_aload_n r137_56 rfl (j_isr_vc h0 rfl)) (Eq.trans (s_getfr r137_57 (j_al1 h0 rfl) rfl) (Eq.trans (s_aload_n r137_60 rfl (j_isr_vc h0 rfl)) (Eq.trans (s_getfi r137_61 (j_al1 h0 rfl) rfl rfl rfl) (Eq.trans (s_iald r137_64 h1 (by decide) (j_ib_of (z := (j_I H (j_pa x0) 22).toInt) rfl h2 h3)) (Eq.trans (s_ineg r137_65) (j_cll (as := [x0, .int (-(j_I H (j_pa (va_rf (j_R H (j_pa x0) 20))) (j_ix (j_I H (j_pa x0) 22))))]) (es := [x0, .int (-(j_I H (j_pa (va_rf (j_R H (j_pa x0) 20))) (j_ix (j_I H (j_pa x0) 22))))]) (s_c2 r137_66 rfl h0 rfl rfl (j_dok (s := [.int (-(j_I H (j_pa (va_rf (j_R H (j_pa x0) 20))) (j_ix (j_I H (j_pa x0) 22)))), x0]) (as := [x0, .int (-(j_I H (j_pa (va_rf (j_R H (j_pa x0) 20))) (j_ix (j_I H (j_pa x0) 22))))]) (rest := []) (es := [x0, .int (-(j_I H (j_pa (va_rf (j_R H (j_pa x0) 20))) (j_ix (j_I H (j_pa x0) 22))))]) rfl rfl rfl rfl (j_slc (j_c1r (j_isr_vc h0 rfl)) rfl) rfl)) (j_slc (j_c1r (j_isr_vc h0 rfl)) rfl) rfl)))))))
theorem b137_69 {b : Nat} {x0 : Value} {x1 : Int32} {H : j_H} {Q : Option Value → j_H → Prop}  : j_wp b 137 69 [x0, .int x1] [] H Q = j_wp b 137 0 [x0, .int x1] [] H Q := s_goto r137_69 rfl
theorem b137_72 {b : Nat} {x0 : Value} {x1 : Int32} {H : j_H} {Q : Option Value → j_H → Prop}  : j_wp b 137 72 [x0, .int x1] [] H Q = Q none H := s_return r137_72 rfl
-- X12_place
theorem r138_0 : j_at 138 0 = some (0, .iload_n 1, 1, []) := by decide +kernel
theorem r138_1 : j_at 138 1 = some (1, .tableswitch 91 103 118 #[79, 85, 91, 91, 81, 91, 91, 87, 91, 91, 91, 91, 89, 91, 91, 83], 79, []) := by decide +kernel
theorem r138_80 : j_at 138 80 = some (80, .iconst 0, 1, []) := by decide +kernel
theorem r138_81 : j_at 138 81 = some (81, .ireturn, 1, []) := by decide +kernel
theorem r138_82 : j_at 138 82 = some (82, .iconst 1, 1, []) := by decide +kernel
theorem r138_83 : j_at 138 83 = some (83, .ireturn, 1, []) := by decide +kernel
theorem r138_84 : j_at 138 84 = some (84, .iconst 2, 1, []) := by decide +kernel
theorem r138_85 : j_at 138 85 = some (85, .ireturn, 1, []) := by decide +kernel
theorem r138_86 : j_at 138 86 = some (86, .iconst 3, 1, []) := by decide +kernel
theorem r138_87 : j_at 138 87 = some (87, .ireturn, 1, []) := by decide +kernel
theorem r138_88 : j_at 138 88 = some (88, .iconst 4, 1, []) := by decide +kernel
theorem r138_89 : j_at 138 89 = some (89, .ireturn, 1, []) := by decide +kernel
theorem r138_90 : j_at 138 90 = some (90, .iconst 5, 1, []) := by decide +kernel
theorem r138_91 : j_at 138 91 = some (91, .ireturn, 1, []) := by decide +kernel
theorem r138_92 : j_at 138 92 = some (92, .iconst (-1), 1, []) := by decide +kernel
theorem r138_93 : j_at 138 93 = some (93, .ireturn, 1, []) := by decide +kernel
theorem b138_0 {b : Nat} {x0 : Value} {x1 : Int32} {H : j_H} {Q : Option Value → j_H → Prop}  : j_wp b 138 0 [x0, .int x1] [] H Q = (if x1.toInt = 103 then j_wp b 138 80 [x0, .int x1] [] H Q else if x1.toInt = 104 then j_wp b 138 86 [x0, .int x1] [] H Q else if x1.toInt = 107 then j_wp b 138 82 [x0, .int x1] [] H Q else if x1.toInt = 110 then j_wp b 138 88 [x0, .int x1] [] H Q else if x1.toInt = 115 then j_wp b 138 90 [x0, .int x1] [] H Q else if x1.toInt = 118 then j_wp b 138 84 [x0, .int x1] [] H Q else j_wp b 138 92 [x0, .int x1] [] H Q) := Eq.trans (s_iload_n r138_0 rfl) (j_ite (fun h => s_tsw r138_1 (by rw [h]; rfl)) (fun h203 => j_ite (fun h => s_tsw r138_1 (by rw [h]; rfl)) (fun h204 => j_ite (fun h => s_tsw r138_1 (by rw [h]; rfl)) (fun h207 => j_ite (fun h => s_tsw r138_1 (by rw [h]; rfl)) (fun h210 => j_ite (fun h => s_tsw r138_1 (by rw [h]; rfl)) (fun h215 => j_ite (fun h => s_tsw r138_1 (by rw [h]; rfl)) (fun h218 => s_tsw r138_1 (by
    have h : x1.toInt < 103 ∨ 118 < x1.toInt  ∨ x1.toInt = 105 ∨ x1.toInt = 106 ∨ x1.toInt = 108 ∨ x1.toInt = 109 ∨ x1.toInt = 111 ∨ x1.toInt = 112 ∨ x1.toInt = 113 ∨ x1.toInt = 114 ∨ x1.toInt = 116 ∨ x1.toInt = 117 := by omega
    rcases h with h | h | h | h | h | h | h | h | h | h | h | h
    · rw [if_neg (by omega), j_sw, if_pos h]; rfl
    · rw [if_pos h]; rfl
    · rw [h]; rfl
    · rw [h]; rfl
    · rw [h]; rfl
    · rw [h]; rfl
    · rw [h]; rfl
    · rw [h]; rfl
    · rw [h]; rfl
    · rw [h]; rfl
    · rw [h]; rfl
    · rw [h]; rfl))))))))
theorem b138_80 {b : Nat} {x0 : Value} {x1 : Int32} {H : j_H} {Q : Option Value → j_H → Prop}  : j_wp b 138 80 [x0, .int x1] [] H Q = Q (some (.int (Int32.ofInt 0))) H := Eq.trans (s_iconst r138_80) (s_ireturn r138_81 (j_rok1 rfl))
theorem b138_82 {b : Nat} {x0 : Value} {x1 : Int32} {H : j_H} {Q : Option Value → j_H → Prop}  : j_wp b 138 82 [x0, .int x1] [] H Q = Q (some (.int (Int32.ofInt 1))) H := Eq.trans (s_iconst r138_82) (s_ireturn r138_83 (j_rok1 rfl))
theorem b138_84 {b : Nat} {x0 : Value} {x1 : Int32} {H : j_H} {Q : Option Value → j_H → Prop}  : j_wp b 138 84 [x0, .int x1] [] H Q = Q (some (.int (Int32.ofInt 2))) H := Eq.trans (s_iconst r138_84) (s_ireturn r138_85 (j_rok1 rfl))
theorem b138_86 {b : Nat} {x0 : Value} {x1 : Int32} {H : j_H} {Q : Option Value → j_H → Prop}  : j_wp b 138 86 [x0, .int x1] [] H Q = Q (some (.int (Int32.ofInt 3))) H := Eq.trans (s_iconst r138_86) (s_ireturn r138_87 (j_rok1 rfl))
theorem b138_88 {b : Nat} {x0 : Value} {x1 : Int32} {H : j_H} {Q : Option Value → j_H → Prop}  : j_wp b 138 88 [x0, .int x1] [] H Q = Q (some (.int (Int32.ofInt 4))) H := Eq.trans (s_iconst r138_88) (s_ireturn r138_89 (j_rok1 rfl))
theorem b138_90 {b : Nat} {x0 : Value} {x1 : Int32} {H : j_H} {Q : Option Value → j_H → Prop}  : j_wp b 138 90 [x0, .int x1] [] H Q = Q (some (.int (Int32.ofInt 5))) H := Eq.trans (s_iconst r138_90) (s_ireturn r138_91 (j_rok1 rfl))
theorem b138_92 {b : Nat} {x0 : Value} {x1 : Int32} {H : j_H} {Q : Option Value → j_H → Prop}  : j_wp b 138 92 [x0, .int x1] [] H Q = Q (some (.int (Int32.ofInt (-1)))) H := Eq.trans (s_iconst r138_92) (s_ireturn r138_93 (j_rok1 rfl))
-- X12_takesTest
theorem r139_0 : j_at 139 0 = some (0, .aload_n 0, 1, []) := by decide +kernel
theorem r139_1 : j_at 139 1 = some (1, .aload_n 0, 1, []) := by decide +kernel
theorem r139_2 : j_at 139 2 = some (2, .invokevirtual 197, 3, [2, 1, 130, 850, 851, 31, 77, 0, 12]) := by decide +kernel
theorem r139_5 : j_at 139 5 = some (5, .invokevirtual 212, 3, [2, 2, 138, 864, 865, 38, 77, 0, 12]) := by decide +kernel
theorem r139_8 : j_at 139 8 = some (8, .istore_n 1, 1, []) := by decide +kernel
theorem r139_9 : j_at 139 9 = some (9, .iload_n 1, 1, []) := by decide +kernel
theorem r139_10 : j_at 139 10 = some (10, .ifCond .ge 5, 3, []) := by decide +kernel
theorem r139_13 : j_at 139 13 = some (13, .iconst 0, 1, []) := by decide +kernel
theorem r139_14 : j_at 139 14 = some (14, .ireturn, 1, []) := by decide +kernel
theorem r139_15 : j_at 139 15 = some (15, .aload_n 0, 1, []) := by decide +kernel
theorem r139_16 : j_at 139 16 = some (16, .dup, 1, []) := by decide +kernel
theorem r139_17 : j_at 139 17 = some (17, .getfield 44, 3, [715, 12, 0, 11, 0, 12]) := by decide +kernel
theorem r139_20 : j_at 139 20 = some (20, .iconst 1, 1, []) := by decide +kernel
theorem r139_21 : j_at 139 21 = some (21, .iadd, 1, []) := by decide +kernel
theorem r139_22 : j_at 139 22 = some (22, .putfield 44, 3, [715, 12, 0, 11, 0, 0, 12]) := by decide +kernel
theorem r139_25 : j_at 139 25 = some (25, .aload_n 0, 1, []) := by decide +kernel
theorem r139_26 : j_at 139 26 = some (26, .invokevirtual 197, 3, [2, 1, 130, 850, 851, 31, 77, 0, 12]) := by decide +kernel
theorem r139_29 : j_at 139 29 = some (29, .istore_n 2, 1, []) := by decide +kernel
theorem r139_30 : j_at 139 30 = some (30, .aload_n 0, 1, []) := by decide +kernel
theorem r139_31 : j_at 139 31 = some (31, .iload_n 2, 1, []) := by decide +kernel
theorem r139_32 : j_at 139 32 = some (32, .bipush 60, 2, []) := by decide +kernel
theorem r139_34 : j_at 139 34 = some (34, .bipush 62, 2, []) := by decide +kernel
theorem r139_36 : j_at 139 36 = some (36, .invokevirtual 189, 3, [2, 4, 121, 825, 826, 26, 77, 0, 12]) := by decide +kernel
theorem r139_39 : j_at 139 39 = some (39, .ifCond .ne 5, 3, []) := by decide +kernel
theorem r139_42 : j_at 139 42 = some (42, .iconst 0, 1, []) := by decide +kernel
theorem r139_43 : j_at 139 43 = some (43, .ireturn, 1, []) := by decide +kernel
theorem r139_44 : j_at 139 44 = some (44, .aload_n 0, 1, []) := by decide +kernel
theorem r139_45 : j_at 139 45 = some (45, .dup, 1, []) := by decide +kernel
theorem r139_46 : j_at 139 46 = some (46, .getfield 44, 3, [715, 12, 0, 11, 0, 12]) := by decide +kernel
theorem r139_49 : j_at 139 49 = some (49, .iconst 1, 1, []) := by decide +kernel
theorem r139_50 : j_at 139 50 = some (50, .iadd, 1, []) := by decide +kernel
theorem r139_51 : j_at 139 51 = some (51, .putfield 44, 3, [715, 12, 0, 11, 0, 0, 12]) := by decide +kernel
theorem r139_54 : j_at 139 54 = some (54, .aload_n 0, 1, []) := by decide +kernel
theorem r139_55 : j_at 139 55 = some (55, .invokevirtual 216, 3, [2, 1, 134, 856, 857, 34, 77, 0, 12]) := by decide +kernel
theorem r139_58 : j_at 139 58 = some (58, .ifCond .ne 5, 3, []) := by decide +kernel
theorem r139_61 : j_at 139 61 = some (61, .iconst 0, 1, []) := by decide +kernel
theorem r139_62 : j_at 139 62 = some (62, .ireturn, 1, []) := by decide +kernel
theorem r139_63 : j_at 139 63 = some (63, .aload_n 0, 1, []) := by decide +kernel
theorem r139_64 : j_at 139 64 = some (64, .sipush 1000, 3, []) := by decide +kernel
theorem r139_67 : j_at 139 67 = some (67, .iload_n 1, 1, []) := by decide +kernel
theorem r139_68 : j_at 139 68 = some (68, .imul, 1, []) := by decide +kernel
theorem r139_69 : j_at 139 69 = some (69, .bipush 100, 2, []) := by decide +kernel
theorem r139_71 : j_at 139 71 = some (71, .iload_n 2, 1, []) := by decide +kernel
theorem r139_72 : j_at 139 72 = some (72, .bipush 60, 2, []) := by decide +kernel
theorem r139_74 : j_at 139 74 = some (74, .isub, 1, []) := by decide +kernel
theorem r139_75 : j_at 139 75 = some (75, .imul, 1, []) := by decide +kernel
theorem r139_76 : j_at 139 76 = some (76, .iadd, 1, []) := by decide +kernel
theorem r139_77 : j_at 139 77 = some (77, .aload_n 0, 1, []) := by decide +kernel
theorem r139_78 : j_at 139 78 = some (78, .getfield 47, 3, [716, 12, 0, 12, 0, 12]) := by decide +kernel
theorem r139_81 : j_at 139 81 = some (81, .iadd, 1, []) := by decide +kernel
theorem r139_82 : j_at 139 82 = some (82, .invokevirtual 208, 3, [2, 2, 135, 866, 867, 39, 77, 0, 12]) := by decide +kernel
theorem r139_85 : j_at 139 85 = some (85, .aload_n 0, 1, []) := by decide +kernel
theorem r139_86 : j_at 139 86 = some (86, .invokevirtual 219, 3, [2, 1, 136, 868, 869, 40, 77, 0, 12]) := by decide +kernel
theorem r139_89 : j_at 139 89 = some (89, .iconst 1, 1, []) := by decide +kernel
theorem r139_90 : j_at 139 90 = some (90, .ireturn, 1, []) := by decide +kernel
theorem b139_0 {b : Nat} {x0 : Value} {u1 : Value} {u2 : Value} {H : j_H} {Q : Option Value → j_H → Prop} (h0 : j_vc H x0 = 12) : j_wp (b + 1) 139 0 [x0, u1, u2] [] H Q = j_wp b 130 0 [x0] [] H (j_k (b + 1) 139 5 [x0, u1, u2] [x0] Q) := Eq.trans (s_aload_n r139_0 rfl (j_isr_vc h0 rfl)) (Eq.trans (s_aload_n r139_1 rfl (j_isr_vc h0 rfl)) (j_cll (as := [x0]) (es := [x0]) (s_c2 r139_2 rfl h0 rfl rfl (j_dok (s := [x0, x0]) (as := [x0]) (rest := [x0]) (es := [x0]) rfl rfl rfl rfl (j_slc (j_c1r (j_isr_vc h0 rfl)) rfl) rfl)) (j_slc (j_c1r (j_isr_vc h0 rfl)) rfl) rfl))
theorem b139_5 {b : Nat} {x0 : Value} {u1 : Value} {u2 : Value} {y0 : Int32} {y1 : Value} {H : j_H} {Q : Option Value → j_H → Prop} (h0 : j_vc H y1 = 12) : j_wp (b + 1) 139 5 [x0, u1, u2] [.int y0, y1] H Q = j_wp b 138 0 [y1, .int y0] [] H (j_k (b + 1) 139 8 [x0, u1, u2] [] Q) := j_cll (as := [y1, .int y0]) (es := [y1, .int y0]) (s_c2 r139_5 rfl h0 rfl rfl (j_dok (s := [.int y0, y1]) (as := [y1, .int y0]) (rest := []) (es := [y1, .int y0]) rfl rfl rfl rfl (j_slc (j_c1r (j_isr_vc h0 rfl)) rfl) rfl)) (j_slc (j_c1r (j_isr_vc h0 rfl)) rfl) rfl
theorem b139_8 {b : Nat} {x0 : Value} {u1 : Value} {u2 : Value} {y0 : Int32} {H : j_H} {Q : Option Value → j_H → Prop} (h0 : j_isr x0 = true) : j_wp b 139 8 [x0, u1, u2] [.int y0] H Q = (if 0 ≤ y0.toInt then j_wp b 139 15 [x0, .int y0, u2] [] H Q else j_wp b 139 13 [x0, .int y0, u2] [] H Q) := Eq.trans (s_istore_n r139_8 (Nat.le_of_ble_eq_true rfl) (j_stc (j_c1r h0) rfl)) (Eq.trans (s_iload_n r139_9 rfl) (s_ifge r139_10 rfl rfl))
theorem b139_13 {b : Nat} {x0 : Value} {x1 : Int32} {u2 : Value} {H : j_H} {Q : Option Value → j_H → Prop}  : j_wp b 139 13 [x0, .int x1, u2] [] H Q = Q (some (.int (Int32.ofInt 0))) H := Eq.trans (s_iconst r139_13) (s_ireturn r139_14 (j_rok4 (z := 0) rfl rfl (by decide)))
theorem b139_15 {b : Nat} {x0 : Value} {x1 : Int32} {u2 : Value} {H : j_H} {Q : Option Value → j_H → Prop} (h0 : j_vc H x0 = 12) : j_wp b 139 15 [x0, .int x1, u2] [] H Q = j_wp b 139 25 [x0, .int x1, u2] [] (j_sI H (j_pa x0) 11 ((j_I H (j_pa x0) 11) + (Int32.ofInt 1))) Q := Eq.trans (s_aload_n r139_15 rfl (j_isr_vc h0 rfl)) (Eq.trans (s_dup r139_16 (j_vc_lt h0 rfl)) (Eq.trans (s_getfi r139_17 (j_al1 h0 rfl) rfl rfl rfl) (Eq.trans (s_iconst r139_20) (Eq.trans (s_iadd r139_21) (s_put r139_22 (j_al1 h0 rfl) rfl j_putI)))))
theorem b139_25 {b : Nat} {x0 : Value} {x1 : Int32} {u2 : Value} {H : j_H} {Q : Option Value → j_H → Prop} (h0 : j_vc H x0 = 12) : j_wp (b + 1) 139 25 [x0, .int x1, u2] [] H Q = j_wp b 130 0 [x0] [] H (j_k (b + 1) 139 29 [x0, .int x1, u2] [] Q) := Eq.trans (s_aload_n r139_25 rfl (j_isr_vc h0 rfl)) (j_cll (as := [x0]) (es := [x0]) (s_c2 r139_26 rfl h0 rfl rfl (j_dok (s := [x0]) (as := [x0]) (rest := []) (es := [x0]) rfl rfl rfl rfl (j_slc (j_c1r (j_isr_vc h0 rfl)) rfl) rfl)) (j_slc (j_c1r (j_isr_vc h0 rfl)) rfl) rfl)
theorem b139_29 {b : Nat} {x0 : Value} {x1 : Int32} {u2 : Value} {y0 : Int32} {H : j_H} {Q : Option Value → j_H → Prop} (h0 : j_vc H x0 = 12) : j_wp (b + 1) 139 29 [x0, .int x1, u2] [.int y0] H Q = j_wp b 121 0 [x0, .int y0, .int (Int32.ofInt 60), .int (Int32.ofInt 62)] [] H (j_k (b + 1) 139 39 [x0, .int x1, .int y0] [] Q) := Eq.trans (s_istore_n r139_29 (Nat.le_of_ble_eq_true rfl) rfl) (Eq.trans (s_aload_n r139_30 rfl (j_isr_vc h0 rfl)) (Eq.trans (s_iload_n r139_31 rfl) (Eq.trans (s_bipush r139_32) (Eq.trans (s_bipush r139_34) (j_cll (as := [x0, .int y0, .int (Int32.ofInt 60), .int (Int32.ofInt 62)]) (es := [x0, .int y0, .int (Int32.ofInt 60), .int (Int32.ofInt 62)]) (s_c2 r139_36 rfl h0 rfl rfl (j_dok (s := [.int (Int32.ofInt 62), .int (Int32.ofInt 60), .int y0, x0]) (as := [x0, .int y0, .int (Int32.ofInt 60), .int (Int32.ofInt 62)]) (rest := []) (es := [x0, .int y0, .int (Int32.ofInt 60), .int (Int32.ofInt 62)]) rfl rfl rfl rfl (j_slc (j_c1r (j_isr_vc h0 rfl)) rfl) rfl)) (j_slc (j_c1r (j_isr_vc h0 rfl)) rfl) rfl)))))
theorem b139_39 {b : Nat} {x0 : Value} {x1 : Int32} {x2 : Int32} {y0 : Int32} {H : j_H} {Q : Option Value → j_H → Prop}  : j_wp b 139 39 [x0, .int x1, .int x2] [.int y0] H Q = (if ¬ y0.toInt = 0 then j_wp b 139 44 [x0, .int x1, .int x2] [] H Q else j_wp b 139 42 [x0, .int x1, .int x2] [] H Q) := s_ifne r139_39 rfl rfl
theorem b139_42 {b : Nat} {x0 : Value} {x1 : Int32} {x2 : Int32} {H : j_H} {Q : Option Value → j_H → Prop}  : j_wp b 139 42 [x0, .int x1, .int x2] [] H Q = Q (some (.int (Int32.ofInt 0))) H := Eq.trans (s_iconst r139_42) (s_ireturn r139_43 (j_rok4 (z := 0) rfl rfl (by decide)))
theorem b139_44 {b : Nat} {x0 : Value} {x1 : Int32} {x2 : Int32} {H : j_H} {Q : Option Value → j_H → Prop} (h0 : j_vc H x0 = 12) : j_wp b 139 44 [x0, .int x1, .int x2] [] H Q = j_wp b 139 54 [x0, .int x1, .int x2] [] (j_sI H (j_pa x0) 11 ((j_I H (j_pa x0) 11) + (Int32.ofInt 1))) Q := Eq.trans (s_aload_n r139_44 rfl (j_isr_vc h0 rfl)) (Eq.trans (s_dup r139_45 (j_vc_lt h0 rfl)) (Eq.trans (s_getfi r139_46 (j_al1 h0 rfl) rfl rfl rfl) (Eq.trans (s_iconst r139_49) (Eq.trans (s_iadd r139_50) (s_put r139_51 (j_al1 h0 rfl) rfl j_putI)))))
theorem b139_54 {b : Nat} {x0 : Value} {x1 : Int32} {x2 : Int32} {H : j_H} {Q : Option Value → j_H → Prop} (h0 : j_vc H x0 = 12) : j_wp (b + 1) 139 54 [x0, .int x1, .int x2] [] H Q = j_wp b 134 0 [x0, j_u] [] H (j_k (b + 1) 139 58 [x0, .int x1, .int x2] [] Q) := Eq.trans (s_aload_n r139_54 rfl (j_isr_vc h0 rfl)) (j_cll (as := [x0]) (es := [x0]) (s_c2 r139_55 rfl h0 rfl rfl (j_dok (s := [x0]) (as := [x0]) (rest := []) (es := [x0]) rfl rfl rfl rfl (j_slc (j_c1r (j_isr_vc h0 rfl)) rfl) rfl)) (j_slc (j_c1r (j_isr_vc h0 rfl)) rfl) rfl)
theorem b139_58 {b : Nat} {x0 : Value} {x1 : Int32} {x2 : Int32} {y0 : Int32} {H : j_H} {Q : Option Value → j_H → Prop}  : j_wp b 139 58 [x0, .int x1, .int x2] [.int y0] H Q = (if ¬ y0.toInt = 0 then j_wp b 139 63 [x0, .int x1, .int x2] [] H Q else j_wp b 139 61 [x0, .int x1, .int x2] [] H Q) := s_ifne r139_58 rfl rfl
theorem b139_61 {b : Nat} {x0 : Value} {x1 : Int32} {x2 : Int32} {H : j_H} {Q : Option Value → j_H → Prop}  : j_wp b 139 61 [x0, .int x1, .int x2] [] H Q = Q (some (.int (Int32.ofInt 0))) H := Eq.trans (s_iconst r139_61) (s_ireturn r139_62 (j_rok4 (z := 0) rfl rfl (by decide)))
theorem b139_63 {b : Nat} {x0 : Value} {x1 : Int32} {x2 : Int32} {H : j_H} {Q : Option Value → j_H → Prop} (h0 : j_vc H x0 = 12) : j_wp (b + 1) 139 63 [x0, .int x1, .int x2] [] H Q = j_wp b 135 0 [x0, .int ((((Int32.ofInt 1000) * x1) + ((Int32.ofInt 100) * (x2 - (Int32.ofInt 60)))) + (j_I H (j_pa x0) 12))] [] H (j_k (b + 1) 139 85 [x0, .int x1, .int x2] [] Q) := Eq.trans (s_aload_n r139_63 rfl (j_isr_vc h0 rfl)) (Eq.trans (s_sipush r139_64) (Eq.trans (s_iload_n r139_67 rfl) (Eq.trans (s_imul r139_68) (Eq.trans (s_bipush r139_69) (Eq.trans (s_iload_n r139_71 rfl) (Eq.trans (s_bipush r139_72) (Eq.trans (s_isub r139_74) (Eq.trans (s_imul r139_75) (Eq.trans (s_iadd r139_76) (Eq.trans (s_aload_n r139_77 rfl (j_isr_vc h0 rfl)) (Eq.trans (s_getfi r139_78 (j_al1 h0 rfl) rfl rfl rfl) (Eq.trans (s_iadd r139_81) (j_cll (as := [x0, .int ((((Int32.ofInt 1000) * x1) + ((Int32.ofInt 100) * (x2 - (Int32.ofInt 60)))) + (j_I H (j_pa x0) 12))]) (es := [x0, .int ((((Int32.ofInt 1000) * x1) + ((Int32.ofInt 100) * (x2 - (Int32.ofInt 60)))) + (j_I H (j_pa x0) 12))]) (s_c2 r139_82 rfl h0 rfl rfl (j_dok (s := [.int ((((Int32.ofInt 1000) * x1) + ((Int32.ofInt 100) * (x2 - (Int32.ofInt 60)))) + (j_I H (j_pa x0) 12)), x0]) (as := [x0, .int ((((Int32.ofInt 1000) * x1) + ((Int32.ofInt 100) * (x2 - (Int32.ofInt 60)))) + (j_I H (j_pa x0) 12))]) (rest := []) (es := [x0, .int ((((Int32.ofInt 1000) * x1) + ((Int32.ofInt 100) * (x2 - (Int32.ofInt 60)))) + (j_I H (j_pa x0) 12))]) rfl rfl rfl rfl (j_slc (j_c1r (j_isr_vc h0 rfl)) rfl) rfl)) (j_slc (j_c1r (j_isr_vc h0 rfl)) rfl) rfl)))))))))))))
theorem b139_85 {b : Nat} {x0 : Value} {x1 : Int32} {x2 : Int32} {H : j_H} {Q : Option Value → j_H → Prop} (h0 : j_vc H x0 = 12) : j_wp (b + 1) 139 85 [x0, .int x1, .int x2] [] H Q = j_wp b 136 0 [x0] [] H (j_k (b + 1) 139 89 [x0, .int x1, .int x2] [] Q) := Eq.trans (s_aload_n r139_85 rfl (j_isr_vc h0 rfl)) (j_cll (as := [x0]) (es := [x0]) (s_c2 r139_86 rfl h0 rfl rfl (j_dok (s := [x0]) (as := [x0]) (rest := []) (es := [x0]) rfl rfl rfl rfl (j_slc (j_c1r (j_isr_vc h0 rfl)) rfl) rfl)) (j_slc (j_c1r (j_isr_vc h0 rfl)) rfl) rfl)
theorem b139_89 {b : Nat} {x0 : Value} {x1 : Int32} {x2 : Int32} {H : j_H} {Q : Option Value → j_H → Prop}  : j_wp b 139 89 [x0, .int x1, .int x2] [] H Q = Q (some (.int (Int32.ofInt 1))) H := Eq.trans (s_iconst r139_89) (s_ireturn r139_90 (j_rok4 (z := 1) rfl rfl (by decide)))
-- X12_takesE
theorem r140_0 : j_at 140 0 = some (0, .aload_n 0, 1, []) := by decide +kernel
theorem r140_1 : j_at 140 1 = some (1, .iconst 0, 1, []) := by decide +kernel
theorem r140_2 : j_at 140 2 = some (2, .putfield 77, 3, [726, 12, 0, 22, 0, 0, 12]) := by decide +kernel
theorem r140_5 : j_at 140 5 = some (5, .aload_n 0, 1, []) := by decide +kernel
theorem r140_6 : j_at 140 6 = some (6, .iconst 0, 1, []) := by decide +kernel
theorem r140_7 : j_at 140 7 = some (7, .putfield 80, 3, [727, 12, 0, 23, 0, 0, 12]) := by decide +kernel
theorem r140_10 : j_at 140 10 = some (10, .aload_n 0, 1, []) := by decide +kernel
theorem r140_11 : j_at 140 11 = some (11, .getfield 62, 3, [721, 12, 2, 17, 0, 12]) := by decide +kernel
theorem r140_14 : j_at 140 14 = some (14, .iload_n 1, 1, []) := by decide +kernel
theorem r140_15 : j_at 140 15 = some (15, .aload_n 0, 1, []) := by decide +kernel
theorem r140_16 : j_at 140 16 = some (16, .getfield 74, 3, [725, 12, 0, 21, 0, 12]) := by decide +kernel
theorem r140_19 : j_at 140 19 = some (19, .iastore, 1, []) := by decide +kernel
theorem r140_20 : j_at 140 20 = some (20, .iconst 1, 1, []) := by decide +kernel
theorem r140_21 : j_at 140 21 = some (21, .istore_n 2, 1, []) := by decide +kernel
theorem r140_22 : j_at 140 22 = some (22, .aload_n 0, 1, []) := by decide +kernel
theorem r140_23 : j_at 140 23 = some (23, .invokevirtual 197, 3, [2, 1, 130, 850, 851, 31, 77, 0, 12]) := by decide +kernel
theorem r140_26 : j_at 140 26 = some (26, .istore_n 3, 1, []) := by decide +kernel
theorem r140_27 : j_at 140 27 = some (27, .iload_n 2, 1, []) := by decide +kernel
theorem r140_28 : j_at 140 28 = some (28, .ifCond .eq 82, 3, []) := by decide +kernel
theorem r140_31 : j_at 140 31 = some (31, .iload_n 3, 1, []) := by decide +kernel
theorem r140_32 : j_at 140 32 = some (32, .bipush 33, 2, []) := by decide +kernel
theorem r140_34 : j_at 140 34 = some (34, .if_icmp .eq 9, 3, []) := by decide +kernel
theorem r140_37 : j_at 140 37 = some (37, .iload_n 3, 1, []) := by decide +kernel
theorem r140_38 : j_at 140 38 = some (38, .bipush 40, 2, []) := by decide +kernel
theorem r140_40 : j_at 140 40 = some (40, .if_icmp .ne 56, 3, []) := by decide +kernel
theorem r140_43 : j_at 140 43 = some (43, .aload_n 0, 1, []) := by decide +kernel
theorem r140_44 : j_at 140 44 = some (44, .getfield 80, 3, [727, 12, 0, 23, 0, 12]) := by decide +kernel
theorem r140_47 : j_at 140 47 = some (47, .iconst 4, 1, []) := by decide +kernel
theorem r140_48 : j_at 140 48 = some (48, .if_icmp .ne 5, 3, []) := by decide +kernel
theorem r140_51 : j_at 140 51 = some (51, .iconst 0, 1, []) := by decide +kernel
theorem r140_52 : j_at 140 52 = some (52, .ireturn, 1, []) := by decide +kernel
theorem r140_53 : j_at 140 53 = some (53, .aload_n 0, 1, []) := by decide +kernel
theorem r140_54 : j_at 140 54 = some (54, .dup, 1, []) := by decide +kernel
theorem r140_55 : j_at 140 55 = some (55, .getfield 80, 3, [727, 12, 0, 23, 0, 12]) := by decide +kernel
theorem r140_58 : j_at 140 58 = some (58, .iconst 1, 1, []) := by decide +kernel
theorem r140_59 : j_at 140 59 = some (59, .iadd, 1, []) := by decide +kernel
theorem r140_60 : j_at 140 60 = some (60, .putfield 80, 3, [727, 12, 0, 23, 0, 0, 12]) := by decide +kernel
theorem r140_63 : j_at 140 63 = some (63, .aload_n 0, 1, []) := by decide +kernel
theorem r140_64 : j_at 140 64 = some (64, .getfield 71, 3, [724, 12, 2, 20, 0, 12]) := by decide +kernel
theorem r140_67 : j_at 140 67 = some (67, .aload_n 0, 1, []) := by decide +kernel
theorem r140_68 : j_at 140 68 = some (68, .getfield 77, 3, [726, 12, 0, 22, 0, 12]) := by decide +kernel
theorem r140_71 : j_at 140 71 = some (71, .iload_n 3, 1, []) := by decide +kernel
theorem r140_72 : j_at 140 72 = some (72, .iastore, 1, []) := by decide +kernel
theorem r140_73 : j_at 140 73 = some (73, .aload_n 0, 1, []) := by decide +kernel
theorem r140_74 : j_at 140 74 = some (74, .dup, 1, []) := by decide +kernel
theorem r140_75 : j_at 140 75 = some (75, .getfield 77, 3, [726, 12, 0, 22, 0, 12]) := by decide +kernel
theorem r140_78 : j_at 140 78 = some (78, .iconst 1, 1, []) := by decide +kernel
theorem r140_79 : j_at 140 79 = some (79, .iadd, 1, []) := by decide +kernel
theorem r140_80 : j_at 140 80 = some (80, .putfield 77, 3, [726, 12, 0, 22, 0, 0, 12]) := by decide +kernel
theorem r140_83 : j_at 140 83 = some (83, .aload_n 0, 1, []) := by decide +kernel
theorem r140_84 : j_at 140 84 = some (84, .dup, 1, []) := by decide +kernel
theorem r140_85 : j_at 140 85 = some (85, .getfield 44, 3, [715, 12, 0, 11, 0, 12]) := by decide +kernel
theorem r140_88 : j_at 140 88 = some (88, .iconst 1, 1, []) := by decide +kernel
theorem r140_89 : j_at 140 89 = some (89, .iadd, 1, []) := by decide +kernel
theorem r140_90 : j_at 140 90 = some (90, .putfield 44, 3, [715, 12, 0, 11, 0, 0, 12]) := by decide +kernel
theorem r140_93 : j_at 140 93 = some (93, .goto (-71), 3, []) := by decide +kernel
theorem r140_96 : j_at 140 96 = some (96, .aload_n 0, 1, []) := by decide +kernel
theorem r140_97 : j_at 140 97 = some (97, .invokevirtual 222, 3, [2, 1, 139, 862, 863, 37, 77, 0, 12]) := by decide +kernel
theorem r140_100 : j_at 140 100 = some (100, .ifCond .eq 8, 3, []) := by decide +kernel
theorem r140_103 : j_at 140 103 = some (103, .iconst 0, 1, []) := by decide +kernel
theorem r140_104 : j_at 140 104 = some (104, .istore_n 2, 1, []) := by decide +kernel
theorem r140_105 : j_at 140 105 = some (105, .goto (-83), 3, []) := by decide +kernel
theorem r140_108 : j_at 140 108 = some (108, .iconst 0, 1, []) := by decide +kernel
theorem r140_109 : j_at 140 109 = some (109, .ireturn, 1, []) := by decide +kernel
theorem r140_110 : j_at 140 110 = some (110, .iload_n 3, 1, []) := by decide +kernel
theorem r140_111 : j_at 140 111 = some (111, .bipush 38, 2, []) := by decide +kernel
theorem r140_113 : j_at 140 113 = some (113, .if_icmp .eq 9, 3, []) := by decide +kernel
theorem r140_116 : j_at 140 116 = some (116, .iload_n 3, 1, []) := by decide +kernel
theorem r140_117 : j_at 140 117 = some (117, .bipush 124, 2, []) := by decide +kernel
theorem r140_119 : j_at 140 119 = some (119, .if_icmp .ne 43, 3, []) := by decide +kernel
theorem r140_122 : j_at 140 122 = some (122, .aload_n 0, 1, []) := by decide +kernel
theorem r140_123 : j_at 140 123 = some (123, .iload_n 3, 1, []) := by decide +kernel
theorem r140_124 : j_at 140 124 = some (124, .invokevirtual 225, 3, [2, 2, 137, 870, 871, 41, 77, 0, 12]) := by decide +kernel
theorem r140_127 : j_at 140 127 = some (127, .aload_n 0, 1, []) := by decide +kernel
theorem r140_128 : j_at 140 128 = some (128, .getfield 71, 3, [724, 12, 2, 20, 0, 12]) := by decide +kernel
theorem r140_131 : j_at 140 131 = some (131, .aload_n 0, 1, []) := by decide +kernel
theorem r140_132 : j_at 140 132 = some (132, .getfield 77, 3, [726, 12, 0, 22, 0, 12]) := by decide +kernel
theorem r140_135 : j_at 140 135 = some (135, .iload_n 3, 1, []) := by decide +kernel
theorem r140_136 : j_at 140 136 = some (136, .iastore, 1, []) := by decide +kernel
theorem r140_137 : j_at 140 137 = some (137, .aload_n 0, 1, []) := by decide +kernel
theorem r140_138 : j_at 140 138 = some (138, .dup, 1, []) := by decide +kernel
theorem r140_139 : j_at 140 139 = some (139, .getfield 77, 3, [726, 12, 0, 22, 0, 12]) := by decide +kernel
theorem r140_142 : j_at 140 142 = some (142, .iconst 1, 1, []) := by decide +kernel
theorem r140_143 : j_at 140 143 = some (143, .iadd, 1, []) := by decide +kernel
theorem r140_144 : j_at 140 144 = some (144, .putfield 77, 3, [726, 12, 0, 22, 0, 0, 12]) := by decide +kernel
theorem r140_147 : j_at 140 147 = some (147, .iconst 1, 1, []) := by decide +kernel
theorem r140_148 : j_at 140 148 = some (148, .istore_n 2, 1, []) := by decide +kernel
theorem r140_149 : j_at 140 149 = some (149, .aload_n 0, 1, []) := by decide +kernel
theorem r140_150 : j_at 140 150 = some (150, .dup, 1, []) := by decide +kernel
theorem r140_151 : j_at 140 151 = some (151, .getfield 44, 3, [715, 12, 0, 11, 0, 12]) := by decide +kernel
theorem r140_154 : j_at 140 154 = some (154, .iconst 1, 1, []) := by decide +kernel
theorem r140_155 : j_at 140 155 = some (155, .iadd, 1, []) := by decide +kernel
theorem r140_156 : j_at 140 156 = some (156, .putfield 44, 3, [715, 12, 0, 11, 0, 0, 12]) := by decide +kernel
theorem r140_159 : j_at 140 159 = some (159, .goto (-137), 3, []) := by decide +kernel
theorem r140_162 : j_at 140 162 = some (162, .aload_n 0, 1, []) := by decide +kernel
theorem r140_163 : j_at 140 163 = some (163, .bipush 124, 2, []) := by decide +kernel
theorem r140_165 : j_at 140 165 = some (165, .invokevirtual 225, 3, [2, 2, 137, 870, 871, 41, 77, 0, 12]) := by decide +kernel
theorem r140_168 : j_at 140 168 = some (168, .aload_n 0, 1, []) := by decide +kernel
theorem r140_169 : j_at 140 169 = some (169, .getfield 65, 3, [722, 12, 2, 18, 0, 12]) := by decide +kernel
theorem r140_172 : j_at 140 172 = some (172, .iload_n 1, 1, []) := by decide +kernel
theorem r140_173 : j_at 140 173 = some (173, .aload_n 0, 1, []) := by decide +kernel
theorem r140_174 : j_at 140 174 = some (174, .getfield 74, 3, [725, 12, 0, 21, 0, 12]) := by decide +kernel
theorem r140_177 : j_at 140 177 = some (177, .iastore, 1, []) := by decide +kernel
theorem r140_178 : j_at 140 178 = some (178, .aload_n 0, 1, []) := by decide +kernel
theorem r140_179 : j_at 140 179 = some (179, .getfield 77, 3, [726, 12, 0, 22, 0, 12]) := by decide +kernel
theorem r140_182 : j_at 140 182 = some (182, .ifCond .ne 5, 3, []) := by decide +kernel
theorem r140_185 : j_at 140 185 = some (185, .iconst 1, 1, []) := by decide +kernel
theorem r140_186 : j_at 140 186 = some (186, .ireturn, 1, []) := by decide +kernel
theorem r140_187 : j_at 140 187 = some (187, .iload_n 3, 1, []) := by decide +kernel
theorem r140_188 : j_at 140 188 = some (188, .bipush 41, 2, []) := by decide +kernel
theorem r140_190 : j_at 140 190 = some (190, .if_icmp .eq 5, 3, []) := by decide +kernel
theorem r140_193 : j_at 140 193 = some (193, .iconst 0, 1, []) := by decide +kernel
theorem r140_194 : j_at 140 194 = some (194, .ireturn, 1, []) := by decide +kernel
theorem r140_195 : j_at 140 195 = some (195, .aload_n 0, 1, []) := by decide +kernel
theorem r140_196 : j_at 140 196 = some (196, .dup, 1, []) := by decide +kernel
theorem r140_197 : j_at 140 197 = some (197, .getfield 77, 3, [726, 12, 0, 22, 0, 12]) := by decide +kernel
theorem r140_200 : j_at 140 200 = some (200, .iconst 1, 1, []) := by decide +kernel
theorem r140_201 : j_at 140 201 = some (201, .isub, 1, []) := by decide +kernel
theorem r140_202 : j_at 140 202 = some (202, .putfield 77, 3, [726, 12, 0, 22, 0, 0, 12]) := by decide +kernel
theorem r140_205 : j_at 140 205 = some (205, .aload_n 0, 1, []) := by decide +kernel
theorem r140_206 : j_at 140 206 = some (206, .dup, 1, []) := by decide +kernel
theorem r140_207 : j_at 140 207 = some (207, .getfield 80, 3, [727, 12, 0, 23, 0, 12]) := by decide +kernel
theorem r140_210 : j_at 140 210 = some (210, .iconst 1, 1, []) := by decide +kernel
theorem r140_211 : j_at 140 211 = some (211, .isub, 1, []) := by decide +kernel
theorem r140_212 : j_at 140 212 = some (212, .putfield 80, 3, [727, 12, 0, 23, 0, 0, 12]) := by decide +kernel
theorem r140_215 : j_at 140 215 = some (215, .aload_n 0, 1, []) := by decide +kernel
theorem r140_216 : j_at 140 216 = some (216, .dup, 1, []) := by decide +kernel
theorem r140_217 : j_at 140 217 = some (217, .getfield 44, 3, [715, 12, 0, 11, 0, 12]) := by decide +kernel
theorem r140_220 : j_at 140 220 = some (220, .iconst 1, 1, []) := by decide +kernel
theorem r140_221 : j_at 140 221 = some (221, .iadd, 1, []) := by decide +kernel
theorem r140_222 : j_at 140 222 = some (222, .putfield 44, 3, [715, 12, 0, 11, 0, 0, 12]) := by decide +kernel
theorem r140_225 : j_at 140 225 = some (225, .aload_n 0, 1, []) := by decide +kernel
theorem r140_226 : j_at 140 226 = some (226, .invokevirtual 219, 3, [2, 1, 136, 868, 869, 40, 77, 0, 12]) := by decide +kernel
theorem r140_229 : j_at 140 229 = some (229, .goto (-207), 3, []) := by decide +kernel
theorem b140_0 {b : Nat} {x0 : Value} {x1 : Int32} {u2 : Value} {u3 : Value} {H : j_H} {Q : Option Value → j_H → Prop} (h0 : j_vc H x0 = 12) : j_wp b 140 0 [x0, .int x1, u2, u3] [] H Q = j_wp b 140 5 [x0, .int x1, u2, u3] [] (j_sI H (j_pa x0) 22 (Int32.ofInt 0)) Q := Eq.trans (s_aload_n r140_0 rfl (j_isr_vc h0 rfl)) (Eq.trans (s_iconst r140_1) (s_put r140_2 (j_al1 h0 rfl) rfl j_putI))
theorem b140_5 {b : Nat} {x0 : Value} {x1 : Int32} {u2 : Value} {u3 : Value} {H : j_H} {Q : Option Value → j_H → Prop} (h0 : j_vc H x0 = 12) : j_wp b 140 5 [x0, .int x1, u2, u3] [] H Q = j_wp b 140 10 [x0, .int x1, u2, u3] [] (j_sI H (j_pa x0) 23 (Int32.ofInt 0)) Q := Eq.trans (s_aload_n r140_5 rfl (j_isr_vc h0 rfl)) (Eq.trans (s_iconst r140_6) (s_put r140_7 (j_al1 h0 rfl) rfl j_putI))
theorem b140_10 {b : Nat} {x0 : Value} {x1 : Int32} {u2 : Value} {u3 : Value} {H : j_H} {Q : Option Value → j_H → Prop} (h0 : j_vc H x0 = 12) (h1 : j_vt H (va_rf (j_R H (j_pa x0) 17)) = 0) (h2 : 0 ≤ x1.toInt) (h3 : x1.toInt < ((j_vl H (va_rf (j_R H (j_pa x0) 17)) : Nat) : Int)) : j_wp b 140 10 [x0, .int x1, u2, u3] [] H Q = j_wp b 140 20 [x0, .int x1, u2, u3] [] (j_sI H (j_pa (va_rf (j_R H (j_pa x0) 17))) (j_ix x1) (j_I H (j_pa x0) 21)) Q := Eq.trans (s_aload_n r140_10 rfl (j_isr_vc h0 rfl)) (Eq.trans (s_getfr r140_11 (j_al1 h0 rfl) rfl) (Eq.trans (s_iload_n r140_14 rfl) (Eq.trans (s_aload_n r140_15 rfl (j_isr_vc h0 rfl)) (Eq.trans (s_getfi r140_16 (j_al1 h0 rfl) rfl rfl rfl) (s_iast r140_19 h1 (j_ib_of (z := x1.toInt) rfl h2 h3))))))
theorem b140_20 {b : Nat} {x0 : Value} {x1 : Int32} {u2 : Value} {u3 : Value} {H : j_H} {Q : Option Value → j_H → Prop}  : j_wp b 140 20 [x0, .int x1, u2, u3] [] H Q = j_wp b 140 22 [x0, .int x1, .int (Int32.ofInt 1), u3] [] H Q := Eq.trans (s_iconst r140_20) (s_istore_n r140_21 (Nat.le_of_ble_eq_true rfl) rfl)
theorem b140_22 {b : Nat} {x0 : Value} {x1 : Int32} {x2 : Int32} {u3 : Value} {H : j_H} {Q : Option Value → j_H → Prop} (h0 : j_vc H x0 = 12) : j_wp (b + 1) 140 22 [x0, .int x1, .int x2, u3] [] H Q = j_wp b 130 0 [x0] [] H (j_k (b + 1) 140 26 [x0, .int x1, .int x2, u3] [] Q) := Eq.trans (s_aload_n r140_22 rfl (j_isr_vc h0 rfl)) (j_cll (as := [x0]) (es := [x0]) (s_c2 r140_23 rfl h0 rfl rfl (j_dok (s := [x0]) (as := [x0]) (rest := []) (es := [x0]) rfl rfl rfl rfl (j_slc (j_c1r (j_isr_vc h0 rfl)) rfl) rfl)) (j_slc (j_c1r (j_isr_vc h0 rfl)) rfl) rfl)
theorem b140_26 {b : Nat} {x0 : Value} {x1 : Int32} {x2 : Int32} {u3 : Value} {y0 : Int32} {H : j_H} {Q : Option Value → j_H → Prop}  : j_wp b 140 26 [x0, .int x1, .int x2, u3] [.int y0] H Q = (if x2.toInt = 0 then j_wp b 140 110 [x0, .int x1, .int x2, .int y0] [] H Q else j_wp b 140 31 [x0, .int x1, .int x2, .int y0] [] H Q) := Eq.trans (s_istore_n r140_26 (Nat.le_of_ble_eq_true rfl) rfl) (Eq.trans (s_iload_n r140_27 rfl) (s_ifeq r140_28 rfl rfl))
theorem b140_31 {b : Nat} {x0 : Value} {x1 : Int32} {x2 : Int32} {x3 : Int32} {H : j_H} {Q : Option Value → j_H → Prop}  : j_wp b 140 31 [x0, .int x1, .int x2, .int x3] [] H Q = (if x3.toInt = 33 then j_wp b 140 43 [x0, .int x1, .int x2, .int x3] [] H Q else j_wp b 140 37 [x0, .int x1, .int x2, .int x3] [] H Q) := Eq.trans (s_iload_n r140_31 rfl) (Eq.trans (s_bipush r140_32) (s_iceq r140_34 rfl rfl rfl))
theorem b140_37 {b : Nat} {x0 : Value} {x1 : Int32} {x2 : Int32} {x3 : Int32} {H : j_H} {Q : Option Value → j_H → Prop}  : j_wp b 140 37 [x0, .int x1, .int x2, .int x3] [] H Q = (if ¬ x3.toInt = 40 then j_wp b 140 96 [x0, .int x1, .int x2, .int x3] [] H Q else j_wp b 140 43 [x0, .int x1, .int x2, .int x3] [] H Q) := Eq.trans (s_iload_n r140_37 rfl) (Eq.trans (s_bipush r140_38) (s_icne r140_40 rfl rfl rfl))
theorem b140_43 {b : Nat} {x0 : Value} {x1 : Int32} {x2 : Int32} {x3 : Int32} {H : j_H} {Q : Option Value → j_H → Prop} (h0 : j_vc H x0 = 12) : j_wp b 140 43 [x0, .int x1, .int x2, .int x3] [] H Q = (if ¬ (j_I H (j_pa x0) 23).toInt = 4 then j_wp b 140 53 [x0, .int x1, .int x2, .int x3] [] H Q else j_wp b 140 51 [x0, .int x1, .int x2, .int x3] [] H Q) := Eq.trans (s_aload_n r140_43 rfl (j_isr_vc h0 rfl)) (Eq.trans (s_getfi r140_44 (j_al1 h0 rfl) rfl rfl rfl) (Eq.trans (s_iconst r140_47) (s_icne r140_48 rfl rfl rfl)))
theorem b140_51 {b : Nat} {x0 : Value} {x1 : Int32} {x2 : Int32} {x3 : Int32} {H : j_H} {Q : Option Value → j_H → Prop}  : j_wp b 140 51 [x0, .int x1, .int x2, .int x3] [] H Q = Q (some (.int (Int32.ofInt 0))) H := Eq.trans (s_iconst r140_51) (s_ireturn r140_52 (j_rok4 (z := 0) rfl rfl (by decide)))
theorem b140_53 {b : Nat} {x0 : Value} {x1 : Int32} {x2 : Int32} {x3 : Int32} {H : j_H} {Q : Option Value → j_H → Prop} (h0 : j_vc H x0 = 12) : j_wp b 140 53 [x0, .int x1, .int x2, .int x3] [] H Q = j_wp b 140 63 [x0, .int x1, .int x2, .int x3] [] (j_sI H (j_pa x0) 23 ((j_I H (j_pa x0) 23) + (Int32.ofInt 1))) Q := Eq.trans (s_aload_n r140_53 rfl (j_isr_vc h0 rfl)) (Eq.trans (s_dup r140_54 (j_vc_lt h0 rfl)) (Eq.trans (s_getfi r140_55 (j_al1 h0 rfl) rfl rfl rfl) (Eq.trans (s_iconst r140_58) (Eq.trans (s_iadd r140_59) (s_put r140_60 (j_al1 h0 rfl) rfl j_putI)))))
theorem b140_63 {b : Nat} {x0 : Value} {x1 : Int32} {x2 : Int32} {x3 : Int32} {H : j_H} {Q : Option Value → j_H → Prop} (h0 : j_vc H x0 = 12) (h1 : j_vt H (va_rf (j_R H (j_pa x0) 20)) = 0) (h2 : 0 ≤ (j_I H (j_pa x0) 22).toInt) (h3 : (j_I H (j_pa x0) 22).toInt < ((j_vl H (va_rf (j_R H (j_pa x0) 20)) : Nat) : Int)) : j_wp b 140 63 [x0, .int x1, .int x2, .int x3] [] H Q = j_wp b 140 73 [x0, .int x1, .int x2, .int x3] [] (j_sI H (j_pa (va_rf (j_R H (j_pa x0) 20))) (j_ix (j_I H (j_pa x0) 22)) x3) Q := Eq.trans (s_aload_n r140_63 rfl (j_isr_vc h0 rfl)) (Eq.trans (s_getfr r140_64 (j_al1 h0 rfl) rfl) (Eq.trans (s_aload_n r140_67 rfl (j_isr_vc h0 rfl)) (Eq.trans (s_getfi r140_68 (j_al1 h0 rfl) rfl rfl rfl) (Eq.trans (s_iload_n r140_71 rfl) (s_iast r140_72 h1 (j_ib_of (z := (j_I H (j_pa x0) 22).toInt) rfl h2 h3))))))
theorem b140_73 {b : Nat} {x0 : Value} {x1 : Int32} {x2 : Int32} {x3 : Int32} {H : j_H} {Q : Option Value → j_H → Prop} (h0 : j_vc H x0 = 12) : j_wp b 140 73 [x0, .int x1, .int x2, .int x3] [] H Q = j_wp b 140 83 [x0, .int x1, .int x2, .int x3] [] (j_sI H (j_pa x0) 22 ((j_I H (j_pa x0) 22) + (Int32.ofInt 1))) Q := Eq.trans (s_aload_n r140_73 rfl (j_isr_vc h0 rfl)) (Eq.trans (s_dup r140_74 (j_vc_lt h0 rfl)) (Eq.trans (s_getfi r140_75 (j_al1 h0 rfl) rfl rfl rfl) (Eq.trans (s_iconst r140_78) (Eq.trans (s_iadd r140_79) (s_put r140_80 (j_al1 h0 rfl) rfl j_putI)))))
theorem b140_83 {b : Nat} {x0 : Value} {x1 : Int32} {x2 : Int32} {x3 : Int32} {H : j_H} {Q : Option Value → j_H → Prop} (h0 : j_vc H x0 = 12) : j_wp b 140 83 [x0, .int x1, .int x2, .int x3] [] H Q = j_wp b 140 93 [x0, .int x1, .int x2, .int x3] [] (j_sI H (j_pa x0) 11 ((j_I H (j_pa x0) 11) + (Int32.ofInt 1))) Q := Eq.trans (s_aload_n r140_83 rfl (j_isr_vc h0 rfl)) (Eq.trans (s_dup r140_84 (j_vc_lt h0 rfl)) (Eq.trans (s_getfi r140_85 (j_al1 h0 rfl) rfl rfl rfl) (Eq.trans (s_iconst r140_88) (Eq.trans (s_iadd r140_89) (s_put r140_90 (j_al1 h0 rfl) rfl j_putI)))))
theorem b140_93 {b : Nat} {x0 : Value} {x1 : Int32} {x2 : Int32} {x3 : Int32} {H : j_H} {Q : Option Value → j_H → Prop}  : j_wp b 140 93 [x0, .int x1, .int x2, .int x3] [] H Q = j_wp b 140 22 [x0, .int x1, .int x2, .int x3] [] H Q := s_goto r140_93 rfl
theorem b140_96 {b : Nat} {x0 : Value} {x1 : Int32} {x2 : Int32} {x3 : Int32} {H : j_H} {Q : Option Value → j_H → Prop} (h0 : j_vc H x0 = 12) : j_wp (b + 1) 140 96 [x0, .int x1, .int x2, .int x3] [] H Q = j_wp b 139 0 [x0, j_u, j_u] [] H (j_k (b + 1) 140 100 [x0, .int x1, .int x2, .int x3] [] Q) := Eq.trans (s_aload_n r140_96 rfl (j_isr_vc h0 rfl)) (j_cll (as := [x0]) (es := [x0]) (s_c2 r140_97 rfl h0 rfl rfl (j_dok (s := [x0]) (as := [x0]) (rest := []) (es := [x0]) rfl rfl rfl rfl (j_slc (j_c1r (j_isr_vc h0 rfl)) rfl) rfl)) (j_slc (j_c1r (j_isr_vc h0 rfl)) rfl) rfl)
theorem b140_100 {b : Nat} {x0 : Value} {x1 : Int32} {x2 : Int32} {x3 : Int32} {y0 : Int32} {H : j_H} {Q : Option Value → j_H → Prop}  : j_wp b 140 100 [x0, .int x1, .int x2, .int x3] [.int y0] H Q = (if y0.toInt = 0 then j_wp b 140 108 [x0, .int x1, .int x2, .int x3] [] H Q else j_wp b 140 103 [x0, .int x1, .int x2, .int x3] [] H Q) := s_ifeq r140_100 rfl rfl
theorem b140_103 {b : Nat} {x0 : Value} {x1 : Int32} {x2 : Int32} {x3 : Int32} {H : j_H} {Q : Option Value → j_H → Prop}  : j_wp b 140 103 [x0, .int x1, .int x2, .int x3] [] H Q = j_wp b 140 22 [x0, .int x1, .int (Int32.ofInt 0), .int x3] [] H Q := Eq.trans (s_iconst r140_103) (Eq.trans (s_istore_n r140_104 (Nat.le_of_ble_eq_true rfl) rfl) (s_goto r140_105 rfl))
theorem b140_108 {b : Nat} {x0 : Value} {x1 : Int32} {x2 : Int32} {x3 : Int32} {H : j_H} {Q : Option Value → j_H → Prop}  : j_wp b 140 108 [x0, .int x1, .int x2, .int x3] [] H Q = Q (some (.int (Int32.ofInt 0))) H := Eq.trans (s_iconst r140_108) (s_ireturn r140_109 (j_rok4 (z := 0) rfl rfl (by decide)))
theorem b140_110 {b : Nat} {x0 : Value} {x1 : Int32} {x2 : Int32} {x3 : Int32} {H : j_H} {Q : Option Value → j_H → Prop}  : j_wp b 140 110 [x0, .int x1, .int x2, .int x3] [] H Q = (if x3.toInt = 38 then j_wp b 140 122 [x0, .int x1, .int x2, .int x3] [] H Q else j_wp b 140 116 [x0, .int x1, .int x2, .int x3] [] H Q) := Eq.trans (s_iload_n r140_110 rfl) (Eq.trans (s_bipush r140_111) (s_iceq r140_113 rfl rfl rfl))
theorem b140_116 {b : Nat} {x0 : Value} {x1 : Int32} {x2 : Int32} {x3 : Int32} {H : j_H} {Q : Option Value → j_H → Prop}  : j_wp b 140 116 [x0, .int x1, .int x2, .int x3] [] H Q = (if ¬ x3.toInt = 124 then j_wp b 140 162 [x0, .int x1, .int x2, .int x3] [] H Q else j_wp b 140 122 [x0, .int x1, .int x2, .int x3] [] H Q) := Eq.trans (s_iload_n r140_116 rfl) (Eq.trans (s_bipush r140_117) (s_icne r140_119 rfl rfl rfl))
theorem b140_122 {b : Nat} {x0 : Value} {x1 : Int32} {x2 : Int32} {x3 : Int32} {H : j_H} {Q : Option Value → j_H → Prop} (h0 : j_vc H x0 = 12) : j_wp (b + 1) 140 122 [x0, .int x1, .int x2, .int x3] [] H Q = j_wp b 137 0 [x0, .int x3] [] H (j_k (b + 1) 140 127 [x0, .int x1, .int x2, .int x3] [] Q) := Eq.trans (s_aload_n r140_122 rfl (j_isr_vc h0 rfl)) (Eq.trans (s_iload_n r140_123 rfl) (j_cll (as := [x0, .int x3]) (es := [x0, .int x3]) (s_c2 r140_124 rfl h0 rfl rfl (j_dok (s := [.int x3, x0]) (as := [x0, .int x3]) (rest := []) (es := [x0, .int x3]) rfl rfl rfl rfl (j_slc (j_c1r (j_isr_vc h0 rfl)) rfl) rfl)) (j_slc (j_c1r (j_isr_vc h0 rfl)) rfl) rfl))
theorem b140_127 {b : Nat} {x0 : Value} {x1 : Int32} {x2 : Int32} {x3 : Int32} {H : j_H} {Q : Option Value → j_H → Prop} (h0 : j_vc H x0 = 12) (h1 : j_vt H (va_rf (j_R H (j_pa x0) 20)) = 0) (h2 : 0 ≤ (j_I H (j_pa x0) 22).toInt) (h3 : (j_I H (j_pa x0) 22).toInt < ((j_vl H (va_rf (j_R H (j_pa x0) 20)) : Nat) : Int)) : j_wp b 140 127 [x0, .int x1, .int x2, .int x3] [] H Q = j_wp b 140 137 [x0, .int x1, .int x2, .int x3] [] (j_sI H (j_pa (va_rf (j_R H (j_pa x0) 20))) (j_ix (j_I H (j_pa x0) 22)) x3) Q := Eq.trans (s_aload_n r140_127 rfl (j_isr_vc h0 rfl)) (Eq.trans (s_getfr r140_128 (j_al1 h0 rfl) rfl) (Eq.trans (s_aload_n r140_131 rfl (j_isr_vc h0 rfl)) (Eq.trans (s_getfi r140_132 (j_al1 h0 rfl) rfl rfl rfl) (Eq.trans (s_iload_n r140_135 rfl) (s_iast r140_136 h1 (j_ib_of (z := (j_I H (j_pa x0) 22).toInt) rfl h2 h3))))))
theorem b140_137 {b : Nat} {x0 : Value} {x1 : Int32} {x2 : Int32} {x3 : Int32} {H : j_H} {Q : Option Value → j_H → Prop} (h0 : j_vc H x0 = 12) : j_wp b 140 137 [x0, .int x1, .int x2, .int x3] [] H Q = j_wp b 140 147 [x0, .int x1, .int x2, .int x3] [] (j_sI H (j_pa x0) 22 ((j_I H (j_pa x0) 22) + (Int32.ofInt 1))) Q := Eq.trans (s_aload_n r140_137 rfl (j_isr_vc h0 rfl)) (Eq.trans (s_dup r140_138 (j_vc_lt h0 rfl)) (Eq.trans (s_getfi r140_139 (j_al1 h0 rfl) rfl rfl rfl) (Eq.trans (s_iconst r140_142) (Eq.trans (s_iadd r140_143) (s_put r140_144 (j_al1 h0 rfl) rfl j_putI)))))
theorem b140_147 {b : Nat} {x0 : Value} {x1 : Int32} {x2 : Int32} {x3 : Int32} {H : j_H} {Q : Option Value → j_H → Prop} (h0 : j_vc H x0 = 12) : j_wp b 140 147 [x0, .int x1, .int x2, .int x3] [] H Q = j_wp b 140 159 [x0, .int x1, .int (Int32.ofInt 1), .int x3] [] (j_sI H (j_pa x0) 11 ((j_I H (j_pa x0) 11) + (Int32.ofInt 1))) Q := Eq.trans (s_iconst r140_147) (Eq.trans (s_istore_n r140_148 (Nat.le_of_ble_eq_true rfl) rfl) (Eq.trans (s_aload_n r140_149 rfl (j_isr_vc h0 rfl)) (Eq.trans (s_dup r140_150 (j_vc_lt h0 rfl)) (Eq.trans (s_getfi r140_151 (j_al1 h0 rfl) rfl rfl rfl) (Eq.trans (s_iconst r140_154) (Eq.trans (s_iadd r140_155) (s_put r140_156 (j_al1 h0 rfl) rfl j_putI)))))))
theorem b140_159 {b : Nat} {x0 : Value} {x1 : Int32} {x2 : Int32} {x3 : Int32} {H : j_H} {Q : Option Value → j_H → Prop}  : j_wp b 140 159 [x0, .int x1, .int x2, .int x3] [] H Q = j_wp b 140 22 [x0, .int x1, .int x2, .int x3] [] H Q := s_goto r140_159 rfl
theorem b140_162 {b : Nat} {x0 : Value} {x1 : Int32} {x2 : Int32} {x3 : Int32} {H : j_H} {Q : Option Value → j_H → Prop} (h0 : j_vc H x0 = 12) : j_wp (b + 1) 140 162 [x0, .int x1, .int x2, .int x3] [] H Q = j_wp b 137 0 [x0, .int (Int32.ofInt 124)] [] H (j_k (b + 1) 140 168 [x0, .int x1, .int x2, .int x3] [] Q) := Eq.trans (s_aload_n r140_162 rfl (j_isr_vc h0 rfl)) (Eq.trans (s_bipush r140_163) (j_cll (as := [x0, .int (Int32.ofInt 124)]) (es := [x0, .int (Int32.ofInt 124)]) (s_c2 r140_165 rfl h0 rfl rfl (j_dok (s := [.int (Int32.ofInt 124), x0]) (as := [x0, .int (Int32.ofInt 124)]) (rest := []) (es := [x0, .int (Int32.ofInt 124)]) rfl rfl rfl rfl (j_slc (j_c1r (j_isr_vc h0 rfl)) rfl) rfl)) (j_slc (j_c1r (j_isr_vc h0 rfl)) rfl) rfl))
theorem b140_168 {b : Nat} {x0 : Value} {x1 : Int32} {x2 : Int32} {x3 : Int32} {H : j_H} {Q : Option Value → j_H → Prop} (h0 : j_vc H x0 = 12) (h1 : j_vt H (va_rf (j_R H (j_pa x0) 18)) = 0) (h2 : 0 ≤ x1.toInt) (h3 : x1.toInt < ((j_vl H (va_rf (j_R H (j_pa x0) 18)) : Nat) : Int)) : j_wp b 140 168 [x0, .int x1, .int x2, .int x3] [] H Q = j_wp b 140 178 [x0, .int x1, .int x2, .int x3] [] (j_sI H (j_pa (va_rf (j_R H (j_pa x0) 18))) (j_ix x1) (j_I H (j_pa x0) 21)) Q := Eq.trans (s_aload_n r140_168 rfl (j_isr_vc h0 rfl)) (Eq.trans (s_getfr r140_169 (j_al1 h0 rfl) rfl) (Eq.trans (s_iload_n r140_172 rfl) (Eq.trans (s_aload_n r140_173 rfl (j_isr_vc h0 rfl)) (Eq.trans (s_getfi r140_174 (j_al1 h0 rfl) rfl rfl rfl) (s_iast r140_177 h1 (j_ib_of (z := x1.toInt) rfl h2 h3))))))
theorem b140_178 {b : Nat} {x0 : Value} {x1 : Int32} {x2 : Int32} {x3 : Int32} {H : j_H} {Q : Option Value → j_H → Prop} (h0 : j_vc H x0 = 12) : j_wp b 140 178 [x0, .int x1, .int x2, .int x3] [] H Q = (if ¬ (j_I H (j_pa x0) 22).toInt = 0 then j_wp b 140 187 [x0, .int x1, .int x2, .int x3] [] H Q else j_wp b 140 185 [x0, .int x1, .int x2, .int x3] [] H Q) := Eq.trans (s_aload_n r140_178 rfl (j_isr_vc h0 rfl)) (Eq.trans (s_getfi r140_179 (j_al1 h0 rfl) rfl rfl rfl) (s_ifne r140_182 rfl rfl))
theorem b140_185 {b : Nat} {x0 : Value} {x1 : Int32} {x2 : Int32} {x3 : Int32} {H : j_H} {Q : Option Value → j_H → Prop}  : j_wp b 140 185 [x0, .int x1, .int x2, .int x3] [] H Q = Q (some (.int (Int32.ofInt 1))) H := Eq.trans (s_iconst r140_185) (s_ireturn r140_186 (j_rok4 (z := 1) rfl rfl (by decide)))
theorem b140_187 {b : Nat} {x0 : Value} {x1 : Int32} {x2 : Int32} {x3 : Int32} {H : j_H} {Q : Option Value → j_H → Prop}  : j_wp b 140 187 [x0, .int x1, .int x2, .int x3] [] H Q = (if x3.toInt = 41 then j_wp b 140 195 [x0, .int x1, .int x2, .int x3] [] H Q else j_wp b 140 193 [x0, .int x1, .int x2, .int x3] [] H Q) := Eq.trans (s_iload_n r140_187 rfl) (Eq.trans (s_bipush r140_188) (s_iceq r140_190 rfl rfl rfl))
theorem b140_193 {b : Nat} {x0 : Value} {x1 : Int32} {x2 : Int32} {x3 : Int32} {H : j_H} {Q : Option Value → j_H → Prop}  : j_wp b 140 193 [x0, .int x1, .int x2, .int x3] [] H Q = Q (some (.int (Int32.ofInt 0))) H := Eq.trans (s_iconst r140_193) (s_ireturn r140_194 (j_rok4 (z := 0) rfl rfl (by decide)))
theorem b140_195 {b : Nat} {x0 : Value} {x1 : Int32} {x2 : Int32} {x3 : Int32} {H : j_H} {Q : Option Value → j_H → Prop} (h0 : j_vc H x0 = 12) : j_wp b 140 195 [x0, .int x1, .int x2, .int x3] [] H Q = j_wp b 140 205 [x0, .int x1, .int x2, .int x3] [] (j_sI H (j_pa x0) 22 ((j_I H (j_pa x0) 22) - (Int32.ofInt 1))) Q := Eq.trans (s_aload_n r140_195 rfl (j_isr_vc h0 rfl)) (Eq.trans (s_dup r140_196 (j_vc_lt h0 rfl)) (Eq.trans (s_getfi r140_197 (j_al1 h0 rfl) rfl rfl rfl) (Eq.trans (s_iconst r140_200) (Eq.trans (s_isub r140_201) (s_put r140_202 (j_al1 h0 rfl) rfl j_putI)))))
theorem b140_205 {b : Nat} {x0 : Value} {x1 : Int32} {x2 : Int32} {x3 : Int32} {H : j_H} {Q : Option Value → j_H → Prop} (h0 : j_vc H x0 = 12) : j_wp b 140 205 [x0, .int x1, .int x2, .int x3] [] H Q = j_wp b 140 215 [x0, .int x1, .int x2, .int x3] [] (j_sI H (j_pa x0) 23 ((j_I H (j_pa x0) 23) - (Int32.ofInt 1))) Q := Eq.trans (s_aload_n r140_205 rfl (j_isr_vc h0 rfl)) (Eq.trans (s_dup r140_206 (j_vc_lt h0 rfl)) (Eq.trans (s_getfi r140_207 (j_al1 h0 rfl) rfl rfl rfl) (Eq.trans (s_iconst r140_210) (Eq.trans (s_isub r140_211) (s_put r140_212 (j_al1 h0 rfl) rfl j_putI)))))
theorem b140_215 {b : Nat} {x0 : Value} {x1 : Int32} {x2 : Int32} {x3 : Int32} {H : j_H} {Q : Option Value → j_H → Prop} (h0 : j_vc H x0 = 12) : j_wp b 140 215 [x0, .int x1, .int x2, .int x3] [] H Q = j_wp b 140 225 [x0, .int x1, .int x2, .int x3] [] (j_sI H (j_pa x0) 11 ((j_I H (j_pa x0) 11) + (Int32.ofInt 1))) Q := Eq.trans (s_aload_n r140_215 rfl (j_isr_vc h0 rfl)) (Eq.trans (s_dup r140_216 (j_vc_lt h0 rfl)) (Eq.trans (s_getfi r140_217 (j_al1 h0 rfl) rfl rfl rfl) (Eq.trans (s_iconst r140_220) (Eq.trans (s_iadd r140_221) (s_put r140_222 (j_al1 h0 rfl) rfl j_putI)))))
theorem b140_225 {b : Nat} {x0 : Value} {x1 : Int32} {x2 : Int32} {x3 : Int32} {H : j_H} {Q : Option Value → j_H → Prop} (h0 : j_vc H x0 = 12) : j_wp (b + 1) 140 225 [x0, .int x1, .int x2, .int x3] [] H Q = j_wp b 136 0 [x0] [] H (j_k (b + 1) 140 229 [x0, .int x1, .int x2, .int x3] [] Q) := Eq.trans (s_aload_n r140_225 rfl (j_isr_vc h0 rfl)) (j_cll (as := [x0]) (es := [x0]) (s_c2 r140_226 rfl h0 rfl rfl (j_dok (s := [x0]) (as := [x0]) (rest := []) (es := [x0]) rfl rfl rfl rfl (j_slc (j_c1r (j_isr_vc h0 rfl)) rfl) rfl)) (j_slc (j_c1r (j_isr_vc h0 rfl)) rfl) rfl)
theorem b140_229 {b : Nat} {x0 : Value} {x1 : Int32} {x2 : Int32} {x3 : Int32} {H : j_H} {Q : Option Value → j_H → Prop}  : j_wp b 140 229 [x0, .int x1, .int x2, .int x3] [] H Q = j_wp b 140 22 [x0, .int x1, .int x2, .int x3] [] H Q := s_goto r140_229 rfl
-- X12_takesHead
theorem r141_0 : j_at 141 0 = some (0, .aload_n 0, 1, []) := by decide +kernel
theorem r141_1 : j_at 141 1 = some (1, .invokevirtual 197, 3, [2, 1, 130, 850, 851, 31, 77, 0, 12]) := by decide +kernel
theorem r141_4 : j_at 141 4 = some (4, .lookupswitch 56 #[(108, 28), (119, 42)], 28, []) := by decide +kernel
theorem r141_32 : j_at 141 32 = some (32, .aload_n 0, 1, []) := by decide +kernel
theorem r141_33 : j_at 141 33 = some (33, .getfield 56, 3, [719, 12, 2, 15, 0, 12]) := by decide +kernel
theorem r141_36 : j_at 141 36 = some (36, .iload_n 1, 1, []) := by decide +kernel
theorem r141_37 : j_at 141 37 = some (37, .iconst 0, 1, []) := by decide +kernel
theorem r141_38 : j_at 141 38 = some (38, .iastore, 1, []) := by decide +kernel
theorem r141_39 : j_at 141 39 = some (39, .aload_n 0, 1, []) := by decide +kernel
theorem r141_40 : j_at 141 40 = some (40, .iconst 0, 1, []) := by decide +kernel
theorem r141_41 : j_at 141 41 = some (41, .iconst 4, 1, []) := by decide +kernel
theorem r141_42 : j_at 141 42 = some (42, .invokevirtual 228, 3, [2, 3, 132, 852, 853, 32, 77, 0, 12]) := by decide +kernel
theorem r141_45 : j_at 141 45 = some (45, .ireturn, 1, []) := by decide +kernel
theorem r141_46 : j_at 141 46 = some (46, .aload_n 0, 1, []) := by decide +kernel
theorem r141_47 : j_at 141 47 = some (47, .getfield 56, 3, [719, 12, 2, 15, 0, 12]) := by decide +kernel
theorem r141_50 : j_at 141 50 = some (50, .iload_n 1, 1, []) := by decide +kernel
theorem r141_51 : j_at 141 51 = some (51, .iconst 1, 1, []) := by decide +kernel
theorem r141_52 : j_at 141 52 = some (52, .iastore, 1, []) := by decide +kernel
theorem r141_53 : j_at 141 53 = some (53, .aload_n 0, 1, []) := by decide +kernel
theorem r141_54 : j_at 141 54 = some (54, .iconst 4, 1, []) := by decide +kernel
theorem r141_55 : j_at 141 55 = some (55, .iconst 5, 1, []) := by decide +kernel
theorem r141_56 : j_at 141 56 = some (56, .invokevirtual 228, 3, [2, 3, 132, 852, 853, 32, 77, 0, 12]) := by decide +kernel
theorem r141_59 : j_at 141 59 = some (59, .ireturn, 1, []) := by decide +kernel
theorem r141_60 : j_at 141 60 = some (60, .aload_n 0, 1, []) := by decide +kernel
theorem r141_61 : j_at 141 61 = some (61, .getfield 56, 3, [719, 12, 2, 15, 0, 12]) := by decide +kernel
theorem r141_64 : j_at 141 64 = some (64, .iload_n 1, 1, []) := by decide +kernel
theorem r141_65 : j_at 141 65 = some (65, .iconst 2, 1, []) := by decide +kernel
theorem r141_66 : j_at 141 66 = some (66, .iastore, 1, []) := by decide +kernel
theorem r141_67 : j_at 141 67 = some (67, .aload_n 0, 1, []) := by decide +kernel
theorem r141_68 : j_at 141 68 = some (68, .bipush 9, 2, []) := by decide +kernel
theorem r141_70 : j_at 141 70 = some (70, .iconst 3, 1, []) := by decide +kernel
theorem r141_71 : j_at 141 71 = some (71, .invokevirtual 228, 3, [2, 3, 132, 852, 853, 32, 77, 0, 12]) := by decide +kernel
theorem r141_74 : j_at 141 74 = some (74, .ireturn, 1, []) := by decide +kernel
theorem b141_0 {b : Nat} {x0 : Value} {x1 : Int32} {H : j_H} {Q : Option Value → j_H → Prop} (h0 : j_vc H x0 = 12) : j_wp (b + 1) 141 0 [x0, .int x1] [] H Q = j_wp b 130 0 [x0] [] H (j_k (b + 1) 141 4 [x0, .int x1] [] Q) := Eq.trans (s_aload_n r141_0 rfl (j_isr_vc h0 rfl)) (j_cll (as := [x0]) (es := [x0]) (s_c2 r141_1 rfl h0 rfl rfl (j_dok (s := [x0]) (as := [x0]) (rest := []) (es := [x0]) rfl rfl rfl rfl (j_slc (j_c1r (j_isr_vc h0 rfl)) rfl) rfl)) (j_slc (j_c1r (j_isr_vc h0 rfl)) rfl) rfl)
theorem b141_4 {b : Nat} {x0 : Value} {x1 : Int32} {y0 : Int32} {H : j_H} {Q : Option Value → j_H → Prop}  : j_wp b 141 4 [x0, .int x1] [.int y0] H Q = (if y0.toInt = 108 then j_wp b 141 32 [x0, .int x1] [] H Q else if y0.toInt = 119 then j_wp b 141 46 [x0, .int x1] [] H Q else j_wp b 141 60 [x0, .int x1] [] H Q) := j_ite (fun h => s_lsw r141_4 (by rw [h]; rfl)) (fun h208 => j_ite (fun h => s_lsw r141_4 (by rw [h]; rfl)) (fun h219 => s_lsw r141_4 (by simp only [j_lk]; rw [if_neg h208, if_neg h219]; rfl)))
theorem b141_32 {b : Nat} {x0 : Value} {x1 : Int32} {H : j_H} {Q : Option Value → j_H → Prop} (h0 : j_vc H x0 = 12) (h1 : j_vt H (va_rf (j_R H (j_pa x0) 15)) = 0) (h2 : 0 ≤ x1.toInt) (h3 : x1.toInt < ((j_vl H (va_rf (j_R H (j_pa x0) 15)) : Nat) : Int)) : j_wp b 141 32 [x0, .int x1] [] H Q = j_wp b 141 39 [x0, .int x1] [] (j_sI H (j_pa (va_rf (j_R H (j_pa x0) 15))) (j_ix x1) (Int32.ofInt 0)) Q := Eq.trans (s_aload_n r141_32 rfl (j_isr_vc h0 rfl)) (Eq.trans (s_getfr r141_33 (j_al1 h0 rfl) rfl) (Eq.trans (s_iload_n r141_36 rfl) (Eq.trans (s_iconst r141_37) (s_iast r141_38 h1 (j_ib_of (z := x1.toInt) rfl h2 h3)))))
theorem b141_39 {b : Nat} {x0 : Value} {x1 : Int32} {H : j_H} {Q : Option Value → j_H → Prop} (h0 : j_vc H x0 = 12) : j_wp (b + 1) 141 39 [x0, .int x1] [] H Q = j_wp b 132 0 [x0, .int (Int32.ofInt 0), .int (Int32.ofInt 4), j_u] [] H (j_k (b + 1) 141 45 [x0, .int x1] [] Q) := Eq.trans (s_aload_n r141_39 rfl (j_isr_vc h0 rfl)) (Eq.trans (s_iconst r141_40) (Eq.trans (s_iconst r141_41) (j_cll (as := [x0, .int (Int32.ofInt 0), .int (Int32.ofInt 4)]) (es := [x0, .int (Int32.ofInt 0), .int (Int32.ofInt 4)]) (s_c2 r141_42 rfl h0 rfl rfl (j_dok (s := [.int (Int32.ofInt 4), .int (Int32.ofInt 0), x0]) (as := [x0, .int (Int32.ofInt 0), .int (Int32.ofInt 4)]) (rest := []) (es := [x0, .int (Int32.ofInt 0), .int (Int32.ofInt 4)]) rfl rfl rfl rfl (j_slc (j_c1r (j_isr_vc h0 rfl)) rfl) rfl)) (j_slc (j_c1r (j_isr_vc h0 rfl)) rfl) rfl)))
theorem b141_45 {b : Nat} {x0 : Value} {x1 : Int32} {y0 : Int32} {H : j_H} {Q : Option Value → j_H → Prop} (h0 : y0.toInt = 0 ∨ y0.toInt = 1) : j_wp b 141 45 [x0, .int x1] [.int y0] H Q = Q (some (.int y0)) H := s_ireturn r141_45 (j_rok4 (z := y0.toInt) rfl rfl h0)
theorem b141_46 {b : Nat} {x0 : Value} {x1 : Int32} {H : j_H} {Q : Option Value → j_H → Prop} (h0 : j_vc H x0 = 12) (h1 : j_vt H (va_rf (j_R H (j_pa x0) 15)) = 0) (h2 : 0 ≤ x1.toInt) (h3 : x1.toInt < ((j_vl H (va_rf (j_R H (j_pa x0) 15)) : Nat) : Int)) : j_wp b 141 46 [x0, .int x1] [] H Q = j_wp b 141 53 [x0, .int x1] [] (j_sI H (j_pa (va_rf (j_R H (j_pa x0) 15))) (j_ix x1) (Int32.ofInt 1)) Q := Eq.trans (s_aload_n r141_46 rfl (j_isr_vc h0 rfl)) (Eq.trans (s_getfr r141_47 (j_al1 h0 rfl) rfl) (Eq.trans (s_iload_n r141_50 rfl) (Eq.trans (s_iconst r141_51) (s_iast r141_52 h1 (j_ib_of (z := x1.toInt) rfl h2 h3)))))
theorem b141_53 {b : Nat} {x0 : Value} {x1 : Int32} {H : j_H} {Q : Option Value → j_H → Prop} (h0 : j_vc H x0 = 12) : j_wp (b + 1) 141 53 [x0, .int x1] [] H Q = j_wp b 132 0 [x0, .int (Int32.ofInt 4), .int (Int32.ofInt 5), j_u] [] H (j_k (b + 1) 141 59 [x0, .int x1] [] Q) := Eq.trans (s_aload_n r141_53 rfl (j_isr_vc h0 rfl)) (Eq.trans (s_iconst r141_54) (Eq.trans (s_iconst r141_55) (j_cll (as := [x0, .int (Int32.ofInt 4), .int (Int32.ofInt 5)]) (es := [x0, .int (Int32.ofInt 4), .int (Int32.ofInt 5)]) (s_c2 r141_56 rfl h0 rfl rfl (j_dok (s := [.int (Int32.ofInt 5), .int (Int32.ofInt 4), x0]) (as := [x0, .int (Int32.ofInt 4), .int (Int32.ofInt 5)]) (rest := []) (es := [x0, .int (Int32.ofInt 4), .int (Int32.ofInt 5)]) rfl rfl rfl rfl (j_slc (j_c1r (j_isr_vc h0 rfl)) rfl) rfl)) (j_slc (j_c1r (j_isr_vc h0 rfl)) rfl) rfl)))
theorem b141_59 {b : Nat} {x0 : Value} {x1 : Int32} {y0 : Int32} {H : j_H} {Q : Option Value → j_H → Prop} (h0 : y0.toInt = 0 ∨ y0.toInt = 1) : j_wp b 141 59 [x0, .int x1] [.int y0] H Q = Q (some (.int y0)) H := s_ireturn r141_59 (j_rok4 (z := y0.toInt) rfl rfl h0)
theorem b141_60 {b : Nat} {x0 : Value} {x1 : Int32} {H : j_H} {Q : Option Value → j_H → Prop} (h0 : j_vc H x0 = 12) (h1 : j_vt H (va_rf (j_R H (j_pa x0) 15)) = 0) (h2 : 0 ≤ x1.toInt) (h3 : x1.toInt < ((j_vl H (va_rf (j_R H (j_pa x0) 15)) : Nat) : Int)) : j_wp b 141 60 [x0, .int x1] [] H Q = j_wp b 141 67 [x0, .int x1] [] (j_sI H (j_pa (va_rf (j_R H (j_pa x0) 15))) (j_ix x1) (Int32.ofInt 2)) Q := Eq.trans (s_aload_n r141_60 rfl (j_isr_vc h0 rfl)) (Eq.trans (s_getfr r141_61 (j_al1 h0 rfl) rfl) (Eq.trans (s_iload_n r141_64 rfl) (Eq.trans (s_iconst r141_65) (s_iast r141_66 h1 (j_ib_of (z := x1.toInt) rfl h2 h3)))))
theorem b141_67 {b : Nat} {x0 : Value} {x1 : Int32} {H : j_H} {Q : Option Value → j_H → Prop} (h0 : j_vc H x0 = 12) : j_wp (b + 1) 141 67 [x0, .int x1] [] H Q = j_wp b 132 0 [x0, .int (Int32.ofInt 9), .int (Int32.ofInt 3), j_u] [] H (j_k (b + 1) 141 74 [x0, .int x1] [] Q) := Eq.trans (s_aload_n r141_67 rfl (j_isr_vc h0 rfl)) (Eq.trans (s_bipush r141_68) (Eq.trans (s_iconst r141_70) (j_cll (as := [x0, .int (Int32.ofInt 9), .int (Int32.ofInt 3)]) (es := [x0, .int (Int32.ofInt 9), .int (Int32.ofInt 3)]) (s_c2 r141_71 rfl h0 rfl rfl (j_dok (s := [.int (Int32.ofInt 3), .int (Int32.ofInt 9), x0]) (as := [x0, .int (Int32.ofInt 9), .int (Int32.ofInt 3)]) (rest := []) (es := [x0, .int (Int32.ofInt 9), .int (Int32.ofInt 3)]) rfl rfl rfl rfl (j_slc (j_c1r (j_isr_vc h0 rfl)) rfl) rfl)) (j_slc (j_c1r (j_isr_vc h0 rfl)) rfl) rfl)))
theorem b141_74 {b : Nat} {x0 : Value} {x1 : Int32} {y0 : Int32} {H : j_H} {Q : Option Value → j_H → Prop} (h0 : y0.toInt = 0 ∨ y0.toInt = 1) : j_wp b 141 74 [x0, .int x1] [.int y0] H Q = Q (some (.int y0)) H := s_ireturn r141_74 (j_rok4 (z := y0.toInt) rfl rfl h0)
-- X12_takesClause
theorem r142_0 : j_at 142 0 = some (0, .aload_n 0, 1, []) := by decide +kernel
theorem r142_1 : j_at 142 1 = some (1, .iload_n 1, 1, []) := by decide +kernel
theorem r142_2 : j_at 142 2 = some (2, .invokevirtual 232, 3, [2, 2, 141, 848, 849, 30, 77, 0, 12]) := by decide +kernel
theorem r142_5 : j_at 142 5 = some (5, .ifCond .eq 10, 3, []) := by decide +kernel
theorem r142_8 : j_at 142 8 = some (8, .aload_n 0, 1, []) := by decide +kernel
theorem r142_9 : j_at 142 9 = some (9, .invokevirtual 216, 3, [2, 1, 134, 856, 857, 34, 77, 0, 12]) := by decide +kernel
theorem r142_12 : j_at 142 12 = some (12, .ifCond .ne 5, 3, []) := by decide +kernel
theorem r142_15 : j_at 142 15 = some (15, .iconst 0, 1, []) := by decide +kernel
theorem r142_16 : j_at 142 16 = some (16, .ireturn, 1, []) := by decide +kernel
theorem r142_17 : j_at 142 17 = some (17, .aload_n 0, 1, []) := by decide +kernel
theorem r142_18 : j_at 142 18 = some (18, .getfield 59, 3, [720, 12, 2, 16, 0, 12]) := by decide +kernel
theorem r142_21 : j_at 142 21 = some (21, .iload_n 1, 1, []) := by decide +kernel
theorem r142_22 : j_at 142 22 = some (22, .aload_n 0, 1, []) := by decide +kernel
theorem r142_23 : j_at 142 23 = some (23, .getfield 47, 3, [716, 12, 0, 12, 0, 12]) := by decide +kernel
theorem r142_26 : j_at 142 26 = some (26, .iastore, 1, []) := by decide +kernel
theorem r142_27 : j_at 142 27 = some (27, .aload_n 0, 1, []) := by decide +kernel
theorem r142_28 : j_at 142 28 = some (28, .getfield 56, 3, [719, 12, 2, 15, 0, 12]) := by decide +kernel
theorem r142_31 : j_at 142 31 = some (31, .iload_n 1, 1, []) := by decide +kernel
theorem r142_32 : j_at 142 32 = some (32, .iaload, 1, []) := by decide +kernel
theorem r142_33 : j_at 142 33 = some (33, .iconst 2, 1, []) := by decide +kernel
theorem r142_34 : j_at 142 34 = some (34, .if_icmp .eq 20, 3, []) := by decide +kernel
theorem r142_37 : j_at 142 37 = some (37, .aload_n 0, 1, []) := by decide +kernel
theorem r142_38 : j_at 142 38 = some (38, .bipush 32, 2, []) := by decide +kernel
theorem r142_40 : j_at 142 40 = some (40, .invokevirtual 201, 3, [2, 2, 131, 854, 855, 33, 77, 0, 12]) := by decide +kernel
theorem r142_43 : j_at 142 43 = some (43, .ifCond .eq 15, 3, []) := by decide +kernel
theorem r142_46 : j_at 142 46 = some (46, .aload_n 0, 1, []) := by decide +kernel
theorem r142_47 : j_at 142 47 = some (47, .iload_n 1, 1, []) := by decide +kernel
theorem r142_48 : j_at 142 48 = some (48, .invokevirtual 235, 3, [2, 2, 140, 860, 861, 36, 77, 0, 12]) := by decide +kernel
theorem r142_51 : j_at 142 51 = some (51, .ifCond .eq 7, 3, []) := by decide +kernel
theorem r142_54 : j_at 142 54 = some (54, .iconst 1, 1, []) := by decide +kernel
theorem r142_55 : j_at 142 55 = some (55, .goto 4, 3, []) := by decide +kernel
theorem r142_58 : j_at 142 58 = some (58, .iconst 0, 1, []) := by decide +kernel
theorem r142_59 : j_at 142 59 = some (59, .ireturn, 1, []) := by decide +kernel
theorem b142_0 {b : Nat} {x0 : Value} {x1 : Int32} {H : j_H} {Q : Option Value → j_H → Prop} (h0 : j_vc H x0 = 12) : j_wp (b + 1) 142 0 [x0, .int x1] [] H Q = j_wp b 141 0 [x0, .int x1] [] H (j_k (b + 1) 142 5 [x0, .int x1] [] Q) := Eq.trans (s_aload_n r142_0 rfl (j_isr_vc h0 rfl)) (Eq.trans (s_iload_n r142_1 rfl) (j_cll (as := [x0, .int x1]) (es := [x0, .int x1]) (s_c2 r142_2 rfl h0 rfl rfl (j_dok (s := [.int x1, x0]) (as := [x0, .int x1]) (rest := []) (es := [x0, .int x1]) rfl rfl rfl rfl (j_slc (j_c1r (j_isr_vc h0 rfl)) rfl) rfl)) (j_slc (j_c1r (j_isr_vc h0 rfl)) rfl) rfl))
theorem b142_5 {b : Nat} {x0 : Value} {x1 : Int32} {y0 : Int32} {H : j_H} {Q : Option Value → j_H → Prop}  : j_wp b 142 5 [x0, .int x1] [.int y0] H Q = (if y0.toInt = 0 then j_wp b 142 15 [x0, .int x1] [] H Q else j_wp b 142 8 [x0, .int x1] [] H Q) := s_ifeq r142_5 rfl rfl
theorem b142_8 {b : Nat} {x0 : Value} {x1 : Int32} {H : j_H} {Q : Option Value → j_H → Prop} (h0 : j_vc H x0 = 12) : j_wp (b + 1) 142 8 [x0, .int x1] [] H Q = j_wp b 134 0 [x0, j_u] [] H (j_k (b + 1) 142 12 [x0, .int x1] [] Q) := Eq.trans (s_aload_n r142_8 rfl (j_isr_vc h0 rfl)) (j_cll (as := [x0]) (es := [x0]) (s_c2 r142_9 rfl h0 rfl rfl (j_dok (s := [x0]) (as := [x0]) (rest := []) (es := [x0]) rfl rfl rfl rfl (j_slc (j_c1r (j_isr_vc h0 rfl)) rfl) rfl)) (j_slc (j_c1r (j_isr_vc h0 rfl)) rfl) rfl)
theorem b142_12 {b : Nat} {x0 : Value} {x1 : Int32} {y0 : Int32} {H : j_H} {Q : Option Value → j_H → Prop}  : j_wp b 142 12 [x0, .int x1] [.int y0] H Q = (if ¬ y0.toInt = 0 then j_wp b 142 17 [x0, .int x1] [] H Q else j_wp b 142 15 [x0, .int x1] [] H Q) := s_ifne r142_12 rfl rfl
theorem b142_15 {b : Nat} {x0 : Value} {x1 : Int32} {H : j_H} {Q : Option Value → j_H → Prop}  : j_wp b 142 15 [x0, .int x1] [] H Q = Q (some (.int (Int32.ofInt 0))) H := Eq.trans (s_iconst r142_15) (s_ireturn r142_16 (j_rok4 (z := 0) rfl rfl (by decide)))
theorem b142_17 {b : Nat} {x0 : Value} {x1 : Int32} {H : j_H} {Q : Option Value → j_H → Prop} (h0 : j_vc H x0 = 12) (h1 : j_vt H (va_rf (j_R H (j_pa x0) 16)) = 0) (h2 : 0 ≤ x1.toInt) (h3 : x1.toInt < ((j_vl H (va_rf (j_R H (j_pa x0) 16)) : Nat) : Int)) : j_wp b 142 17 [x0, .int x1] [] H Q = j_wp b 142 27 [x0, .int x1] [] (j_sI H (j_pa (va_rf (j_R H (j_pa x0) 16))) (j_ix x1) (j_I H (j_pa x0) 12)) Q := Eq.trans (s_aload_n r142_17 rfl (j_isr_vc h0 rfl)) (Eq.trans (s_getfr r142_18 (j_al1 h0 rfl) rfl) (Eq.trans (s_iload_n r142_21 rfl) (Eq.trans (s_aload_n r142_22 rfl (j_isr_vc h0 rfl)) (Eq.trans (s_getfi r142_23 (j_al1 h0 rfl) rfl rfl rfl) (s_iast r142_26 h1 (j_ib_of (z := x1.toInt) rfl h2 h3))))))
theorem b142_27 {b : Nat} {x0 : Value} {x1 : Int32} {H : j_H} {Q : Option Value → j_H → Prop} (h0 : j_vc H x0 = 12) (h1 : j_vt H (va_rf (j_R H (j_pa x0) 15)) = 0) (h2 : 0 ≤ x1.toInt) (h3 : x1.toInt < ((j_vl H (va_rf (j_R H (j_pa x0) 15)) : Nat) : Int)) : j_wp b 142 27 [x0, .int x1] [] H Q = (if (j_I H (j_pa (va_rf (j_R H (j_pa x0) 15))) (j_ix x1)).toInt = 2 then j_wp b 142 54 [x0, .int x1] [] H Q else j_wp b 142 37 [x0, .int x1] [] H Q) := Eq.trans (s_aload_n r142_27 rfl (j_isr_vc h0 rfl)) (Eq.trans (s_getfr r142_28 (j_al1 h0 rfl) rfl) (Eq.trans (s_iload_n r142_31 rfl) (Eq.trans (s_iald r142_32 h1 (by decide) (j_ib_of (z := x1.toInt) rfl h2 h3)) (Eq.trans (s_iconst r142_33) (s_iceq r142_34 rfl rfl rfl)))))
theorem b142_37 {b : Nat} {x0 : Value} {x1 : Int32} {H : j_H} {Q : Option Value → j_H → Prop} (h0 : j_vc H x0 = 12) : j_wp (b + 1) 142 37 [x0, .int x1] [] H Q = j_wp b 131 0 [x0, .int (Int32.ofInt 32)] [] H (j_k (b + 1) 142 43 [x0, .int x1] [] Q) := Eq.trans (s_aload_n r142_37 rfl (j_isr_vc h0 rfl)) (Eq.trans (s_bipush r142_38) (j_cll (as := [x0, .int (Int32.ofInt 32)]) (es := [x0, .int (Int32.ofInt 32)]) (s_c2 r142_40 rfl h0 rfl rfl (j_dok (s := [.int (Int32.ofInt 32), x0]) (as := [x0, .int (Int32.ofInt 32)]) (rest := []) (es := [x0, .int (Int32.ofInt 32)]) rfl rfl rfl rfl (j_slc (j_c1r (j_isr_vc h0 rfl)) rfl) rfl)) (j_slc (j_c1r (j_isr_vc h0 rfl)) rfl) rfl))
theorem b142_43 {b : Nat} {x0 : Value} {x1 : Int32} {y0 : Int32} {H : j_H} {Q : Option Value → j_H → Prop}  : j_wp b 142 43 [x0, .int x1] [.int y0] H Q = (if y0.toInt = 0 then j_wp b 142 58 [x0, .int x1] [] H Q else j_wp b 142 46 [x0, .int x1] [] H Q) := s_ifeq r142_43 rfl rfl
theorem b142_46 {b : Nat} {x0 : Value} {x1 : Int32} {H : j_H} {Q : Option Value → j_H → Prop} (h0 : j_vc H x0 = 12) : j_wp (b + 1) 142 46 [x0, .int x1] [] H Q = j_wp b 140 0 [x0, .int x1, j_u, j_u] [] H (j_k (b + 1) 142 51 [x0, .int x1] [] Q) := Eq.trans (s_aload_n r142_46 rfl (j_isr_vc h0 rfl)) (Eq.trans (s_iload_n r142_47 rfl) (j_cll (as := [x0, .int x1]) (es := [x0, .int x1]) (s_c2 r142_48 rfl h0 rfl rfl (j_dok (s := [.int x1, x0]) (as := [x0, .int x1]) (rest := []) (es := [x0, .int x1]) rfl rfl rfl rfl (j_slc (j_c1r (j_isr_vc h0 rfl)) rfl) rfl)) (j_slc (j_c1r (j_isr_vc h0 rfl)) rfl) rfl))
theorem b142_51 {b : Nat} {x0 : Value} {x1 : Int32} {y0 : Int32} {H : j_H} {Q : Option Value → j_H → Prop}  : j_wp b 142 51 [x0, .int x1] [.int y0] H Q = (if y0.toInt = 0 then j_wp b 142 58 [x0, .int x1] [] H Q else j_wp b 142 54 [x0, .int x1] [] H Q) := s_ifeq r142_51 rfl rfl
theorem b142_54 {b : Nat} {x0 : Value} {x1 : Int32} {H : j_H} {Q : Option Value → j_H → Prop}  : j_wp b 142 54 [x0, .int x1] [] H Q = j_wp b 142 59 [x0, .int x1] [.int (Int32.ofInt 1)] H Q := Eq.trans (s_iconst r142_54) (s_goto r142_55 rfl)
theorem b142_58 {b : Nat} {x0 : Value} {x1 : Int32} {H : j_H} {Q : Option Value → j_H → Prop}  : j_wp b 142 58 [x0, .int x1] [] H Q = j_wp b 142 59 [x0, .int x1] [.int (Int32.ofInt 0)] H Q := s_iconst r142_58
theorem b142_59 {b : Nat} {x0 : Value} {x1 : Int32} {y0 : Int32} {H : j_H} {Q : Option Value → j_H → Prop} (h0 : y0.toInt = 0 ∨ y0.toInt = 1) : j_wp b 142 59 [x0, .int x1] [.int y0] H Q = Q (some (.int y0)) H := s_ireturn r142_59 (j_rok4 (z := y0.toInt) rfl rfl h0)
-- X12_goesText
theorem r143_0 : j_at 143 0 = some (0, .aload_n 0, 1, []) := by decide +kernel
theorem r143_1 : j_at 143 1 = some (1, .iconst 0, 1, []) := by decide +kernel
theorem r143_2 : j_at 143 2 = some (2, .putfield 44, 3, [715, 12, 0, 11, 0, 0, 12]) := by decide +kernel
theorem r143_5 : j_at 143 5 = some (5, .aload_n 0, 1, []) := by decide +kernel
theorem r143_6 : j_at 143 6 = some (6, .bipush 100, 2, []) := by decide +kernel
theorem r143_8 : j_at 143 8 = some (8, .iload_n 1, 1, []) := by decide +kernel
theorem r143_9 : j_at 143 9 = some (9, .imul, 1, []) := by decide +kernel
theorem r143_10 : j_at 143 10 = some (10, .putfield 74, 3, [725, 12, 0, 21, 0, 0, 12]) := by decide +kernel
theorem r143_13 : j_at 143 13 = some (13, .iconst 0, 1, []) := by decide +kernel
theorem r143_14 : j_at 143 14 = some (14, .istore_n 2, 1, []) := by decide +kernel
theorem r143_15 : j_at 143 15 = some (15, .aload_n 0, 1, []) := by decide +kernel
theorem r143_16 : j_at 143 16 = some (16, .bipush 10, 2, []) := by decide +kernel
theorem r143_18 : j_at 143 18 = some (18, .iload_n 1, 1, []) := by decide +kernel
theorem r143_19 : j_at 143 19 = some (19, .imul, 1, []) := by decide +kernel
theorem r143_20 : j_at 143 20 = some (20, .iload_n 2, 1, []) := by decide +kernel
theorem r143_21 : j_at 143 21 = some (21, .iadd, 1, []) := by decide +kernel
theorem r143_22 : j_at 143 22 = some (22, .invokevirtual 238, 3, [2, 2, 142, 846, 847, 29, 77, 0, 12]) := by decide +kernel
theorem r143_25 : j_at 143 25 = some (25, .ifCond .ne 5, 3, []) := by decide +kernel
theorem r143_28 : j_at 143 28 = some (28, .iconst 0, 1, []) := by decide +kernel
theorem r143_29 : j_at 143 29 = some (29, .ireturn, 1, []) := by decide +kernel
theorem r143_30 : j_at 143 30 = some (30, .iinc 2 1, 3, []) := by decide +kernel
theorem r143_33 : j_at 143 33 = some (33, .aload_n 0, 1, []) := by decide +kernel
theorem r143_34 : j_at 143 34 = some (34, .getfield 53, 3, [718, 12, 2, 14, 0, 12]) := by decide +kernel
theorem r143_37 : j_at 143 37 = some (37, .iload_n 1, 1, []) := by decide +kernel
theorem r143_38 : j_at 143 38 = some (38, .iload_n 2, 1, []) := by decide +kernel
theorem r143_39 : j_at 143 39 = some (39, .iastore, 1, []) := by decide +kernel
theorem r143_40 : j_at 143 40 = some (40, .aload_n 0, 1, []) := by decide +kernel
theorem r143_41 : j_at 143 41 = some (41, .getfield 44, 3, [715, 12, 0, 11, 0, 12]) := by decide +kernel
theorem r143_44 : j_at 143 44 = some (44, .aload_n 0, 1, []) := by decide +kernel
theorem r143_45 : j_at 143 45 = some (45, .getfield 41, 3, [714, 12, 0, 10, 0, 12]) := by decide +kernel
theorem r143_48 : j_at 143 48 = some (48, .if_icmp .ne 5, 3, []) := by decide +kernel
theorem r143_51 : j_at 143 51 = some (51, .iconst 1, 1, []) := by decide +kernel
theorem r143_52 : j_at 143 52 = some (52, .ireturn, 1, []) := by decide +kernel
theorem r143_53 : j_at 143 53 = some (53, .iload_n 2, 1, []) := by decide +kernel
theorem r143_54 : j_at 143 54 = some (54, .bipush 10, 2, []) := by decide +kernel
theorem r143_56 : j_at 143 56 = some (56, .if_icmp .eq 12, 3, []) := by decide +kernel
theorem r143_59 : j_at 143 59 = some (59, .aload_n 0, 1, []) := by decide +kernel
theorem r143_60 : j_at 143 60 = some (60, .bipush 59, 2, []) := by decide +kernel
theorem r143_62 : j_at 143 62 = some (62, .invokevirtual 201, 3, [2, 2, 131, 854, 855, 33, 77, 0, 12]) := by decide +kernel
theorem r143_65 : j_at 143 65 = some (65, .ifCond .ne (-50), 3, []) := by decide +kernel
theorem r143_68 : j_at 143 68 = some (68, .iconst 0, 1, []) := by decide +kernel
theorem r143_69 : j_at 143 69 = some (69, .ireturn, 1, []) := by decide +kernel
theorem b143_0 {b : Nat} {x0 : Value} {x1 : Int32} {u2 : Value} {H : j_H} {Q : Option Value → j_H → Prop} (h0 : j_vc H x0 = 12) : j_wp b 143 0 [x0, .int x1, u2] [] H Q = j_wp b 143 5 [x0, .int x1, u2] [] (j_sI H (j_pa x0) 11 (Int32.ofInt 0)) Q := Eq.trans (s_aload_n r143_0 rfl (j_isr_vc h0 rfl)) (Eq.trans (s_iconst r143_1) (s_put r143_2 (j_al1 h0 rfl) rfl j_putI))
theorem b143_5 {b : Nat} {x0 : Value} {x1 : Int32} {u2 : Value} {H : j_H} {Q : Option Value → j_H → Prop} (h0 : j_vc H x0 = 12) : j_wp b 143 5 [x0, .int x1, u2] [] H Q = j_wp b 143 13 [x0, .int x1, u2] [] (j_sI H (j_pa x0) 21 ((Int32.ofInt 100) * x1)) Q := Eq.trans (s_aload_n r143_5 rfl (j_isr_vc h0 rfl)) (Eq.trans (s_bipush r143_6) (Eq.trans (s_iload_n r143_8 rfl) (Eq.trans (s_imul r143_9) (s_put r143_10 (j_al1 h0 rfl) rfl j_putI))))
theorem b143_13 {b : Nat} {x0 : Value} {x1 : Int32} {u2 : Value} {H : j_H} {Q : Option Value → j_H → Prop}  : j_wp b 143 13 [x0, .int x1, u2] [] H Q = j_wp b 143 15 [x0, .int x1, .int (Int32.ofInt 0)] [] H Q := Eq.trans (s_iconst r143_13) (s_istore_n r143_14 (Nat.le_of_ble_eq_true rfl) rfl)
theorem b143_15 {b : Nat} {x0 : Value} {x1 : Int32} {x2 : Int32} {H : j_H} {Q : Option Value → j_H → Prop} (h0 : j_vc H x0 = 12) : j_wp (b + 1) 143 15 [x0, .int x1, .int x2] [] H Q = j_wp b 142 0 [x0, .int (((Int32.ofInt 10) * x1) + x2)] [] H (j_k (b + 1) 143 25 [x0, .int x1, .int x2] [] Q) := Eq.trans (s_aload_n r143_15 rfl (j_isr_vc h0 rfl)) (Eq.trans (s_bipush r143_16) (Eq.trans (s_iload_n r143_18 rfl) (Eq.trans (s_imul r143_19) (Eq.trans (s_iload_n r143_20 rfl) (Eq.trans (s_iadd r143_21) (j_cll (as := [x0, .int (((Int32.ofInt 10) * x1) + x2)]) (es := [x0, .int (((Int32.ofInt 10) * x1) + x2)]) (s_c2 r143_22 rfl h0 rfl rfl (j_dok (s := [.int (((Int32.ofInt 10) * x1) + x2), x0]) (as := [x0, .int (((Int32.ofInt 10) * x1) + x2)]) (rest := []) (es := [x0, .int (((Int32.ofInt 10) * x1) + x2)]) rfl rfl rfl rfl (j_slc (j_c1r (j_isr_vc h0 rfl)) rfl) rfl)) (j_slc (j_c1r (j_isr_vc h0 rfl)) rfl) rfl))))))
theorem b143_25 {b : Nat} {x0 : Value} {x1 : Int32} {x2 : Int32} {y0 : Int32} {H : j_H} {Q : Option Value → j_H → Prop}  : j_wp b 143 25 [x0, .int x1, .int x2] [.int y0] H Q = (if ¬ y0.toInt = 0 then j_wp b 143 30 [x0, .int x1, .int x2] [] H Q else j_wp b 143 28 [x0, .int x1, .int x2] [] H Q) := s_ifne r143_25 rfl rfl
theorem b143_28 {b : Nat} {x0 : Value} {x1 : Int32} {x2 : Int32} {H : j_H} {Q : Option Value → j_H → Prop}  : j_wp b 143 28 [x0, .int x1, .int x2] [] H Q = Q (some (.int (Int32.ofInt 0))) H := Eq.trans (s_iconst r143_28) (s_ireturn r143_29 (j_rok4 (z := 0) rfl rfl (by decide)))
theorem b143_30 {b : Nat} {x0 : Value} {x1 : Int32} {x2 : Int32} {H : j_H} {Q : Option Value → j_H → Prop} (h0 : j_vc H x0 = 12) (h1 : j_vt H (va_rf (j_R H (j_pa x0) 14)) = 0) (h2 : 0 ≤ x1.toInt) (h3 : x1.toInt < ((j_vl H (va_rf (j_R H (j_pa x0) 14)) : Nat) : Int)) : j_wp b 143 30 [x0, .int x1, .int x2] [] H Q = j_wp b 143 40 [x0, .int x1, .int (x2 + Int32.ofInt 1)] [] (j_sI H (j_pa (va_rf (j_R H (j_pa x0) 14))) (j_ix x1) (x2 + Int32.ofInt 1)) Q := Eq.trans (s_iinc r143_30 rfl rfl) (Eq.trans (s_aload_n r143_33 rfl (j_isr_vc h0 rfl)) (Eq.trans (s_getfr r143_34 (j_al1 h0 rfl) rfl) (Eq.trans (s_iload_n r143_37 rfl) (Eq.trans (s_iload_n r143_38 rfl) (s_iast r143_39 h1 (j_ib_of (z := x1.toInt) rfl h2 h3))))))
theorem b143_40 {b : Nat} {x0 : Value} {x1 : Int32} {x2 : Int32} {H : j_H} {Q : Option Value → j_H → Prop} (h0 : j_vc H x0 = 12) : j_wp b 143 40 [x0, .int x1, .int x2] [] H Q = (if ¬ (j_I H (j_pa x0) 11).toInt = (j_I H (j_pa x0) 10).toInt then j_wp b 143 53 [x0, .int x1, .int x2] [] H Q else j_wp b 143 51 [x0, .int x1, .int x2] [] H Q) := Eq.trans (s_aload_n r143_40 rfl (j_isr_vc h0 rfl)) (Eq.trans (s_getfi r143_41 (j_al1 h0 rfl) rfl rfl rfl) (Eq.trans (s_aload_n r143_44 rfl (j_isr_vc h0 rfl)) (Eq.trans (s_getfi r143_45 (j_al1 h0 rfl) rfl rfl rfl) (s_icne r143_48 rfl rfl rfl))))
theorem b143_51 {b : Nat} {x0 : Value} {x1 : Int32} {x2 : Int32} {H : j_H} {Q : Option Value → j_H → Prop}  : j_wp b 143 51 [x0, .int x1, .int x2] [] H Q = Q (some (.int (Int32.ofInt 1))) H := Eq.trans (s_iconst r143_51) (s_ireturn r143_52 (j_rok4 (z := 1) rfl rfl (by decide)))
theorem b143_53 {b : Nat} {x0 : Value} {x1 : Int32} {x2 : Int32} {H : j_H} {Q : Option Value → j_H → Prop}  : j_wp b 143 53 [x0, .int x1, .int x2] [] H Q = (if x2.toInt = 10 then j_wp b 143 68 [x0, .int x1, .int x2] [] H Q else j_wp b 143 59 [x0, .int x1, .int x2] [] H Q) := Eq.trans (s_iload_n r143_53 rfl) (Eq.trans (s_bipush r143_54) (s_iceq r143_56 rfl rfl rfl))
theorem b143_59 {b : Nat} {x0 : Value} {x1 : Int32} {x2 : Int32} {H : j_H} {Q : Option Value → j_H → Prop} (h0 : j_vc H x0 = 12) : j_wp (b + 1) 143 59 [x0, .int x1, .int x2] [] H Q = j_wp b 131 0 [x0, .int (Int32.ofInt 59)] [] H (j_k (b + 1) 143 65 [x0, .int x1, .int x2] [] Q) := Eq.trans (s_aload_n r143_59 rfl (j_isr_vc h0 rfl)) (Eq.trans (s_bipush r143_60) (j_cll (as := [x0, .int (Int32.ofInt 59)]) (es := [x0, .int (Int32.ofInt 59)]) (s_c2 r143_62 rfl h0 rfl rfl (j_dok (s := [.int (Int32.ofInt 59), x0]) (as := [x0, .int (Int32.ofInt 59)]) (rest := []) (es := [x0, .int (Int32.ofInt 59)]) rfl rfl rfl rfl (j_slc (j_c1r (j_isr_vc h0 rfl)) rfl) rfl)) (j_slc (j_c1r (j_isr_vc h0 rfl)) rfl) rfl))
theorem b143_65 {b : Nat} {x0 : Value} {x1 : Int32} {x2 : Int32} {y0 : Int32} {H : j_H} {Q : Option Value → j_H → Prop}  : j_wp b 143 65 [x0, .int x1, .int x2] [.int y0] H Q = (if ¬ y0.toInt = 0 then j_wp b 143 15 [x0, .int x1, .int x2] [] H Q else j_wp b 143 68 [x0, .int x1, .int x2] [] H Q) := s_ifne r143_65 rfl rfl
theorem b143_68 {b : Nat} {x0 : Value} {x1 : Int32} {x2 : Int32} {H : j_H} {Q : Option Value → j_H → Prop}  : j_wp b 143 68 [x0, .int x1, .int x2] [] H Q = Q (some (.int (Int32.ofInt 0))) H := Eq.trans (s_iconst r143_68) (s_ireturn r143_69 (j_rok4 (z := 0) rfl rfl (by decide)))
-- X12_house
theorem r144_0 : j_at 144 0 = some (0, .aload_n 0, 1, []) := by decide +kernel
theorem r144_1 : j_at 144 1 = some (1, .getfield 35, 3, [712, 12, 0, 8, 0, 12]) := by decide +kernel
theorem r144_4 : j_at 144 4 = some (4, .bipush 6, 2, []) := by decide +kernel
theorem r144_6 : j_at 144 6 = some (6, .if_icmp .ne 6, 3, []) := by decide +kernel
theorem r144_9 : j_at 144 9 = some (9, .bipush (-4), 2, []) := by decide +kernel
theorem r144_11 : j_at 144 11 = some (11, .ireturn, 1, []) := by decide +kernel
theorem r144_12 : j_at 144 12 = some (12, .aload_n 0, 1, []) := by decide +kernel
theorem r144_13 : j_at 144 13 = some (13, .aload_n 0, 1, []) := by decide +kernel
theorem r144_14 : j_at 144 14 = some (14, .getfield 35, 3, [712, 12, 0, 8, 0, 12]) := by decide +kernel
theorem r144_17 : j_at 144 17 = some (17, .invokevirtual 241, 3, [2, 2, 143, 844, 845, 28, 77, 0, 12]) := by decide +kernel
theorem r144_20 : j_at 144 20 = some (20, .istore_n 1, 1, []) := by decide +kernel
theorem r144_21 : j_at 144 21 = some (21, .aload_n 0, 1, []) := by decide +kernel
theorem r144_22 : j_at 144 22 = some (22, .iconst 0, 1, []) := by decide +kernel
theorem r144_23 : j_at 144 23 = some (23, .putfield 41, 3, [714, 12, 0, 10, 0, 0, 12]) := by decide +kernel
theorem r144_26 : j_at 144 26 = some (26, .iload_n 1, 1, []) := by decide +kernel
theorem r144_27 : j_at 144 27 = some (27, .ifCond .ne 11, 3, []) := by decide +kernel
theorem r144_30 : j_at 144 30 = some (30, .bipush (-10), 2, []) := by decide +kernel
theorem r144_32 : j_at 144 32 = some (32, .aload_n 0, 1, []) := by decide +kernel
theorem r144_33 : j_at 144 33 = some (33, .getfield 44, 3, [715, 12, 0, 11, 0, 12]) := by decide +kernel
theorem r144_36 : j_at 144 36 = some (36, .isub, 1, []) := by decide +kernel
theorem r144_37 : j_at 144 37 = some (37, .ireturn, 1, []) := by decide +kernel
theorem r144_38 : j_at 144 38 = some (38, .aload_n 0, 1, []) := by decide +kernel
theorem r144_39 : j_at 144 39 = some (39, .aload_n 0, 1, []) := by decide +kernel
theorem r144_40 : j_at 144 40 = some (40, .getfield 35, 3, [712, 12, 0, 8, 0, 12]) := by decide +kernel
theorem r144_43 : j_at 144 43 = some (43, .putfield 38, 3, [713, 12, 0, 9, 0, 0, 12]) := by decide +kernel
theorem r144_46 : j_at 144 46 = some (46, .aload_n 0, 1, []) := by decide +kernel
theorem r144_47 : j_at 144 47 = some (47, .dup, 1, []) := by decide +kernel
theorem r144_48 : j_at 144 48 = some (48, .getfield 35, 3, [712, 12, 0, 8, 0, 12]) := by decide +kernel
theorem r144_51 : j_at 144 51 = some (51, .iconst 1, 1, []) := by decide +kernel
theorem r144_52 : j_at 144 52 = some (52, .iadd, 1, []) := by decide +kernel
theorem r144_53 : j_at 144 53 = some (53, .putfield 35, 3, [712, 12, 0, 8, 0, 0, 12]) := by decide +kernel
theorem r144_56 : j_at 144 56 = some (56, .aload_n 0, 1, []) := by decide +kernel
theorem r144_57 : j_at 144 57 = some (57, .getfield 38, 3, [713, 12, 0, 9, 0, 12]) := by decide +kernel
theorem r144_60 : j_at 144 60 = some (60, .ireturn, 1, []) := by decide +kernel
theorem b144_0 {b : Nat} {x0 : Value} {u1 : Value} {H : j_H} {Q : Option Value → j_H → Prop} (h0 : j_vc H x0 = 12) : j_wp b 144 0 [x0, u1] [] H Q = (if ¬ (j_I H (j_pa x0) 8).toInt = 6 then j_wp b 144 12 [x0, u1] [] H Q else j_wp b 144 9 [x0, u1] [] H Q) := Eq.trans (s_aload_n r144_0 rfl (j_isr_vc h0 rfl)) (Eq.trans (s_getfi r144_1 (j_al1 h0 rfl) rfl rfl rfl) (Eq.trans (s_bipush r144_4) (s_icne r144_6 rfl rfl rfl)))
theorem b144_9 {b : Nat} {x0 : Value} {u1 : Value} {H : j_H} {Q : Option Value → j_H → Prop}  : j_wp b 144 9 [x0, u1] [] H Q = Q (some (.int (Int32.ofInt (-4)))) H := Eq.trans (s_bipush r144_9) (s_ireturn r144_11 (j_rok1 rfl))
theorem b144_12 {b : Nat} {x0 : Value} {u1 : Value} {H : j_H} {Q : Option Value → j_H → Prop} (h0 : j_vc H x0 = 12) : j_wp (b + 1) 144 12 [x0, u1] [] H Q = j_wp b 143 0 [x0, .int (j_I H (j_pa x0) 8), j_u] [] H (j_k (b + 1) 144 20 [x0, u1] [] Q) := Eq.trans (s_aload_n r144_12 rfl (j_isr_vc h0 rfl)) (Eq.trans (s_aload_n r144_13 rfl (j_isr_vc h0 rfl)) (Eq.trans (s_getfi r144_14 (j_al1 h0 rfl) rfl rfl rfl) (j_cll (as := [x0, .int (j_I H (j_pa x0) 8)]) (es := [x0, .int (j_I H (j_pa x0) 8)]) (s_c2 r144_17 rfl h0 rfl rfl (j_dok (s := [.int (j_I H (j_pa x0) 8), x0]) (as := [x0, .int (j_I H (j_pa x0) 8)]) (rest := []) (es := [x0, .int (j_I H (j_pa x0) 8)]) rfl rfl rfl rfl (j_slc (j_c1r (j_isr_vc h0 rfl)) rfl) rfl)) (j_slc (j_c1r (j_isr_vc h0 rfl)) rfl) rfl)))
theorem b144_20 {b : Nat} {x0 : Value} {u1 : Value} {y0 : Int32} {H : j_H} {Q : Option Value → j_H → Prop} (h0 : j_vc H x0 = 12) : j_wp b 144 20 [x0, u1] [.int y0] H Q = j_wp b 144 26 [x0, .int y0] [] (j_sI H (j_pa x0) 10 (Int32.ofInt 0)) Q := Eq.trans (s_istore_n r144_20 (Nat.le_of_ble_eq_true rfl) (j_stc (j_c1r (j_isr_vc h0 rfl)) rfl)) (Eq.trans (s_aload_n r144_21 rfl (j_isr_vc h0 rfl)) (Eq.trans (s_iconst r144_22) (s_put r144_23 (j_al1 h0 rfl) rfl j_putI)))
theorem b144_26 {b : Nat} {x0 : Value} {x1 : Int32} {H : j_H} {Q : Option Value → j_H → Prop}  : j_wp b 144 26 [x0, .int x1] [] H Q = (if ¬ x1.toInt = 0 then j_wp b 144 38 [x0, .int x1] [] H Q else j_wp b 144 30 [x0, .int x1] [] H Q) := Eq.trans (s_iload_n r144_26 rfl) (s_ifne r144_27 rfl rfl)
theorem b144_30 {b : Nat} {x0 : Value} {x1 : Int32} {H : j_H} {Q : Option Value → j_H → Prop} (h0 : j_vc H x0 = 12) : j_wp b 144 30 [x0, .int x1] [] H Q = Q (some (.int ((Int32.ofInt (-10)) - (j_I H (j_pa x0) 11)))) H := Eq.trans (s_bipush r144_30) (Eq.trans (s_aload_n r144_32 rfl (j_isr_vc h0 rfl)) (Eq.trans (s_getfi r144_33 (j_al1 h0 rfl) rfl rfl rfl) (Eq.trans (s_isub r144_36) (s_ireturn r144_37 (j_rok1 rfl)))))
theorem b144_38 {b : Nat} {x0 : Value} {x1 : Int32} {H : j_H} {Q : Option Value → j_H → Prop} (h0 : j_vc H x0 = 12) : j_wp b 144 38 [x0, .int x1] [] H Q = j_wp b 144 46 [x0, .int x1] [] (j_sI H (j_pa x0) 9 (j_I H (j_pa x0) 8)) Q := Eq.trans (s_aload_n r144_38 rfl (j_isr_vc h0 rfl)) (Eq.trans (s_aload_n r144_39 rfl (j_isr_vc h0 rfl)) (Eq.trans (s_getfi r144_40 (j_al1 h0 rfl) rfl rfl rfl) (s_put r144_43 (j_al1 h0 rfl) rfl j_putI)))
theorem b144_46 {b : Nat} {x0 : Value} {x1 : Int32} {H : j_H} {Q : Option Value → j_H → Prop} (h0 : j_vc H x0 = 12) : j_wp b 144 46 [x0, .int x1] [] H Q = j_wp b 144 56 [x0, .int x1] [] (j_sI H (j_pa x0) 8 ((j_I H (j_pa x0) 8) + (Int32.ofInt 1))) Q := Eq.trans (s_aload_n r144_46 rfl (j_isr_vc h0 rfl)) (Eq.trans (s_dup r144_47 (j_vc_lt h0 rfl)) (Eq.trans (s_getfi r144_48 (j_al1 h0 rfl) rfl rfl rfl) (Eq.trans (s_iconst r144_51) (Eq.trans (s_iadd r144_52) (s_put r144_53 (j_al1 h0 rfl) rfl j_putI)))))
theorem b144_56 {b : Nat} {x0 : Value} {x1 : Int32} {H : j_H} {Q : Option Value → j_H → Prop} (h0 : j_vc H x0 = 12) : j_wp b 144 56 [x0, .int x1] [] H Q = Q (some (.int (j_I H (j_pa x0) 9))) H := Eq.trans (s_aload_n r144_56 rfl (j_isr_vc h0 rfl)) (Eq.trans (s_getfi r144_57 (j_al1 h0 rfl) rfl rfl rfl) (s_ireturn r144_60 (j_rok1 rfl)))
-- X12_begin
theorem r145_0 : j_at 145 0 = some (0, .aload_n 0, 1, []) := by decide +kernel
theorem r145_1 : j_at 145 1 = some (1, .getfield 38, 3, [713, 12, 0, 9, 0, 12]) := by decide +kernel
theorem r145_4 : j_at 145 4 = some (4, .ifCond .ge 7, 3, []) := by decide +kernel
theorem r145_7 : j_at 145 7 = some (7, .iconst 0, 1, []) := by decide +kernel
theorem r145_8 : j_at 145 8 = some (8, .goto 10, 3, []) := by decide +kernel
theorem r145_11 : j_at 145 11 = some (11, .bipush 10, 2, []) := by decide +kernel
theorem r145_13 : j_at 145 13 = some (13, .aload_n 0, 1, []) := by decide +kernel
theorem r145_14 : j_at 145 14 = some (14, .getfield 38, 3, [713, 12, 0, 9, 0, 12]) := by decide +kernel
theorem r145_17 : j_at 145 17 = some (17, .imul, 1, []) := by decide +kernel
theorem r145_18 : j_at 145 18 = some (18, .ireturn, 1, []) := by decide +kernel
theorem b145_0 {b : Nat} {x0 : Value} {H : j_H} {Q : Option Value → j_H → Prop} (h0 : j_vc H x0 = 12) : j_wp b 145 0 [x0] [] H Q = (if 0 ≤ (j_I H (j_pa x0) 9).toInt then j_wp b 145 11 [x0] [] H Q else j_wp b 145 7 [x0] [] H Q) := Eq.trans (s_aload_n r145_0 rfl (j_isr_vc h0 rfl)) (Eq.trans (s_getfi r145_1 (j_al1 h0 rfl) rfl rfl rfl) (s_ifge r145_4 rfl rfl))
theorem b145_7 {b : Nat} {x0 : Value} {H : j_H} {Q : Option Value → j_H → Prop}  : j_wp b 145 7 [x0] [] H Q = j_wp b 145 18 [x0] [.int (Int32.ofInt 0)] H Q := Eq.trans (s_iconst r145_7) (s_goto r145_8 rfl)
theorem b145_11 {b : Nat} {x0 : Value} {H : j_H} {Q : Option Value → j_H → Prop} (h0 : j_vc H x0 = 12) : j_wp b 145 11 [x0] [] H Q = j_wp b 145 18 [x0] [.int ((Int32.ofInt 10) * (j_I H (j_pa x0) 9))] H Q := Eq.trans (s_bipush r145_11) (Eq.trans (s_aload_n r145_13 rfl (j_isr_vc h0 rfl)) (Eq.trans (s_getfi r145_14 (j_al1 h0 rfl) rfl rfl rfl) (s_imul r145_17)))
theorem b145_18 {b : Nat} {x0 : Value} {y0 : Int32} {H : j_H} {Q : Option Value → j_H → Prop}  : j_wp b 145 18 [x0] [.int y0] H Q = Q (some (.int y0)) H := s_ireturn r145_18 (j_rok1 rfl)
-- X12_behind
theorem r146_0 : j_at 146 0 = some (0, .aload_n 0, 1, []) := by decide +kernel
theorem r146_1 : j_at 146 1 = some (1, .getfield 38, 3, [713, 12, 0, 9, 0, 12]) := by decide +kernel
theorem r146_4 : j_at 146 4 = some (4, .ifCond .ge 7, 3, []) := by decide +kernel
theorem r146_7 : j_at 146 7 = some (7, .iconst 0, 1, []) := by decide +kernel
theorem r146_8 : j_at 146 8 = some (8, .goto 20, 3, []) := by decide +kernel
theorem r146_11 : j_at 146 11 = some (11, .bipush 10, 2, []) := by decide +kernel
theorem r146_13 : j_at 146 13 = some (13, .aload_n 0, 1, []) := by decide +kernel
theorem r146_14 : j_at 146 14 = some (14, .getfield 38, 3, [713, 12, 0, 9, 0, 12]) := by decide +kernel
theorem r146_17 : j_at 146 17 = some (17, .imul, 1, []) := by decide +kernel
theorem r146_18 : j_at 146 18 = some (18, .aload_n 0, 1, []) := by decide +kernel
theorem r146_19 : j_at 146 19 = some (19, .getfield 53, 3, [718, 12, 2, 14, 0, 12]) := by decide +kernel
theorem r146_22 : j_at 146 22 = some (22, .aload_n 0, 1, []) := by decide +kernel
theorem r146_23 : j_at 146 23 = some (23, .getfield 38, 3, [713, 12, 0, 9, 0, 12]) := by decide +kernel
theorem r146_26 : j_at 146 26 = some (26, .iaload, 1, []) := by decide +kernel
theorem r146_27 : j_at 146 27 = some (27, .iadd, 1, []) := by decide +kernel
theorem r146_28 : j_at 146 28 = some (28, .ireturn, 1, []) := by decide +kernel
theorem b146_0 {b : Nat} {x0 : Value} {H : j_H} {Q : Option Value → j_H → Prop} (h0 : j_vc H x0 = 12) : j_wp b 146 0 [x0] [] H Q = (if 0 ≤ (j_I H (j_pa x0) 9).toInt then j_wp b 146 11 [x0] [] H Q else j_wp b 146 7 [x0] [] H Q) := Eq.trans (s_aload_n r146_0 rfl (j_isr_vc h0 rfl)) (Eq.trans (s_getfi r146_1 (j_al1 h0 rfl) rfl rfl rfl) (s_ifge r146_4 rfl rfl))
theorem b146_7 {b : Nat} {x0 : Value} {H : j_H} {Q : Option Value → j_H → Prop}  : j_wp b 146 7 [x0] [] H Q = j_wp b 146 28 [x0] [.int (Int32.ofInt 0)] H Q := Eq.trans (s_iconst r146_7) (s_goto r146_8 rfl)
theorem b146_11 {b : Nat} {x0 : Value} {H : j_H} {Q : Option Value → j_H → Prop} (h0 : j_vc H x0 = 12) (h1 : j_vt H (va_rf (j_R H (j_pa x0) 14)) = 0) (h2 : 0 ≤ (j_I H (j_pa x0) 9).toInt) (h3 : (j_I H (j_pa x0) 9).toInt < ((j_vl H (va_rf (j_R H (j_pa x0) 14)) : Nat) : Int)) : j_wp b 146 11 [x0] [] H Q = j_wp b 146 28 [x0] [.int (((Int32.ofInt 10) * (j_I H (j_pa x0) 9)) + (j_I H (j_pa (va_rf (j_R H (j_pa x0) 14))) (j_ix (j_I H (j_pa x0) 9))))] H Q := Eq.trans (s_bipush r146_11) (Eq.trans (s_aload_n r146_13 rfl (j_isr_vc h0 rfl)) (Eq.trans (s_getfi r146_14 (j_al1 h0 rfl) rfl rfl rfl) (Eq.trans (s_imul r146_17) (Eq.trans (s_aload_n r146_18 rfl (j_isr_vc h0 rfl)) (Eq.trans (s_getfr r146_19 (j_al1 h0 rfl) rfl) (Eq.trans (s_aload_n r146_22 rfl (j_isr_vc h0 rfl)) (Eq.trans (s_getfi r146_23 (j_al1 h0 rfl) rfl rfl rfl) (Eq.trans (s_iald r146_26 h1 (by decide) (j_ib_of (z := (j_I H (j_pa x0) 9).toInt) rfl h2 h3)) (s_iadd r146_27)))))))))
theorem b146_28 {b : Nat} {x0 : Value} {y0 : Int32} {H : j_H} {Q : Option Value → j_H → Prop}  : j_wp b 146 28 [x0] [.int y0] H Q = Q (some (.int y0)) H := s_ireturn r146_28 (j_rok1 rfl)
-- X12_farNow
theorem r147_0 : j_at 147 0 = some (0, .iconst 1, 1, []) := by decide +kernel
theorem r147_1 : j_at 147 1 = some (1, .istore_n 1, 1, []) := by decide +kernel
theorem r147_2 : j_at 147 2 = some (2, .aload_n 0, 1, []) := by decide +kernel
theorem r147_3 : j_at 147 3 = some (3, .invokevirtual 244, 3, [2, 1, 145, 879, 880, 44, 77, 0, 12]) := by decide +kernel
theorem r147_6 : j_at 147 6 = some (6, .istore_n 2, 1, []) := by decide +kernel
theorem r147_7 : j_at 147 7 = some (7, .iload_n 2, 1, []) := by decide +kernel
theorem r147_8 : j_at 147 8 = some (8, .aload_n 0, 1, []) := by decide +kernel
theorem r147_9 : j_at 147 9 = some (9, .invokevirtual 247, 3, [2, 1, 146, 881, 882, 45, 77, 0, 12]) := by decide +kernel
theorem r147_12 : j_at 147 12 = some (12, .if_icmp .ge 30, 3, []) := by decide +kernel
theorem r147_15 : j_at 147 15 = some (15, .aload_n 0, 1, []) := by decide +kernel
theorem r147_16 : j_at 147 16 = some (16, .getfield 56, 3, [719, 12, 2, 15, 0, 12]) := by decide +kernel
theorem r147_19 : j_at 147 19 = some (19, .iload_n 2, 1, []) := by decide +kernel
theorem r147_20 : j_at 147 20 = some (20, .iaload, 1, []) := by decide +kernel
theorem r147_21 : j_at 147 21 = some (21, .iconst 2, 1, []) := by decide +kernel
theorem r147_22 : j_at 147 22 = some (22, .if_icmp .ne 12, 3, []) := by decide +kernel
theorem r147_25 : j_at 147 25 = some (25, .aload_n 0, 1, []) := by decide +kernel
theorem r147_26 : j_at 147 26 = some (26, .getfield 59, 3, [720, 12, 2, 16, 0, 12]) := by decide +kernel
theorem r147_29 : j_at 147 29 = some (29, .iload_n 2, 1, []) := by decide +kernel
theorem r147_30 : j_at 147 30 = some (30, .iaload, 1, []) := by decide +kernel
theorem r147_31 : j_at 147 31 = some (31, .goto 4, 3, []) := by decide +kernel
theorem r147_34 : j_at 147 34 = some (34, .iload_n 1, 1, []) := by decide +kernel
theorem r147_35 : j_at 147 35 = some (35, .istore_n 1, 1, []) := by decide +kernel
theorem r147_36 : j_at 147 36 = some (36, .iinc 2 1, 3, []) := by decide +kernel
theorem r147_39 : j_at 147 39 = some (39, .goto (-32), 3, []) := by decide +kernel
theorem r147_42 : j_at 147 42 = some (42, .iload_n 1, 1, []) := by decide +kernel
theorem r147_43 : j_at 147 43 = some (43, .ireturn, 1, []) := by decide +kernel
theorem b147_0 {b : Nat} {x0 : Value} {u1 : Value} {u2 : Value} {H : j_H} {Q : Option Value → j_H → Prop} (h0 : j_vc H x0 = 12) : j_wp (b + 1) 147 0 [x0, u1, u2] [] H Q = j_wp b 145 0 [x0] [] H (j_k (b + 1) 147 6 [x0, .int (Int32.ofInt 1), u2] [] Q) := Eq.trans (s_iconst r147_0) (Eq.trans (s_istore_n r147_1 (Nat.le_of_ble_eq_true rfl) (j_stc (j_c1r (j_isr_vc h0 rfl)) rfl)) (Eq.trans (s_aload_n r147_2 rfl (j_isr_vc h0 rfl)) (j_cll (as := [x0]) (es := [x0]) (s_c2 r147_3 rfl h0 rfl rfl (j_dok (s := [x0]) (as := [x0]) (rest := []) (es := [x0]) rfl rfl rfl rfl (j_slc (j_c1r (j_isr_vc h0 rfl)) rfl) rfl)) (j_slc (j_c1r (j_isr_vc h0 rfl)) rfl) rfl)))
theorem b147_6 {b : Nat} {x0 : Value} {x1 : Int32} {u2 : Value} {y0 : Int32} {H : j_H} {Q : Option Value → j_H → Prop}  : j_wp b 147 6 [x0, .int x1, u2] [.int y0] H Q = j_wp b 147 7 [x0, .int x1, .int y0] [] H Q := s_istore_n r147_6 (Nat.le_of_ble_eq_true rfl) rfl
theorem b147_7 {b : Nat} {x0 : Value} {x1 : Int32} {x2 : Int32} {H : j_H} {Q : Option Value → j_H → Prop} (h0 : j_vc H x0 = 12) : j_wp (b + 1) 147 7 [x0, .int x1, .int x2] [] H Q = j_wp b 146 0 [x0] [] H (j_k (b + 1) 147 12 [x0, .int x1, .int x2] [.int x2] Q) := Eq.trans (s_iload_n r147_7 rfl) (Eq.trans (s_aload_n r147_8 rfl (j_isr_vc h0 rfl)) (j_cll (as := [x0]) (es := [x0]) (s_c2 r147_9 rfl h0 rfl rfl (j_dok (s := [x0, .int x2]) (as := [x0]) (rest := [.int x2]) (es := [x0]) rfl rfl rfl rfl (j_slc (j_c1r (j_isr_vc h0 rfl)) rfl) rfl)) (j_slc (j_c1r (j_isr_vc h0 rfl)) rfl) rfl))
theorem b147_12 {b : Nat} {x0 : Value} {x1 : Int32} {x2 : Int32} {y0 : Int32} {y1 : Int32} {H : j_H} {Q : Option Value → j_H → Prop}  : j_wp b 147 12 [x0, .int x1, .int x2] [.int y0, .int y1] H Q = (if y0.toInt ≤ y1.toInt then j_wp b 147 42 [x0, .int x1, .int x2] [] H Q else j_wp b 147 15 [x0, .int x1, .int x2] [] H Q) := s_icge r147_12 rfl rfl rfl
theorem b147_15 {b : Nat} {x0 : Value} {x1 : Int32} {x2 : Int32} {H : j_H} {Q : Option Value → j_H → Prop} (h0 : j_vc H x0 = 12) (h1 : j_vt H (va_rf (j_R H (j_pa x0) 15)) = 0) (h2 : 0 ≤ x2.toInt) (h3 : x2.toInt < ((j_vl H (va_rf (j_R H (j_pa x0) 15)) : Nat) : Int)) : j_wp b 147 15 [x0, .int x1, .int x2] [] H Q = (if ¬ (j_I H (j_pa (va_rf (j_R H (j_pa x0) 15))) (j_ix x2)).toInt = 2 then j_wp b 147 34 [x0, .int x1, .int x2] [] H Q else j_wp b 147 25 [x0, .int x1, .int x2] [] H Q) := Eq.trans (s_aload_n r147_15 rfl (j_isr_vc h0 rfl)) (Eq.trans (s_getfr r147_16 (j_al1 h0 rfl) rfl) (Eq.trans (s_iload_n r147_19 rfl) (Eq.trans (s_iald r147_20 h1 (by decide) (j_ib_of (z := x2.toInt) rfl h2 h3)) (Eq.trans (s_iconst r147_21) (s_icne r147_22 rfl rfl rfl)))))
theorem b147_25 {b : Nat} {x0 : Value} {x1 : Int32} {x2 : Int32} {H : j_H} {Q : Option Value → j_H → Prop} (h0 : j_vc H x0 = 12) (h1 : j_vt H (va_rf (j_R H (j_pa x0) 16)) = 0) (h2 : 0 ≤ x2.toInt) (h3 : x2.toInt < ((j_vl H (va_rf (j_R H (j_pa x0) 16)) : Nat) : Int)) : j_wp b 147 25 [x0, .int x1, .int x2] [] H Q = j_wp b 147 35 [x0, .int x1, .int x2] [.int (j_I H (j_pa (va_rf (j_R H (j_pa x0) 16))) (j_ix x2))] H Q := Eq.trans (s_aload_n r147_25 rfl (j_isr_vc h0 rfl)) (Eq.trans (s_getfr r147_26 (j_al1 h0 rfl) rfl) (Eq.trans (s_iload_n r147_29 rfl) (Eq.trans (s_iald r147_30 h1 (by decide) (j_ib_of (z := x2.toInt) rfl h2 h3)) (s_goto r147_31 rfl))))
theorem b147_34 {b : Nat} {x0 : Value} {x1 : Int32} {x2 : Int32} {H : j_H} {Q : Option Value → j_H → Prop}  : j_wp b 147 34 [x0, .int x1, .int x2] [] H Q = j_wp b 147 35 [x0, .int x1, .int x2] [.int x1] H Q := s_iload_n r147_34 rfl
theorem b147_35 {b : Nat} {x0 : Value} {x1 : Int32} {x2 : Int32} {y0 : Int32} {H : j_H} {Q : Option Value → j_H → Prop} (h0 : j_isr x0 = true) : j_wp b 147 35 [x0, .int x1, .int x2] [.int y0] H Q = j_wp b 147 7 [x0, .int y0, .int (x2 + Int32.ofInt 1)] [] H Q := Eq.trans (s_istore_n r147_35 (Nat.le_of_ble_eq_true rfl) (j_stc (j_c1r h0) rfl)) (Eq.trans (s_iinc r147_36 rfl rfl) (s_goto r147_39 rfl))
theorem b147_42 {b : Nat} {x0 : Value} {x1 : Int32} {x2 : Int32} {H : j_H} {Q : Option Value → j_H → Prop}  : j_wp b 147 42 [x0, .int x1, .int x2] [] H Q = Q (some (.int x1)) H := Eq.trans (s_iload_n r147_42 rfl) (s_ireturn r147_43 (j_rok1 rfl))
-- X12_factOf
theorem r148_0 : j_at 148 0 = some (0, .iload_n 1, 1, []) := by decide +kernel
theorem r148_1 : j_at 148 1 = some (1, .tableswitch 67 0 4 #[35, 37, 44, 51, 56], 35, []) := by decide +kernel
theorem r148_36 : j_at 148 36 = some (36, .iload_n 2, 1, []) := by decide +kernel
theorem r148_37 : j_at 148 37 = some (37, .ireturn, 1, []) := by decide +kernel
theorem r148_38 : j_at 148 38 = some (38, .aload_n 0, 1, []) := by decide +kernel
theorem r148_39 : j_at 148 39 = some (39, .getfield 22, 3, [708, 12, 2, 4, 0, 12]) := by decide +kernel
theorem r148_42 : j_at 148 42 = some (42, .iload_n 2, 1, []) := by decide +kernel
theorem r148_43 : j_at 148 43 = some (43, .iaload, 1, []) := by decide +kernel
theorem r148_44 : j_at 148 44 = some (44, .ireturn, 1, []) := by decide +kernel
theorem r148_45 : j_at 148 45 = some (45, .aload_n 0, 1, []) := by decide +kernel
theorem r148_46 : j_at 148 46 = some (46, .getfield 26, 3, [709, 12, 2, 5, 0, 12]) := by decide +kernel
theorem r148_49 : j_at 148 49 = some (49, .iload_n 2, 1, []) := by decide +kernel
theorem r148_50 : j_at 148 50 = some (50, .iaload, 1, []) := by decide +kernel
theorem r148_51 : j_at 148 51 = some (51, .ireturn, 1, []) := by decide +kernel
theorem r148_52 : j_at 148 52 = some (52, .iload_n 3, 1, []) := by decide +kernel
theorem r148_53 : j_at 148 53 = some (53, .bipush 12, 2, []) := by decide +kernel
theorem r148_55 : j_at 148 55 = some (55, .irem, 1, []) := by decide +kernel
theorem r148_56 : j_at 148 56 = some (56, .ireturn, 1, []) := by decide +kernel
theorem r148_57 : j_at 148 57 = some (57, .aload_n 0, 1, []) := by decide +kernel
theorem r148_58 : j_at 148 58 = some (58, .aload_n 0, 1, []) := by decide +kernel
theorem r148_59 : j_at 148 59 = some (59, .getfield 29, 3, [710, 12, 2, 6, 0, 12]) := by decide +kernel
theorem r148_62 : j_at 148 62 = some (62, .iload_n 2, 1, []) := by decide +kernel
theorem r148_63 : j_at 148 63 = some (63, .iaload, 1, []) := by decide +kernel
theorem r148_64 : j_at 148 64 = some (64, .invokevirtual 250, 3, [2, 2, 123, 887, 888, 48, 77, 0, 12]) := by decide +kernel
theorem r148_67 : j_at 148 67 = some (67, .ireturn, 1, []) := by decide +kernel
theorem r148_68 : j_at 148 68 = some (68, .aload_n 0, 1, []) := by decide +kernel
theorem r148_69 : j_at 148 69 = some (69, .aload_n 0, 1, []) := by decide +kernel
theorem r148_70 : j_at 148 70 = some (70, .getfield 13, 3, [705, 12, 0, 1, 0, 12]) := by decide +kernel
theorem r148_73 : j_at 148 73 = some (73, .invokevirtual 250, 3, [2, 2, 123, 887, 888, 48, 77, 0, 12]) := by decide +kernel
theorem r148_76 : j_at 148 76 = some (76, .ireturn, 1, []) := by decide +kernel
theorem b148_0 {b : Nat} {x0 : Value} {x1 : Int32} {x2 : Int32} {x3 : Int32} {H : j_H} {Q : Option Value → j_H → Prop}  : j_wp b 148 0 [x0, .int x1, .int x2, .int x3] [] H Q = (if x1.toInt = 0 then j_wp b 148 36 [x0, .int x1, .int x2, .int x3] [] H Q else if x1.toInt = 1 then j_wp b 148 38 [x0, .int x1, .int x2, .int x3] [] H Q else if x1.toInt = 2 then j_wp b 148 45 [x0, .int x1, .int x2, .int x3] [] H Q else if x1.toInt = 3 then j_wp b 148 52 [x0, .int x1, .int x2, .int x3] [] H Q else if x1.toInt = 4 then j_wp b 148 57 [x0, .int x1, .int x2, .int x3] [] H Q else j_wp b 148 68 [x0, .int x1, .int x2, .int x3] [] H Q) := Eq.trans (s_iload_n r148_0 rfl) (j_ite (fun h => s_tsw r148_1 (by rw [h]; rfl)) (fun h100 => j_ite (fun h => s_tsw r148_1 (by rw [h]; rfl)) (fun h101 => j_ite (fun h => s_tsw r148_1 (by rw [h]; rfl)) (fun h102 => j_ite (fun h => s_tsw r148_1 (by rw [h]; rfl)) (fun h103 => j_ite (fun h => s_tsw r148_1 (by rw [h]; rfl)) (fun h104 => s_tsw r148_1 (by
    have h : x1.toInt < 0 ∨ 4 < x1.toInt  := by omega
    rcases h with h | h
    · rw [if_neg (by omega), j_sw, if_pos h]; rfl
    · rw [if_pos h]; rfl)))))))
theorem b148_36 {b : Nat} {x0 : Value} {x1 : Int32} {x2 : Int32} {x3 : Int32} {H : j_H} {Q : Option Value → j_H → Prop}  : j_wp b 148 36 [x0, .int x1, .int x2, .int x3] [] H Q = Q (some (.int x2)) H := Eq.trans (s_iload_n r148_36 rfl) (s_ireturn r148_37 (j_rok1 rfl))
theorem b148_38 {b : Nat} {x0 : Value} {x1 : Int32} {x2 : Int32} {x3 : Int32} {H : j_H} {Q : Option Value → j_H → Prop} (h0 : j_vc H x0 = 12) (h1 : j_vt H (va_rf (j_R H (j_pa x0) 4)) = 0) (h2 : 0 ≤ x2.toInt) (h3 : x2.toInt < ((j_vl H (va_rf (j_R H (j_pa x0) 4)) : Nat) : Int)) : j_wp b 148 38 [x0, .int x1, .int x2, .int x3] [] H Q = Q (some (.int (j_I H (j_pa (va_rf (j_R H (j_pa x0) 4))) (j_ix x2)))) H := Eq.trans (s_aload_n r148_38 rfl (j_isr_vc h0 rfl)) (Eq.trans (s_getfr r148_39 (j_al1 h0 rfl) rfl) (Eq.trans (s_iload_n r148_42 rfl) (Eq.trans (s_iald r148_43 h1 (by decide) (j_ib_of (z := x2.toInt) rfl h2 h3)) (s_ireturn r148_44 (j_rok1 rfl)))))
theorem b148_45 {b : Nat} {x0 : Value} {x1 : Int32} {x2 : Int32} {x3 : Int32} {H : j_H} {Q : Option Value → j_H → Prop} (h0 : j_vc H x0 = 12) (h1 : j_vt H (va_rf (j_R H (j_pa x0) 5)) = 0) (h2 : 0 ≤ x2.toInt) (h3 : x2.toInt < ((j_vl H (va_rf (j_R H (j_pa x0) 5)) : Nat) : Int)) : j_wp b 148 45 [x0, .int x1, .int x2, .int x3] [] H Q = Q (some (.int (j_I H (j_pa (va_rf (j_R H (j_pa x0) 5))) (j_ix x2)))) H := Eq.trans (s_aload_n r148_45 rfl (j_isr_vc h0 rfl)) (Eq.trans (s_getfr r148_46 (j_al1 h0 rfl) rfl) (Eq.trans (s_iload_n r148_49 rfl) (Eq.trans (s_iald r148_50 h1 (by decide) (j_ib_of (z := x2.toInt) rfl h2 h3)) (s_ireturn r148_51 (j_rok1 rfl)))))
theorem b148_52 {b : Nat} {x0 : Value} {x1 : Int32} {x2 : Int32} {x3 : Int32} {H : j_H} {Q : Option Value → j_H → Prop}  : j_wp b 148 52 [x0, .int x1, .int x2, .int x3] [] H Q = Q (some (.int (j_rem x3 (Int32.ofInt 12)))) H := Eq.trans (s_iload_n r148_52 rfl) (Eq.trans (s_bipush r148_53) (Eq.trans (s_irem r148_55 (by decide)) (s_ireturn r148_56 (j_rok1 rfl))))
theorem b148_57 {b : Nat} {x0 : Value} {x1 : Int32} {x2 : Int32} {x3 : Int32} {H : j_H} {Q : Option Value → j_H → Prop} (h0 : j_vc H x0 = 12) (h1 : j_vt H (va_rf (j_R H (j_pa x0) 6)) = 0) (h2 : 0 ≤ x2.toInt) (h3 : x2.toInt < ((j_vl H (va_rf (j_R H (j_pa x0) 6)) : Nat) : Int)) : j_wp (b + 1) 148 57 [x0, .int x1, .int x2, .int x3] [] H Q = j_wp b 123 0 [x0, .int (j_I H (j_pa (va_rf (j_R H (j_pa x0) 6))) (j_ix x2)), j_u, j_u] [] H (j_k (b + 1) 148 67 [x0, .int x1, .int x2, .int x3] [] Q) := Eq.trans (s_aload_n r148_57 rfl (j_isr_vc h0 rfl)) (Eq.trans (s_aload_n r148_58 rfl (j_isr_vc h0 rfl)) (Eq.trans (s_getfr r148_59 (j_al1 h0 rfl) rfl) (Eq.trans (s_iload_n r148_62 rfl) (Eq.trans (s_iald r148_63 h1 (by decide) (j_ib_of (z := x2.toInt) rfl h2 h3)) (j_cll (as := [x0, .int (j_I H (j_pa (va_rf (j_R H (j_pa x0) 6))) (j_ix x2))]) (es := [x0, .int (j_I H (j_pa (va_rf (j_R H (j_pa x0) 6))) (j_ix x2))]) (s_c2 r148_64 rfl h0 rfl rfl (j_dok (s := [.int (j_I H (j_pa (va_rf (j_R H (j_pa x0) 6))) (j_ix x2)), x0]) (as := [x0, .int (j_I H (j_pa (va_rf (j_R H (j_pa x0) 6))) (j_ix x2))]) (rest := []) (es := [x0, .int (j_I H (j_pa (va_rf (j_R H (j_pa x0) 6))) (j_ix x2))]) rfl rfl rfl rfl (j_slc (j_c1r (j_isr_vc h0 rfl)) rfl) rfl)) (j_slc (j_c1r (j_isr_vc h0 rfl)) rfl) rfl)))))
theorem b148_67 {b : Nat} {x0 : Value} {x1 : Int32} {x2 : Int32} {x3 : Int32} {y0 : Int32} {H : j_H} {Q : Option Value → j_H → Prop}  : j_wp b 148 67 [x0, .int x1, .int x2, .int x3] [.int y0] H Q = Q (some (.int y0)) H := s_ireturn r148_67 (j_rok1 rfl)
theorem b148_68 {b : Nat} {x0 : Value} {x1 : Int32} {x2 : Int32} {x3 : Int32} {H : j_H} {Q : Option Value → j_H → Prop} (h0 : j_vc H x0 = 12) : j_wp (b + 1) 148 68 [x0, .int x1, .int x2, .int x3] [] H Q = j_wp b 123 0 [x0, .int (j_I H (j_pa x0) 1), j_u, j_u] [] H (j_k (b + 1) 148 76 [x0, .int x1, .int x2, .int x3] [] Q) := Eq.trans (s_aload_n r148_68 rfl (j_isr_vc h0 rfl)) (Eq.trans (s_aload_n r148_69 rfl (j_isr_vc h0 rfl)) (Eq.trans (s_getfi r148_70 (j_al1 h0 rfl) rfl rfl rfl) (j_cll (as := [x0, .int (j_I H (j_pa x0) 1)]) (es := [x0, .int (j_I H (j_pa x0) 1)]) (s_c2 r148_73 rfl h0 rfl rfl (j_dok (s := [.int (j_I H (j_pa x0) 1), x0]) (as := [x0, .int (j_I H (j_pa x0) 1)]) (rest := []) (es := [x0, .int (j_I H (j_pa x0) 1)]) rfl rfl rfl rfl (j_slc (j_c1r (j_isr_vc h0 rfl)) rfl) rfl)) (j_slc (j_c1r (j_isr_vc h0 rfl)) rfl) rfl)))
theorem b148_76 {b : Nat} {x0 : Value} {x1 : Int32} {x2 : Int32} {x3 : Int32} {y0 : Int32} {H : j_H} {Q : Option Value → j_H → Prop}  : j_wp b 148 76 [x0, .int x1, .int x2, .int x3] [.int y0] H Q = Q (some (.int y0)) H := s_ireturn r148_76 (j_rok1 rfl)
-- X12_holds
theorem r149_0 : j_at 149 0 = some (0, .iconst 0, 1, []) := by decide +kernel
theorem r149_1 : j_at 149 1 = some (1, .istore 4, 2, []) := by decide +kernel
theorem r149_3 : j_at 149 3 = some (3, .aload_n 0, 1, []) := by decide +kernel
theorem r149_4 : j_at 149 4 = some (4, .getfield 62, 3, [721, 12, 2, 17, 0, 12]) := by decide +kernel
theorem r149_7 : j_at 149 7 = some (7, .iload_n 1, 1, []) := by decide +kernel
theorem r149_8 : j_at 149 8 = some (8, .iaload, 1, []) := by decide +kernel
theorem r149_9 : j_at 149 9 = some (9, .istore 5, 2, []) := by decide +kernel
theorem r149_11 : j_at 149 11 = some (11, .iload 5, 2, []) := by decide +kernel
theorem r149_13 : j_at 149 13 = some (13, .aload_n 0, 1, []) := by decide +kernel
theorem r149_14 : j_at 149 14 = some (14, .getfield 65, 3, [722, 12, 2, 18, 0, 12]) := by decide +kernel
theorem r149_17 : j_at 149 17 = some (17, .iload_n 1, 1, []) := by decide +kernel
theorem r149_18 : j_at 149 18 = some (18, .iaload, 1, []) := by decide +kernel
theorem r149_19 : j_at 149 19 = some (19, .if_icmp .ge 234, 3, []) := by decide +kernel
theorem r149_22 : j_at 149 22 = some (22, .aload_n 0, 1, []) := by decide +kernel
theorem r149_23 : j_at 149 23 = some (23, .getfield 68, 3, [723, 12, 2, 19, 0, 12]) := by decide +kernel
theorem r149_26 : j_at 149 26 = some (26, .iload 5, 2, []) := by decide +kernel
theorem r149_28 : j_at 149 28 = some (28, .iaload, 1, []) := by decide +kernel
theorem r149_29 : j_at 149 29 = some (29, .istore 6, 2, []) := by decide +kernel
theorem r149_31 : j_at 149 31 = some (31, .iload 6, 2, []) := by decide +kernel
theorem r149_33 : j_at 149 33 = some (33, .bipush (-33), 2, []) := by decide +kernel
theorem r149_35 : j_at 149 35 = some (35, .if_icmp .ne 32, 3, []) := by decide +kernel
theorem r149_38 : j_at 149 38 = some (38, .aload_n 0, 1, []) := by decide +kernel
theorem r149_39 : j_at 149 39 = some (39, .getfield 86, 3, [729, 12, 2, 25, 0, 12]) := by decide +kernel
theorem r149_42 : j_at 149 42 = some (42, .iload 4, 2, []) := by decide +kernel
theorem r149_44 : j_at 149 44 = some (44, .iconst 1, 1, []) := by decide +kernel
theorem r149_45 : j_at 149 45 = some (45, .isub, 1, []) := by decide +kernel
theorem r149_46 : j_at 149 46 = some (46, .aload_n 0, 1, []) := by decide +kernel
theorem r149_47 : j_at 149 47 = some (47, .getfield 86, 3, [729, 12, 2, 25, 0, 12]) := by decide +kernel
theorem r149_50 : j_at 149 50 = some (50, .iload 4, 2, []) := by decide +kernel
theorem r149_52 : j_at 149 52 = some (52, .iconst 1, 1, []) := by decide +kernel
theorem r149_53 : j_at 149 53 = some (53, .isub, 1, []) := by decide +kernel
theorem r149_54 : j_at 149 54 = some (54, .baload, 1, [3]) := by decide +kernel
theorem r149_55 : j_at 149 55 = some (55, .ifCond .ne 7, 3, []) := by decide +kernel
theorem r149_58 : j_at 149 58 = some (58, .iconst 1, 1, []) := by decide +kernel
theorem r149_59 : j_at 149 59 = some (59, .goto 4, 3, []) := by decide +kernel
theorem r149_62 : j_at 149 62 = some (62, .iconst 0, 1, []) := by decide +kernel
theorem r149_63 : j_at 149 63 = some (63, .bastore, 1, [3]) := by decide +kernel
theorem r149_64 : j_at 149 64 = some (64, .goto 183, 3, []) := by decide +kernel
theorem r149_67 : j_at 149 67 = some (67, .iload 6, 2, []) := by decide +kernel
theorem r149_69 : j_at 149 69 = some (69, .ifCond .ge 82, 3, []) := by decide +kernel
theorem r149_72 : j_at 149 72 = some (72, .iinc 4 (-1), 3, []) := by decide +kernel
theorem r149_75 : j_at 149 75 = some (75, .aload_n 0, 1, []) := by decide +kernel
theorem r149_76 : j_at 149 76 = some (76, .getfield 86, 3, [729, 12, 2, 25, 0, 12]) := by decide +kernel
theorem r149_79 : j_at 149 79 = some (79, .iload 4, 2, []) := by decide +kernel
theorem r149_81 : j_at 149 81 = some (81, .iconst 1, 1, []) := by decide +kernel
theorem r149_82 : j_at 149 82 = some (82, .isub, 1, []) := by decide +kernel
theorem r149_83 : j_at 149 83 = some (83, .iload 6, 2, []) := by decide +kernel
theorem r149_85 : j_at 149 85 = some (85, .bipush (-38), 2, []) := by decide +kernel
theorem r149_87 : j_at 149 87 = some (87, .if_icmp .ne 33, 3, []) := by decide +kernel
theorem r149_90 : j_at 149 90 = some (90, .aload_n 0, 1, []) := by decide +kernel
theorem r149_91 : j_at 149 91 = some (91, .getfield 86, 3, [729, 12, 2, 25, 0, 12]) := by decide +kernel
theorem r149_94 : j_at 149 94 = some (94, .iload 4, 2, []) := by decide +kernel
theorem r149_96 : j_at 149 96 = some (96, .iconst 1, 1, []) := by decide +kernel
theorem r149_97 : j_at 149 97 = some (97, .isub, 1, []) := by decide +kernel
theorem r149_98 : j_at 149 98 = some (98, .baload, 1, [3]) := by decide +kernel
theorem r149_99 : j_at 149 99 = some (99, .ifCond .eq 17, 3, []) := by decide +kernel
theorem r149_102 : j_at 149 102 = some (102, .aload_n 0, 1, []) := by decide +kernel
theorem r149_103 : j_at 149 103 = some (103, .getfield 86, 3, [729, 12, 2, 25, 0, 12]) := by decide +kernel
theorem r149_106 : j_at 149 106 = some (106, .iload 4, 2, []) := by decide +kernel
theorem r149_108 : j_at 149 108 = some (108, .baload, 1, [3]) := by decide +kernel
theorem r149_109 : j_at 149 109 = some (109, .ifCond .eq 7, 3, []) := by decide +kernel
theorem r149_112 : j_at 149 112 = some (112, .iconst 1, 1, []) := by decide +kernel
theorem r149_113 : j_at 149 113 = some (113, .goto 34, 3, []) := by decide +kernel
theorem r149_116 : j_at 149 116 = some (116, .iconst 0, 1, []) := by decide +kernel
theorem r149_117 : j_at 149 117 = some (117, .goto 30, 3, []) := by decide +kernel
theorem r149_120 : j_at 149 120 = some (120, .aload_n 0, 1, []) := by decide +kernel
theorem r149_121 : j_at 149 121 = some (121, .getfield 86, 3, [729, 12, 2, 25, 0, 12]) := by decide +kernel
theorem r149_124 : j_at 149 124 = some (124, .iload 4, 2, []) := by decide +kernel
theorem r149_126 : j_at 149 126 = some (126, .iconst 1, 1, []) := by decide +kernel
theorem r149_127 : j_at 149 127 = some (127, .isub, 1, []) := by decide +kernel
theorem r149_128 : j_at 149 128 = some (128, .baload, 1, [3]) := by decide +kernel
theorem r149_129 : j_at 149 129 = some (129, .ifCond .ne 13, 3, []) := by decide +kernel
theorem r149_132 : j_at 149 132 = some (132, .aload_n 0, 1, []) := by decide +kernel
theorem r149_133 : j_at 149 133 = some (133, .getfield 86, 3, [729, 12, 2, 25, 0, 12]) := by decide +kernel
theorem r149_136 : j_at 149 136 = some (136, .iload 4, 2, []) := by decide +kernel
theorem r149_138 : j_at 149 138 = some (138, .baload, 1, [3]) := by decide +kernel
theorem r149_139 : j_at 149 139 = some (139, .ifCond .eq 7, 3, []) := by decide +kernel
theorem r149_142 : j_at 149 142 = some (142, .iconst 1, 1, []) := by decide +kernel
theorem r149_143 : j_at 149 143 = some (143, .goto 4, 3, []) := by decide +kernel
theorem r149_146 : j_at 149 146 = some (146, .iconst 0, 1, []) := by decide +kernel
theorem r149_147 : j_at 149 147 = some (147, .bastore, 1, [3]) := by decide +kernel
theorem r149_148 : j_at 149 148 = some (148, .goto 99, 3, []) := by decide +kernel
theorem r149_151 : j_at 149 151 = some (151, .aload_n 0, 1, []) := by decide +kernel
theorem r149_152 : j_at 149 152 = some (152, .iload 6, 2, []) := by decide +kernel
theorem r149_154 : j_at 149 154 = some (154, .sipush 1000, 3, []) := by decide +kernel
theorem r149_157 : j_at 149 157 = some (157, .idiv, 1, []) := by decide +kernel
theorem r149_158 : j_at 149 158 = some (158, .iload_n 2, 1, []) := by decide +kernel
theorem r149_159 : j_at 149 159 = some (159, .iload_n 3, 1, []) := by decide +kernel
theorem r149_160 : j_at 149 160 = some (160, .invokevirtual 253, 3, [2, 4, 148, 885, 886, 47, 77, 0, 12]) := by decide +kernel
theorem r149_163 : j_at 149 163 = some (163, .istore 7, 2, []) := by decide +kernel
theorem r149_165 : j_at 149 165 = some (165, .iload 6, 2, []) := by decide +kernel
theorem r149_167 : j_at 149 167 = some (167, .bipush 100, 2, []) := by decide +kernel
theorem r149_169 : j_at 149 169 = some (169, .idiv, 1, []) := by decide +kernel
theorem r149_170 : j_at 149 170 = some (170, .bipush 10, 2, []) := by decide +kernel
theorem r149_172 : j_at 149 172 = some (172, .irem, 1, []) := by decide +kernel
theorem r149_173 : j_at 149 173 = some (173, .istore 8, 2, []) := by decide +kernel
theorem r149_175 : j_at 149 175 = some (175, .aload_n 0, 1, []) := by decide +kernel
theorem r149_176 : j_at 149 176 = some (176, .getfield 86, 3, [729, 12, 2, 25, 0, 12]) := by decide +kernel
theorem r149_179 : j_at 149 179 = some (179, .iload 4, 2, []) := by decide +kernel
theorem r149_181 : j_at 149 181 = some (181, .iload 8, 2, []) := by decide +kernel
theorem r149_183 : j_at 149 183 = some (183, .ifCond .ne 21, 3, []) := by decide +kernel
theorem r149_186 : j_at 149 186 = some (186, .iload 7, 2, []) := by decide +kernel
theorem r149_188 : j_at 149 188 = some (188, .iload 6, 2, []) := by decide +kernel
theorem r149_190 : j_at 149 190 = some (190, .bipush 100, 2, []) := by decide +kernel
theorem r149_192 : j_at 149 192 = some (192, .irem, 1, []) := by decide +kernel
theorem r149_193 : j_at 149 193 = some (193, .if_icmp .ge 7, 3, []) := by decide +kernel
theorem r149_196 : j_at 149 196 = some (196, .iconst 1, 1, []) := by decide +kernel
theorem r149_197 : j_at 149 197 = some (197, .goto 46, 3, []) := by decide +kernel
theorem r149_200 : j_at 149 200 = some (200, .iconst 0, 1, []) := by decide +kernel
theorem r149_201 : j_at 149 201 = some (201, .goto 42, 3, []) := by decide +kernel
theorem r149_204 : j_at 149 204 = some (204, .iload 8, 2, []) := by decide +kernel
theorem r149_206 : j_at 149 206 = some (206, .iconst 1, 1, []) := by decide +kernel
theorem r149_207 : j_at 149 207 = some (207, .if_icmp .ne 21, 3, []) := by decide +kernel
theorem r149_210 : j_at 149 210 = some (210, .iload 7, 2, []) := by decide +kernel
theorem r149_212 : j_at 149 212 = some (212, .iload 6, 2, []) := by decide +kernel
theorem r149_214 : j_at 149 214 = some (214, .bipush 100, 2, []) := by decide +kernel
theorem r149_216 : j_at 149 216 = some (216, .irem, 1, []) := by decide +kernel
theorem r149_217 : j_at 149 217 = some (217, .if_icmp .ne 7, 3, []) := by decide +kernel
theorem r149_220 : j_at 149 220 = some (220, .iconst 1, 1, []) := by decide +kernel
theorem r149_221 : j_at 149 221 = some (221, .goto 22, 3, []) := by decide +kernel
theorem r149_224 : j_at 149 224 = some (224, .iconst 0, 1, []) := by decide +kernel
theorem r149_225 : j_at 149 225 = some (225, .goto 18, 3, []) := by decide +kernel
theorem r149_228 : j_at 149 228 = some (228, .iload 7, 2, []) := by decide +kernel
theorem r149_230 : j_at 149 230 = some (230, .iload 6, 2, []) := by decide +kernel
theorem r149_232 : j_at 149 232 = some (232, .bipush 100, 2, []) := by decide +kernel
theorem r149_234 : j_at 149 234 = some (234, .irem, 1, []) := by decide +kernel
theorem r149_235 : j_at 149 235 = some (235, .if_icmp .le 7, 3, []) := by decide +kernel
theorem r149_238 : j_at 149 238 = some (238, .iconst 1, 1, []) := by decide +kernel
theorem r149_239 : j_at 149 239 = some (239, .goto 4, 3, []) := by decide +kernel
theorem r149_242 : j_at 149 242 = some (242, .iconst 0, 1, []) := by decide +kernel
theorem r149_243 : j_at 149 243 = some (243, .bastore, 1, [3]) := by decide +kernel
theorem r149_244 : j_at 149 244 = some (244, .iinc 4 1, 3, []) := by decide +kernel
theorem r149_247 : j_at 149 247 = some (247, .iinc 5 1, 3, []) := by decide +kernel
theorem r149_250 : j_at 149 250 = some (250, .goto (-239), 3, []) := by decide +kernel
theorem r149_253 : j_at 149 253 = some (253, .aload_n 0, 1, []) := by decide +kernel
theorem r149_254 : j_at 149 254 = some (254, .getfield 86, 3, [729, 12, 2, 25, 0, 12]) := by decide +kernel
theorem r149_257 : j_at 149 257 = some (257, .iconst 0, 1, []) := by decide +kernel
theorem r149_258 : j_at 149 258 = some (258, .baload, 1, [3]) := by decide +kernel
theorem r149_259 : j_at 149 259 = some (259, .ireturn, 1, []) := by decide +kernel
theorem b149_0 {b : Nat} {x0 : Value} {x1 : Int32} {x2 : Int32} {x3 : Int32} {u4 : Value} {u5 : Value} {u6 : Value} {u7 : Value} {u8 : Value} {H : j_H} {Q : Option Value → j_H → Prop} (h0 : j_vc H x0 = 12) (h1 : j_vt H (va_rf (j_R H (j_pa x0) 17)) = 0) (h2 : 0 ≤ x1.toInt) (h3 : x1.toInt < ((j_vl H (va_rf (j_R H (j_pa x0) 17)) : Nat) : Int)) : j_wp b 149 0 [x0, .int x1, .int x2, .int x3, u4, u5, u6, u7, u8] [] H Q = j_wp b 149 11 [x0, .int x1, .int x2, .int x3, .int (Int32.ofInt 0), .int (j_I H (j_pa (va_rf (j_R H (j_pa x0) 17))) (j_ix x1)), u6, u7, u8] [] H Q := Eq.trans (s_iconst r149_0) (Eq.trans (s_istore r149_1 (Nat.le_of_ble_eq_true rfl) rfl) (Eq.trans (s_aload_n r149_3 rfl (j_isr_vc h0 rfl)) (Eq.trans (s_getfr r149_4 (j_al1 h0 rfl) rfl) (Eq.trans (s_iload_n r149_7 rfl) (Eq.trans (s_iald r149_8 h1 (by decide) (j_ib_of (z := x1.toInt) rfl h2 h3)) (s_istore r149_9 (Nat.le_of_ble_eq_true rfl) rfl))))))
theorem b149_11 {b : Nat} {x0 : Value} {x1 : Int32} {x2 : Int32} {x3 : Int32} {x4 : Int32} {x5 : Int32} {u6 : Value} {u7 : Value} {u8 : Value} {H : j_H} {Q : Option Value → j_H → Prop} (h0 : j_vc H x0 = 12) (h1 : j_vt H (va_rf (j_R H (j_pa x0) 18)) = 0) (h2 : 0 ≤ x1.toInt) (h3 : x1.toInt < ((j_vl H (va_rf (j_R H (j_pa x0) 18)) : Nat) : Int)) : j_wp b 149 11 [x0, .int x1, .int x2, .int x3, .int x4, .int x5, u6, u7, u8] [] H Q = (if (j_I H (j_pa (va_rf (j_R H (j_pa x0) 18))) (j_ix x1)).toInt ≤ x5.toInt then j_wp b 149 253 [x0, .int x1, .int x2, .int x3, .int x4, .int x5, u6, u7, u8] [] H Q else j_wp b 149 22 [x0, .int x1, .int x2, .int x3, .int x4, .int x5, u6, u7, u8] [] H Q) := Eq.trans (s_iload r149_11 rfl) (Eq.trans (s_aload_n r149_13 rfl (j_isr_vc h0 rfl)) (Eq.trans (s_getfr r149_14 (j_al1 h0 rfl) rfl) (Eq.trans (s_iload_n r149_17 rfl) (Eq.trans (s_iald r149_18 h1 (by decide) (j_ib_of (z := x1.toInt) rfl h2 h3)) (s_icge r149_19 rfl rfl rfl)))))
theorem b149_22 {b : Nat} {x0 : Value} {x1 : Int32} {x2 : Int32} {x3 : Int32} {x4 : Int32} {x5 : Int32} {u6 : Value} {u7 : Value} {u8 : Value} {H : j_H} {Q : Option Value → j_H → Prop} (h0 : j_vc H x0 = 12) (h1 : j_vt H (va_rf (j_R H (j_pa x0) 19)) = 0) (h2 : 0 ≤ x5.toInt) (h3 : x5.toInt < ((j_vl H (va_rf (j_R H (j_pa x0) 19)) : Nat) : Int)) : j_wp b 149 22 [x0, .int x1, .int x2, .int x3, .int x4, .int x5, u6, u7, u8] [] H Q = (if ¬ (j_I H (j_pa (va_rf (j_R H (j_pa x0) 19))) (j_ix x5)).toInt = (-33) then j_wp b 149 67 [x0, .int x1, .int x2, .int x3, .int x4, .int x5, .int (j_I H (j_pa (va_rf (j_R H (j_pa x0) 19))) (j_ix x5)), u7, u8] [] H Q else j_wp b 149 38 [x0, .int x1, .int x2, .int x3, .int x4, .int x5, .int (j_I H (j_pa (va_rf (j_R H (j_pa x0) 19))) (j_ix x5)), u7, u8] [] H Q) := Eq.trans (s_aload_n r149_22 rfl (j_isr_vc h0 rfl)) (Eq.trans (s_getfr r149_23 (j_al1 h0 rfl) rfl) (Eq.trans (s_iload r149_26 rfl) (Eq.trans (s_iald r149_28 h1 (by decide) (j_ib_of (z := x5.toInt) rfl h2 h3)) (Eq.trans (s_istore r149_29 (Nat.le_of_ble_eq_true rfl) rfl) (Eq.trans (s_iload r149_31 rfl) (Eq.trans (s_bipush r149_33) (s_icne r149_35 rfl rfl rfl)))))))
theorem b149_38 {b : Nat} {x0 : Value} {x1 : Int32} {x2 : Int32} {x3 : Int32} {x4 : Int32} {x5 : Int32} {x6 : Int32} {u7 : Value} {u8 : Value} {H : j_H} {Q : Option Value → j_H → Prop} (h0 : j_vc H x0 = 12) (h1 : j_vt H (va_rf (j_R H (j_pa x0) 25)) = 3) (h2 : 0 ≤ (x4 - (Int32.ofInt 1)).toInt) (h3 : (x4 - (Int32.ofInt 1)).toInt < ((j_vl H (va_rf (j_R H (j_pa x0) 25)) : Nat) : Int)) : j_wp b 149 38 [x0, .int x1, .int x2, .int x3, .int x4, .int x5, .int x6, u7, u8] [] H Q = (if ¬ (j_I H (j_pa (va_rf (j_R H (j_pa x0) 25))) (j_ix (x4 - (Int32.ofInt 1)))).toInt = 0 then j_wp b 149 62 [x0, .int x1, .int x2, .int x3, .int x4, .int x5, .int x6, u7, u8] [.int (x4 - (Int32.ofInt 1)), va_rf (j_R H (j_pa x0) 25)] H Q else j_wp b 149 58 [x0, .int x1, .int x2, .int x3, .int x4, .int x5, .int x6, u7, u8] [.int (x4 - (Int32.ofInt 1)), va_rf (j_R H (j_pa x0) 25)] H Q) := Eq.trans (s_aload_n r149_38 rfl (j_isr_vc h0 rfl)) (Eq.trans (s_getfr r149_39 (j_al1 h0 rfl) rfl) (Eq.trans (s_iload r149_42 rfl) (Eq.trans (s_iconst r149_44) (Eq.trans (s_isub r149_45) (Eq.trans (s_aload_n r149_46 rfl (j_isr_vc h0 rfl)) (Eq.trans (s_getfr r149_47 (j_al1 h0 rfl) rfl) (Eq.trans (s_iload r149_50 rfl) (Eq.trans (s_iconst r149_52) (Eq.trans (s_isub r149_53) (Eq.trans (s_bald r149_54 h1 (by decide) (j_ib_of (z := (x4 - (Int32.ofInt 1)).toInt) rfl h2 h3)) (s_ifne r149_55 rfl rfl)))))))))))
theorem b149_58 {b : Nat} {x0 : Value} {x1 : Int32} {x2 : Int32} {x3 : Int32} {x4 : Int32} {x5 : Int32} {x6 : Int32} {u7 : Value} {u8 : Value} {y0 : Int32} {y1 : Value} {H : j_H} {Q : Option Value → j_H → Prop}  : j_wp b 149 58 [x0, .int x1, .int x2, .int x3, .int x4, .int x5, .int x6, u7, u8] [.int y0, y1] H Q = j_wp b 149 63 [x0, .int x1, .int x2, .int x3, .int x4, .int x5, .int x6, u7, u8] [.int (Int32.ofInt 1), .int y0, y1] H Q := Eq.trans (s_iconst r149_58) (s_goto r149_59 rfl)
theorem b149_62 {b : Nat} {x0 : Value} {x1 : Int32} {x2 : Int32} {x3 : Int32} {x4 : Int32} {x5 : Int32} {x6 : Int32} {u7 : Value} {u8 : Value} {y0 : Int32} {y1 : Value} {H : j_H} {Q : Option Value → j_H → Prop}  : j_wp b 149 62 [x0, .int x1, .int x2, .int x3, .int x4, .int x5, .int x6, u7, u8] [.int y0, y1] H Q = j_wp b 149 63 [x0, .int x1, .int x2, .int x3, .int x4, .int x5, .int x6, u7, u8] [.int (Int32.ofInt 0), .int y0, y1] H Q := s_iconst r149_62
theorem b149_63 {b : Nat} {x0 : Value} {x1 : Int32} {x2 : Int32} {x3 : Int32} {x4 : Int32} {x5 : Int32} {x6 : Int32} {u7 : Value} {u8 : Value} {y0 : Int32} {y1 : Int32} {y2 : Value} {H : j_H} {Q : Option Value → j_H → Prop} (h0 : j_vt H y2 = 3) (h1 : 0 ≤ y1.toInt) (h2 : y1.toInt < ((j_vl H y2 : Nat) : Int)) (h3 : y0.toInt = 0 ∨ y0.toInt = 1) : j_wp b 149 63 [x0, .int x1, .int x2, .int x3, .int x4, .int x5, .int x6, u7, u8] [.int y0, .int y1, y2] H Q = j_wp b 149 64 [x0, .int x1, .int x2, .int x3, .int x4, .int x5, .int x6, u7, u8] [] (j_sI H (j_pa y2) (j_ix y1) y0) Q := s_zast r149_63 h0 (j_ib_of (z := y1.toInt) rfl h1 h2) (j_b01 (z := y0.toInt) rfl h3)
theorem b149_64 {b : Nat} {x0 : Value} {x1 : Int32} {x2 : Int32} {x3 : Int32} {x4 : Int32} {x5 : Int32} {x6 : Int32} {u7 : Value} {u8 : Value} {H : j_H} {Q : Option Value → j_H → Prop}  : j_wp b 149 64 [x0, .int x1, .int x2, .int x3, .int x4, .int x5, .int x6, u7, u8] [] H Q = j_wp b 149 247 [x0, .int x1, .int x2, .int x3, .int x4, .int x5, .int x6, u7, u8] [] H Q := s_goto r149_64 rfl
theorem b149_67 {b : Nat} {x0 : Value} {x1 : Int32} {x2 : Int32} {x3 : Int32} {x4 : Int32} {x5 : Int32} {x6 : Int32} {u7 : Value} {u8 : Value} {H : j_H} {Q : Option Value → j_H → Prop}  : j_wp b 149 67 [x0, .int x1, .int x2, .int x3, .int x4, .int x5, .int x6, u7, u8] [] H Q = (if 0 ≤ x6.toInt then j_wp b 149 151 [x0, .int x1, .int x2, .int x3, .int x4, .int x5, .int x6, u7, u8] [] H Q else j_wp b 149 72 [x0, .int x1, .int x2, .int x3, .int x4, .int x5, .int x6, u7, u8] [] H Q) := Eq.trans (s_iload r149_67 rfl) (s_ifge r149_69 rfl rfl)
theorem b149_72 {b : Nat} {x0 : Value} {x1 : Int32} {x2 : Int32} {x3 : Int32} {x4 : Int32} {x5 : Int32} {x6 : Int32} {u7 : Value} {u8 : Value} {H : j_H} {Q : Option Value → j_H → Prop} (h0 : j_vc H x0 = 12) : j_wp b 149 72 [x0, .int x1, .int x2, .int x3, .int x4, .int x5, .int x6, u7, u8] [] H Q = (if ¬ x6.toInt = (-38) then j_wp b 149 120 [x0, .int x1, .int x2, .int x3, .int (x4 + Int32.ofInt (-1)), .int x5, .int x6, u7, u8] [.int ((x4 + Int32.ofInt (-1)) - (Int32.ofInt 1)), va_rf (j_R H (j_pa x0) 25)] H Q else j_wp b 149 90 [x0, .int x1, .int x2, .int x3, .int (x4 + Int32.ofInt (-1)), .int x5, .int x6, u7, u8] [.int ((x4 + Int32.ofInt (-1)) - (Int32.ofInt 1)), va_rf (j_R H (j_pa x0) 25)] H Q) := Eq.trans (s_iinc r149_72 rfl rfl) (Eq.trans (s_aload_n r149_75 rfl (j_isr_vc h0 rfl)) (Eq.trans (s_getfr r149_76 (j_al1 h0 rfl) rfl) (Eq.trans (s_iload r149_79 rfl) (Eq.trans (s_iconst r149_81) (Eq.trans (s_isub r149_82) (Eq.trans (s_iload r149_83 rfl) (Eq.trans (s_bipush r149_85) (s_icne r149_87 rfl rfl rfl))))))))
theorem b149_90 {b : Nat} {x0 : Value} {x1 : Int32} {x2 : Int32} {x3 : Int32} {x4 : Int32} {x5 : Int32} {x6 : Int32} {u7 : Value} {u8 : Value} {y0 : Int32} {y1 : Value} {H : j_H} {Q : Option Value → j_H → Prop} (h0 : j_vc H x0 = 12) (h1 : j_vt H (va_rf (j_R H (j_pa x0) 25)) = 3) (h2 : 0 ≤ (x4 - (Int32.ofInt 1)).toInt) (h3 : (x4 - (Int32.ofInt 1)).toInt < ((j_vl H (va_rf (j_R H (j_pa x0) 25)) : Nat) : Int)) : j_wp b 149 90 [x0, .int x1, .int x2, .int x3, .int x4, .int x5, .int x6, u7, u8] [.int y0, y1] H Q = (if (j_I H (j_pa (va_rf (j_R H (j_pa x0) 25))) (j_ix (x4 - (Int32.ofInt 1)))).toInt = 0 then j_wp b 149 116 [x0, .int x1, .int x2, .int x3, .int x4, .int x5, .int x6, u7, u8] [.int y0, y1] H Q else j_wp b 149 102 [x0, .int x1, .int x2, .int x3, .int x4, .int x5, .int x6, u7, u8] [.int y0, y1] H Q) := Eq.trans (s_aload_n r149_90 rfl (j_isr_vc h0 rfl)) (Eq.trans (s_getfr r149_91 (j_al1 h0 rfl) rfl) (Eq.trans (s_iload r149_94 rfl) (Eq.trans (s_iconst r149_96) (Eq.trans (s_isub r149_97) (Eq.trans (s_bald r149_98 h1 (by decide) (j_ib_of (z := (x4 - (Int32.ofInt 1)).toInt) rfl h2 h3)) (s_ifeq r149_99 rfl rfl))))))
theorem b149_102 {b : Nat} {x0 : Value} {x1 : Int32} {x2 : Int32} {x3 : Int32} {x4 : Int32} {x5 : Int32} {x6 : Int32} {u7 : Value} {u8 : Value} {y0 : Int32} {y1 : Value} {H : j_H} {Q : Option Value → j_H → Prop} (h0 : j_vc H x0 = 12) (h1 : j_vt H (va_rf (j_R H (j_pa x0) 25)) = 3) (h2 : 0 ≤ x4.toInt) (h3 : x4.toInt < ((j_vl H (va_rf (j_R H (j_pa x0) 25)) : Nat) : Int)) : j_wp b 149 102 [x0, .int x1, .int x2, .int x3, .int x4, .int x5, .int x6, u7, u8] [.int y0, y1] H Q = (if (j_I H (j_pa (va_rf (j_R H (j_pa x0) 25))) (j_ix x4)).toInt = 0 then j_wp b 149 116 [x0, .int x1, .int x2, .int x3, .int x4, .int x5, .int x6, u7, u8] [.int y0, y1] H Q else j_wp b 149 112 [x0, .int x1, .int x2, .int x3, .int x4, .int x5, .int x6, u7, u8] [.int y0, y1] H Q) := Eq.trans (s_aload_n r149_102 rfl (j_isr_vc h0 rfl)) (Eq.trans (s_getfr r149_103 (j_al1 h0 rfl) rfl) (Eq.trans (s_iload r149_106 rfl) (Eq.trans (s_bald r149_108 h1 (by decide) (j_ib_of (z := x4.toInt) rfl h2 h3)) (s_ifeq r149_109 rfl rfl))))
theorem b149_112 {b : Nat} {x0 : Value} {x1 : Int32} {x2 : Int32} {x3 : Int32} {x4 : Int32} {x5 : Int32} {x6 : Int32} {u7 : Value} {u8 : Value} {y0 : Int32} {y1 : Value} {H : j_H} {Q : Option Value → j_H → Prop}  : j_wp b 149 112 [x0, .int x1, .int x2, .int x3, .int x4, .int x5, .int x6, u7, u8] [.int y0, y1] H Q = j_wp b 149 147 [x0, .int x1, .int x2, .int x3, .int x4, .int x5, .int x6, u7, u8] [.int (Int32.ofInt 1), .int y0, y1] H Q := Eq.trans (s_iconst r149_112) (s_goto r149_113 rfl)
theorem b149_116 {b : Nat} {x0 : Value} {x1 : Int32} {x2 : Int32} {x3 : Int32} {x4 : Int32} {x5 : Int32} {x6 : Int32} {u7 : Value} {u8 : Value} {y0 : Int32} {y1 : Value} {H : j_H} {Q : Option Value → j_H → Prop}  : j_wp b 149 116 [x0, .int x1, .int x2, .int x3, .int x4, .int x5, .int x6, u7, u8] [.int y0, y1] H Q = j_wp b 149 147 [x0, .int x1, .int x2, .int x3, .int x4, .int x5, .int x6, u7, u8] [.int (Int32.ofInt 0), .int y0, y1] H Q := Eq.trans (s_iconst r149_116) (s_goto r149_117 rfl)
theorem b149_120 {b : Nat} {x0 : Value} {x1 : Int32} {x2 : Int32} {x3 : Int32} {x4 : Int32} {x5 : Int32} {x6 : Int32} {u7 : Value} {u8 : Value} {y0 : Int32} {y1 : Value} {H : j_H} {Q : Option Value → j_H → Prop} (h0 : j_vc H x0 = 12) (h1 : j_vt H (va_rf (j_R H (j_pa x0) 25)) = 3) (h2 : 0 ≤ (x4 - (Int32.ofInt 1)).toInt) (h3 : (x4 - (Int32.ofInt 1)).toInt < ((j_vl H (va_rf (j_R H (j_pa x0) 25)) : Nat) : Int)) : j_wp b 149 120 [x0, .int x1, .int x2, .int x3, .int x4, .int x5, .int x6, u7, u8] [.int y0, y1] H Q = (if ¬ (j_I H (j_pa (va_rf (j_R H (j_pa x0) 25))) (j_ix (x4 - (Int32.ofInt 1)))).toInt = 0 then j_wp b 149 142 [x0, .int x1, .int x2, .int x3, .int x4, .int x5, .int x6, u7, u8] [.int y0, y1] H Q else j_wp b 149 132 [x0, .int x1, .int x2, .int x3, .int x4, .int x5, .int x6, u7, u8] [.int y0, y1] H Q) := Eq.trans (s_aload_n r149_120 rfl (j_isr_vc h0 rfl)) (Eq.trans (s_getfr r149_121 (j_al1 h0 rfl) rfl) (Eq.trans (s_iload r149_124 rfl) (Eq.trans (s_iconst r149_126) (Eq.trans (s_isub r149_127) (Eq.trans (s_bald r149_128 h1 (by decide) (j_ib_of (z := (x4 - (Int32.ofInt 1)).toInt) rfl h2 h3)) (s_ifne r149_129 rfl rfl))))))
theorem b149_132 {b : Nat} {x0 : Value} {x1 : Int32} {x2 : Int32} {x3 : Int32} {x4 : Int32} {x5 : Int32} {x6 : Int32} {u7 : Value} {u8 : Value} {y0 : Int32} {y1 : Value} {H : j_H} {Q : Option Value → j_H → Prop} (h0 : j_vc H x0 = 12) (h1 : j_vt H (va_rf (j_R H (j_pa x0) 25)) = 3) (h2 : 0 ≤ x4.toInt) (h3 : x4.toInt < ((j_vl H (va_rf (j_R H (j_pa x0) 25)) : Nat) : Int)) : j_wp b 149 132 [x0, .int x1, .int x2, .int x3, .int x4, .int x5, .int x6, u7, u8] [.int y0, y1] H Q = (if (j_I H (j_pa (va_rf (j_R H (j_pa x0) 25))) (j_ix x4)).toInt = 0 then j_wp b 149 146 [x0, .int x1, .int x2, .int x3, .int x4, .int x5, .int x6, u7, u8] [.int y0, y1] H Q else j_wp b 149 142 [x0, .int x1, .int x2, .int x3, .int x4, .int x5, .int x6, u7, u8] [.int y0, y1] H Q) := Eq.trans (s_aload_n r149_132 rfl (j_isr_vc h0 rfl)) (Eq.trans (s_getfr r149_133 (j_al1 h0 rfl) rfl) (Eq.trans (s_iload r149_136 rfl) (Eq.trans (s_bald r149_138 h1 (by decide) (j_ib_of (z := x4.toInt) rfl h2 h3)) (s_ifeq r149_139 rfl rfl))))
theorem b149_142 {b : Nat} {x0 : Value} {x1 : Int32} {x2 : Int32} {x3 : Int32} {x4 : Int32} {x5 : Int32} {x6 : Int32} {u7 : Value} {u8 : Value} {y0 : Int32} {y1 : Value} {H : j_H} {Q : Option Value → j_H → Prop}  : j_wp b 149 142 [x0, .int x1, .int x2, .int x3, .int x4, .int x5, .int x6, u7, u8] [.int y0, y1] H Q = j_wp b 149 147 [x0, .int x1, .int x2, .int x3, .int x4, .int x5, .int x6, u7, u8] [.int (Int32.ofInt 1), .int y0, y1] H Q := Eq.trans (s_iconst r149_142) (s_goto r149_143 rfl)
theorem b149_146 {b : Nat} {x0 : Value} {x1 : Int32} {x2 : Int32} {x3 : Int32} {x4 : Int32} {x5 : Int32} {x6 : Int32} {u7 : Value} {u8 : Value} {y0 : Int32} {y1 : Value} {H : j_H} {Q : Option Value → j_H → Prop}  : j_wp b 149 146 [x0, .int x1, .int x2, .int x3, .int x4, .int x5, .int x6, u7, u8] [.int y0, y1] H Q = j_wp b 149 147 [x0, .int x1, .int x2, .int x3, .int x4, .int x5, .int x6, u7, u8] [.int (Int32.ofInt 0), .int y0, y1] H Q := s_iconst r149_146
theorem b149_147 {b : Nat} {x0 : Value} {x1 : Int32} {x2 : Int32} {x3 : Int32} {x4 : Int32} {x5 : Int32} {x6 : Int32} {u7 : Value} {u8 : Value} {y0 : Int32} {y1 : Int32} {y2 : Value} {H : j_H} {Q : Option Value → j_H → Prop} (h0 : j_vt H y2 = 3) (h1 : 0 ≤ y1.toInt) (h2 : y1.toInt < ((j_vl H y2 : Nat) : Int)) (h3 : y0.toInt = 0 ∨ y0.toInt = 1) : j_wp b 149 147 [x0, .int x1, .int x2, .int x3, .int x4, .int x5, .int x6, u7, u8] [.int y0, .int y1, y2] H Q = j_wp b 149 148 [x0, .int x1, .int x2, .int x3, .int x4, .int x5, .int x6, u7, u8] [] (j_sI H (j_pa y2) (j_ix y1) y0) Q := s_zast r149_147 h0 (j_ib_of (z := y1.toInt) rfl h1 h2) (j_b01 (z := y0.toInt) rfl h3)
theorem b149_148 {b : Nat} {x0 : Value} {x1 : Int32} {x2 : Int32} {x3 : Int32} {x4 : Int32} {x5 : Int32} {x6 : Int32} {u7 : Value} {u8 : Value} {H : j_H} {Q : Option Value → j_H → Prop}  : j_wp b 149 148 [x0, .int x1, .int x2, .int x3, .int x4, .int x5, .int x6, u7, u8] [] H Q = j_wp b 149 247 [x0, .int x1, .int x2, .int x3, .int x4, .int x5, .int x6, u7, u8] [] H Q := s_goto r149_148 rfl
theorem b149_151 {b : Nat} {x0 : Value} {x1 : Int32} {x2 : Int32} {x3 : Int32} {x4 : Int32} {x5 : Int32} {x6 : Int32} {u7 : Value} {u8 : Value} {H : j_H} {Q : Option Value → j_H → Prop} (h0 : j_vc H x0 = 12) : j_wp (b + 1) 149 151 [x0, .int x1, .int x2, .int x3, .int x4, .int x5, .int x6, u7, u8] [] H Q = j_wp b 148 0 [x0, .int (x6 / (Int32.ofInt 1000)), .int x2, .int x3] [] H (j_k (b + 1) 149 163 [x0, .int x1, .int x2, .int x3, .int x4, .int x5, .int x6, u7, u8] [] Q) := Eq.trans (s_aload_n r149_151 rfl (j_isr_vc h0 rfl)) (Eq.trans (s_iload r149_152 rfl) (Eq.trans (s_sipush r149_154) (Eq.trans (s_idiv r149_157 (by decide)) (Eq.trans (s_iload_n r149_158 rfl) (Eq.trans (s_iload_n r149_159 rfl) (j_cll (as := [x0, .int (x6 / (Int32.ofInt 1000)), .int x2, .int x3]) (es := [x0, .int (x6 / (Int32.ofInt 1000)), .int x2, .int x3]) (s_c2 r149_160 rfl h0 rfl rfl (j_dok (s := [.int x3, .int x2, .int (x6 / (Int32.ofInt 1000)), x0]) (as := [x0, .int (x6 / (Int32.ofInt 1000)), .int x2, .int x3]) (rest := []) (es := [x0, .int (x6 / (Int32.ofInt 1000)), .int x2, .int x3]) rfl rfl rfl rfl (j_slc (j_c1r (j_isr_vc h0 rfl)) rfl) rfl)) (j_slc (j_c1r (j_isr_vc h0 rfl)) rfl) rfl))))))
theorem b149_163 {b : Nat} {x0 : Value} {x1 : Int32} {x2 : Int32} {x3 : Int32} {x4 : Int32} {x5 : Int32} {x6 : Int32} {u7 : Value} {u8 : Value} {y0 : Int32} {H : j_H} {Q : Option Value → j_H → Prop} (h0 : j_vc H x0 = 12) : j_wp b 149 163 [x0, .int x1, .int x2, .int x3, .int x4, .int x5, .int x6, u7, u8] [.int y0] H Q = (if ¬ (j_rem (x6 / (Int32.ofInt 100)) (Int32.ofInt 10)).toInt = 0 then j_wp b 149 204 [x0, .int x1, .int x2, .int x3, .int x4, .int x5, .int x6, .int y0, .int (j_rem (x6 / (Int32.ofInt 100)) (Int32.ofInt 10))] [.int x4, va_rf (j_R H (j_pa x0) 25)] H Q else j_wp b 149 186 [x0, .int x1, .int x2, .int x3, .int x4, .int x5, .int x6, .int y0, .int (j_rem (x6 / (Int32.ofInt 100)) (Int32.ofInt 10))] [.int x4, va_rf (j_R H (j_pa x0) 25)] H Q) := Eq.trans (s_istore r149_163 (Nat.le_of_ble_eq_true rfl) rfl) (Eq.trans (s_iload r149_165 rfl) (Eq.trans (s_bipush r149_167) (Eq.trans (s_idiv r149_169 (by decide)) (Eq.trans (s_bipush r149_170) (Eq.trans (s_irem r149_172 (by decide)) (Eq.trans (s_istore r149_173 (Nat.le_of_ble_eq_true rfl) rfl) (Eq.trans (s_aload_n r149_175 rfl (j_isr_vc h0 rfl)) (Eq.trans (s_getfr r149_176 (j_al1 h0 rfl) rfl) (Eq.trans (s_iload r149_179 rfl) (Eq.trans (s_iload r149_181 rfl) (s_ifne r149_183 rfl rfl)))))))))))
theorem b149_186 {b : Nat} {x0 : Value} {x1 : Int32} {x2 : Int32} {x3 : Int32} {x4 : Int32} {x5 : Int32} {x6 : Int32} {x7 : Int32} {x8 : Int32} {y0 : Int32} {y1 : Value} {H : j_H} {Q : Option Value → j_H → Prop}  : j_wp b 149 186 [x0, .int x1, .int x2, .int x3, .int x4, .int x5, .int x6, .int x7, .int x8] [.int y0, y1] H Q = (if (j_rem x6 (Int32.ofInt 100)).toInt ≤ x7.toInt then j_wp b 149 200 [x0, .int x1, .int x2, .int x3, .int x4, .int x5, .int x6, .int x7, .int x8] [.int y0, y1] H Q else j_wp b 149 196 [x0, .int x1, .int x2, .int x3, .int x4, .int x5, .int x6, .int x7, .int x8] [.int y0, y1] H Q) := Eq.trans (s_iload r149_186 rfl) (Eq.trans (s_iload r149_188 rfl) (Eq.trans (s_bipush r149_190) (Eq.trans (s_irem r149_192 (by decide)) (s_icge r149_193 rfl rfl rfl))))
theorem b149_196 {b : Nat} {x0 : Value} {x1 : Int32} {x2 : Int32} {x3 : Int32} {x4 : Int32} {x5 : Int32} {x6 : Int32} {x7 : Int32} {x8 : Int32} {y0 : Int32} {y1 : Value} {H : j_H} {Q : Option Value → j_H → Prop}  : j_wp b 149 196 [x0, .int x1, .int x2, .int x3, .int x4, .int x5, .int x6, .int x7, .int x8] [.int y0, y1] H Q = j_wp b 149 243 [x0, .int x1, .int x2, .int x3, .int x4, .int x5, .int x6, .int x7, .int x8] [.int (Int32.ofInt 1), .int y0, y1] H Q := Eq.trans (s_iconst r149_196) (s_goto r149_197 rfl)
theorem b149_200 {b : Nat} {x0 : Value} {x1 : Int32} {x2 : Int32} {x3 : Int32} {x4 : Int32} {x5 : Int32} {x6 : Int32} {x7 : Int32} {x8 : Int32} {y0 : Int32} {y1 : Value} {H : j_H} {Q : Option Value → j_H → Prop}  : j_wp b 149 200 [x0, .int x1, .int x2, .int x3, .int x4, .int x5, .int x6, .int x7, .int x8] [.int y0, y1] H Q = j_wp b 149 243 [x0, .int x1, .int x2, .int x3, .int x4, .int x5, .int x6, .int x7, .int x8] [.int (Int32.ofInt 0), .int y0, y1] H Q := Eq.trans (s_iconst r149_200) (s_goto r149_201 rfl)
theorem b149_204 {b : Nat} {x0 : Value} {x1 : Int32} {x2 : Int32} {x3 : Int32} {x4 : Int32} {x5 : Int32} {x6 : Int32} {x7 : Int32} {x8 : Int32} {y0 : Int32} {y1 : Value} {H : j_H} {Q : Option Value → j_H → Prop}  : j_wp b 149 204 [x0, .int x1, .int x2, .int x3, .int x4, .int x5, .int x6, .int x7, .int x8] [.int y0, y1] H Q = (if ¬ x8.toInt = 1 then j_wp b 149 228 [x0, .int x1, .int x2, .int x3, .int x4, .int x5, .int x6, .int x7, .int x8] [.int y0, y1] H Q else j_wp b 149 210 [x0, .int x1, .int x2, .int x3, .int x4, .int x5, .int x6, .int x7, .int x8] [.int y0, y1] H Q) := Eq.trans (s_iload r149_204 rfl) (Eq.trans (s_iconst r149_206) (s_icne r149_207 rfl rfl rfl))
theorem b149_210 {b : Nat} {x0 : Value} {x1 : Int32} {x2 : Int32} {x3 : Int32} {x4 : Int32} {x5 : Int32} {x6 : Int32} {x7 : Int32} {x8 : Int32} {y0 : Int32} {y1 : Value} {H : j_H} {Q : Option Value → j_H → Prop}  : j_wp b 149 210 [x0, .int x1, .int x2, .int x3, .int x4, .int x5, .int x6, .int x7, .int x8] [.int y0, y1] H Q = (if ¬ x7.toInt = (j_rem x6 (Int32.ofInt 100)).toInt then j_wp b 149 224 [x0, .int x1, .int x2, .int x3, .int x4, .int x5, .int x6, .int x7, .int x8] [.int y0, y1] H Q else j_wp b 149 220 [x0, .int x1, .int x2, .int x3, .int x4, .int x5, .int x6, .int x7, .int x8] [.int y0, y1] H Q) := Eq.trans (s_iload r149_210 rfl) (Eq.trans (s_iload r149_212 rfl) (Eq.trans (s_bipush r149_214) (Eq.trans (s_irem r149_216 (by decide)) (s_icne r149_217 rfl rfl rfl))))
theorem b149_220 {b : Nat} {x0 : Value} {x1 : Int32} {x2 : Int32} {x3 : Int32} {x4 : Int32} {x5 : Int32} {x6 : Int32} {x7 : Int32} {x8 : Int32} {y0 : Int32} {y1 : Value} {H : j_H} {Q : Option Value → j_H → Prop}  : j_wp b 149 220 [x0, .int x1, .int x2, .int x3, .int x4, .int x5, .int x6, .int x7, .int x8] [.int y0, y1] H Q = j_wp b 149 243 [x0, .int x1, .int x2, .int x3, .int x4, .int x5, .int x6, .int x7, .int x8] [.int (Int32.ofInt 1), .int y0, y1] H Q := Eq.trans (s_iconst r149_220) (s_goto r149_221 rfl)
theorem b149_224 {b : Nat} {x0 : Value} {x1 : Int32} {x2 : Int32} {x3 : Int32} {x4 : Int32} {x5 : Int32} {x6 : Int32} {x7 : Int32} {x8 : Int32} {y0 : Int32} {y1 : Value} {H : j_H} {Q : Option Value → j_H → Prop}  : j_wp b 149 224 [x0, .int x1, .int x2, .int x3, .int x4, .int x5, .int x6, .int x7, .int x8] [.int y0, y1] H Q = j_wp b 149 243 [x0, .int x1, .int x2, .int x3, .int x4, .int x5, .int x6, .int x7, .int x8] [.int (Int32.ofInt 0), .int y0, y1] H Q := Eq.trans (s_iconst r149_224) (s_goto r149_225 rfl)
theorem b149_228 {b : Nat} {x0 : Value} {x1 : Int32} {x2 : Int32} {x3 : Int32} {x4 : Int32} {x5 : Int32} {x6 : Int32} {x7 : Int32} {x8 : Int32} {y0 : Int32} {y1 : Value} {H : j_H} {Q : Option Value → j_H → Prop}  : j_wp b 149 228 [x0, .int x1, .int x2, .int x3, .int x4, .int x5, .int x6, .int x7, .int x8] [.int y0, y1] H Q = (if x7.toInt ≤ (j_rem x6 (Int32.ofInt 100)).toInt then j_wp b 149 242 [x0, .int x1, .int x2, .int x3, .int x4, .int x5, .int x6, .int x7, .int x8] [.int y0, y1] H Q else j_wp b 149 238 [x0, .int x1, .int x2, .int x3, .int x4, .int x5, .int x6, .int x7, .int x8] [.int y0, y1] H Q) := Eq.trans (s_iload r149_228 rfl) (Eq.trans (s_iload r149_230 rfl) (Eq.trans (s_bipush r149_232) (Eq.trans (s_irem r149_234 (by decide)) (s_icle r149_235 rfl rfl rfl))))
theorem b149_238 {b : Nat} {x0 : Value} {x1 : Int32} {x2 : Int32} {x3 : Int32} {x4 : Int32} {x5 : Int32} {x6 : Int32} {x7 : Int32} {x8 : Int32} {y0 : Int32} {y1 : Value} {H : j_H} {Q : Option Value → j_H → Prop}  : j_wp b 149 238 [x0, .int x1, .int x2, .int x3, .int x4, .int x5, .int x6, .int x7, .int x8] [.int y0, y1] H Q = j_wp b 149 243 [x0, .int x1, .int x2, .int x3, .int x4, .int x5, .int x6, .int x7, .int x8] [.int (Int32.ofInt 1), .int y0, y1] H Q := Eq.trans (s_iconst r149_238) (s_goto r149_239 rfl)
theorem b149_242 {b : Nat} {x0 : Value} {x1 : Int32} {x2 : Int32} {x3 : Int32} {x4 : Int32} {x5 : Int32} {x6 : Int32} {x7 : Int32} {x8 : Int32} {y0 : Int32} {y1 : Value} {H : j_H} {Q : Option Value → j_H → Prop}  : j_wp b 149 242 [x0, .int x1, .int x2, .int x3, .int x4, .int x5, .int x6, .int x7, .int x8] [.int y0, y1] H Q = j_wp b 149 243 [x0, .int x1, .int x2, .int x3, .int x4, .int x5, .int x6, .int x7, .int x8] [.int (Int32.ofInt 0), .int y0, y1] H Q := s_iconst r149_242
theorem b149_243 {b : Nat} {x0 : Value} {x1 : Int32} {x2 : Int32} {x3 : Int32} {x4 : Int32} {x5 : Int32} {x6 : Int32} {x7 : Int32} {x8 : Int32} {y0 : Int32} {y1 : Int32} {y2 : Value} {H : j_H} {Q : Option Value → j_H → Prop} (h0 : j_vt H y2 = 3) (h1 : 0 ≤ y1.toInt) (h2 : y1.toInt < ((j_vl H y2 : Nat) : Int)) (h3 : y0.toInt = 0 ∨ y0.toInt = 1) : j_wp b 149 243 [x0, .int x1, .int x2, .int x3, .int x4, .int x5, .int x6, .int x7, .int x8] [.int y0, .int y1, y2] H Q = j_wp b 149 244 [x0, .int x1, .int x2, .int x3, .int x4, .int x5, .int x6, .int x7, .int x8] [] (j_sI H (j_pa y2) (j_ix y1) y0) Q := s_zast r149_243 h0 (j_ib_of (z := y1.toInt) rfl h1 h2) (j_b01 (z := y0.toInt) rfl h3)
theorem b149_244 {b : Nat} {x0 : Value} {x1 : Int32} {x2 : Int32} {x3 : Int32} {x4 : Int32} {x5 : Int32} {x6 : Int32} {x7 : Int32} {x8 : Int32} {H : j_H} {Q : Option Value → j_H → Prop}  : j_wp b 149 244 [x0, .int x1, .int x2, .int x3, .int x4, .int x5, .int x6, .int x7, .int x8] [] H Q = j_wp b 149 247 [x0, .int x1, .int x2, .int x3, .int (x4 + Int32.ofInt 1), .int x5, .int x6, .int x7, .int x8] [] H Q := s_iinc r149_244 rfl rfl
theorem b149_247 {b : Nat} {x0 : Value} {x1 : Int32} {x2 : Int32} {x3 : Int32} {x4 : Int32} {x5 : Int32} {x6 : Int32} {u7 : Value} {u8 : Value} {H : j_H} {Q : Option Value → j_H → Prop}  : j_wp b 149 247 [x0, .int x1, .int x2, .int x3, .int x4, .int x5, .int x6, u7, u8] [] H Q = j_wp b 149 11 [x0, .int x1, .int x2, .int x3, .int x4, .int (x5 + Int32.ofInt 1), .int x6, u7, u8] [] H Q := Eq.trans (s_iinc r149_247 rfl rfl) (s_goto r149_250 rfl)
theorem b149_253 {b : Nat} {x0 : Value} {x1 : Int32} {x2 : Int32} {x3 : Int32} {x4 : Int32} {x5 : Int32} {u6 : Value} {u7 : Value} {u8 : Value} {H : j_H} {Q : Option Value → j_H → Prop} (h0 : j_vc H x0 = 12) (h1 : j_vt H (va_rf (j_R H (j_pa x0) 25)) = 3) (h2 : 0 < ((j_vl H (va_rf (j_R H (j_pa x0) 25)) : Nat) : Int)) (h3 : (j_I H (j_pa (va_rf (j_R H (j_pa x0) 25))) (j_ix (Int32.ofInt 0))).toInt = 0 ∨ (j_I H (j_pa (va_rf (j_R H (j_pa x0) 25))) (j_ix (Int32.ofInt 0))).toInt = 1) : j_wp b 149 253 [x0, .int x1, .int x2, .int x3, .int x4, .int x5, u6, u7, u8] [] H Q = Q (some (.int (j_I H (j_pa (va_rf (j_R H (j_pa x0) 25))) (j_ix (Int32.ofInt 0))))) H := Eq.trans (s_aload_n r149_253 rfl (j_isr_vc h0 rfl)) (Eq.trans (s_getfr r149_254 (j_al1 h0 rfl) rfl) (Eq.trans (s_iconst r149_257) (Eq.trans (s_bald r149_258 h1 (by decide) (j_ib_of (z := 0) rfl (by decide) h2)) (s_ireturn r149_259 (j_rok4 (z := (j_I H (j_pa (va_rf (j_R H (j_pa x0) 25))) (j_ix (Int32.ofInt 0))).toInt) rfl rfl h3)))))
-- X12_sumOf
theorem r150_0 : j_at 150 0 = some (0, .iconst 0, 1, []) := by decide +kernel
theorem r150_1 : j_at 150 1 = some (1, .istore 5, 2, []) := by decide +kernel
theorem r150_3 : j_at 150 3 = some (3, .iconst 0, 1, []) := by decide +kernel
theorem r150_4 : j_at 150 4 = some (4, .istore 6, 2, []) := by decide +kernel
theorem r150_6 : j_at 150 6 = some (6, .aload_n 0, 1, []) := by decide +kernel
theorem r150_7 : j_at 150 7 = some (7, .invokevirtual 244, 3, [2, 1, 145, 879, 880, 44, 77, 0, 12]) := by decide +kernel
theorem r150_10 : j_at 150 10 = some (10, .istore 7, 2, []) := by decide +kernel
theorem r150_12 : j_at 150 12 = some (12, .iload 7, 2, []) := by decide +kernel
theorem r150_14 : j_at 150 14 = some (14, .aload_n 0, 1, []) := by decide +kernel
theorem r150_15 : j_at 150 15 = some (15, .invokevirtual 247, 3, [2, 1, 146, 881, 882, 45, 77, 0, 12]) := by decide +kernel
theorem r150_18 : j_at 150 18 = some (18, .if_icmp .ge 53, 3, []) := by decide +kernel
theorem r150_21 : j_at 150 21 = some (21, .aload_n 0, 1, []) := by decide +kernel
theorem r150_22 : j_at 150 22 = some (22, .getfield 56, 3, [719, 12, 2, 15, 0, 12]) := by decide +kernel
theorem r150_25 : j_at 150 25 = some (25, .iload 7, 2, []) := by decide +kernel
theorem r150_27 : j_at 150 27 = some (27, .iaload, 1, []) := by decide +kernel
theorem r150_28 : j_at 150 28 = some (28, .iload_n 1, 1, []) := by decide +kernel
theorem r150_29 : j_at 150 29 = some (29, .if_icmp .eq 6, 3, []) := by decide +kernel
theorem r150_32 : j_at 150 32 = some (32, .goto 33, 3, []) := by decide +kernel
theorem r150_35 : j_at 150 35 = some (35, .iconst 1, 1, []) := by decide +kernel
theorem r150_36 : j_at 150 36 = some (36, .istore 6, 2, []) := by decide +kernel
theorem r150_38 : j_at 150 38 = some (38, .iload 5, 2, []) := by decide +kernel
theorem r150_40 : j_at 150 40 = some (40, .aload_n 0, 1, []) := by decide +kernel
theorem r150_41 : j_at 150 41 = some (41, .iload 7, 2, []) := by decide +kernel
theorem r150_43 : j_at 150 43 = some (43, .iload_n 2, 1, []) := by decide +kernel
theorem r150_44 : j_at 150 44 = some (44, .iload_n 3, 1, []) := by decide +kernel
theorem r150_45 : j_at 150 45 = some (45, .invokevirtual 257, 3, [2, 4, 149, 883, 884, 46, 77, 0, 12]) := by decide +kernel
theorem r150_48 : j_at 150 48 = some (48, .ifCond .eq 13, 3, []) := by decide +kernel
theorem r150_51 : j_at 150 51 = some (51, .aload_n 0, 1, []) := by decide +kernel
theorem r150_52 : j_at 150 52 = some (52, .getfield 59, 3, [720, 12, 2, 16, 0, 12]) := by decide +kernel
theorem r150_55 : j_at 150 55 = some (55, .iload 7, 2, []) := by decide +kernel
theorem r150_57 : j_at 150 57 = some (57, .iaload, 1, []) := by decide +kernel
theorem r150_58 : j_at 150 58 = some (58, .goto 4, 3, []) := by decide +kernel
theorem r150_61 : j_at 150 61 = some (61, .iconst 0, 1, []) := by decide +kernel
theorem r150_62 : j_at 150 62 = some (62, .iadd, 1, []) := by decide +kernel
theorem r150_63 : j_at 150 63 = some (63, .istore 5, 2, []) := by decide +kernel
theorem r150_65 : j_at 150 65 = some (65, .iinc 7 1, 3, []) := by decide +kernel
theorem r150_68 : j_at 150 68 = some (68, .goto (-56), 3, []) := by decide +kernel
theorem r150_71 : j_at 150 71 = some (71, .iload 6, 2, []) := by decide +kernel
theorem r150_73 : j_at 150 73 = some (73, .ifCond .eq 8, 3, []) := by decide +kernel
theorem r150_76 : j_at 150 76 = some (76, .iload 5, 2, []) := by decide +kernel
theorem r150_78 : j_at 150 78 = some (78, .goto 5, 3, []) := by decide +kernel
theorem r150_81 : j_at 150 81 = some (81, .iload 4, 2, []) := by decide +kernel
theorem r150_83 : j_at 150 83 = some (83, .ireturn, 1, []) := by decide +kernel
theorem b150_0 {b : Nat} {x0 : Value} {x1 : Int32} {x2 : Int32} {x3 : Int32} {x4 : Int32} {u5 : Value} {u6 : Value} {u7 : Value} {H : j_H} {Q : Option Value → j_H → Prop} (h0 : j_vc H x0 = 12) : j_wp (b + 1) 150 0 [x0, .int x1, .int x2, .int x3, .int x4, u5, u6, u7] [] H Q = j_wp b 145 0 [x0] [] H (j_k (b + 1) 150 10 [x0, .int x1, .int x2, .int x3, .int x4, .int (Int32.ofInt 0), .int (Int32.ofInt 0), u7] [] Q) := Eq.trans (s_iconst r150_0) (Eq.trans (s_istore r150_1 (Nat.le_of_ble_eq_true rfl) rfl) (Eq.trans (s_iconst r150_3) (Eq.trans (s_istore r150_4 (Nat.le_of_ble_eq_true rfl) rfl) (Eq.trans (s_aload_n r150_6 rfl (j_isr_vc h0 rfl)) (j_cll (as := [x0]) (es := [x0]) (s_c2 r150_7 rfl h0 rfl rfl (j_dok (s := [x0]) (as := [x0]) (rest := []) (es := [x0]) rfl rfl rfl rfl (j_slc (j_c1r (j_isr_vc h0 rfl)) rfl) rfl)) (j_slc (j_c1r (j_isr_vc h0 rfl)) rfl) rfl)))))
theorem b150_10 {b : Nat} {x0 : Value} {x1 : Int32} {x2 : Int32} {x3 : Int32} {x4 : Int32} {x5 : Int32} {x6 : Int32} {u7 : Value} {y0 : Int32} {H : j_H} {Q : Option Value → j_H → Prop}  : j_wp b 150 10 [x0, .int x1, .int x2, .int x3, .int x4, .int x5, .int x6, u7] [.int y0] H Q = j_wp b 150 12 [x0, .int x1, .int x2, .int x3, .int x4, .int x5, .int x6, .int y0] [] H Q := s_istore r150_10 (Nat.le_of_ble_eq_true rfl) rfl
theorem b150_12 {b : Nat} {x0 : Value} {x1 : Int32} {x2 : Int32} {x3 : Int32} {x4 : Int32} {x5 : Int32} {x6 : Int32} {x7 : Int32} {H : j_H} {Q : Option Value → j_H → Prop} (h0 : j_vc H x0 = 12) : j_wp (b + 1) 150 12 [x0, .int x1, .int x2, .int x3, .int x4, .int x5, .int x6, .int x7] [] H Q = j_wp b 146 0 [x0] [] H (j_k (b + 1) 150 18 [x0, .int x1, .int x2, .int x3, .int x4, .int x5, .int x6, .int x7] [.int x7] Q) := Eq.trans (s_iload r150_12 rfl) (Eq.trans (s_aload_n r150_14 rfl (j_isr_vc h0 rfl)) (j_cll (as := [x0]) (es := [x0]) (s_c2 r150_15 rfl h0 rfl rfl (j_dok (s := [x0, .int x7]) (as := [x0]) (rest := [.int x7]) (es := [x0]) rfl rfl rfl rfl (j_slc (j_c1r (j_isr_vc h0 rfl)) rfl) rfl)) (j_slc (j_c1r (j_isr_vc h0 rfl)) rfl) rfl))
theorem b150_18 {b : Nat} {x0 : Value} {x1 : Int32} {x2 : Int32} {x3 : Int32} {x4 : Int32} {x5 : Int32} {x6 : Int32} {x7 : Int32} {y0 : Int32} {y1 : Int32} {H : j_H} {Q : Option Value → j_H → Prop}  : j_wp b 150 18 [x0, .int x1, .int x2, .int x3, .int x4, .int x5, .int x6, .int x7] [.int y0, .int y1] H Q = (if y0.toInt ≤ y1.toInt then j_wp b 150 71 [x0, .int x1, .int x2, .int x3, .int x4, .int x5, .int x6, .int x7] [] H Q else j_wp b 150 21 [x0, .int x1, .int x2, .int x3, .int x4, .int x5, .int x6, .int x7] [] H Q) := s_icge r150_18 rfl rfl rfl
theorem b150_21 {b : Nat} {x0 : Value} {x1 : Int32} {x2 : Int32} {x3 : Int32} {x4 : Int32} {x5 : Int32} {x6 : Int32} {x7 : Int32} {H : j_H} {Q : Option Value → j_H → Prop} (h0 : j_vc H x0 = 12) (h1 : j_vt H (va_rf (j_R H (j_pa x0) 15)) = 0) (h2 : 0 ≤ x7.toInt) (h3 : x7.toInt < ((j_vl H (va_rf (j_R H (j_pa x0) 15)) : Nat) : Int)) : j_wp b 150 21 [x0, .int x1, .int x2, .int x3, .int x4, .int x5, .int x6, .int x7] [] H Q = (if (j_I H (j_pa (va_rf (j_R H (j_pa x0) 15))) (j_ix x7)).toInt = x1.toInt then j_wp b 150 35 [x0, .int x1, .int x2, .int x3, .int x4, .int x5, .int x6, .int x7] [] H Q else j_wp b 150 32 [x0, .int x1, .int x2, .int x3, .int x4, .int x5, .int x6, .int x7] [] H Q) := Eq.trans (s_aload_n r150_21 rfl (j_isr_vc h0 rfl)) (Eq.trans (s_getfr r150_22 (j_al1 h0 rfl) rfl) (Eq.trans (s_iload r150_25 rfl) (Eq.trans (s_iald r150_27 h1 (by decide) (j_ib_of (z := x7.toInt) rfl h2 h3)) (Eq.trans (s_iload_n r150_28 rfl) (s_iceq r150_29 rfl rfl rfl)))))
theorem b150_32 {b : Nat} {x0 : Value} {x1 : Int32} {x2 : Int32} {x3 : Int32} {x4 : Int32} {x5 : Int32} {x6 : Int32} {x7 : Int32} {H : j_H} {Q : Option Value → j_H → Prop}  : j_wp b 150 32 [x0, .int x1, .int x2, .int x3, .int x4, .int x5, .int x6, .int x7] [] H Q = j_wp b 150 65 [x0, .int x1, .int x2, .int x3, .int x4, .int x5, .int x6, .int x7] [] H Q := s_goto r150_32 rfl
theorem b150_35 {b : Nat} {x0 : Value} {x1 : Int32} {x2 : Int32} {x3 : Int32} {x4 : Int32} {x5 : Int32} {x6 : Int32} {x7 : Int32} {H : j_H} {Q : Option Value → j_H → Prop} (h0 : j_vc H x0 = 12) : j_wp (b + 1) 150 35 [x0, .int x1, .int x2, .int x3, .int x4, .int x5, .int x6, .int x7] [] H Q = j_wp b 149 0 [x0, .int x7, .int x2, .int x3, j_u, j_u, j_u, j_u, j_u] [] H (j_k (b + 1) 150 48 [x0, .int x1, .int x2, .int x3, .int x4, .int x5, .int (Int32.ofInt 1), .int x7] [.int x5] Q) := Eq.trans (s_iconst r150_35) (Eq.trans (s_istore r150_36 (Nat.le_of_ble_eq_true rfl) rfl) (Eq.trans (s_iload r150_38 rfl) (Eq.trans (s_aload_n r150_40 rfl (j_isr_vc h0 rfl)) (Eq.trans (s_iload r150_41 rfl) (Eq.trans (s_iload_n r150_43 rfl) (Eq.trans (s_iload_n r150_44 rfl) (j_cll (as := [x0, .int x7, .int x2, .int x3]) (es := [x0, .int x7, .int x2, .int x3]) (s_c2 r150_45 rfl h0 rfl rfl (j_dok (s := [.int x3, .int x2, .int x7, x0, .int x5]) (as := [x0, .int x7, .int x2, .int x3]) (rest := [.int x5]) (es := [x0, .int x7, .int x2, .int x3]) rfl rfl rfl rfl (j_slc (j_c1r (j_isr_vc h0 rfl)) rfl) rfl)) (j_slc (j_c1r (j_isr_vc h0 rfl)) rfl) rfl)))))))
theorem b150_48 {b : Nat} {x0 : Value} {x1 : Int32} {x2 : Int32} {x3 : Int32} {x4 : Int32} {x5 : Int32} {x6 : Int32} {x7 : Int32} {y0 : Int32} {y1 : Int32} {H : j_H} {Q : Option Value → j_H → Prop}  : j_wp b 150 48 [x0, .int x1, .int x2, .int x3, .int x4, .int x5, .int x6, .int x7] [.int y0, .int y1] H Q = (if y0.toInt = 0 then j_wp b 150 61 [x0, .int x1, .int x2, .int x3, .int x4, .int x5, .int x6, .int x7] [.int y1] H Q else j_wp b 150 51 [x0, .int x1, .int x2, .int x3, .int x4, .int x5, .int x6, .int x7] [.int y1] H Q) := s_ifeq r150_48 rfl rfl
theorem b150_51 {b : Nat} {x0 : Value} {x1 : Int32} {x2 : Int32} {x3 : Int32} {x4 : Int32} {x5 : Int32} {x6 : Int32} {x7 : Int32} {y0 : Int32} {H : j_H} {Q : Option Value → j_H → Prop} (h0 : j_vc H x0 = 12) (h1 : j_vt H (va_rf (j_R H (j_pa x0) 16)) = 0) (h2 : 0 ≤ x7.toInt) (h3 : x7.toInt < ((j_vl H (va_rf (j_R H (j_pa x0) 16)) : Nat) : Int)) : j_wp b 150 51 [x0, .int x1, .int x2, .int x3, .int x4, .int x5, .int x6, .int x7] [.int y0] H Q = j_wp b 150 62 [x0, .int x1, .int x2, .int x3, .int x4, .int x5, .int x6, .int x7] [.int (j_I H (j_pa (va_rf (j_R H (j_pa x0) 16))) (j_ix x7)), .int y0] H Q := Eq.trans (s_aload_n r150_51 rfl (j_isr_vc h0 rfl)) (Eq.trans (s_getfr r150_52 (j_al1 h0 rfl) rfl) (Eq.trans (s_iload r150_55 rfl) (Eq.trans (s_iald r150_57 h1 (by decide) (j_ib_of (z := x7.toInt) rfl h2 h3)) (s_goto r150_58 rfl))))
theorem b150_61 {b : Nat} {x0 : Value} {x1 : Int32} {x2 : Int32} {x3 : Int32} {x4 : Int32} {x5 : Int32} {x6 : Int32} {x7 : Int32} {y0 : Int32} {H : j_H} {Q : Option Value → j_H → Prop}  : j_wp b 150 61 [x0, .int x1, .int x2, .int x3, .int x4, .int x5, .int x6, .int x7] [.int y0] H Q = j_wp b 150 62 [x0, .int x1, .int x2, .int x3, .int x4, .int x5, .int x6, .int x7] [.int (Int32.ofInt 0), .int y0] H Q := s_iconst r150_61
theorem b150_62 {b : Nat} {x0 : Value} {x1 : Int32} {x2 : Int32} {x3 : Int32} {x4 : Int32} {x5 : Int32} {x6 : Int32} {x7 : Int32} {y0 : Int32} {y1 : Int32} {H : j_H} {Q : Option Value → j_H → Prop}  : j_wp b 150 62 [x0, .int x1, .int x2, .int x3, .int x4, .int x5, .int x6, .int x7] [.int y0, .int y1] H Q = j_wp b 150 65 [x0, .int x1, .int x2, .int x3, .int x4, .int (y1 + y0), .int x6, .int x7] [] H Q := Eq.trans (s_iadd r150_62) (s_istore r150_63 (Nat.le_of_ble_eq_true rfl) rfl)
theorem b150_65 {b : Nat} {x0 : Value} {x1 : Int32} {x2 : Int32} {x3 : Int32} {x4 : Int32} {x5 : Int32} {x6 : Int32} {x7 : Int32} {H : j_H} {Q : Option Value → j_H → Prop}  : j_wp b 150 65 [x0, .int x1, .int x2, .int x3, .int x4, .int x5, .int x6, .int x7] [] H Q = j_wp b 150 12 [x0, .int x1, .int x2, .int x3, .int x4, .int x5, .int x6, .int (x7 + Int32.ofInt 1)] [] H Q := Eq.trans (s_iinc r150_65 rfl rfl) (s_goto r150_68 rfl)
theorem b150_71 {b : Nat} {x0 : Value} {x1 : Int32} {x2 : Int32} {x3 : Int32} {x4 : Int32} {x5 : Int32} {x6 : Int32} {x7 : Int32} {H : j_H} {Q : Option Value → j_H → Prop}  : j_wp b 150 71 [x0, .int x1, .int x2, .int x3, .int x4, .int x5, .int x6, .int x7] [] H Q = (if x6.toInt = 0 then j_wp b 150 81 [x0, .int x1, .int x2, .int x3, .int x4, .int x5, .int x6, .int x7] [] H Q else j_wp b 150 76 [x0, .int x1, .int x2, .int x3, .int x4, .int x5, .int x6, .int x7] [] H Q) := Eq.trans (s_iload r150_71 rfl) (s_ifeq r150_73 rfl rfl)
theorem b150_76 {b : Nat} {x0 : Value} {x1 : Int32} {x2 : Int32} {x3 : Int32} {x4 : Int32} {x5 : Int32} {x6 : Int32} {x7 : Int32} {H : j_H} {Q : Option Value → j_H → Prop}  : j_wp b 150 76 [x0, .int x1, .int x2, .int x3, .int x4, .int x5, .int x6, .int x7] [] H Q = j_wp b 150 83 [x0, .int x1, .int x2, .int x3, .int x4, .int x5, .int x6, .int x7] [.int x5] H Q := Eq.trans (s_iload r150_76 rfl) (s_goto r150_78 rfl)
theorem b150_81 {b : Nat} {x0 : Value} {x1 : Int32} {x2 : Int32} {x3 : Int32} {x4 : Int32} {x5 : Int32} {x6 : Int32} {x7 : Int32} {H : j_H} {Q : Option Value → j_H → Prop}  : j_wp b 150 81 [x0, .int x1, .int x2, .int x3, .int x4, .int x5, .int x6, .int x7] [] H Q = j_wp b 150 83 [x0, .int x1, .int x2, .int x3, .int x4, .int x5, .int x6, .int x7] [.int x4] H Q := s_iload r150_81 rfl
theorem b150_83 {b : Nat} {x0 : Value} {x1 : Int32} {x2 : Int32} {x3 : Int32} {x4 : Int32} {x5 : Int32} {x6 : Int32} {x7 : Int32} {y0 : Int32} {H : j_H} {Q : Option Value → j_H → Prop}  : j_wp b 150 83 [x0, .int x1, .int x2, .int x3, .int x4, .int x5, .int x6, .int x7] [.int y0] H Q = Q (some (.int y0)) H := s_ireturn r150_83 (j_rok1 rfl)
-- X12_liesOf
theorem r151_0 : j_at 151 0 = some (0, .iconst 5, 1, []) := by decide +kernel
theorem r151_1 : j_at 151 1 = some (1, .aload_n 0, 1, []) := by decide +kernel
theorem r151_2 : j_at 151 2 = some (2, .iconst 0, 1, []) := by decide +kernel
theorem r151_3 : j_at 151 3 = some (3, .iload_n 1, 1, []) := by decide +kernel
theorem r151_4 : j_at 151 4 = some (4, .iload_n 2, 1, []) := by decide +kernel
theorem r151_5 : j_at 151 5 = some (5, .iconst 0, 1, []) := by decide +kernel
theorem r151_6 : j_at 151 6 = some (6, .invokevirtual 260, 3, [2, 5, 150, 877, 878, 43, 77, 0, 12]) := by decide +kernel
theorem r151_9 : j_at 151 9 = some (9, .iadd, 1, []) := by decide +kernel
theorem r151_10 : j_at 151 10 = some (10, .istore_n 3, 1, []) := by decide +kernel
theorem r151_11 : j_at 151 11 = some (11, .iload_n 3, 1, []) := by decide +kernel
theorem r151_12 : j_at 151 12 = some (12, .bipush 10, 2, []) := by decide +kernel
theorem r151_14 : j_at 151 14 = some (14, .if_icmp .le 8, 3, []) := by decide +kernel
theorem r151_17 : j_at 151 17 = some (17, .bipush 10, 2, []) := by decide +kernel
theorem r151_19 : j_at 151 19 = some (19, .goto 4, 3, []) := by decide +kernel
theorem r151_22 : j_at 151 22 = some (22, .iload_n 3, 1, []) := by decide +kernel
theorem r151_23 : j_at 151 23 = some (23, .ireturn, 1, []) := by decide +kernel
theorem b151_0 {b : Nat} {x0 : Value} {x1 : Int32} {x2 : Int32} {u3 : Value} {H : j_H} {Q : Option Value → j_H → Prop} (h0 : j_vc H x0 = 12) : j_wp (b + 1) 151 0 [x0, .int x1, .int x2, u3] [] H Q = j_wp b 150 0 [x0, .int (Int32.ofInt 0), .int x1, .int x2, .int (Int32.ofInt 0), j_u, j_u, j_u] [] H (j_k (b + 1) 151 9 [x0, .int x1, .int x2, u3] [.int (Int32.ofInt 5)] Q) := Eq.trans (s_iconst r151_0) (Eq.trans (s_aload_n r151_1 rfl (j_isr_vc h0 rfl)) (Eq.trans (s_iconst r151_2) (Eq.trans (s_iload_n r151_3 rfl) (Eq.trans (s_iload_n r151_4 rfl) (Eq.trans (s_iconst r151_5) (j_cll (as := [x0, .int (Int32.ofInt 0), .int x1, .int x2, .int (Int32.ofInt 0)]) (es := [x0, .int (Int32.ofInt 0), .int x1, .int x2, .int (Int32.ofInt 0)]) (s_c2 r151_6 rfl h0 rfl rfl (j_dok (s := [.int (Int32.ofInt 0), .int x2, .int x1, .int (Int32.ofInt 0), x0, .int (Int32.ofInt 5)]) (as := [x0, .int (Int32.ofInt 0), .int x1, .int x2, .int (Int32.ofInt 0)]) (rest := [.int (Int32.ofInt 5)]) (es := [x0, .int (Int32.ofInt 0), .int x1, .int x2, .int (Int32.ofInt 0)]) rfl rfl rfl rfl (j_slc (j_c1r (j_isr_vc h0 rfl)) rfl) rfl)) (j_slc (j_c1r (j_isr_vc h0 rfl)) rfl) rfl))))))
theorem b151_9 {b : Nat} {x0 : Value} {x1 : Int32} {x2 : Int32} {u3 : Value} {y0 : Int32} {y1 : Int32} {H : j_H} {Q : Option Value → j_H → Prop}  : j_wp b 151 9 [x0, .int x1, .int x2, u3] [.int y0, .int y1] H Q = (if (y1 + y0).toInt ≤ 10 then j_wp b 151 22 [x0, .int x1, .int x2, .int (y1 + y0)] [] H Q else j_wp b 151 17 [x0, .int x1, .int x2, .int (y1 + y0)] [] H Q) := Eq.trans (s_iadd r151_9) (Eq.trans (s_istore_n r151_10 (Nat.le_of_ble_eq_true rfl) rfl) (Eq.trans (s_iload_n r151_11 rfl) (Eq.trans (s_bipush r151_12) (s_icle r151_14 rfl rfl rfl))))
theorem b151_17 {b : Nat} {x0 : Value} {x1 : Int32} {x2 : Int32} {x3 : Int32} {H : j_H} {Q : Option Value → j_H → Prop}  : j_wp b 151 17 [x0, .int x1, .int x2, .int x3] [] H Q = j_wp b 151 23 [x0, .int x1, .int x2, .int x3] [.int (Int32.ofInt 10)] H Q := Eq.trans (s_bipush r151_17) (s_goto r151_19 rfl)
theorem b151_22 {b : Nat} {x0 : Value} {x1 : Int32} {x2 : Int32} {x3 : Int32} {H : j_H} {Q : Option Value → j_H → Prop}  : j_wp b 151 22 [x0, .int x1, .int x2, .int x3] [] H Q = j_wp b 151 23 [x0, .int x1, .int x2, .int x3] [.int x3] H Q := s_iload_n r151_22 rfl
theorem b151_23 {b : Nat} {x0 : Value} {x1 : Int32} {x2 : Int32} {x3 : Int32} {y0 : Int32} {H : j_H} {Q : Option Value → j_H → Prop}  : j_wp b 151 23 [x0, .int x1, .int x2, .int x3] [.int y0] H Q = Q (some (.int y0)) H := s_ireturn r151_23 (j_rok1 rfl)
-- X12_worthOf
theorem r152_0 : j_at 152 0 = some (0, .aload_n 0, 1, []) := by decide +kernel
theorem r152_1 : j_at 152 1 = some (1, .iconst 1, 1, []) := by decide +kernel
theorem r152_2 : j_at 152 2 = some (2, .iload_n 1, 1, []) := by decide +kernel
theorem r152_3 : j_at 152 3 = some (3, .iload_n 2, 1, []) := by decide +kernel
theorem r152_4 : j_at 152 4 = some (4, .iconst 1, 1, []) := by decide +kernel
theorem r152_5 : j_at 152 5 = some (5, .invokevirtual 260, 3, [2, 5, 150, 877, 878, 43, 77, 0, 12]) := by decide +kernel
theorem r152_8 : j_at 152 8 = some (8, .ireturn, 1, []) := by decide +kernel
theorem b152_0 {b : Nat} {x0 : Value} {x1 : Int32} {x2 : Int32} {H : j_H} {Q : Option Value → j_H → Prop} (h0 : j_vc H x0 = 12) : j_wp (b + 1) 152 0 [x0, .int x1, .int x2] [] H Q = j_wp b 150 0 [x0, .int (Int32.ofInt 1), .int x1, .int x2, .int (Int32.ofInt 1), j_u, j_u, j_u] [] H (j_k (b + 1) 152 8 [x0, .int x1, .int x2] [] Q) := Eq.trans (s_aload_n r152_0 rfl (j_isr_vc h0 rfl)) (Eq.trans (s_iconst r152_1) (Eq.trans (s_iload_n r152_2 rfl) (Eq.trans (s_iload_n r152_3 rfl) (Eq.trans (s_iconst r152_4) (j_cll (as := [x0, .int (Int32.ofInt 1), .int x1, .int x2, .int (Int32.ofInt 1)]) (es := [x0, .int (Int32.ofInt 1), .int x1, .int x2, .int (Int32.ofInt 1)]) (s_c2 r152_5 rfl h0 rfl rfl (j_dok (s := [.int (Int32.ofInt 1), .int x2, .int x1, .int (Int32.ofInt 1), x0]) (as := [x0, .int (Int32.ofInt 1), .int x1, .int x2, .int (Int32.ofInt 1)]) (rest := []) (es := [x0, .int (Int32.ofInt 1), .int x1, .int x2, .int (Int32.ofInt 1)]) rfl rfl rfl rfl (j_slc (j_c1r (j_isr_vc h0 rfl)) rfl) rfl)) (j_slc (j_c1r (j_isr_vc h0 rfl)) rfl) rfl)))))
theorem b152_8 {b : Nat} {x0 : Value} {x1 : Int32} {x2 : Int32} {y0 : Int32} {H : j_H} {Q : Option Value → j_H → Prop}  : j_wp b 152 8 [x0, .int x1, .int x2] [.int y0] H Q = Q (some (.int y0)) H := s_ireturn r152_8 (j_rok1 rfl)
-- X12_slyly
theorem r153_0 : j_at 153 0 = some (0, .aload_n 0, 1, []) := by decide +kernel
theorem r153_1 : j_at 153 1 = some (1, .aload_n 0, 1, []) := by decide +kernel
theorem r153_2 : j_at 153 2 = some (2, .getfield 29, 3, [710, 12, 2, 6, 0, 12]) := by decide +kernel
theorem r153_5 : j_at 153 5 = some (5, .iload_n 1, 1, []) := by decide +kernel
theorem r153_6 : j_at 153 6 = some (6, .iaload, 1, []) := by decide +kernel
theorem r153_7 : j_at 153 7 = some (7, .aload_n 0, 1, []) := by decide +kernel
theorem r153_8 : j_at 153 8 = some (8, .getfield 13, 3, [705, 12, 0, 1, 0, 12]) := by decide +kernel
theorem r153_11 : j_at 153 11 = some (11, .iand, 1, []) := by decide +kernel
theorem r153_12 : j_at 153 12 = some (12, .iload_n 2, 1, []) := by decide +kernel
theorem r153_13 : j_at 153 13 = some (13, .bipush 8, 2, []) := by decide +kernel
theorem r153_15 : j_at 153 15 = some (15, .irem, 1, []) := by decide +kernel
theorem r153_16 : j_at 153 16 = some (16, .invokevirtual 264, 3, [2, 3, 122, 895, 896, 52, 77, 0, 12]) := by decide +kernel
theorem r153_19 : j_at 153 19 = some (19, .ifCond .eq 7, 3, []) := by decide +kernel
theorem r153_22 : j_at 153 22 = some (22, .iconst 1, 1, []) := by decide +kernel
theorem r153_23 : j_at 153 23 = some (23, .goto 4, 3, []) := by decide +kernel
theorem r153_26 : j_at 153 26 = some (26, .iconst 0, 1, []) := by decide +kernel
theorem r153_27 : j_at 153 27 = some (27, .ireturn, 1, []) := by decide +kernel
theorem b153_0 {b : Nat} {x0 : Value} {x1 : Int32} {x2 : Int32} {H : j_H} {Q : Option Value → j_H → Prop} (h0 : j_vc H x0 = 12) (h1 : j_vt H (va_rf (j_R H (j_pa x0) 6)) = 0) (h2 : 0 ≤ x1.toInt) (h3 : x1.toInt < ((j_vl H (va_rf (j_R H (j_pa x0) 6)) : Nat) : Int)) : j_wp (b + 1) 153 0 [x0, .int x1, .int x2] [] H Q = j_wp b 122 0 [x0, .int ((j_I H (j_pa (va_rf (j_R H (j_pa x0) 6))) (j_ix x1)) &&& (j_I H (j_pa x0) 1)), .int (j_rem x2 (Int32.ofInt 8))] [] H (j_k (b + 1) 153 19 [x0, .int x1, .int x2] [] Q) := Eq.trans (s_aload_n r153_0 rfl (j_isr_vc h0 rfl)) (Eq.trans (s_aload_n r153_1 rfl (j_isr_vc h0 rfl)) (Eq.trans (s_getfr r153_2 (j_al1 h0 rfl) rfl) (Eq.trans (s_iload_n r153_5 rfl) (Eq.trans (s_iald r153_6 h1 (by decide) (j_ib_of (z := x1.toInt) rfl h2 h3)) (Eq.trans (s_aload_n r153_7 rfl (j_isr_vc h0 rfl)) (Eq.trans (s_getfi r153_8 (j_al1 h0 rfl) rfl rfl rfl) (Eq.trans (s_iand r153_11) (Eq.trans (s_iload_n r153_12 rfl) (Eq.trans (s_bipush r153_13) (Eq.trans (s_irem r153_15 (by decide)) (j_cll (as := [x0, .int ((j_I H (j_pa (va_rf (j_R H (j_pa x0) 6))) (j_ix x1)) &&& (j_I H (j_pa x0) 1)), .int (j_rem x2 (Int32.ofInt 8))]) (es := [x0, .int ((j_I H (j_pa (va_rf (j_R H (j_pa x0) 6))) (j_ix x1)) &&& (j_I H (j_pa x0) 1)), .int (j_rem x2 (Int32.ofInt 8))]) (s_c2 r153_16 rfl h0 rfl rfl (j_dok (s := [.int (j_rem x2 (Int32.ofInt 8)), .int ((j_I H (j_pa (va_rf (j_R H (j_pa x0) 6))) (j_ix x1)) &&& (j_I H (j_pa x0) 1)), x0]) (as := [x0, .int ((j_I H (j_pa (va_rf (j_R H (j_pa x0) 6))) (j_ix x1)) &&& (j_I H (j_pa x0) 1)), .int (j_rem x2 (Int32.ofInt 8))]) (rest := []) (es := [x0, .int ((j_I H (j_pa (va_rf (j_R H (j_pa x0) 6))) (j_ix x1)) &&& (j_I H (j_pa x0) 1)), .int (j_rem x2 (Int32.ofInt 8))]) rfl rfl rfl rfl (j_slc (j_c1r (j_isr_vc h0 rfl)) rfl) rfl)) (j_slc (j_c1r (j_isr_vc h0 rfl)) rfl) rfl)))))))))))
theorem b153_19 {b : Nat} {x0 : Value} {x1 : Int32} {x2 : Int32} {y0 : Int32} {H : j_H} {Q : Option Value → j_H → Prop}  : j_wp b 153 19 [x0, .int x1, .int x2] [.int y0] H Q = (if y0.toInt = 0 then j_wp b 153 26 [x0, .int x1, .int x2] [] H Q else j_wp b 153 22 [x0, .int x1, .int x2] [] H Q) := s_ifeq r153_19 rfl rfl
theorem b153_22 {b : Nat} {x0 : Value} {x1 : Int32} {x2 : Int32} {H : j_H} {Q : Option Value → j_H → Prop}  : j_wp b 153 22 [x0, .int x1, .int x2] [] H Q = j_wp b 153 27 [x0, .int x1, .int x2] [.int (Int32.ofInt 1)] H Q := Eq.trans (s_iconst r153_22) (s_goto r153_23 rfl)
theorem b153_26 {b : Nat} {x0 : Value} {x1 : Int32} {x2 : Int32} {H : j_H} {Q : Option Value → j_H → Prop}  : j_wp b 153 26 [x0, .int x1, .int x2] [] H Q = j_wp b 153 27 [x0, .int x1, .int x2] [.int (Int32.ofInt 0)] H Q := s_iconst r153_26
theorem b153_27 {b : Nat} {x0 : Value} {x1 : Int32} {x2 : Int32} {y0 : Int32} {H : j_H} {Q : Option Value → j_H → Prop}  : j_wp b 153 27 [x0, .int x1, .int x2] [.int y0] H Q = Q (some (.int y0)) H := s_ireturn r153_27 (j_rok1 rfl)
-- X12_mildly
theorem r154_0 : j_at 154 0 = some (0, .aload_n 0, 1, []) := by decide +kernel
theorem r154_1 : j_at 154 1 = some (1, .getfield 22, 3, [708, 12, 2, 4, 0, 12]) := by decide +kernel
theorem r154_4 : j_at 154 4 = some (4, .iload_n 1, 1, []) := by decide +kernel
theorem r154_5 : j_at 154 5 = some (5, .iconst 1, 1, []) := by decide +kernel
theorem r154_6 : j_at 154 6 = some (6, .iadd, 1, []) := by decide +kernel
theorem r154_7 : j_at 154 7 = some (7, .aload_n 0, 1, []) := by decide +kernel
theorem r154_8 : j_at 154 8 = some (8, .getfield 7, 3, [704, 12, 0, 0, 0, 12]) := by decide +kernel
theorem r154_11 : j_at 154 11 = some (11, .irem, 1, []) := by decide +kernel
theorem r154_12 : j_at 154 12 = some (12, .iaload, 1, []) := by decide +kernel
theorem r154_13 : j_at 154 13 = some (13, .istore_n 2, 1, []) := by decide +kernel
theorem r154_14 : j_at 154 14 = some (14, .iload_n 2, 1, []) := by decide +kernel
theorem r154_15 : j_at 154 15 = some (15, .ifCond .eq 14, 3, []) := by decide +kernel
theorem r154_18 : j_at 154 18 = some (18, .iload_n 2, 1, []) := by decide +kernel
theorem r154_19 : j_at 154 19 = some (19, .iconst 3, 1, []) := by decide +kernel
theorem r154_20 : j_at 154 20 = some (20, .if_icmp .eq 9, 3, []) := by decide +kernel
theorem r154_23 : j_at 154 23 = some (23, .iload_n 2, 1, []) := by decide +kernel
theorem r154_24 : j_at 154 24 = some (24, .bipush 6, 2, []) := by decide +kernel
theorem r154_26 : j_at 154 26 = some (26, .if_icmp .ne 7, 3, []) := by decide +kernel
theorem r154_29 : j_at 154 29 = some (29, .iconst 1, 1, []) := by decide +kernel
theorem r154_30 : j_at 154 30 = some (30, .goto 4, 3, []) := by decide +kernel
theorem r154_33 : j_at 154 33 = some (33, .iconst 0, 1, []) := by decide +kernel
theorem r154_34 : j_at 154 34 = some (34, .ireturn, 1, []) := by decide +kernel
theorem b154_0 {b : Nat} {x0 : Value} {x1 : Int32} {u2 : Value} {H : j_H} {Q : Option Value → j_H → Prop} (h0 : j_vc H x0 = 12) (h1 : ¬ (j_I H (j_pa x0) 0).toInt = 0) (h2 : j_vt H (va_rf (j_R H (j_pa x0) 4)) = 0) (h3 : 0 ≤ (j_rem (x1 + (Int32.ofInt 1)) (j_I H (j_pa x0) 0)).toInt) (h4 : (j_rem (x1 + (Int32.ofInt 1)) (j_I H (j_pa x0) 0)).toInt < ((j_vl H (va_rf (j_R H (j_pa x0) 4)) : Nat) : Int)) : j_wp b 154 0 [x0, .int x1, u2] [] H Q = (if (j_I H (j_pa (va_rf (j_R H (j_pa x0) 4))) (j_ix (j_rem (x1 + (Int32.ofInt 1)) (j_I H (j_pa x0) 0)))).toInt = 0 then j_wp b 154 29 [x0, .int x1, .int (j_I H (j_pa (va_rf (j_R H (j_pa x0) 4))) (j_ix (j_rem (x1 + (Int32.ofInt 1)) (j_I H (j_pa x0) 0))))] [] H Q else j_wp b 154 18 [x0, .int x1, .int (j_I H (j_pa (va_rf (j_R H (j_pa x0) 4))) (j_ix (j_rem (x1 + (Int32.ofInt 1)) (j_I H (j_pa x0) 0))))] [] H Q) := Eq.trans (s_aload_n r154_0 rfl (j_isr_vc h0 rfl)) (Eq.trans (s_getfr r154_1 (j_al1 h0 rfl) rfl) (Eq.trans (s_iload_n r154_4 rfl) (Eq.trans (s_iconst r154_5) (Eq.trans (s_iadd r154_6) (Eq.trans (s_aload_n r154_7 rfl (j_isr_vc h0 rfl)) (Eq.trans (s_getfi r154_8 (j_al1 h0 rfl) rfl rfl rfl) (Eq.trans (s_irem r154_11 (j_nz h1)) (Eq.trans (s_iald r154_12 h2 (by decide) (j_ib_of (z := (j_rem (x1 + (Int32.ofInt 1)) (j_I H (j_pa x0) 0)).toInt) rfl h3 h4)) (Eq.trans (s_istore_n r154_13 (Nat.le_of_ble_eq_true rfl) rfl) (Eq.trans (s_iload_n r154_14 rfl) (s_ifeq r154_15 rfl rfl)))))))))))
theorem b154_18 {b : Nat} {x0 : Value} {x1 : Int32} {x2 : Int32} {H : j_H} {Q : Option Value → j_H → Prop}  : j_wp b 154 18 [x0, .int x1, .int x2] [] H Q = (if x2.toInt = 3 then j_wp b 154 29 [x0, .int x1, .int x2] [] H Q else j_wp b 154 23 [x0, .int x1, .int x2] [] H Q) := Eq.trans (s_iload_n r154_18 rfl) (Eq.trans (s_iconst r154_19) (s_iceq r154_20 rfl rfl rfl))
theorem b154_23 {b : Nat} {x0 : Value} {x1 : Int32} {x2 : Int32} {H : j_H} {Q : Option Value → j_H → Prop}  : j_wp b 154 23 [x0, .int x1, .int x2] [] H Q = (if ¬ x2.toInt = 6 then j_wp b 154 33 [x0, .int x1, .int x2] [] H Q else j_wp b 154 29 [x0, .int x1, .int x2] [] H Q) := Eq.trans (s_iload_n r154_23 rfl) (Eq.trans (s_bipush r154_24) (s_icne r154_26 rfl rfl rfl))
theorem b154_29 {b : Nat} {x0 : Value} {x1 : Int32} {x2 : Int32} {H : j_H} {Q : Option Value → j_H → Prop}  : j_wp b 154 29 [x0, .int x1, .int x2] [] H Q = j_wp b 154 34 [x0, .int x1, .int x2] [.int (Int32.ofInt 1)] H Q := Eq.trans (s_iconst r154_29) (s_goto r154_30 rfl)
theorem b154_33 {b : Nat} {x0 : Value} {x1 : Int32} {x2 : Int32} {H : j_H} {Q : Option Value → j_H → Prop}  : j_wp b 154 33 [x0, .int x1, .int x2] [] H Q = j_wp b 154 34 [x0, .int x1, .int x2] [.int (Int32.ofInt 0)] H Q := s_iconst r154_33
theorem b154_34 {b : Nat} {x0 : Value} {x1 : Int32} {x2 : Int32} {y0 : Int32} {H : j_H} {Q : Option Value → j_H → Prop}  : j_wp b 154 34 [x0, .int x1, .int x2] [.int y0] H Q = Q (some (.int y0)) H := s_ireturn r154_34 (j_rok1 rfl)
-- X12_saysOf
theorem r155_0 : j_at 155 0 = some (0, .aload_n 0, 1, []) := by decide +kernel
theorem r155_1 : j_at 155 1 = some (1, .getfield 22, 3, [708, 12, 2, 4, 0, 12]) := by decide +kernel
theorem r155_4 : j_at 155 4 = some (4, .iload_n 1, 1, []) := by decide +kernel
theorem r155_5 : j_at 155 5 = some (5, .iaload, 1, []) := by decide +kernel
theorem r155_6 : j_at 155 6 = some (6, .tableswitch 124 1 6 #[38, 40, 47, 53, 81, 109], 38, []) := by decide +kernel
theorem r155_44 : j_at 155 44 = some (44, .iconst 0, 1, []) := by decide +kernel
theorem r155_45 : j_at 155 45 = some (45, .ireturn, 1, []) := by decide +kernel
theorem r155_46 : j_at 155 46 = some (46, .aload_n 0, 1, []) := by decide +kernel
theorem r155_47 : j_at 155 47 = some (47, .iload_n 1, 1, []) := by decide +kernel
theorem r155_48 : j_at 155 48 = some (48, .iload_n 2, 1, []) := by decide +kernel
theorem r155_49 : j_at 155 49 = some (49, .invokevirtual 267, 3, [2, 3, 153, 893, 894, 51, 77, 0, 12]) := by decide +kernel
theorem r155_52 : j_at 155 52 = some (52, .ireturn, 1, []) := by decide +kernel
theorem r155_53 : j_at 155 53 = some (53, .aload_n 0, 1, []) := by decide +kernel
theorem r155_54 : j_at 155 54 = some (54, .iload_n 1, 1, []) := by decide +kernel
theorem r155_55 : j_at 155 55 = some (55, .invokevirtual 271, 3, [2, 2, 154, 897, 898, 53, 77, 0, 12]) := by decide +kernel
theorem r155_58 : j_at 155 58 = some (58, .ireturn, 1, []) := by decide +kernel
theorem r155_59 : j_at 155 59 = some (59, .aload_n 0, 1, []) := by decide +kernel
theorem r155_60 : j_at 155 60 = some (60, .getfield 22, 3, [708, 12, 2, 4, 0, 12]) := by decide +kernel
theorem r155_63 : j_at 155 63 = some (63, .iload_n 1, 1, []) := by decide +kernel
theorem r155_64 : j_at 155 64 = some (64, .aload_n 0, 1, []) := by decide +kernel
theorem r155_65 : j_at 155 65 = some (65, .getfield 7, 3, [704, 12, 0, 0, 0, 12]) := by decide +kernel
theorem r155_68 : j_at 155 68 = some (68, .iadd, 1, []) := by decide +kernel
theorem r155_69 : j_at 155 69 = some (69, .iconst 1, 1, []) := by decide +kernel
theorem r155_70 : j_at 155 70 = some (70, .isub, 1, []) := by decide +kernel
theorem r155_71 : j_at 155 71 = some (71, .aload_n 0, 1, []) := by decide +kernel
theorem r155_72 : j_at 155 72 = some (72, .getfield 7, 3, [704, 12, 0, 0, 0, 12]) := by decide +kernel
theorem r155_75 : j_at 155 75 = some (75, .irem, 1, []) := by decide +kernel
theorem r155_76 : j_at 155 76 = some (76, .iaload, 1, []) := by decide +kernel
theorem r155_77 : j_at 155 77 = some (77, .iconst 4, 1, []) := by decide +kernel
theorem r155_78 : j_at 155 78 = some (78, .if_icmp .ne 7, 3, []) := by decide +kernel
theorem r155_81 : j_at 155 81 = some (81, .iconst 1, 1, []) := by decide +kernel
theorem r155_82 : j_at 155 82 = some (82, .goto 4, 3, []) := by decide +kernel
theorem r155_85 : j_at 155 85 = some (85, .iconst 0, 1, []) := by decide +kernel
theorem r155_86 : j_at 155 86 = some (86, .ireturn, 1, []) := by decide +kernel
theorem r155_87 : j_at 155 87 = some (87, .aload_n 0, 1, []) := by decide +kernel
theorem r155_88 : j_at 155 88 = some (88, .iload_n 1, 1, []) := by decide +kernel
theorem r155_89 : j_at 155 89 = some (89, .iload_n 2, 1, []) := by decide +kernel
theorem r155_90 : j_at 155 90 = some (90, .invokevirtual 274, 3, [2, 3, 152, 889, 890, 49, 77, 0, 12]) := by decide +kernel
theorem r155_93 : j_at 155 93 = some (93, .iconst 5, 1, []) := by decide +kernel
theorem r155_94 : j_at 155 94 = some (94, .if_icmp .le 14, 3, []) := by decide +kernel
theorem r155_97 : j_at 155 97 = some (97, .iconst 1, 1, []) := by decide +kernel
theorem r155_98 : j_at 155 98 = some (98, .aload_n 0, 1, []) := by decide +kernel
theorem r155_99 : j_at 155 99 = some (99, .iload_n 1, 1, []) := by decide +kernel
theorem r155_100 : j_at 155 100 = some (100, .iload_n 2, 1, []) := by decide +kernel
theorem r155_101 : j_at 155 101 = some (101, .invokevirtual 267, 3, [2, 3, 153, 893, 894, 51, 77, 0, 12]) := by decide +kernel
theorem r155_104 : j_at 155 104 = some (104, .isub, 1, []) := by decide +kernel
theorem r155_105 : j_at 155 105 = some (105, .goto 9, 3, []) := by decide +kernel
theorem r155_108 : j_at 155 108 = some (108, .aload_n 0, 1, []) := by decide +kernel
theorem r155_109 : j_at 155 109 = some (109, .iload_n 1, 1, []) := by decide +kernel
theorem r155_110 : j_at 155 110 = some (110, .iload_n 2, 1, []) := by decide +kernel
theorem r155_111 : j_at 155 111 = some (111, .invokevirtual 267, 3, [2, 3, 153, 893, 894, 51, 77, 0, 12]) := by decide +kernel
theorem r155_114 : j_at 155 114 = some (114, .ireturn, 1, []) := by decide +kernel
theorem r155_115 : j_at 155 115 = some (115, .aload_n 0, 1, []) := by decide +kernel
theorem r155_116 : j_at 155 116 = some (116, .getfield 32, 3, [711, 12, 2, 7, 0, 12]) := by decide +kernel
theorem r155_119 : j_at 155 119 = some (119, .bipush 8, 2, []) := by decide +kernel
theorem r155_121 : j_at 155 121 = some (121, .iload_n 1, 1, []) := by decide +kernel
theorem r155_122 : j_at 155 122 = some (122, .imul, 1, []) := by decide +kernel
theorem r155_123 : j_at 155 123 = some (123, .iload_n 2, 1, []) := by decide +kernel
theorem r155_124 : j_at 155 124 = some (124, .bipush 8, 2, []) := by decide +kernel
theorem r155_126 : j_at 155 126 = some (126, .irem, 1, []) := by decide +kernel
theorem r155_127 : j_at 155 127 = some (127, .iadd, 1, []) := by decide +kernel
theorem r155_128 : j_at 155 128 = some (128, .iaload, 1, []) := by decide +kernel
theorem r155_129 : j_at 155 129 = some (129, .ireturn, 1, []) := by decide +kernel
theorem r155_130 : j_at 155 130 = some (130, .iconst 1, 1, []) := by decide +kernel
theorem r155_131 : j_at 155 131 = some (131, .ireturn, 1, []) := by decide +kernel
theorem b155_0 {b : Nat} {x0 : Value} {x1 : Int32} {x2 : Int32} {H : j_H} {Q : Option Value → j_H → Prop} (h0 : j_vc H x0 = 12) (h1 : j_vt H (va_rf (j_R H (j_pa x0) 4)) = 0) (h2 : 0 ≤ x1.toInt) (h3 : x1.toInt < ((j_vl H (va_rf (j_R H (j_pa x0) 4)) : Nat) : Int)) : j_wp b 155 0 [x0, .int x1, .int x2] [] H Q = (if (j_I H (j_pa (va_rf (j_R H (j_pa x0) 4))) (j_ix x1)).toInt = 1 then j_wp b 155 44 [x0, .int x1, .int x2] [] H Q else if (j_I H (j_pa (va_rf (j_R H (j_pa x0) 4))) (j_ix x1)).toInt = 2 then j_wp b 155 46 [x0, .int x1, .int x2] [] H Q else if (j_I H (j_pa (va_rf (j_R H (j_pa x0) 4))) (j_ix x1)).toInt = 3 then j_wp b 155 53 [x0, .int x1, .int x2] [] H Q else if (j_I H (j_pa (va_rf (j_R H (j_pa x0) 4))) (j_ix x1)).toInt = 4 then j_wp b 155 59 [x0, .int x1, .int x2] [] H Q else if (j_I H (j_pa (va_rf (j_R H (j_pa x0) 4))) (j_ix x1)).toInt = 5 then j_wp b 155 87 [x0, .int x1, .int x2] [] H Q else if (j_I H (j_pa (va_rf (j_R H (j_pa x0) 4))) (j_ix x1)).toInt = 6 then j_wp b 155 115 [x0, .int x1, .int x2] [] H Q else j_wp b 155 130 [x0, .int x1, .int x2] [] H Q) := Eq.trans (s_aload_n r155_0 rfl (j_isr_vc h0 rfl)) (Eq.trans (s_getfr r155_1 (j_al1 h0 rfl) rfl) (Eq.trans (s_iload_n r155_4 rfl) (Eq.trans (s_iald r155_5 h1 (by decide) (j_ib_of (z := x1.toInt) rfl h2 h3)) (j_ite (fun h => s_tsw r155_6 (by rw [h]; rfl)) (fun h101 => j_ite (fun h => s_tsw r155_6 (by rw [h]; rfl)) (fun h102 => j_ite (fun h => s_tsw r155_6 (by rw [h]; rfl)) (fun h103 => j_ite (fun h => s_tsw r155_6 (by rw [h]; rfl)) (fun h104 => j_ite (fun h => s_tsw r155_6 (by rw [h]; rfl)) (fun h105 => j_ite (fun h => s_tsw r155_6 (by rw [h]; rfl)) (fun h106 => s_tsw r155_6 (by
    have h : (j_I H (j_pa (va_rf (j_R H (j_pa x0) 4))) (j_ix x1)).toInt < 1 ∨ 6 < (j_I H (j_pa (va_rf (j_R H (j_pa x0) 4))) (j_ix x1)).toInt  := by omega
    rcases h with h | h
    · rw [if_neg (by omega), j_sw, if_pos h]; rfl
    · rw [if_pos h]; rfl)))))))))))
theorem b155_44 {b : Nat} {x0 : Value} {x1 : Int32} {x2 : Int32} {H : j_H} {Q : Option Value → j_H → Prop}  : j_wp b 155 44 [x0, .int x1, .int x2] [] H Q = Q (some (.int (Int32.ofInt 0))) H := Eq.trans (s_iconst r155_44) (s_ireturn r155_45 (j_rok1 rfl))
theorem b155_46 {b : Nat} {x0 : Value} {x1 : Int32} {x2 : Int32} {H : j_H} {Q : Option Value → j_H → Prop} (h0 : j_vc H x0 = 12) : j_wp (b + 1) 155 46 [x0, .int x1, .int x2] [] H Q = j_wp b 153 0 [x0, .int x1, .int x2] [] H (j_k (b + 1) 155 52 [x0, .int x1, .int x2] [] Q) := Eq.trans (s_aload_n r155_46 rfl (j_isr_vc h0 rfl)) (Eq.trans (s_iload_n r155_47 rfl) (Eq.trans (s_iload_n r155_48 rfl) (j_cll (as := [x0, .int x1, .int x2]) (es := [x0, .int x1, .int x2]) (s_c2 r155_49 rfl h0 rfl rfl (j_dok (s := [.int x2, .int x1, x0]) (as := [x0, .int x1, .int x2]) (rest := []) (es := [x0, .int x1, .int x2]) rfl rfl rfl rfl (j_slc (j_c1r (j_isr_vc h0 rfl)) rfl) rfl)) (j_slc (j_c1r (j_isr_vc h0 rfl)) rfl) rfl)))
theorem b155_52 {b : Nat} {x0 : Value} {x1 : Int32} {x2 : Int32} {y0 : Int32} {H : j_H} {Q : Option Value → j_H → Prop}  : j_wp b 155 52 [x0, .int x1, .int x2] [.int y0] H Q = Q (some (.int y0)) H := s_ireturn r155_52 (j_rok1 rfl)
theorem b155_53 {b : Nat} {x0 : Value} {x1 : Int32} {x2 : Int32} {H : j_H} {Q : Option Value → j_H → Prop} (h0 : j_vc H x0 = 12) : j_wp (b + 1) 155 53 [x0, .int x1, .int x2] [] H Q = j_wp b 154 0 [x0, .int x1, j_u] [] H (j_k (b + 1) 155 58 [x0, .int x1, .int x2] [] Q) := Eq.trans (s_aload_n r155_53 rfl (j_isr_vc h0 rfl)) (Eq.trans (s_iload_n r155_54 rfl) (j_cll (as := [x0, .int x1]) (es := [x0, .int x1]) (s_c2 r155_55 rfl h0 rfl rfl (j_dok (s := [.int x1, x0]) (as := [x0, .int x1]) (rest := []) (es := [x0, .int x1]) rfl rfl rfl rfl (j_slc (j_c1r (j_isr_vc h0 rfl)) rfl) rfl)) (j_slc (j_c1r (j_isr_vc h0 rfl)) rfl) rfl))
theorem b155_58 {b : Nat} {x0 : Value} {x1 : Int32} {x2 : Int32} {y0 : Int32} {H : j_H} {Q : Option Value → j_H → Prop}  : j_wp b 155 58 [x0, .int x1, .int x2] [.int y0] H Q = Q (some (.int y0)) H := s_ireturn r155_58 (j_rok1 rfl)
theorem b155_59 {b : Nat} {x0 : Value} {x1 : Int32} {x2 : Int32} {H : j_H} {Q : Option Value → j_H → Prop} (h0 : j_vc H x0 = 12) (h1 : ¬ (j_I H (j_pa x0) 0).toInt = 0) (h2 : j_vt H (va_rf (j_R H (j_pa x0) 4)) = 0) (h3 : 0 ≤ (j_rem ((x1 + (j_I H (j_pa x0) 0)) - (Int32.ofInt 1)) (j_I H (j_pa x0) 0)).toInt) (h4 : (j_rem ((x1 + (j_I H (j_pa x0) 0)) - (Int32.ofInt 1)) (j_I H (j_pa x0) 0)).toInt < ((j_vl H (va_rf (j_R H (j_pa x0) 4)) : Nat) : Int)) : j_wp b 155 59 [x0, .int x1, .int x2] [] H Q = (if ¬ (j_I H (j_pa (va_rf (j_R H (j_pa x0) 4))) (j_ix (j_rem ((x1 + (j_I H (j_pa x0) 0)) - (Int32.ofInt 1)) (j_I H (j_pa x0) 0)))).toInt = 4 then j_wp b 155 85 [x0, .int x1, .int x2] [] H Q else j_wp b 155 81 [x0, .int x1, .int x2] [] H Q) := Eq.trans (s_aload_n r155_59 rfl (j_isr_vc h0 rfl)) (Eq.trans (s_getfr r155_60 (j_al1 h0 rfl) rfl) (Eq.trans (s_iload_n r155_63 rfl) (Eq.trans (s_aload_n r155_64 rfl (j_isr_vc h0 rfl)) (Eq.trans (s_getfi r155_65 (j_al1 h0 rfl) rfl rfl rfl) (Eq.trans (s_iadd r155_68) (Eq.trans (s_iconst r155_69) (Eq.trans (s_isub r155_70) (Eq.trans (s_aload_n r155_71 rfl (j_isr_vc h0 rfl)) (Eq.trans (s_getfi r155_72 (j_al1 h0 rfl) rfl rfl rfl) (Eq.trans (s_irem r155_75 (j_nz h1)) (Eq.trans (s_iald r155_76 h2 (by decide) (j_ib_of (z := (j_rem ((x1 + (j_I H (j_pa x0) 0)) - (Int32.ofInt 1)) (j_I H (j_pa x0) 0)).toInt) rfl h3 h4)) (Eq.trans (s_iconst r155_77) (s_icne r155_78 rfl rfl rfl)))))))))))))
theorem b155_81 {b : Nat} {x0 : Value} {x1 : Int32} {x2 : Int32} {H : j_H} {Q : Option Value → j_H → Prop}  : j_wp b 155 81 [x0, .int x1, .int x2] [] H Q = j_wp b 155 86 [x0, .int x1, .int x2] [.int (Int32.ofInt 1)] H Q := Eq.trans (s_iconst r155_81) (s_goto r155_82 rfl)
theorem b155_85 {b : Nat} {x0 : Value} {x1 : Int32} {x2 : Int32} {H : j_H} {Q : Option Value → j_H → Prop}  : j_wp b 155 85 [x0, .int x1, .int x2] [] H Q = j_wp b 155 86 [x0, .int x1, .int x2] [.int (Int32.ofInt 0)] H Q := s_iconst r155_85
theorem b155_86 {b : Nat} {x0 : Value} {x1 : Int32} {x2 : Int32} {y0 : Int32} {H : j_H} {Q : Option Value → j_H → Prop}  : j_wp b 155 86 [x0, .int x1, .int x2] [.int y0] H Q = Q (some (.int y0)) H := s_ireturn r155_86 (j_rok1 rfl)
theorem b155_87 {b : Nat} {x0 : Value} {x1 : Int32} {x2 : Int32} {H : j_H} {Q : Option Value → j_H → Prop} (h0 : j_vc H x0 = 12) : j_wp (b + 1) 155 87 [x0, .int x1, .int x2] [] H Q = j_wp b 152 0 [x0, .int x1, .int x2] [] H (j_k (b + 1) 155 93 [x0, .int x1, .int x2] [] Q) := Eq.trans (s_aload_n r155_87 rfl (j_isr_vc h0 rfl)) (Eq.trans (s_iload_n r155_88 rfl) (Eq.trans (s_iload_n r155_89 rfl) (j_cll (as := [x0, .int x1, .int x2]) (es := [x0, .int x1, .int x2]) (s_c2 r155_90 rfl h0 rfl rfl (j_dok (s := [.int x2, .int x1, x0]) (as := [x0, .int x1, .int x2]) (rest := []) (es := [x0, .int x1, .int x2]) rfl rfl rfl rfl (j_slc (j_c1r (j_isr_vc h0 rfl)) rfl) rfl)) (j_slc (j_c1r (j_isr_vc h0 rfl)) rfl) rfl)))
theorem b155_93 {b : Nat} {x0 : Value} {x1 : Int32} {x2 : Int32} {y0 : Int32} {H : j_H} {Q : Option Value → j_H → Prop}  : j_wp b 155 93 [x0, .int x1, .int x2] [.int y0] H Q = (if y0.toInt ≤ 5 then j_wp b 155 108 [x0, .int x1, .int x2] [] H Q else j_wp b 155 97 [x0, .int x1, .int x2] [] H Q) := Eq.trans (s_iconst r155_93) (s_icle r155_94 rfl rfl rfl)
theorem b155_97 {b : Nat} {x0 : Value} {x1 : Int32} {x2 : Int32} {H : j_H} {Q : Option Value → j_H → Prop} (h0 : j_vc H x0 = 12) : j_wp (b + 1) 155 97 [x0, .int x1, .int x2] [] H Q = j_wp b 153 0 [x0, .int x1, .int x2] [] H (j_k (b + 1) 155 104 [x0, .int x1, .int x2] [.int (Int32.ofInt 1)] Q) := Eq.trans (s_iconst r155_97) (Eq.trans (s_aload_n r155_98 rfl (j_isr_vc h0 rfl)) (Eq.trans (s_iload_n r155_99 rfl) (Eq.trans (s_iload_n r155_100 rfl) (j_cll (as := [x0, .int x1, .int x2]) (es := [x0, .int x1, .int x2]) (s_c2 r155_101 rfl h0 rfl rfl (j_dok (s := [.int x2, .int x1, x0, .int (Int32.ofInt 1)]) (as := [x0, .int x1, .int x2]) (rest := [.int (Int32.ofInt 1)]) (es := [x0, .int x1, .int x2]) rfl rfl rfl rfl (j_slc (j_c1r (j_isr_vc h0 rfl)) rfl) rfl)) (j_slc (j_c1r (j_isr_vc h0 rfl)) rfl) rfl))))
theorem b155_104 {b : Nat} {x0 : Value} {x1 : Int32} {x2 : Int32} {y0 : Int32} {y1 : Int32} {H : j_H} {Q : Option Value → j_H → Prop}  : j_wp b 155 104 [x0, .int x1, .int x2] [.int y0, .int y1] H Q = j_wp b 155 114 [x0, .int x1, .int x2] [.int (y1 - y0)] H Q := Eq.trans (s_isub r155_104) (s_goto r155_105 rfl)
theorem b155_108 {b : Nat} {x0 : Value} {x1 : Int32} {x2 : Int32} {H : j_H} {Q : Option Value → j_H → Prop} (h0 : j_vc H x0 = 12) : j_wp (b + 1) 155 108 [x0, .int x1, .int x2] [] H Q = j_wp b 153 0 [x0, .int x1, .int x2] [] H (j_k (b + 1) 155 114 [x0, .int x1, .int x2] [] Q) := Eq.trans (s_aload_n r155_108 rfl (j_isr_vc h0 rfl)) (Eq.trans (s_iload_n r155_109 rfl) (Eq.trans (s_iload_n r155_110 rfl) (j_cll (as := [x0, .int x1, .int x2]) (es := [x0, .int x1, .int x2]) (s_c2 r155_111 rfl h0 rfl rfl (j_dok (s := [.int x2, .int x1, x0]) (as := [x0, .int x1, .int x2]) (rest := []) (es := [x0, .int x1, .int x2]) rfl rfl rfl rfl (j_slc (j_c1r (j_isr_vc h0 rfl)) rfl) rfl)) (j_slc (j_c1r (j_isr_vc h0 rfl)) rfl) rfl)))
theorem b155_114 {b : Nat} {x0 : Value} {x1 : Int32} {x2 : Int32} {y0 : Int32} {H : j_H} {Q : Option Value → j_H → Prop}  : j_wp b 155 114 [x0, .int x1, .int x2] [.int y0] H Q = Q (some (.int y0)) H := s_ireturn r155_114 (j_rok1 rfl)
theorem b155_115 {b : Nat} {x0 : Value} {x1 : Int32} {x2 : Int32} {H : j_H} {Q : Option Value → j_H → Prop} (h0 : j_vc H x0 = 12) (h1 : j_vt H (va_rf (j_R H (j_pa x0) 7)) = 0) (h2 : 0 ≤ (((Int32.ofInt 8) * x1) + (j_rem x2 (Int32.ofInt 8))).toInt) (h3 : (((Int32.ofInt 8) * x1) + (j_rem x2 (Int32.ofInt 8))).toInt < ((j_vl H (va_rf (j_R H (j_pa x0) 7)) : Nat) : Int)) : j_wp b 155 115 [x0, .int x1, .int x2] [] H Q = Q (some (.int (j_I H (j_pa (va_rf (j_R H (j_pa x0) 7))) (j_ix (((Int32.ofInt 8) * x1) + (j_rem x2 (Int32.ofInt 8))))))) H := Eq.trans (s_aload_n r155_115 rfl (j_isr_vc h0 rfl)) (Eq.trans (s_getfr r155_116 (j_al1 h0 rfl) rfl) (Eq.trans (s_bipush r155_119) (Eq.trans (s_iload_n r155_121 rfl) (Eq.trans (s_imul r155_122) (Eq.trans (s_iload_n r155_123 rfl) (Eq.trans (s_bipush r155_124) (Eq.trans (s_irem r155_126 (by decide)) (Eq.trans (s_iadd r155_127) (Eq.trans (s_iald r155_128 h1 (by decide) (j_ib_of (z := (((Int32.ofInt 8) * x1) + (j_rem x2 (Int32.ofInt 8))).toInt) rfl h2 h3)) (s_ireturn r155_129 (j_rok1 rfl)))))))))))
theorem b155_130 {b : Nat} {x0 : Value} {x1 : Int32} {x2 : Int32} {H : j_H} {Q : Option Value → j_H → Prop}  : j_wp b 155 130 [x0, .int x1, .int x2] [] H Q = Q (some (.int (Int32.ofInt 1))) H := Eq.trans (s_iconst r155_130) (s_ireturn r155_131 (j_rok1 rfl))
-- X12_goesTo
theorem r156_0 : j_at 156 0 = some (0, .aload_n 0, 1, []) := by decide +kernel
theorem r156_1 : j_at 156 1 = some (1, .invokevirtual 277, 3, [2, 1, 147, 902, 903, 54, 77, 0, 12]) := by decide +kernel
theorem r156_4 : j_at 156 4 = some (4, .aload_n 0, 1, []) := by decide +kernel
theorem r156_5 : j_at 156 5 = some (5, .getfield 7, 3, [704, 12, 0, 0, 0, 12]) := by decide +kernel
theorem r156_8 : j_at 156 8 = some (8, .irem, 1, []) := by decide +kernel
theorem r156_9 : j_at 156 9 = some (9, .istore_n 3, 1, []) := by decide +kernel
theorem r156_10 : j_at 156 10 = some (10, .iload_n 2, 1, []) := by decide +kernel
theorem r156_11 : j_at 156 11 = some (11, .iconst 1, 1, []) := by decide +kernel
theorem r156_12 : j_at 156 12 = some (12, .if_icmp .ne 14, 3, []) := by decide +kernel
theorem r156_15 : j_at 156 15 = some (15, .iload_n 1, 1, []) := by decide +kernel
theorem r156_16 : j_at 156 16 = some (16, .iload_n 3, 1, []) := by decide +kernel
theorem r156_17 : j_at 156 17 = some (17, .iadd, 1, []) := by decide +kernel
theorem r156_18 : j_at 156 18 = some (18, .aload_n 0, 1, []) := by decide +kernel
theorem r156_19 : j_at 156 19 = some (19, .getfield 7, 3, [704, 12, 0, 0, 0, 12]) := by decide +kernel
theorem r156_22 : j_at 156 22 = some (22, .irem, 1, []) := by decide +kernel
theorem r156_23 : j_at 156 23 = some (23, .goto 16, 3, []) := by decide +kernel
theorem r156_26 : j_at 156 26 = some (26, .iload_n 1, 1, []) := by decide +kernel
theorem r156_27 : j_at 156 27 = some (27, .iload_n 3, 1, []) := by decide +kernel
theorem r156_28 : j_at 156 28 = some (28, .isub, 1, []) := by decide +kernel
theorem r156_29 : j_at 156 29 = some (29, .aload_n 0, 1, []) := by decide +kernel
theorem r156_30 : j_at 156 30 = some (30, .getfield 7, 3, [704, 12, 0, 0, 0, 12]) := by decide +kernel
theorem r156_33 : j_at 156 33 = some (33, .iadd, 1, []) := by decide +kernel
theorem r156_34 : j_at 156 34 = some (34, .aload_n 0, 1, []) := by decide +kernel
theorem r156_35 : j_at 156 35 = some (35, .getfield 7, 3, [704, 12, 0, 0, 0, 12]) := by decide +kernel
theorem r156_38 : j_at 156 38 = some (38, .irem, 1, []) := by decide +kernel
theorem r156_39 : j_at 156 39 = some (39, .ireturn, 1, []) := by decide +kernel
theorem b156_0 {b : Nat} {x0 : Value} {x1 : Int32} {x2 : Int32} {u3 : Value} {H : j_H} {Q : Option Value → j_H → Prop} (h0 : j_vc H x0 = 12) : j_wp (b + 1) 156 0 [x0, .int x1, .int x2, u3] [] H Q = j_wp b 147 0 [x0, j_u, j_u] [] H (j_k (b + 1) 156 4 [x0, .int x1, .int x2, u3] [] Q) := Eq.trans (s_aload_n r156_0 rfl (j_isr_vc h0 rfl)) (j_cll (as := [x0]) (es := [x0]) (s_c2 r156_1 rfl h0 rfl rfl (j_dok (s := [x0]) (as := [x0]) (rest := []) (es := [x0]) rfl rfl rfl rfl (j_slc (j_c1r (j_isr_vc h0 rfl)) rfl) rfl)) (j_slc (j_c1r (j_isr_vc h0 rfl)) rfl) rfl)
theorem b156_4 {b : Nat} {x0 : Value} {x1 : Int32} {x2 : Int32} {u3 : Value} {y0 : Int32} {H : j_H} {Q : Option Value → j_H → Prop} (h0 : j_vc H x0 = 12) (h1 : ¬ (j_I H (j_pa x0) 0).toInt = 0) : j_wp b 156 4 [x0, .int x1, .int x2, u3] [.int y0] H Q = (if ¬ x2.toInt = 1 then j_wp b 156 26 [x0, .int x1, .int x2, .int (j_rem y0 (j_I H (j_pa x0) 0))] [] H Q else j_wp b 156 15 [x0, .int x1, .int x2, .int (j_rem y0 (j_I H (j_pa x0) 0))] [] H Q) := Eq.trans (s_aload_n r156_4 rfl (j_isr_vc h0 rfl)) (Eq.trans (s_getfi r156_5 (j_al1 h0 rfl) rfl rfl rfl) (Eq.trans (s_irem r156_8 (j_nz h1)) (Eq.trans (s_istore_n r156_9 (Nat.le_of_ble_eq_true rfl) rfl) (Eq.trans (s_iload_n r156_10 rfl) (Eq.trans (s_iconst r156_11) (s_icne r156_12 rfl rfl rfl))))))
theorem b156_15 {b : Nat} {x0 : Value} {x1 : Int32} {x2 : Int32} {x3 : Int32} {H : j_H} {Q : Option Value → j_H → Prop} (h0 : j_vc H x0 = 12) (h1 : ¬ (j_I H (j_pa x0) 0).toInt = 0) : j_wp b 156 15 [x0, .int x1, .int x2, .int x3] [] H Q = j_wp b 156 39 [x0, .int x1, .int x2, .int x3] [.int (j_rem (x1 + x3) (j_I H (j_pa x0) 0))] H Q := Eq.trans (s_iload_n r156_15 rfl) (Eq.trans (s_iload_n r156_16 rfl) (Eq.trans (s_iadd r156_17) (Eq.trans (s_aload_n r156_18 rfl (j_isr_vc h0 rfl)) (Eq.trans (s_getfi r156_19 (j_al1 h0 rfl) rfl rfl rfl) (Eq.trans (s_irem r156_22 (j_nz h1)) (s_goto r156_23 rfl))))))
theorem b156_26 {b : Nat} {x0 : Value} {x1 : Int32} {x2 : Int32} {x3 : Int32} {H : j_H} {Q : Option Value → j_H → Prop} (h0 : j_vc H x0 = 12) (h1 : ¬ (j_I H (j_pa x0) 0).toInt = 0) : j_wp b 156 26 [x0, .int x1, .int x2, .int x3] [] H Q = j_wp b 156 39 [x0, .int x1, .int x2, .int x3] [.int (j_rem ((x1 - x3) + (j_I H (j_pa x0) 0)) (j_I H (j_pa x0) 0))] H Q := Eq.trans (s_iload_n r156_26 rfl) (Eq.trans (s_iload_n r156_27 rfl) (Eq.trans (s_isub r156_28) (Eq.trans (s_aload_n r156_29 rfl (j_isr_vc h0 rfl)) (Eq.trans (s_getfi r156_30 (j_al1 h0 rfl) rfl rfl rfl) (Eq.trans (s_iadd r156_33) (Eq.trans (s_aload_n r156_34 rfl (j_isr_vc h0 rfl)) (Eq.trans (s_getfi r156_35 (j_al1 h0 rfl) rfl rfl rfl) (s_irem r156_38 (j_nz h1)))))))))
theorem b156_39 {b : Nat} {x0 : Value} {x1 : Int32} {x2 : Int32} {x3 : Int32} {y0 : Int32} {H : j_H} {Q : Option Value → j_H → Prop}  : j_wp b 156 39 [x0, .int x1, .int x2, .int x3] [.int y0] H Q = Q (some (.int y0)) H := s_ireturn r156_39 (j_rok1 rfl)
-- X12_nextOf
theorem r157_0 : j_at 157 0 = some (0, .aload_n 0, 1, []) := by decide +kernel
theorem r157_1 : j_at 157 1 = some (1, .iload_n 1, 1, []) := by decide +kernel
theorem r157_2 : j_at 157 2 = some (2, .aload_n 0, 1, []) := by decide +kernel
theorem r157_3 : j_at 157 3 = some (3, .iload_n 1, 1, []) := by decide +kernel
theorem r157_4 : j_at 157 4 = some (4, .iload_n 2, 1, []) := by decide +kernel
theorem r157_5 : j_at 157 5 = some (5, .invokevirtual 280, 3, [2, 3, 155, 891, 892, 50, 77, 0, 12]) := by decide +kernel
theorem r157_8 : j_at 157 8 = some (8, .invokevirtual 283, 3, [2, 3, 156, 907, 908, 55, 77, 0, 12]) := by decide +kernel
theorem r157_11 : j_at 157 11 = some (11, .ireturn, 1, []) := by decide +kernel
theorem b157_0 {b : Nat} {x0 : Value} {x1 : Int32} {x2 : Int32} {H : j_H} {Q : Option Value → j_H → Prop} (h0 : j_vc H x0 = 12) : j_wp (b + 1) 157 0 [x0, .int x1, .int x2] [] H Q = j_wp b 155 0 [x0, .int x1, .int x2] [] H (j_k (b + 1) 157 8 [x0, .int x1, .int x2] [.int x1, x0] Q) := Eq.trans (s_aload_n r157_0 rfl (j_isr_vc h0 rfl)) (Eq.trans (s_iload_n r157_1 rfl) (Eq.trans (s_aload_n r157_2 rfl (j_isr_vc h0 rfl)) (Eq.trans (s_iload_n r157_3 rfl) (Eq.trans (s_iload_n r157_4 rfl) (j_cll (as := [x0, .int x1, .int x2]) (es := [x0, .int x1, .int x2]) (s_c2 r157_5 rfl h0 rfl rfl (j_dok (s := [.int x2, .int x1, x0, .int x1, x0]) (as := [x0, .int x1, .int x2]) (rest := [.int x1, x0]) (es := [x0, .int x1, .int x2]) rfl rfl rfl rfl (j_slc (j_c1r (j_isr_vc h0 rfl)) rfl) rfl)) (j_slc (j_c1r (j_isr_vc h0 rfl)) rfl) rfl)))))
theorem b157_8 {b : Nat} {x0 : Value} {x1 : Int32} {x2 : Int32} {y0 : Int32} {y1 : Int32} {y2 : Value} {H : j_H} {Q : Option Value → j_H → Prop} (h0 : j_vc H y2 = 12) : j_wp (b + 1) 157 8 [x0, .int x1, .int x2] [.int y0, .int y1, y2] H Q = j_wp b 156 0 [y2, .int y1, .int y0, j_u] [] H (j_k (b + 1) 157 11 [x0, .int x1, .int x2] [] Q) := j_cll (as := [y2, .int y1, .int y0]) (es := [y2, .int y1, .int y0]) (s_c2 r157_8 rfl h0 rfl rfl (j_dok (s := [.int y0, .int y1, y2]) (as := [y2, .int y1, .int y0]) (rest := []) (es := [y2, .int y1, .int y0]) rfl rfl rfl rfl (j_slc (j_c1r (j_isr_vc h0 rfl)) rfl) rfl)) (j_slc (j_c1r (j_isr_vc h0 rfl)) rfl) rfl
theorem b157_11 {b : Nat} {x0 : Value} {x1 : Int32} {x2 : Int32} {y0 : Int32} {H : j_H} {Q : Option Value → j_H → Prop}  : j_wp b 157 11 [x0, .int x1, .int x2] [.int y0] H Q = Q (some (.int y0)) H := s_ireturn r157_11 (j_rok1 rfl)
-- X12_of
theorem r158_0 : j_at 158 0 = some (0, .aload_n 0, 1, []) := by decide +kernel
theorem r158_1 : j_at 158 1 = some (1, .iload_n 1, 1, []) := by decide +kernel
theorem r158_2 : j_at 158 2 = some (2, .invokevirtual 193, 3, [2, 2, 124, 833, 834, 27, 77, 0, 12]) := by decide +kernel
theorem r158_5 : j_at 158 5 = some (5, .ifCond .ne 5, 3, []) := by decide +kernel
theorem r158_8 : j_at 158 8 = some (8, .iconst (-1), 1, []) := by decide +kernel
theorem r158_9 : j_at 158 9 = some (9, .ireturn, 1, []) := by decide +kernel
theorem r158_10 : j_at 158 10 = some (10, .iload_n 2, 1, []) := by decide +kernel
theorem r158_11 : j_at 158 11 = some (11, .tableswitch 88 0 5 #[37, 44, 51, 58, 68, 78], 37, []) := by decide +kernel
theorem r158_48 : j_at 158 48 = some (48, .aload_n 0, 1, []) := by decide +kernel
theorem r158_49 : j_at 158 49 = some (49, .getfield 22, 3, [708, 12, 2, 4, 0, 12]) := by decide +kernel
theorem r158_52 : j_at 158 52 = some (52, .iload_n 1, 1, []) := by decide +kernel
theorem r158_53 : j_at 158 53 = some (53, .iaload, 1, []) := by decide +kernel
theorem r158_54 : j_at 158 54 = some (54, .ireturn, 1, []) := by decide +kernel
theorem r158_55 : j_at 158 55 = some (55, .aload_n 0, 1, []) := by decide +kernel
theorem r158_56 : j_at 158 56 = some (56, .getfield 26, 3, [709, 12, 2, 5, 0, 12]) := by decide +kernel
theorem r158_59 : j_at 158 59 = some (59, .iload_n 1, 1, []) := by decide +kernel
theorem r158_60 : j_at 158 60 = some (60, .iaload, 1, []) := by decide +kernel
theorem r158_61 : j_at 158 61 = some (61, .ireturn, 1, []) := by decide +kernel
theorem r158_62 : j_at 158 62 = some (62, .aload_n 0, 1, []) := by decide +kernel
theorem r158_63 : j_at 158 63 = some (63, .getfield 29, 3, [710, 12, 2, 6, 0, 12]) := by decide +kernel
theorem r158_66 : j_at 158 66 = some (66, .iload_n 1, 1, []) := by decide +kernel
theorem r158_67 : j_at 158 67 = some (67, .iaload, 1, []) := by decide +kernel
theorem r158_68 : j_at 158 68 = some (68, .ireturn, 1, []) := by decide +kernel
theorem r158_69 : j_at 158 69 = some (69, .aload_n 0, 1, []) := by decide +kernel
theorem r158_70 : j_at 158 70 = some (70, .iload_n 1, 1, []) := by decide +kernel
theorem r158_71 : j_at 158 71 = some (71, .aload_n 0, 1, []) := by decide +kernel
theorem r158_72 : j_at 158 72 = some (72, .getfield 19, 3, [707, 12, 0, 3, 0, 12]) := by decide +kernel
theorem r158_75 : j_at 158 75 = some (75, .invokevirtual 286, 3, [2, 3, 151, 875, 876, 42, 77, 0, 12]) := by decide +kernel
theorem r158_78 : j_at 158 78 = some (78, .ireturn, 1, []) := by decide +kernel
theorem r158_79 : j_at 158 79 = some (79, .aload_n 0, 1, []) := by decide +kernel
theorem r158_80 : j_at 158 80 = some (80, .iload_n 1, 1, []) := by decide +kernel
theorem r158_81 : j_at 158 81 = some (81, .aload_n 0, 1, []) := by decide +kernel
theorem r158_82 : j_at 158 82 = some (82, .getfield 19, 3, [707, 12, 0, 3, 0, 12]) := by decide +kernel
theorem r158_85 : j_at 158 85 = some (85, .invokevirtual 274, 3, [2, 3, 152, 889, 890, 49, 77, 0, 12]) := by decide +kernel
theorem r158_88 : j_at 158 88 = some (88, .ireturn, 1, []) := by decide +kernel
theorem r158_89 : j_at 158 89 = some (89, .aload_n 0, 1, []) := by decide +kernel
theorem r158_90 : j_at 158 90 = some (90, .iload_n 1, 1, []) := by decide +kernel
theorem r158_91 : j_at 158 91 = some (91, .aload_n 0, 1, []) := by decide +kernel
theorem r158_92 : j_at 158 92 = some (92, .getfield 19, 3, [707, 12, 0, 3, 0, 12]) := by decide +kernel
theorem r158_95 : j_at 158 95 = some (95, .invokevirtual 280, 3, [2, 3, 155, 891, 892, 50, 77, 0, 12]) := by decide +kernel
theorem r158_98 : j_at 158 98 = some (98, .ireturn, 1, []) := by decide +kernel
theorem r158_99 : j_at 158 99 = some (99, .iconst (-1), 1, []) := by decide +kernel
theorem r158_100 : j_at 158 100 = some (100, .ireturn, 1, []) := by decide +kernel
theorem b158_0 {b : Nat} {x0 : Value} {x1 : Int32} {x2 : Int32} {H : j_H} {Q : Option Value → j_H → Prop} (h0 : j_vc H x0 = 12) : j_wp (b + 1) 158 0 [x0, .int x1, .int x2] [] H Q = j_wp b 124 0 [x0, .int x1] [] H (j_k (b + 1) 158 5 [x0, .int x1, .int x2] [] Q) := Eq.trans (s_aload_n r158_0 rfl (j_isr_vc h0 rfl)) (Eq.trans (s_iload_n r158_1 rfl) (j_cll (as := [x0, .int x1]) (es := [x0, .int x1]) (s_c2 r158_2 rfl h0 rfl rfl (j_dok (s := [.int x1, x0]) (as := [x0, .int x1]) (rest := []) (es := [x0, .int x1]) rfl rfl rfl rfl (j_slc (j_c1r (j_isr_vc h0 rfl)) rfl) rfl)) (j_slc (j_c1r (j_isr_vc h0 rfl)) rfl) rfl))
theorem b158_5 {b : Nat} {x0 : Value} {x1 : Int32} {x2 : Int32} {y0 : Int32} {H : j_H} {Q : Option Value → j_H → Prop}  : j_wp b 158 5 [x0, .int x1, .int x2] [.int y0] H Q = (if ¬ y0.toInt = 0 then j_wp b 158 10 [x0, .int x1, .int x2] [] H Q else j_wp b 158 8 [x0, .int x1, .int x2] [] H Q) := s_ifne r158_5 rfl rfl
theorem b158_8 {b : Nat} {x0 : Value} {x1 : Int32} {x2 : Int32} {H : j_H} {Q : Option Value → j_H → Prop}  : j_wp b 158 8 [x0, .int x1, .int x2] [] H Q = Q (some (.int (Int32.ofInt (-1)))) H := Eq.trans (s_iconst r158_8) (s_ireturn r158_9 (j_rok1 rfl))
theorem b158_10 {b : Nat} {x0 : Value} {x1 : Int32} {x2 : Int32} {H : j_H} {Q : Option Value → j_H → Prop}  : j_wp b 158 10 [x0, .int x1, .int x2] [] H Q = (if x2.toInt = 0 then j_wp b 158 48 [x0, .int x1, .int x2] [] H Q else if x2.toInt = 1 then j_wp b 158 55 [x0, .int x1, .int x2] [] H Q else if x2.toInt = 2 then j_wp b 158 62 [x0, .int x1, .int x2] [] H Q else if x2.toInt = 3 then j_wp b 158 69 [x0, .int x1, .int x2] [] H Q else if x2.toInt = 4 then j_wp b 158 79 [x0, .int x1, .int x2] [] H Q else if x2.toInt = 5 then j_wp b 158 89 [x0, .int x1, .int x2] [] H Q else j_wp b 158 99 [x0, .int x1, .int x2] [] H Q) := Eq.trans (s_iload_n r158_10 rfl) (j_ite (fun h => s_tsw r158_11 (by rw [h]; rfl)) (fun h100 => j_ite (fun h => s_tsw r158_11 (by rw [h]; rfl)) (fun h101 => j_ite (fun h => s_tsw r158_11 (by rw [h]; rfl)) (fun h102 => j_ite (fun h => s_tsw r158_11 (by rw [h]; rfl)) (fun h103 => j_ite (fun h => s_tsw r158_11 (by rw [h]; rfl)) (fun h104 => j_ite (fun h => s_tsw r158_11 (by rw [h]; rfl)) (fun h105 => s_tsw r158_11 (by
    have h : x2.toInt < 0 ∨ 5 < x2.toInt  := by omega
    rcases h with h | h
    · rw [if_neg (by omega), j_sw, if_pos h]; rfl
    · rw [if_pos h]; rfl))))))))
theorem b158_48 {b : Nat} {x0 : Value} {x1 : Int32} {x2 : Int32} {H : j_H} {Q : Option Value → j_H → Prop} (h0 : j_vc H x0 = 12) (h1 : j_vt H (va_rf (j_R H (j_pa x0) 4)) = 0) (h2 : 0 ≤ x1.toInt) (h3 : x1.toInt < ((j_vl H (va_rf (j_R H (j_pa x0) 4)) : Nat) : Int)) : j_wp b 158 48 [x0, .int x1, .int x2] [] H Q = Q (some (.int (j_I H (j_pa (va_rf (j_R H (j_pa x0) 4))) (j_ix x1)))) H := Eq.trans (s_aload_n r158_48 rfl (j_isr_vc h0 rfl)) (Eq.trans (s_getfr r158_49 (j_al1 h0 rfl) rfl) (Eq.trans (s_iload_n r158_52 rfl) (Eq.trans (s_iald r158_53 h1 (by decide) (j_ib_of (z := x1.toInt) rfl h2 h3)) (s_ireturn r158_54 (j_rok1 rfl)))))
theorem b158_55 {b : Nat} {x0 : Value} {x1 : Int32} {x2 : Int32} {H : j_H} {Q : Option Value → j_H → Prop} (h0 : j_vc H x0 = 12) (h1 : j_vt H (va_rf (j_R H (j_pa x0) 5)) = 0) (h2 : 0 ≤ x1.toInt) (h3 : x1.toInt < ((j_vl H (va_rf (j_R H (j_pa x0) 5)) : Nat) : Int)) : j_wp b 158 55 [x0, .int x1, .int x2] [] H Q = Q (some (.int (j_I H (j_pa (va_rf (j_R H (j_pa x0) 5))) (j_ix x1)))) H := Eq.trans (s_aload_n r158_55 rfl (j_isr_vc h0 rfl)) (Eq.trans (s_getfr r158_56 (j_al1 h0 rfl) rfl) (Eq.trans (s_iload_n r158_59 rfl) (Eq.trans (s_iald r158_60 h1 (by decide) (j_ib_of (z := x1.toInt) rfl h2 h3)) (s_ireturn r158_61 (j_rok1 rfl)))))
theorem b158_62 {b : Nat} {x0 : Value} {x1 : Int32} {x2 : Int32} {H : j_H} {Q : Option Value → j_H → Prop} (h0 : j_vc H x0 = 12) (h1 : j_vt H (va_rf (j_R H (j_pa x0) 6)) = 0) (h2 : 0 ≤ x1.toInt) (h3 : x1.toInt < ((j_vl H (va_rf (j_R H (j_pa x0) 6)) : Nat) : Int)) : j_wp b 158 62 [x0, .int x1, .int x2] [] H Q = Q (some (.int (j_I H (j_pa (va_rf (j_R H (j_pa x0) 6))) (j_ix x1)))) H := Eq.trans (s_aload_n r158_62 rfl (j_isr_vc h0 rfl)) (Eq.trans (s_getfr r158_63 (j_al1 h0 rfl) rfl) (Eq.trans (s_iload_n r158_66 rfl) (Eq.trans (s_iald r158_67 h1 (by decide) (j_ib_of (z := x1.toInt) rfl h2 h3)) (s_ireturn r158_68 (j_rok1 rfl)))))
theorem b158_69 {b : Nat} {x0 : Value} {x1 : Int32} {x2 : Int32} {H : j_H} {Q : Option Value → j_H → Prop} (h0 : j_vc H x0 = 12) : j_wp (b + 1) 158 69 [x0, .int x1, .int x2] [] H Q = j_wp b 151 0 [x0, .int x1, .int (j_I H (j_pa x0) 3), j_u] [] H (j_k (b + 1) 158 78 [x0, .int x1, .int x2] [] Q) := Eq.trans (s_aload_n r158_69 rfl (j_isr_vc h0 rfl)) (Eq.trans (s_iload_n r158_70 rfl) (Eq.trans (s_aload_n r158_71 rfl (j_isr_vc h0 rfl)) (Eq.trans (s_getfi r158_72 (j_al1 h0 rfl) rfl rfl rfl) (j_cll (as := [x0, .int x1, .int (j_I H (j_pa x0) 3)]) (es := [x0, .int x1, .int (j_I H (j_pa x0) 3)]) (s_c2 r158_75 rfl h0 rfl rfl (j_dok (s := [.int (j_I H (j_pa x0) 3), .int x1, x0]) (as := [x0, .int x1, .int (j_I H (j_pa x0) 3)]) (rest := []) (es := [x0, .int x1, .int (j_I H (j_pa x0) 3)]) rfl rfl rfl rfl (j_slc (j_c1r (j_isr_vc h0 rfl)) rfl) rfl)) (j_slc (j_c1r (j_isr_vc h0 rfl)) rfl) rfl))))
theorem b158_78 {b : Nat} {x0 : Value} {x1 : Int32} {x2 : Int32} {y0 : Int32} {H : j_H} {Q : Option Value → j_H → Prop}  : j_wp b 158 78 [x0, .int x1, .int x2] [.int y0] H Q = Q (some (.int y0)) H := s_ireturn r158_78 (j_rok1 rfl)
theorem b158_79 {b : Nat} {x0 : Value} {x1 : Int32} {x2 : Int32} {H : j_H} {Q : Option Value → j_H → Prop} (h0 : j_vc H x0 = 12) : j_wp (b + 1) 158 79 [x0, .int x1, .int x2] [] H Q = j_wp b 152 0 [x0, .int x1, .int (j_I H (j_pa x0) 3)] [] H (j_k (b + 1) 158 88 [x0, .int x1, .int x2] [] Q) := Eq.trans (s_aload_n r158_79 rfl (j_isr_vc h0 rfl)) (Eq.trans (s_iload_n r158_80 rfl) (Eq.trans (s_aload_n r158_81 rfl (j_isr_vc h0 rfl)) (Eq.trans (s_getfi r158_82 (j_al1 h0 rfl) rfl rfl rfl) (j_cll (as := [x0, .int x1, .int (j_I H (j_pa x0) 3)]) (es := [x0, .int x1, .int (j_I H (j_pa x0) 3)]) (s_c2 r158_85 rfl h0 rfl rfl (j_dok (s := [.int (j_I H (j_pa x0) 3), .int x1, x0]) (as := [x0, .int x1, .int (j_I H (j_pa x0) 3)]) (rest := []) (es := [x0, .int x1, .int (j_I H (j_pa x0) 3)]) rfl rfl rfl rfl (j_slc (j_c1r (j_isr_vc h0 rfl)) rfl) rfl)) (j_slc (j_c1r (j_isr_vc h0 rfl)) rfl) rfl))))
theorem b158_88 {b : Nat} {x0 : Value} {x1 : Int32} {x2 : Int32} {y0 : Int32} {H : j_H} {Q : Option Value → j_H → Prop}  : j_wp b 158 88 [x0, .int x1, .int x2] [.int y0] H Q = Q (some (.int y0)) H := s_ireturn r158_88 (j_rok1 rfl)
theorem b158_89 {b : Nat} {x0 : Value} {x1 : Int32} {x2 : Int32} {H : j_H} {Q : Option Value → j_H → Prop} (h0 : j_vc H x0 = 12) : j_wp (b + 1) 158 89 [x0, .int x1, .int x2] [] H Q = j_wp b 155 0 [x0, .int x1, .int (j_I H (j_pa x0) 3)] [] H (j_k (b + 1) 158 98 [x0, .int x1, .int x2] [] Q) := Eq.trans (s_aload_n r158_89 rfl (j_isr_vc h0 rfl)) (Eq.trans (s_iload_n r158_90 rfl) (Eq.trans (s_aload_n r158_91 rfl (j_isr_vc h0 rfl)) (Eq.trans (s_getfi r158_92 (j_al1 h0 rfl) rfl rfl rfl) (j_cll (as := [x0, .int x1, .int (j_I H (j_pa x0) 3)]) (es := [x0, .int x1, .int (j_I H (j_pa x0) 3)]) (s_c2 r158_95 rfl h0 rfl rfl (j_dok (s := [.int (j_I H (j_pa x0) 3), .int x1, x0]) (as := [x0, .int x1, .int (j_I H (j_pa x0) 3)]) (rest := []) (es := [x0, .int x1, .int (j_I H (j_pa x0) 3)]) rfl rfl rfl rfl (j_slc (j_c1r (j_isr_vc h0 rfl)) rfl) rfl)) (j_slc (j_c1r (j_isr_vc h0 rfl)) rfl) rfl))))
theorem b158_98 {b : Nat} {x0 : Value} {x1 : Int32} {x2 : Int32} {y0 : Int32} {H : j_H} {Q : Option Value → j_H → Prop}  : j_wp b 158 98 [x0, .int x1, .int x2] [.int y0] H Q = Q (some (.int y0)) H := s_ireturn r158_98 (j_rok1 rfl)
theorem b158_99 {b : Nat} {x0 : Value} {x1 : Int32} {x2 : Int32} {H : j_H} {Q : Option Value → j_H → Prop}  : j_wp b 158 99 [x0, .int x1, .int x2] [] H Q = Q (some (.int (Int32.ofInt (-1)))) H := Eq.trans (s_iconst r158_99) (s_ireturn r158_100 (j_rok1 rfl))
-- X12_told
theorem r159_0 : j_at 159 0 = some (0, .iload_n 1, 1, []) := by decide +kernel
theorem r159_1 : j_at 159 1 = some (1, .tableswitch 63 0 3 #[31, 48, 53, 58], 31, []) := by decide +kernel
theorem r159_32 : j_at 159 32 = some (32, .aload_n 0, 1, []) := by decide +kernel
theorem r159_33 : j_at 159 33 = some (33, .getfield 7, 3, [704, 12, 0, 0, 0, 12]) := by decide +kernel
theorem r159_36 : j_at 159 36 = some (36, .ifCond .ne 8, 3, []) := by decide +kernel
theorem r159_39 : j_at 159 39 = some (39, .bipush (-5), 2, []) := by decide +kernel
theorem r159_41 : j_at 159 41 = some (41, .goto 7, 3, []) := by decide +kernel
theorem r159_44 : j_at 159 44 = some (44, .aload_n 0, 1, []) := by decide +kernel
theorem r159_45 : j_at 159 45 = some (45, .getfield 16, 3, [706, 12, 0, 2, 0, 12]) := by decide +kernel
theorem r159_48 : j_at 159 48 = some (48, .ireturn, 1, []) := by decide +kernel
theorem r159_49 : j_at 159 49 = some (49, .aload_n 0, 1, []) := by decide +kernel
theorem r159_50 : j_at 159 50 = some (50, .getfield 19, 3, [707, 12, 0, 3, 0, 12]) := by decide +kernel
theorem r159_53 : j_at 159 53 = some (53, .ireturn, 1, []) := by decide +kernel
theorem r159_54 : j_at 159 54 = some (54, .aload_n 0, 1, []) := by decide +kernel
theorem r159_55 : j_at 159 55 = some (55, .invokevirtual 277, 3, [2, 1, 147, 902, 903, 54, 77, 0, 12]) := by decide +kernel
theorem r159_58 : j_at 159 58 = some (58, .ireturn, 1, []) := by decide +kernel
theorem r159_59 : j_at 159 59 = some (59, .aload_n 0, 1, []) := by decide +kernel
theorem r159_60 : j_at 159 60 = some (60, .getfield 13, 3, [705, 12, 0, 1, 0, 12]) := by decide +kernel
theorem r159_63 : j_at 159 63 = some (63, .ireturn, 1, []) := by decide +kernel
theorem r159_64 : j_at 159 64 = some (64, .iconst (-1), 1, []) := by decide +kernel
theorem r159_65 : j_at 159 65 = some (65, .ireturn, 1, []) := by decide +kernel
theorem b159_0 {b : Nat} {x0 : Value} {x1 : Int32} {H : j_H} {Q : Option Value → j_H → Prop}  : j_wp b 159 0 [x0, .int x1] [] H Q = (if x1.toInt = 0 then j_wp b 159 32 [x0, .int x1] [] H Q else if x1.toInt = 1 then j_wp b 159 49 [x0, .int x1] [] H Q else if x1.toInt = 2 then j_wp b 159 54 [x0, .int x1] [] H Q else if x1.toInt = 3 then j_wp b 159 59 [x0, .int x1] [] H Q else j_wp b 159 64 [x0, .int x1] [] H Q) := Eq.trans (s_iload_n r159_0 rfl) (j_ite (fun h => s_tsw r159_1 (by rw [h]; rfl)) (fun h100 => j_ite (fun h => s_tsw r159_1 (by rw [h]; rfl)) (fun h101 => j_ite (fun h => s_tsw r159_1 (by rw [h]; rfl)) (fun h102 => j_ite (fun h => s_tsw r159_1 (by rw [h]; rfl)) (fun h103 => s_tsw r159_1 (by
    have h : x1.toInt < 0 ∨ 3 < x1.toInt  := by omega
    rcases h with h | h
    · rw [if_neg (by omega), j_sw, if_pos h]; rfl
    · rw [if_pos h]; rfl))))))
theorem b159_32 {b : Nat} {x0 : Value} {x1 : Int32} {H : j_H} {Q : Option Value → j_H → Prop} (h0 : j_vc H x0 = 12) : j_wp b 159 32 [x0, .int x1] [] H Q = (if ¬ (j_I H (j_pa x0) 0).toInt = 0 then j_wp b 159 44 [x0, .int x1] [] H Q else j_wp b 159 39 [x0, .int x1] [] H Q) := Eq.trans (s_aload_n r159_32 rfl (j_isr_vc h0 rfl)) (Eq.trans (s_getfi r159_33 (j_al1 h0 rfl) rfl rfl rfl) (s_ifne r159_36 rfl rfl))
theorem b159_39 {b : Nat} {x0 : Value} {x1 : Int32} {H : j_H} {Q : Option Value → j_H → Prop}  : j_wp b 159 39 [x0, .int x1] [] H Q = j_wp b 159 48 [x0, .int x1] [.int (Int32.ofInt (-5))] H Q := Eq.trans (s_bipush r159_39) (s_goto r159_41 rfl)
theorem b159_44 {b : Nat} {x0 : Value} {x1 : Int32} {H : j_H} {Q : Option Value → j_H → Prop} (h0 : j_vc H x0 = 12) : j_wp b 159 44 [x0, .int x1] [] H Q = j_wp b 159 48 [x0, .int x1] [.int (j_I H (j_pa x0) 2)] H Q := Eq.trans (s_aload_n r159_44 rfl (j_isr_vc h0 rfl)) (s_getfi r159_45 (j_al1 h0 rfl) rfl rfl rfl)
theorem b159_48 {b : Nat} {x0 : Value} {x1 : Int32} {y0 : Int32} {H : j_H} {Q : Option Value → j_H → Prop}  : j_wp b 159 48 [x0, .int x1] [.int y0] H Q = Q (some (.int y0)) H := s_ireturn r159_48 (j_rok1 rfl)
theorem b159_49 {b : Nat} {x0 : Value} {x1 : Int32} {H : j_H} {Q : Option Value → j_H → Prop} (h0 : j_vc H x0 = 12) : j_wp b 159 49 [x0, .int x1] [] H Q = Q (some (.int (j_I H (j_pa x0) 3))) H := Eq.trans (s_aload_n r159_49 rfl (j_isr_vc h0 rfl)) (Eq.trans (s_getfi r159_50 (j_al1 h0 rfl) rfl rfl rfl) (s_ireturn r159_53 (j_rok1 rfl)))
theorem b159_54 {b : Nat} {x0 : Value} {x1 : Int32} {H : j_H} {Q : Option Value → j_H → Prop} (h0 : j_vc H x0 = 12) : j_wp (b + 1) 159 54 [x0, .int x1] [] H Q = j_wp b 147 0 [x0, j_u, j_u] [] H (j_k (b + 1) 159 58 [x0, .int x1] [] Q) := Eq.trans (s_aload_n r159_54 rfl (j_isr_vc h0 rfl)) (j_cll (as := [x0]) (es := [x0]) (s_c2 r159_55 rfl h0 rfl rfl (j_dok (s := [x0]) (as := [x0]) (rest := []) (es := [x0]) rfl rfl rfl rfl (j_slc (j_c1r (j_isr_vc h0 rfl)) rfl) rfl)) (j_slc (j_c1r (j_isr_vc h0 rfl)) rfl) rfl)
theorem b159_58 {b : Nat} {x0 : Value} {x1 : Int32} {y0 : Int32} {H : j_H} {Q : Option Value → j_H → Prop}  : j_wp b 159 58 [x0, .int x1] [.int y0] H Q = Q (some (.int y0)) H := s_ireturn r159_58 (j_rok1 rfl)
theorem b159_59 {b : Nat} {x0 : Value} {x1 : Int32} {H : j_H} {Q : Option Value → j_H → Prop} (h0 : j_vc H x0 = 12) : j_wp b 159 59 [x0, .int x1] [] H Q = Q (some (.int (j_I H (j_pa x0) 1))) H := Eq.trans (s_aload_n r159_59 rfl (j_isr_vc h0 rfl)) (Eq.trans (s_getfi r159_60 (j_al1 h0 rfl) rfl rfl rfl) (s_ireturn r159_63 (j_rok1 rfl)))
theorem b159_64 {b : Nat} {x0 : Value} {x1 : Int32} {H : j_H} {Q : Option Value → j_H → Prop}  : j_wp b 159 64 [x0, .int x1] [] H Q = Q (some (.int (Int32.ofInt (-1)))) H := Eq.trans (s_iconst r159_64) (s_ireturn r159_65 (j_rok1 rfl))
-- X12_saying
theorem r160_0 : j_at 160 0 = some (0, .aload_n 0, 1, []) := by decide +kernel
theorem r160_1 : j_at 160 1 = some (1, .getfield 7, 3, [704, 12, 0, 0, 0, 12]) := by decide +kernel
theorem r160_4 : j_at 160 4 = some (4, .ifCond .eq 13, 3, []) := by decide +kernel
theorem r160_7 : j_at 160 7 = some (7, .aload_n 0, 1, []) := by decide +kernel
theorem r160_8 : j_at 160 8 = some (8, .getfield 19, 3, [707, 12, 0, 3, 0, 12]) := by decide +kernel
theorem r160_11 : j_at 160 11 = some (11, .sipush 9999, 3, []) := by decide +kernel
theorem r160_14 : j_at 160 14 = some (14, .if_icmp .ne 6, 3, []) := by decide +kernel
theorem r160_17 : j_at 160 17 = some (17, .bipush (-3), 2, []) := by decide +kernel
theorem r160_19 : j_at 160 19 = some (19, .ireturn, 1, []) := by decide +kernel
theorem r160_20 : j_at 160 20 = some (20, .aload_n 0, 1, []) := by decide +kernel
theorem r160_21 : j_at 160 21 = some (21, .aload_n 0, 1, []) := by decide +kernel
theorem r160_22 : j_at 160 22 = some (22, .getfield 16, 3, [706, 12, 0, 2, 0, 12]) := by decide +kernel
theorem r160_25 : j_at 160 25 = some (25, .aload_n 0, 1, []) := by decide +kernel
theorem r160_26 : j_at 160 26 = some (26, .getfield 19, 3, [707, 12, 0, 3, 0, 12]) := by decide +kernel
theorem r160_29 : j_at 160 29 = some (29, .invokevirtual 280, 3, [2, 3, 155, 891, 892, 50, 77, 0, 12]) := by decide +kernel
theorem r160_32 : j_at 160 32 = some (32, .istore_n 1, 1, []) := by decide +kernel
theorem r160_33 : j_at 160 33 = some (33, .aload_n 0, 1, []) := by decide +kernel
theorem r160_34 : j_at 160 34 = some (34, .aload_n 0, 1, []) := by decide +kernel
theorem r160_35 : j_at 160 35 = some (35, .aload_n 0, 1, []) := by decide +kernel
theorem r160_36 : j_at 160 36 = some (36, .getfield 16, 3, [706, 12, 0, 2, 0, 12]) := by decide +kernel
theorem r160_39 : j_at 160 39 = some (39, .iload_n 1, 1, []) := by decide +kernel
theorem r160_40 : j_at 160 40 = some (40, .invokevirtual 283, 3, [2, 3, 156, 907, 908, 55, 77, 0, 12]) := by decide +kernel
theorem r160_43 : j_at 160 43 = some (43, .putfield 16, 3, [706, 12, 0, 2, 0, 0, 12]) := by decide +kernel
theorem r160_46 : j_at 160 46 = some (46, .aload_n 0, 1, []) := by decide +kernel
theorem r160_47 : j_at 160 47 = some (47, .dup, 1, []) := by decide +kernel
theorem r160_48 : j_at 160 48 = some (48, .getfield 19, 3, [707, 12, 0, 3, 0, 12]) := by decide +kernel
theorem r160_51 : j_at 160 51 = some (51, .iconst 1, 1, []) := by decide +kernel
theorem r160_52 : j_at 160 52 = some (52, .iadd, 1, []) := by decide +kernel
theorem r160_53 : j_at 160 53 = some (53, .putfield 19, 3, [707, 12, 0, 3, 0, 0, 12]) := by decide +kernel
theorem r160_56 : j_at 160 56 = some (56, .iload_n 1, 1, []) := by decide +kernel
theorem r160_57 : j_at 160 57 = some (57, .ireturn, 1, []) := by decide +kernel
theorem b160_0 {b : Nat} {x0 : Value} {u1 : Value} {H : j_H} {Q : Option Value → j_H → Prop} (h0 : j_vc H x0 = 12) : j_wp b 160 0 [x0, u1] [] H Q = (if (j_I H (j_pa x0) 0).toInt = 0 then j_wp b 160 17 [x0, u1] [] H Q else j_wp b 160 7 [x0, u1] [] H Q) := Eq.trans (s_aload_n r160_0 rfl (j_isr_vc h0 rfl)) (Eq.trans (s_getfi r160_1 (j_al1 h0 rfl) rfl rfl rfl) (s_ifeq r160_4 rfl rfl))
theorem b160_7 {b : Nat} {x0 : Value} {u1 : Value} {H : j_H} {Q : Option Value → j_H → Prop} (h0 : j_vc H x0 = 12) : j_wp b 160 7 [x0, u1] [] H Q = (if ¬ (j_I H (j_pa x0) 3).toInt = 9999 then j_wp b 160 20 [x0, u1] [] H Q else j_wp b 160 17 [x0, u1] [] H Q) := Eq.trans (s_aload_n r160_7 rfl (j_isr_vc h0 rfl)) (Eq.trans (s_getfi r160_8 (j_al1 h0 rfl) rfl rfl rfl) (Eq.trans (s_sipush r160_11) (s_icne r160_14 rfl rfl rfl)))
theorem b160_17 {b : Nat} {x0 : Value} {u1 : Value} {H : j_H} {Q : Option Value → j_H → Prop}  : j_wp b 160 17 [x0, u1] [] H Q = Q (some (.int (Int32.ofInt (-3)))) H := Eq.trans (s_bipush r160_17) (s_ireturn r160_19 (j_rok1 rfl))
theorem b160_20 {b : Nat} {x0 : Value} {u1 : Value} {H : j_H} {Q : Option Value → j_H → Prop} (h0 : j_vc H x0 = 12) : j_wp (b + 1) 160 20 [x0, u1] [] H Q = j_wp b 155 0 [x0, .int (j_I H (j_pa x0) 2), .int (j_I H (j_pa x0) 3)] [] H (j_k (b + 1) 160 32 [x0, u1] [] Q) := Eq.trans (s_aload_n r160_20 rfl (j_isr_vc h0 rfl)) (Eq.trans (s_aload_n r160_21 rfl (j_isr_vc h0 rfl)) (Eq.trans (s_getfi r160_22 (j_al1 h0 rfl) rfl rfl rfl) (Eq.trans (s_aload_n r160_25 rfl (j_isr_vc h0 rfl)) (Eq.trans (s_getfi r160_26 (j_al1 h0 rfl) rfl rfl rfl) (j_cll (as := [x0, .int (j_I H (j_pa x0) 2), .int (j_I H (j_pa x0) 3)]) (es := [x0, .int (j_I H (j_pa x0) 2), .int (j_I H (j_pa x0) 3)]) (s_c2 r160_29 rfl h0 rfl rfl (j_dok (s := [.int (j_I H (j_pa x0) 3), .int (j_I H (j_pa x0) 2), x0]) (as := [x0, .int (j_I H (j_pa x0) 2), .int (j_I H (j_pa x0) 3)]) (rest := []) (es := [x0, .int (j_I H (j_pa x0) 2), .int (j_I H (j_pa x0) 3)]) rfl rfl rfl rfl (j_slc (j_c1r (j_isr_vc h0 rfl)) rfl) rfl)) (j_slc (j_c1r (j_isr_vc h0 rfl)) rfl) rfl)))))
theorem b160_32 {b : Nat} {x0 : Value} {u1 : Value} {y0 : Int32} {H : j_H} {Q : Option Value → j_H → Prop} (h0 : j_vc H x0 = 12) : j_wp (b + 1) 160 32 [x0, u1] [.int y0] H Q = j_wp b 156 0 [x0, .int (j_I H (j_pa x0) 2), .int y0, j_u] [] H (j_k (b + 1) 160 43 [x0, .int y0] [x0] Q) := Eq.trans (s_istore_n r160_32 (Nat.le_of_ble_eq_true rfl) (j_stc (j_c1r (j_isr_vc h0 rfl)) rfl)) (Eq.trans (s_aload_n r160_33 rfl (j_isr_vc h0 rfl)) (Eq.trans (s_aload_n r160_34 rfl (j_isr_vc h0 rfl)) (Eq.trans (s_aload_n r160_35 rfl (j_isr_vc h0 rfl)) (Eq.trans (s_getfi r160_36 (j_al1 h0 rfl) rfl rfl rfl) (Eq.trans (s_iload_n r160_39 rfl) (j_cll (as := [x0, .int (j_I H (j_pa x0) 2), .int y0]) (es := [x0, .int (j_I H (j_pa x0) 2), .int y0]) (s_c2 r160_40 rfl h0 rfl rfl (j_dok (s := [.int y0, .int (j_I H (j_pa x0) 2), x0, x0]) (as := [x0, .int (j_I H (j_pa x0) 2), .int y0]) (rest := [x0]) (es := [x0, .int (j_I H (j_pa x0) 2), .int y0]) rfl rfl rfl rfl (j_slc (j_c1r (j_isr_vc h0 rfl)) rfl) rfl)) (j_slc (j_c1r (j_isr_vc h0 rfl)) rfl) rfl))))))
theorem b160_43 {b : Nat} {x0 : Value} {x1 : Int32} {y0 : Int32} {y1 : Value} {H : j_H} {Q : Option Value → j_H → Prop} (h0 : j_vc H y1 = 12) : j_wp b 160 43 [x0, .int x1] [.int y0, y1] H Q = j_wp b 160 46 [x0, .int x1] [] (j_sI H (j_pa y1) 2 y0) Q := s_put r160_43 (j_al1 h0 rfl) rfl j_putI
theorem b160_46 {b : Nat} {x0 : Value} {x1 : Int32} {H : j_H} {Q : Option Value → j_H → Prop} (h0 : j_vc H x0 = 12) : j_wp b 160 46 [x0, .int x1] [] H Q = j_wp b 160 56 [x0, .int x1] [] (j_sI H (j_pa x0) 3 ((j_I H (j_pa x0) 3) + (Int32.ofInt 1))) Q := Eq.trans (s_aload_n r160_46 rfl (j_isr_vc h0 rfl)) (Eq.trans (s_dup r160_47 (j_vc_lt h0 rfl)) (Eq.trans (s_getfi r160_48 (j_al1 h0 rfl) rfl rfl rfl) (Eq.trans (s_iconst r160_51) (Eq.trans (s_iadd r160_52) (s_put r160_53 (j_al1 h0 rfl) rfl j_putI)))))
theorem b160_56 {b : Nat} {x0 : Value} {x1 : Int32} {H : j_H} {Q : Option Value → j_H → Prop}  : j_wp b 160 56 [x0, .int x1] [] H Q = Q (some (.int x1)) H := Eq.trans (s_iload_n r160_56 rfl) (s_ireturn r160_57 (j_rok1 rfl))
-- X12_at
theorem r161_0 : j_at 161 0 = some (0, .aload_n 0, 1, []) := by decide +kernel
theorem r161_1 : j_at 161 1 = some (1, .iload_n 2, 1, []) := by decide +kernel
theorem r161_2 : j_at 161 2 = some (2, .iconst 0, 1, []) := by decide +kernel
theorem r161_3 : j_at 161 3 = some (3, .iconst 1, 1, []) := by decide +kernel
theorem r161_4 : j_at 161 4 = some (4, .invokevirtual 189, 3, [2, 4, 121, 825, 826, 26, 77, 0, 12]) := by decide +kernel
theorem r161_7 : j_at 161 7 = some (7, .ifCond .ne 22, 3, []) := by decide +kernel
theorem r161_10 : j_at 161 10 = some (10, .aload_n 0, 1, []) := by decide +kernel
theorem r161_11 : j_at 161 11 = some (11, .iload_n 2, 1, []) := by decide +kernel
theorem r161_12 : j_at 161 12 = some (12, .bipush 10, 2, []) := by decide +kernel
theorem r161_14 : j_at 161 14 = some (14, .bipush 9, 2, []) := by decide +kernel
theorem r161_16 : j_at 161 16 = some (16, .aload_n 0, 1, []) := by decide +kernel
theorem r161_17 : j_at 161 17 = some (17, .getfield 7, 3, [704, 12, 0, 0, 0, 12]) := by decide +kernel
theorem r161_20 : j_at 161 20 = some (20, .iadd, 1, []) := by decide +kernel
theorem r161_21 : j_at 161 21 = some (21, .invokevirtual 189, 3, [2, 4, 121, 825, 826, 26, 77, 0, 12]) := by decide +kernel
theorem r161_24 : j_at 161 24 = some (24, .ifCond .ne 5, 3, []) := by decide +kernel
theorem r161_27 : j_at 161 27 = some (27, .iconst (-1), 1, []) := by decide +kernel
theorem r161_28 : j_at 161 28 = some (28, .ireturn, 1, []) := by decide +kernel
theorem r161_29 : j_at 161 29 = some (29, .aload_n 0, 1, []) := by decide +kernel
theorem r161_30 : j_at 161 30 = some (30, .iload_n 1, 1, []) := by decide +kernel
theorem r161_31 : j_at 161 31 = some (31, .iconst 0, 1, []) := by decide +kernel
theorem r161_32 : j_at 161 32 = some (32, .bipush 60, 2, []) := by decide +kernel
theorem r161_34 : j_at 161 34 = some (34, .invokevirtual 189, 3, [2, 4, 121, 825, 826, 26, 77, 0, 12]) := by decide +kernel
theorem r161_37 : j_at 161 37 = some (37, .ifCond .ne 6, 3, []) := by decide +kernel
theorem r161_40 : j_at 161 40 = some (40, .bipush (-2), 2, []) := by decide +kernel
theorem r161_42 : j_at 161 42 = some (42, .ireturn, 1, []) := by decide +kernel
theorem r161_43 : j_at 161 43 = some (43, .aload_n 0, 1, []) := by decide +kernel
theorem r161_44 : j_at 161 44 = some (44, .getfield 7, 3, [704, 12, 0, 0, 0, 12]) := by decide +kernel
theorem r161_47 : j_at 161 47 = some (47, .ifCond .ne 6, 3, []) := by decide +kernel
theorem r161_50 : j_at 161 50 = some (50, .bipush (-3), 2, []) := by decide +kernel
theorem r161_52 : j_at 161 52 = some (52, .ireturn, 1, []) := by decide +kernel
theorem r161_53 : j_at 161 53 = some (53, .iconst 0, 1, []) := by decide +kernel
theorem r161_54 : j_at 161 54 = some (54, .istore_n 3, 1, []) := by decide +kernel
theorem r161_55 : j_at 161 55 = some (55, .iload_n 3, 1, []) := by decide +kernel
theorem r161_56 : j_at 161 56 = some (56, .bipush 7, 2, []) := by decide +kernel
theorem r161_58 : j_at 161 58 = some (58, .if_icmp .ge 16, 3, []) := by decide +kernel
theorem r161_61 : j_at 161 61 = some (61, .aload_n 0, 1, []) := by decide +kernel
theorem r161_62 : j_at 161 62 = some (62, .getfield 90, 3, [730, 12, 2, 26, 0, 12]) := by decide +kernel
theorem r161_65 : j_at 161 65 = some (65, .iload_n 3, 1, []) := by decide +kernel
theorem r161_66 : j_at 161 66 = some (66, .iconst 0, 1, []) := by decide +kernel
theorem r161_67 : j_at 161 67 = some (67, .iastore, 1, []) := by decide +kernel
theorem r161_68 : j_at 161 68 = some (68, .iinc 3 1, 3, []) := by decide +kernel
theorem r161_71 : j_at 161 71 = some (71, .goto (-16), 3, []) := by decide +kernel
theorem r161_74 : j_at 161 74 = some (74, .aload_n 0, 1, []) := by decide +kernel
theorem r161_75 : j_at 161 75 = some (75, .getfield 16, 3, [706, 12, 0, 2, 0, 12]) := by decide +kernel
theorem r161_78 : j_at 161 78 = some (78, .istore_n 3, 1, []) := by decide +kernel
theorem r161_79 : j_at 161 79 = some (79, .iconst 0, 1, []) := by decide +kernel
theorem r161_80 : j_at 161 80 = some (80, .istore 4, 2, []) := by decide +kernel
theorem r161_82 : j_at 161 82 = some (82, .iconst 0, 1, []) := by decide +kernel
theorem r161_83 : j_at 161 83 = some (83, .istore 5, 2, []) := by decide +kernel
theorem r161_85 : j_at 161 85 = some (85, .iload 5, 2, []) := by decide +kernel
theorem r161_87 : j_at 161 87 = some (87, .iload_n 1, 1, []) := by decide +kernel
theorem r161_88 : j_at 161 88 = some (88, .if_icmp .ge 50, 3, []) := by decide +kernel
theorem r161_91 : j_at 161 91 = some (91, .aload_n 0, 1, []) := by decide +kernel
theorem r161_92 : j_at 161 92 = some (92, .getfield 90, 3, [730, 12, 2, 26, 0, 12]) := by decide +kernel
theorem r161_95 : j_at 161 95 = some (95, .iload_n 3, 1, []) := by decide +kernel
theorem r161_96 : j_at 161 96 = some (96, .dup2, 1, []) := by decide +kernel
theorem r161_97 : j_at 161 97 = some (97, .iaload, 1, []) := by decide +kernel
theorem r161_98 : j_at 161 98 = some (98, .iconst 1, 1, []) := by decide +kernel
theorem r161_99 : j_at 161 99 = some (99, .iadd, 1, []) := by decide +kernel
theorem r161_100 : j_at 161 100 = some (100, .iastore, 1, []) := by decide +kernel
theorem r161_101 : j_at 161 101 = some (101, .aload_n 0, 1, []) := by decide +kernel
theorem r161_102 : j_at 161 102 = some (102, .iload_n 3, 1, []) := by decide +kernel
theorem r161_103 : j_at 161 103 = some (103, .aload_n 0, 1, []) := by decide +kernel
theorem r161_104 : j_at 161 104 = some (104, .getfield 19, 3, [707, 12, 0, 3, 0, 12]) := by decide +kernel
theorem r161_107 : j_at 161 107 = some (107, .iload 5, 2, []) := by decide +kernel
theorem r161_109 : j_at 161 109 = some (109, .iadd, 1, []) := by decide +kernel
theorem r161_110 : j_at 161 110 = some (110, .invokevirtual 280, 3, [2, 3, 155, 891, 892, 50, 77, 0, 12]) := by decide +kernel
theorem r161_113 : j_at 161 113 = some (113, .istore 6, 2, []) := by decide +kernel
theorem r161_115 : j_at 161 115 = some (115, .iload 4, 2, []) := by decide +kernel
theorem r161_117 : j_at 161 117 = some (117, .iconst 1, 1, []) := by decide +kernel
theorem r161_118 : j_at 161 118 = some (118, .iload 6, 2, []) := by decide +kernel
theorem r161_120 : j_at 161 120 = some (120, .isub, 1, []) := by decide +kernel
theorem r161_121 : j_at 161 121 = some (121, .iadd, 1, []) := by decide +kernel
theorem r161_122 : j_at 161 122 = some (122, .istore 4, 2, []) := by decide +kernel
theorem r161_124 : j_at 161 124 = some (124, .aload_n 0, 1, []) := by decide +kernel
theorem r161_125 : j_at 161 125 = some (125, .iload_n 3, 1, []) := by decide +kernel
theorem r161_126 : j_at 161 126 = some (126, .iload 6, 2, []) := by decide +kernel
theorem r161_128 : j_at 161 128 = some (128, .invokevirtual 283, 3, [2, 3, 156, 907, 908, 55, 77, 0, 12]) := by decide +kernel
theorem r161_131 : j_at 161 131 = some (131, .istore_n 3, 1, []) := by decide +kernel
theorem r161_132 : j_at 161 132 = some (132, .iinc 5 1, 3, []) := by decide +kernel
theorem r161_135 : j_at 161 135 = some (135, .goto (-50), 3, []) := by decide +kernel
theorem r161_138 : j_at 161 138 = some (138, .iload_n 2, 1, []) := by decide +kernel
theorem r161_139 : j_at 161 139 = some (139, .ifCond .ne 7, 3, []) := by decide +kernel
theorem r161_142 : j_at 161 142 = some (142, .iload_n 3, 1, []) := by decide +kernel
theorem r161_143 : j_at 161 143 = some (143, .goto 22, 3, []) := by decide +kernel
theorem r161_146 : j_at 161 146 = some (146, .iload_n 2, 1, []) := by decide +kernel
theorem r161_147 : j_at 161 147 = some (147, .iconst 1, 1, []) := by decide +kernel
theorem r161_148 : j_at 161 148 = some (148, .if_icmp .ne 8, 3, []) := by decide +kernel
theorem r161_151 : j_at 161 151 = some (151, .iload 4, 2, []) := by decide +kernel
theorem r161_153 : j_at 161 153 = some (153, .goto 12, 3, []) := by decide +kernel
theorem r161_156 : j_at 161 156 = some (156, .aload_n 0, 1, []) := by decide +kernel
theorem r161_157 : j_at 161 157 = some (157, .getfield 90, 3, [730, 12, 2, 26, 0, 12]) := by decide +kernel
theorem r161_160 : j_at 161 160 = some (160, .iload_n 2, 1, []) := by decide +kernel
theorem r161_161 : j_at 161 161 = some (161, .bipush 10, 2, []) := by decide +kernel
theorem r161_163 : j_at 161 163 = some (163, .isub, 1, []) := by decide +kernel
theorem r161_164 : j_at 161 164 = some (164, .iaload, 1, []) := by decide +kernel
theorem r161_165 : j_at 161 165 = some (165, .ireturn, 1, []) := by decide +kernel
theorem b161_0 {b : Nat} {x0 : Value} {x1 : Int32} {x2 : Int32} {u3 : Value} {u4 : Value} {u5 : Value} {u6 : Value} {H : j_H} {Q : Option Value → j_H → Prop} (h0 : j_vc H x0 = 12) : j_wp (b + 1) 161 0 [x0, .int x1, .int x2, u3, u4, u5, u6] [] H Q = j_wp b 121 0 [x0, .int x2, .int (Int32.ofInt 0), .int (Int32.ofInt 1)] [] H (j_k (b + 1) 161 7 [x0, .int x1, .int x2, u3, u4, u5, u6] [] Q) := Eq.trans (s_aload_n r161_0 rfl (j_isr_vc h0 rfl)) (Eq.trans (s_iload_n r161_1 rfl) (Eq.trans (s_iconst r161_2) (Eq.trans (s_iconst r161_3) (j_cll (as := [x0, .int x2, .int (Int32.ofInt 0), .int (Int32.ofInt 1)]) (es := [x0, .int x2, .int (Int32.ofInt 0), .int (Int32.ofInt 1)]) (s_c2 r161_4 rfl h0 rfl rfl (j_dok (s := [.int (Int32.ofInt 1), .int (Int32.ofInt 0), .int x2, x0]) (as := [x0, .int x2, .int (Int32.ofInt 0), .int (Int32.ofInt 1)]) (rest := []) (es := [x0, .int x2, .int (Int32.ofInt 0), .int (Int32.ofInt 1)]) rfl rfl rfl rfl (j_slc (j_c1r (j_isr_vc h0 rfl)) rfl) rfl)) (j_slc (j_c1r (j_isr_vc h0 rfl)) rfl) rfl))))
theorem b161_7 {b : Nat} {x0 : Value} {x1 : Int32} {x2 : Int32} {u3 : Value} {u4 : Value} {u5 : Value} {u6 : Value} {y0 : Int32} {H : j_H} {Q : Option Value → j_H → Prop}  : j_wp b 161 7 [x0, .int x1, .int x2, u3, u4, u5, u6] [.int y0] H Q = (if ¬ y0.toInt = 0 then j_wp b 161 29 [x0, .int x1, .int x2, u3, u4, u5, u6] [] H Q else j_wp b 161 10 [x0, .int x1, .int x2, u3, u4, u5, u6] [] H Q) := s_ifne r161_7 rfl rfl
theorem b161_10 {b : Nat} {x0 : Value} {x1 : Int32} {x2 : Int32} {u3 : Value} {u4 : Value} {u5 : Value} {u6 : Value} {H : j_H} {Q : Option Value → j_H → Prop} (h0 : j_vc H x0 = 12) : j_wp (b + 1) 161 10 [x0, .int x1, .int x2, u3, u4, u5, u6] [] H Q = j_wp b 121 0 [x0, .int x2, .int (Int32.ofInt 10), .int ((Int32.ofInt 9) + (j_I H (j_pa x0) 0))] [] H (j_k (b + 1) 161 24 [x0, .int x1, .int x2, u3, u4, u5, u6] [] Q) := Eq.trans (s_aload_n r161_10 rfl (j_isr_vc h0 rfl)) (Eq.trans (s_iload_n r161_11 rfl) (Eq.trans (s_bipush r161_12) (Eq.trans (s_bipush r161_14) (Eq.trans (s_aload_n r161_16 rfl (j_isr_vc h0 rfl)) (Eq.trans (s_getfi r161_17 (j_al1 h0 rfl) rfl rfl rfl) (Eq.trans (s_iadd r161_20) (j_cll (as := [x0, .int x2, .int (Int32.ofInt 10), .int ((Int32.ofInt 9) + (j_I H (j_pa x0) 0))]) (es := [x0, .int x2, .int (Int32.ofInt 10), .int ((Int32.ofInt 9) + (j_I H (j_pa x0) 0))]) (s_c2 r161_21 rfl h0 rfl rfl (j_dok (s := [.int ((Int32.ofInt 9) + (j_I H (j_pa x0) 0)), .int (Int32.ofInt 10), .int x2, x0]) (as := [x0, .int x2, .int (Int32.ofInt 10), .int ((Int32.ofInt 9) + (j_I H (j_pa x0) 0))]) (rest := []) (es := [x0, .int x2, .int (Int32.ofInt 10), .int ((Int32.ofInt 9) + (j_I H (j_pa x0) 0))]) rfl rfl rfl rfl (j_slc (j_c1r (j_isr_vc h0 rfl)) rfl) rfl)) (j_slc (j_c1r (j_isr_vc h0 rfl)) rfl) rfl)))))))
theorem b161_24 {b : Nat} {x0 : Value} {x1 : Int32} {x2 : Int32} {u3 : Value} {u4 : Value} {u5 : Value} {u6 : Value} {y0 : Int32} {H : j_H} {Q : Option Value → j_H → Prop}  : j_wp b 161 24 [x0, .int x1, .int x2, u3, u4, u5, u6] [.int y0] H Q = (if ¬ y0.toInt = 0 then j_wp b 161 29 [x0, .int x1, .int x2, u3, u4, u5, u6] [] H Q else j_wp b 161 27 [x0, .int x1, .int x2, u3, u4, u5, u6] [] H Q) := s_ifne r161_24 rfl rfl
theorem b161_27 {b : Nat} {x0 : Value} {x1 : Int32} {x2 : Int32} {u3 : Value} {u4 : Value} {u5 : Value} {u6 : Value} {H : j_H} {Q : Option Value → j_H → Prop}  : j_wp b 161 27 [x0, .int x1, .int x2, u3, u4, u5, u6] [] H Q = Q (some (.int (Int32.ofInt (-1)))) H := Eq.trans (s_iconst r161_27) (s_ireturn r161_28 (j_rok1 rfl))
theorem b161_29 {b : Nat} {x0 : Value} {x1 : Int32} {x2 : Int32} {u3 : Value} {u4 : Value} {u5 : Value} {u6 : Value} {H : j_H} {Q : Option Value → j_H → Prop} (h0 : j_vc H x0 = 12) : j_wp (b + 1) 161 29 [x0, .int x1, .int x2, u3, u4, u5, u6] [] H Q = j_wp b 121 0 [x0, .int x1, .int (Int32.ofInt 0), .int (Int32.ofInt 60)] [] H (j_k (b + 1) 161 37 [x0, .int x1, .int x2, u3, u4, u5, u6] [] Q) := Eq.trans (s_aload_n r161_29 rfl (j_isr_vc h0 rfl)) (Eq.trans (s_iload_n r161_30 rfl) (Eq.trans (s_iconst r161_31) (Eq.trans (s_bipush r161_32) (j_cll (as := [x0, .int x1, .int (Int32.ofInt 0), .int (Int32.ofInt 60)]) (es := [x0, .int x1, .int (Int32.ofInt 0), .int (Int32.ofInt 60)]) (s_c2 r161_34 rfl h0 rfl rfl (j_dok (s := [.int (Int32.ofInt 60), .int (Int32.ofInt 0), .int x1, x0]) (as := [x0, .int x1, .int (Int32.ofInt 0), .int (Int32.ofInt 60)]) (rest := []) (es := [x0, .int x1, .int (Int32.ofInt 0), .int (Int32.ofInt 60)]) rfl rfl rfl rfl (j_slc (j_c1r (j_isr_vc h0 rfl)) rfl) rfl)) (j_slc (j_c1r (j_isr_vc h0 rfl)) rfl) rfl))))
theorem b161_37 {b : Nat} {x0 : Value} {x1 : Int32} {x2 : Int32} {u3 : Value} {u4 : Value} {u5 : Value} {u6 : Value} {y0 : Int32} {H : j_H} {Q : Option Value → j_H → Prop}  : j_wp b 161 37 [x0, .int x1, .int x2, u3, u4, u5, u6] [.int y0] H Q = (if ¬ y0.toInt = 0 then j_wp b 161 43 [x0, .int x1, .int x2, u3, u4, u5, u6] [] H Q else j_wp b 161 40 [x0, .int x1, .int x2, u3, u4, u5, u6] [] H Q) := s_ifne r161_37 rfl rfl
theorem b161_40 {b : Nat} {x0 : Value} {x1 : Int32} {x2 : Int32} {u3 : Value} {u4 : Value} {u5 : Value} {u6 : Value} {H : j_H} {Q : Option Value → j_H → Prop}  : j_wp b 161 40 [x0, .int x1, .int x2, u3, u4, u5, u6] [] H Q = Q (some (.int (Int32.ofInt (-2)))) H := Eq.trans (s_bipush r161_40) (s_ireturn r161_42 (j_rok1 rfl))
theorem b161_43 {b : Nat} {x0 : Value} {x1 : Int32} {x2 : Int32} {u3 : Value} {u4 : Value} {u5 : Value} {u6 : Value} {H : j_H} {Q : Option Value → j_H → Prop} (h0 : j_vc H x0 = 12) : j_wp b 161 43 [x0, .int x1, .int x2, u3, u4, u5, u6] [] H Q = (if ¬ (j_I H (j_pa x0) 0).toInt = 0 then j_wp b 161 53 [x0, .int x1, .int x2, u3, u4, u5, u6] [] H Q else j_wp b 161 50 [x0, .int x1, .int x2, u3, u4, u5, u6] [] H Q) := Eq.trans (s_aload_n r161_43 rfl (j_isr_vc h0 rfl)) (Eq.trans (s_getfi r161_44 (j_al1 h0 rfl) rfl rfl rfl) (s_ifne r161_47 rfl rfl))
theorem b161_50 {b : Nat} {x0 : Value} {x1 : Int32} {x2 : Int32} {u3 : Value} {u4 : Value} {u5 : Value} {u6 : Value} {H : j_H} {Q : Option Value → j_H → Prop}  : j_wp b 161 50 [x0, .int x1, .int x2, u3, u4, u5, u6] [] H Q = Q (some (.int (Int32.ofInt (-3)))) H := Eq.trans (s_bipush r161_50) (s_ireturn r161_52 (j_rok1 rfl))
theorem b161_53 {b : Nat} {x0 : Value} {x1 : Int32} {x2 : Int32} {u3 : Value} {u4 : Value} {u5 : Value} {u6 : Value} {H : j_H} {Q : Option Value → j_H → Prop}  : j_wp b 161 53 [x0, .int x1, .int x2, u3, u4, u5, u6] [] H Q = j_wp b 161 55 [x0, .int x1, .int x2, .int (Int32.ofInt 0), u4, u5, u6] [] H Q := Eq.trans (s_iconst r161_53) (s_istore_n r161_54 (Nat.le_of_ble_eq_true rfl) rfl)
theorem b161_55 {b : Nat} {x0 : Value} {x1 : Int32} {x2 : Int32} {x3 : Int32} {u4 : Value} {u5 : Value} {u6 : Value} {H : j_H} {Q : Option Value → j_H → Prop}  : j_wp b 161 55 [x0, .int x1, .int x2, .int x3, u4, u5, u6] [] H Q = (if 7 ≤ x3.toInt then j_wp b 161 74 [x0, .int x1, .int x2, .int x3, u4, u5, u6] [] H Q else j_wp b 161 61 [x0, .int x1, .int x2, .int x3, u4, u5, u6] [] H Q) := Eq.trans (s_iload_n r161_55 rfl) (Eq.trans (s_bipush r161_56) (s_icge r161_58 rfl rfl rfl))
theorem b161_61 {b : Nat} {x0 : Value} {x1 : Int32} {x2 : Int32} {x3 : Int32} {u4 : Value} {u5 : Value} {u6 : Value} {H : j_H} {Q : Option Value → j_H → Prop} (h0 : j_vc H x0 = 12) (h1 : j_vt H (va_rf (j_R H (j_pa x0) 26)) = 0) (h2 : 0 ≤ x3.toInt) (h3 : x3.toInt < ((j_vl H (va_rf (j_R H (j_pa x0) 26)) : Nat) : Int)) : j_wp b 161 61 [x0, .int x1, .int x2, .int x3, u4, u5, u6] [] H Q = j_wp b 161 68 [x0, .int x1, .int x2, .int x3, u4, u5, u6] [] (j_sI H (j_pa (va_rf (j_R H (j_pa x0) 26))) (j_ix x3) (Int32.ofInt 0)) Q := Eq.trans (s_aload_n r161_61 rfl (j_isr_vc h0 rfl)) (Eq.trans (s_getfr r161_62 (j_al1 h0 rfl) rfl) (Eq.trans (s_iload_n r161_65 rfl) (Eq.trans (s_iconst r161_66) (s_iast r161_67 h1 (j_ib_of (z := x3.toInt) rfl h2 h3)))))
theorem b161_68 {b : Nat} {x0 : Value} {x1 : Int32} {x2 : Int32} {x3 : Int32} {u4 : Value} {u5 : Value} {u6 : Value} {H : j_H} {Q : Option Value → j_H → Prop}  : j_wp b 161 68 [x0, .int x1, .int x2, .int x3, u4, u5, u6] [] H Q = j_wp b 161 55 [x0, .int x1, .int x2, .int (x3 + Int32.ofInt 1), u4, u5, u6] [] H Q := Eq.trans (s_iinc r161_68 rfl rfl) (s_goto r161_71 rfl)
theorem b161_74 {b : Nat} {x0 : Value} {x1 : Int32} {x2 : Int32} {x3 : Int32} {u4 : Value} {u5 : Value} {u6 : Value} {H : j_H} {Q : Option Value → j_H → Prop} (h0 : j_vc H x0 = 12) : j_wp b 161 74 [x0, .int x1, .int x2, .int x3, u4, u5, u6] [] H Q = j_wp b 161 85 [x0, .int x1, .int x2, .int (j_I H (j_pa x0) 2), .int (Int32.ofInt 0), .int (Int32.ofInt 0), u6] [] H Q := Eq.trans (s_aload_n r161_74 rfl (j_isr_vc h0 rfl)) (Eq.trans (s_getfi r161_75 (j_al1 h0 rfl) rfl rfl rfl) (Eq.trans (s_istore_n r161_78 (Nat.le_of_ble_eq_true rfl) rfl) (Eq.trans (s_iconst r161_79) (Eq.trans (s_istore r161_80 (Nat.le_of_ble_eq_true rfl) rfl) (Eq.trans (s_iconst r161_82) (s_istore r161_83 (Nat.le_of_ble_eq_true rfl) rfl))))))
theorem b161_85 {b : Nat} {x0 : Value} {x1 : Int32} {x2 : Int32} {x3 : Int32} {x4 : Int32} {x5 : Int32} {u6 : Value} {H : j_H} {Q : Option Value → j_H → Prop}  : j_wp b 161 85 [x0, .int x1, .int x2, .int x3, .int x4, .int x5, u6] [] H Q = (if x1.toInt ≤ x5.toInt then j_wp b 161 138 [x0, .int x1, .int x2, .int x3, .int x4, .int x5, u6] [] H Q else j_wp b 161 91 [x0, .int x1, .int x2, .int x3, .int x4, .int x5, u6] [] H Q) := Eq.trans (s_iload r161_85 rfl) (Eq.trans (s_iload_n r161_87 rfl) (s_icge r161_88 rfl rfl rfl))
theorem b161_91 {b : Nat} {x0 : Value} {x1 : Int32} {x2 : Int32} {x3 : Int32} {x4 : Int32} {x5 : Int32} {u6 : Value} {H : j_H} {Q : Option Value → j_H → Prop} (h0 : j_vc H x0 = 12) (h1 : j_vt H (va_rf (j_R H (j_pa x0) 26)) = 0) (h2 : 0 ≤ x3.toInt) (h3 : x3.toInt < ((j_vl H (va_rf (j_R H (j_pa x0) 26)) : Nat) : Int)) : j_wp b 161 91 [x0, .int x1, .int x2, .int x3, .int x4, .int x5, u6] [] H Q = j_wp b 161 101 [x0, .int x1, .int x2, .int x3, .int x4, .int x5, u6] [] (j_sI H (j_pa (va_rf (j_R H (j_pa x0) 26))) (j_ix x3) ((j_I H (j_pa (va_rf (j_R H (j_pa x0) 26))) (j_ix x3)) + (Int32.ofInt 1))) Q := Eq.trans (s_aload_n r161_91 rfl (j_isr_vc h0 rfl)) (Eq.trans (s_getfr r161_92 (j_al1 h0 rfl) rfl) (Eq.trans (s_iload_n r161_95 rfl) (Eq.trans (s_dup2 r161_96 (j_vt_lt h1 rfl)) (Eq.trans (s_iald r161_97 h1 (by decide) (j_ib_of (z := x3.toInt) rfl h2 h3)) (Eq.trans (s_iconst r161_98) (Eq.trans (s_iadd r161_99) (s_iast r161_100 h1 (j_ib_of (z := x3.toInt) rfl h2 h3))))))))
theorem b161_101 {b : Nat} {x0 : Value} {x1 : Int32} {x2 : Int32} {x3 : Int32} {x4 : Int32} {x5 : Int32} {u6 : Value} {H : j_H} {Q : Option Value → j_H → Prop} (h0 : j_vc H x0 = 12) : j_wp (b + 1) 161 101 [x0, .int x1, .int x2, .int x3, .int x4, .int x5, u6] [] H Q = j_wp b 155 0 [x0, .int x3, .int ((j_I H (j_pa x0) 3) + x5)] [] H (j_k (b + 1) 161 113 [x0, .int x1, .int x2, .int x3, .int x4, .int x5, u6] [] Q) := Eq.trans (s_aload_n r161_101 rfl (j_isr_vc h0 rfl)) (Eq.trans (s_iload_n r161_102 rfl) (Eq.trans (s_aload_n r161_103 rfl (j_isr_vc h0 rfl)) (Eq.trans (s_getfi r161_104 (j_al1 h0 rfl) rfl rfl rfl) (Eq.trans (s_iload r161_107 rfl) (Eq.trans (s_iadd r161_109) (j_cll (as := [x0, .int x3, .int ((j_I H (j_pa x0) 3) + x5)]) (es := [x0, .int x3, .int ((j_I H (j_pa x0) 3) + x5)]) (s_c2 r161_110 rfl h0 rfl rfl (j_dok (s := [.int ((j_I H (j_pa x0) 3) + x5), .int x3, x0]) (as := [x0, .int x3, .int ((j_I H (j_pa x0) 3) + x5)]) (rest := []) (es := [x0, .int x3, .int ((j_I H (j_pa x0) 3) + x5)]) rfl rfl rfl rfl (j_slc (j_c1r (j_isr_vc h0 rfl)) rfl) rfl)) (j_slc (j_c1r (j_isr_vc h0 rfl)) rfl) rfl))))))
theorem b161_113 {b : Nat} {x0 : Value} {x1 : Int32} {x2 : Int32} {x3 : Int32} {x4 : Int32} {x5 : Int32} {u6 : Value} {y0 : Int32} {H : j_H} {Q : Option Value → j_H → Prop} (h0 : j_vc H x0 = 12) : j_wp (b + 1) 161 113 [x0, .int x1, .int x2, .int x3, .int x4, .int x5, u6] [.int y0] H Q = j_wp b 156 0 [x0, .int x3, .int y0, j_u] [] H (j_k (b + 1) 161 131 [x0, .int x1, .int x2, .int x3, .int (x4 + ((Int32.ofInt 1) - y0)), .int x5, .int y0] [] Q) := Eq.trans (s_istore r161_113 (Nat.le_of_ble_eq_true rfl) rfl) (Eq.trans (s_iload r161_115 rfl) (Eq.trans (s_iconst r161_117) (Eq.trans (s_iload r161_118 rfl) (Eq.trans (s_isub r161_120) (Eq.trans (s_iadd r161_121) (Eq.trans (s_istore r161_122 (Nat.le_of_ble_eq_true rfl) rfl) (Eq.trans (s_aload_n r161_124 rfl (j_isr_vc h0 rfl)) (Eq.trans (s_iload_n r161_125 rfl) (Eq.trans (s_iload r161_126 rfl) (j_cll (as := [x0, .int x3, .int y0]) (es := [x0, .int x3, .int y0]) (s_c2 r161_128 rfl h0 rfl rfl (j_dok (s := [.int y0, .int x3, x0]) (as := [x0, .int x3, .int y0]) (rest := []) (es := [x0, .int x3, .int y0]) rfl rfl rfl rfl (j_slc (j_c1r (j_isr_vc h0 rfl)) rfl) rfl)) (j_slc (j_c1r (j_isr_vc h0 rfl)) rfl) rfl))))))))))
theorem b161_131 {b : Nat} {x0 : Value} {x1 : Int32} {x2 : Int32} {x3 : Int32} {x4 : Int32} {x5 : Int32} {x6 : Int32} {y0 : Int32} {H : j_H} {Q : Option Value → j_H → Prop}  : j_wp b 161 131 [x0, .int x1, .int x2, .int x3, .int x4, .int x5, .int x6] [.int y0] H Q = j_wp b 161 85 [x0, .int x1, .int x2, .int y0, .int x4, .int (x5 + Int32.ofInt 1), .int x6] [] H Q := Eq.trans (s_istore_n r161_131 (Nat.le_of_ble_eq_true rfl) rfl) (Eq.trans (s_iinc r161_132 rfl rfl) (s_goto r161_135 rfl))
theorem b161_138 {b : Nat} {x0 : Value} {x1 : Int32} {x2 : Int32} {x3 : Int32} {x4 : Int32} {x5 : Int32} {u6 : Value} {H : j_H} {Q : Option Value → j_H → Prop}  : j_wp b 161 138 [x0, .int x1, .int x2, .int x3, .int x4, .int x5, u6] [] H Q = (if ¬ x2.toInt = 0 then j_wp b 161 146 [x0, .int x1, .int x2, .int x3, .int x4, .int x5, u6] [] H Q else j_wp b 161 142 [x0, .int x1, .int x2, .int x3, .int x4, .int x5, u6] [] H Q) := Eq.trans (s_iload_n r161_138 rfl) (s_ifne r161_139 rfl rfl)
theorem b161_142 {b : Nat} {x0 : Value} {x1 : Int32} {x2 : Int32} {x3 : Int32} {x4 : Int32} {x5 : Int32} {u6 : Value} {H : j_H} {Q : Option Value → j_H → Prop}  : j_wp b 161 142 [x0, .int x1, .int x2, .int x3, .int x4, .int x5, u6] [] H Q = j_wp b 161 165 [x0, .int x1, .int x2, .int x3, .int x4, .int x5, u6] [.int x3] H Q := Eq.trans (s_iload_n r161_142 rfl) (s_goto r161_143 rfl)
theorem b161_146 {b : Nat} {x0 : Value} {x1 : Int32} {x2 : Int32} {x3 : Int32} {x4 : Int32} {x5 : Int32} {u6 : Value} {H : j_H} {Q : Option Value → j_H → Prop}  : j_wp b 161 146 [x0, .int x1, .int x2, .int x3, .int x4, .int x5, u6] [] H Q = (if ¬ x2.toInt = 1 then j_wp b 161 156 [x0, .int x1, .int x2, .int x3, .int x4, .int x5, u6] [] H Q else j_wp b 161 151 [x0, .int x1, .int x2, .int x3, .int x4, .int x5, u6] [] H Q) := Eq.trans (s_iload_n r161_146 rfl) (Eq.trans (s_iconst r161_147) (s_icne r161_148 rfl rfl rfl))
theorem b161_151 {b : Nat} {x0 : Value} {x1 : Int32} {x2 : Int32} {x3 : Int32} {x4 : Int32} {x5 : Int32} {u6 : Value} {H : j_H} {Q : Option Value → j_H → Prop}  : j_wp b 161 151 [x0, .int x1, .int x2, .int x3, .int x4, .int x5, u6] [] H Q = j_wp b 161 165 [x0, .int x1, .int x2, .int x3, .int x4, .int x5, u6] [.int x4] H Q := Eq.trans (s_iload r161_151 rfl) (s_goto r161_153 rfl)
theorem b161_156 {b : Nat} {x0 : Value} {x1 : Int32} {x2 : Int32} {x3 : Int32} {x4 : Int32} {x5 : Int32} {u6 : Value} {H : j_H} {Q : Option Value → j_H → Prop} (h0 : j_vc H x0 = 12) (h1 : j_vt H (va_rf (j_R H (j_pa x0) 26)) = 0) (h2 : 0 ≤ (x2 - (Int32.ofInt 10)).toInt) (h3 : (x2 - (Int32.ofInt 10)).toInt < ((j_vl H (va_rf (j_R H (j_pa x0) 26)) : Nat) : Int)) : j_wp b 161 156 [x0, .int x1, .int x2, .int x3, .int x4, .int x5, u6] [] H Q = j_wp b 161 165 [x0, .int x1, .int x2, .int x3, .int x4, .int x5, u6] [.int (j_I H (j_pa (va_rf (j_R H (j_pa x0) 26))) (j_ix (x2 - (Int32.ofInt 10))))] H Q := Eq.trans (s_aload_n r161_156 rfl (j_isr_vc h0 rfl)) (Eq.trans (s_getfr r161_157 (j_al1 h0 rfl) rfl) (Eq.trans (s_iload_n r161_160 rfl) (Eq.trans (s_bipush r161_161) (Eq.trans (s_isub r161_163) (s_iald r161_164 h1 (by decide) (j_ib_of (z := (x2 - (Int32.ofInt 10)).toInt) rfl h2 h3))))))
theorem b161_165 {b : Nat} {x0 : Value} {x1 : Int32} {x2 : Int32} {x3 : Int32} {x4 : Int32} {x5 : Int32} {u6 : Value} {y0 : Int32} {H : j_H} {Q : Option Value → j_H → Prop}  : j_wp b 161 165 [x0, .int x1, .int x2, .int x3, .int x4, .int x5, u6] [.int y0] H Q = Q (some (.int y0)) H := s_ireturn r161_165 (j_rok1 rfl)
-- X12_comes
theorem r162_0 : j_at 162 0 = some (0, .aload_n 0, 1, []) := by decide +kernel
theorem r162_1 : j_at 162 1 = some (1, .iload_n 1, 1, []) := by decide +kernel
theorem r162_2 : j_at 162 2 = some (2, .invokevirtual 193, 3, [2, 2, 124, 833, 834, 27, 77, 0, 12]) := by decide +kernel
theorem r162_5 : j_at 162 5 = some (5, .ifCond .ne 5, 3, []) := by decide +kernel
theorem r162_8 : j_at 162 8 = some (8, .iconst (-1), 1, []) := by decide +kernel
theorem r162_9 : j_at 162 9 = some (9, .ireturn, 1, []) := by decide +kernel
theorem r162_10 : j_at 162 10 = some (10, .aload_n 0, 1, []) := by decide +kernel
theorem r162_11 : j_at 162 11 = some (11, .getfield 16, 3, [706, 12, 0, 2, 0, 12]) := by decide +kernel
theorem r162_14 : j_at 162 14 = some (14, .istore_n 2, 1, []) := by decide +kernel
theorem r162_15 : j_at 162 15 = some (15, .iconst 0, 1, []) := by decide +kernel
theorem r162_16 : j_at 162 16 = some (16, .istore_n 3, 1, []) := by decide +kernel
theorem r162_17 : j_at 162 17 = some (17, .iload_n 3, 1, []) := by decide +kernel
theorem r162_18 : j_at 162 18 = some (18, .bipush 61, 2, []) := by decide +kernel
theorem r162_20 : j_at 162 20 = some (20, .if_icmp .ge 28, 3, []) := by decide +kernel
theorem r162_23 : j_at 162 23 = some (23, .iload_n 2, 1, []) := by decide +kernel
theorem r162_24 : j_at 162 24 = some (24, .iload_n 1, 1, []) := by decide +kernel
theorem r162_25 : j_at 162 25 = some (25, .if_icmp .ne 5, 3, []) := by decide +kernel
theorem r162_28 : j_at 162 28 = some (28, .iload_n 3, 1, []) := by decide +kernel
theorem r162_29 : j_at 162 29 = some (29, .ireturn, 1, []) := by decide +kernel
theorem r162_30 : j_at 162 30 = some (30, .aload_n 0, 1, []) := by decide +kernel
theorem r162_31 : j_at 162 31 = some (31, .iload_n 2, 1, []) := by decide +kernel
theorem r162_32 : j_at 162 32 = some (32, .aload_n 0, 1, []) := by decide +kernel
theorem r162_33 : j_at 162 33 = some (33, .getfield 19, 3, [707, 12, 0, 3, 0, 12]) := by decide +kernel
theorem r162_36 : j_at 162 36 = some (36, .iload_n 3, 1, []) := by decide +kernel
theorem r162_37 : j_at 162 37 = some (37, .iadd, 1, []) := by decide +kernel
theorem r162_38 : j_at 162 38 = some (38, .invokevirtual 289, 3, [2, 3, 157, 918, 919, 56, 77, 0, 12]) := by decide +kernel
theorem r162_41 : j_at 162 41 = some (41, .istore_n 2, 1, []) := by decide +kernel
theorem r162_42 : j_at 162 42 = some (42, .iinc 3 1, 3, []) := by decide +kernel
theorem r162_45 : j_at 162 45 = some (45, .goto (-28), 3, []) := by decide +kernel
theorem r162_48 : j_at 162 48 = some (48, .bipush (-5), 2, []) := by decide +kernel
theorem r162_50 : j_at 162 50 = some (50, .ireturn, 1, []) := by decide +kernel
theorem b162_0 {b : Nat} {x0 : Value} {x1 : Int32} {u2 : Value} {u3 : Value} {H : j_H} {Q : Option Value → j_H → Prop} (h0 : j_vc H x0 = 12) : j_wp (b + 1) 162 0 [x0, .int x1, u2, u3] [] H Q = j_wp b 124 0 [x0, .int x1] [] H (j_k (b + 1) 162 5 [x0, .int x1, u2, u3] [] Q) := Eq.trans (s_aload_n r162_0 rfl (j_isr_vc h0 rfl)) (Eq.trans (s_iload_n r162_1 rfl) (j_cll (as := [x0, .int x1]) (es := [x0, .int x1]) (s_c2 r162_2 rfl h0 rfl rfl (j_dok (s := [.int x1, x0]) (as := [x0, .int x1]) (rest := []) (es := [x0, .int x1]) rfl rfl rfl rfl (j_slc (j_c1r (j_isr_vc h0 rfl)) rfl) rfl)) (j_slc (j_c1r (j_isr_vc h0 rfl)) rfl) rfl))
theorem b162_5 {b : Nat} {x0 : Value} {x1 : Int32} {u2 : Value} {u3 : Value} {y0 : Int32} {H : j_H} {Q : Option Value → j_H → Prop}  : j_wp b 162 5 [x0, .int x1, u2, u3] [.int y0] H Q = (if ¬ y0.toInt = 0 then j_wp b 162 10 [x0, .int x1, u2, u3] [] H Q else j_wp b 162 8 [x0, .int x1, u2, u3] [] H Q) := s_ifne r162_5 rfl rfl
theorem b162_8 {b : Nat} {x0 : Value} {x1 : Int32} {u2 : Value} {u3 : Value} {H : j_H} {Q : Option Value → j_H → Prop}  : j_wp b 162 8 [x0, .int x1, u2, u3] [] H Q = Q (some (.int (Int32.ofInt (-1)))) H := Eq.trans (s_iconst r162_8) (s_ireturn r162_9 (j_rok1 rfl))
theorem b162_10 {b : Nat} {x0 : Value} {x1 : Int32} {u2 : Value} {u3 : Value} {H : j_H} {Q : Option Value → j_H → Prop} (h0 : j_vc H x0 = 12) : j_wp b 162 10 [x0, .int x1, u2, u3] [] H Q = j_wp b 162 17 [x0, .int x1, .int (j_I H (j_pa x0) 2), .int (Int32.ofInt 0)] [] H Q := Eq.trans (s_aload_n r162_10 rfl (j_isr_vc h0 rfl)) (Eq.trans (s_getfi r162_11 (j_al1 h0 rfl) rfl rfl rfl) (Eq.trans (s_istore_n r162_14 (Nat.le_of_ble_eq_true rfl) rfl) (Eq.trans (s_iconst r162_15) (s_istore_n r162_16 (Nat.le_of_ble_eq_true rfl) rfl))))
theorem b162_17 {b : Nat} {x0 : Value} {x1 : Int32} {x2 : Int32} {x3 : Int32} {H : j_H} {Q : Option Value → j_H → Prop}  : j_wp b 162 17 [x0, .int x1, .int x2, .int x3] [] H Q = (if 61 ≤ x3.toInt then j_wp b 162 48 [x0, .int x1, .int x2, .int x3] [] H Q else j_wp b 162 23 [x0, .int x1, .int x2, .int x3] [] H Q) := Eq.trans (s_iload_n r162_17 rfl) (Eq.trans (s_bipush r162_18) (s_icge r162_20 rfl rfl rfl))
theorem b162_23 {b : Nat} {x0 : Value} {x1 : Int32} {x2 : Int32} {x3 : Int32} {H : j_H} {Q : Option Value → j_H → Prop}  : j_wp b 162 23 [x0, .int x1, .int x2, .int x3] [] H Q = (if ¬ x2.toInt = x1.toInt then j_wp b 162 30 [x0, .int x1, .int x2, .int x3] [] H Q else j_wp b 162 28 [x0, .int x1, .int x2, .int x3] [] H Q) := Eq.trans (s_iload_n r162_23 rfl) (Eq.trans (s_iload_n r162_24 rfl) (s_icne r162_25 rfl rfl rfl))
theorem b162_28 {b : Nat} {x0 : Value} {x1 : Int32} {x2 : Int32} {x3 : Int32} {H : j_H} {Q : Option Value → j_H → Prop}  : j_wp b 162 28 [x0, .int x1, .int x2, .int x3] [] H Q = Q (some (.int x3)) H := Eq.trans (s_iload_n r162_28 rfl) (s_ireturn r162_29 (j_rok1 rfl))
theorem b162_30 {b : Nat} {x0 : Value} {x1 : Int32} {x2 : Int32} {x3 : Int32} {H : j_H} {Q : Option Value → j_H → Prop} (h0 : j_vc H x0 = 12) : j_wp (b + 1) 162 30 [x0, .int x1, .int x2, .int x3] [] H Q = j_wp b 157 0 [x0, .int x2, .int ((j_I H (j_pa x0) 3) + x3)] [] H (j_k (b + 1) 162 41 [x0, .int x1, .int x2, .int x3] [] Q) := Eq.trans (s_aload_n r162_30 rfl (j_isr_vc h0 rfl)) (Eq.trans (s_iload_n r162_31 rfl) (Eq.trans (s_aload_n r162_32 rfl (j_isr_vc h0 rfl)) (Eq.trans (s_getfi r162_33 (j_al1 h0 rfl) rfl rfl rfl) (Eq.trans (s_iload_n r162_36 rfl) (Eq.trans (s_iadd r162_37) (j_cll (as := [x0, .int x2, .int ((j_I H (j_pa x0) 3) + x3)]) (es := [x0, .int x2, .int ((j_I H (j_pa x0) 3) + x3)]) (s_c2 r162_38 rfl h0 rfl rfl (j_dok (s := [.int ((j_I H (j_pa x0) 3) + x3), .int x2, x0]) (as := [x0, .int x2, .int ((j_I H (j_pa x0) 3) + x3)]) (rest := []) (es := [x0, .int x2, .int ((j_I H (j_pa x0) 3) + x3)]) rfl rfl rfl rfl (j_slc (j_c1r (j_isr_vc h0 rfl)) rfl) rfl)) (j_slc (j_c1r (j_isr_vc h0 rfl)) rfl) rfl))))))
theorem b162_41 {b : Nat} {x0 : Value} {x1 : Int32} {x2 : Int32} {x3 : Int32} {y0 : Int32} {H : j_H} {Q : Option Value → j_H → Prop}  : j_wp b 162 41 [x0, .int x1, .int x2, .int x3] [.int y0] H Q = j_wp b 162 17 [x0, .int x1, .int y0, .int (x3 + Int32.ofInt 1)] [] H Q := Eq.trans (s_istore_n r162_41 (Nat.le_of_ble_eq_true rfl) rfl) (Eq.trans (s_iinc r162_42 rfl rfl) (s_goto r162_45 rfl))
theorem b162_48 {b : Nat} {x0 : Value} {x1 : Int32} {x2 : Int32} {x3 : Int32} {H : j_H} {Q : Option Value → j_H → Prop}  : j_wp b 162 48 [x0, .int x1, .int x2, .int x3] [] H Q = Q (some (.int (Int32.ofInt (-5)))) H := Eq.trans (s_bipush r162_48) (s_ireturn r162_50 (j_rok1 rfl))
-- X12_soonest
theorem r163_0 : j_at 163 0 = some (0, .aload_n 0, 1, []) := by decide +kernel
theorem r163_1 : j_at 163 1 = some (1, .iload_n 1, 1, []) := by decide +kernel
theorem r163_2 : j_at 163 2 = some (2, .invokevirtual 193, 3, [2, 2, 124, 833, 834, 27, 77, 0, 12]) := by decide +kernel
theorem r163_5 : j_at 163 5 = some (5, .ifCond .eq 11, 3, []) := by decide +kernel
theorem r163_8 : j_at 163 8 = some (8, .aload_n 0, 1, []) := by decide +kernel
theorem r163_9 : j_at 163 9 = some (9, .iload_n 2, 1, []) := by decide +kernel
theorem r163_10 : j_at 163 10 = some (10, .invokevirtual 193, 3, [2, 2, 124, 833, 834, 27, 77, 0, 12]) := by decide +kernel
theorem r163_13 : j_at 163 13 = some (13, .ifCond .ne 5, 3, []) := by decide +kernel
theorem r163_16 : j_at 163 16 = some (16, .iconst (-1), 1, []) := by decide +kernel
theorem r163_17 : j_at 163 17 = some (17, .ireturn, 1, []) := by decide +kernel
theorem r163_18 : j_at 163 18 = some (18, .iload_n 1, 1, []) := by decide +kernel
theorem r163_19 : j_at 163 19 = some (19, .istore_n 3, 1, []) := by decide +kernel
theorem r163_20 : j_at 163 20 = some (20, .iload_n 1, 1, []) := by decide +kernel
theorem r163_21 : j_at 163 21 = some (21, .istore 4, 2, []) := by decide +kernel
theorem r163_23 : j_at 163 23 = some (23, .iconst 0, 1, []) := by decide +kernel
theorem r163_24 : j_at 163 24 = some (24, .istore 5, 2, []) := by decide +kernel
theorem r163_26 : j_at 163 26 = some (26, .iload 5, 2, []) := by decide +kernel
theorem r163_28 : j_at 163 28 = some (28, .bipush 8, 2, []) := by decide +kernel
theorem r163_30 : j_at 163 30 = some (30, .if_icmp .ge 39, 3, []) := by decide +kernel
theorem r163_33 : j_at 163 33 = some (33, .iload_n 3, 1, []) := by decide +kernel
theorem r163_34 : j_at 163 34 = some (34, .iload_n 2, 1, []) := by decide +kernel
theorem r163_35 : j_at 163 35 = some (35, .if_icmp .eq 9, 3, []) := by decide +kernel
theorem r163_38 : j_at 163 38 = some (38, .iload 4, 2, []) := by decide +kernel
theorem r163_40 : j_at 163 40 = some (40, .iload_n 2, 1, []) := by decide +kernel
theorem r163_41 : j_at 163 41 = some (41, .if_icmp .ne 6, 3, []) := by decide +kernel
theorem r163_44 : j_at 163 44 = some (44, .iload 5, 2, []) := by decide +kernel
theorem r163_46 : j_at 163 46 = some (46, .ireturn, 1, []) := by decide +kernel
theorem r163_47 : j_at 163 47 = some (47, .aload_n 0, 1, []) := by decide +kernel
theorem r163_48 : j_at 163 48 = some (48, .iload_n 3, 1, []) := by decide +kernel
theorem r163_49 : j_at 163 49 = some (49, .iconst 1, 1, []) := by decide +kernel
theorem r163_50 : j_at 163 50 = some (50, .invokevirtual 283, 3, [2, 3, 156, 907, 908, 55, 77, 0, 12]) := by decide +kernel
theorem r163_53 : j_at 163 53 = some (53, .istore_n 3, 1, []) := by decide +kernel
theorem r163_54 : j_at 163 54 = some (54, .aload_n 0, 1, []) := by decide +kernel
theorem r163_55 : j_at 163 55 = some (55, .iload 4, 2, []) := by decide +kernel
theorem r163_57 : j_at 163 57 = some (57, .iconst 0, 1, []) := by decide +kernel
theorem r163_58 : j_at 163 58 = some (58, .invokevirtual 283, 3, [2, 3, 156, 907, 908, 55, 77, 0, 12]) := by decide +kernel
theorem r163_61 : j_at 163 61 = some (61, .istore 4, 2, []) := by decide +kernel
theorem r163_63 : j_at 163 63 = some (63, .iinc 5 1, 3, []) := by decide +kernel
theorem r163_66 : j_at 163 66 = some (66, .goto (-40), 3, []) := by decide +kernel
theorem r163_69 : j_at 163 69 = some (69, .bipush (-5), 2, []) := by decide +kernel
theorem r163_71 : j_at 163 71 = some (71, .ireturn, 1, []) := by decide +kernel
theorem b163_0 {b : Nat} {x0 : Value} {x1 : Int32} {x2 : Int32} {u3 : Value} {u4 : Value} {u5 : Value} {H : j_H} {Q : Option Value → j_H → Prop} (h0 : j_vc H x0 = 12) : j_wp (b + 1) 163 0 [x0, .int x1, .int x2, u3, u4, u5] [] H Q = j_wp b 124 0 [x0, .int x1] [] H (j_k (b + 1) 163 5 [x0, .int x1, .int x2, u3, u4, u5] [] Q) := Eq.trans (s_aload_n r163_0 rfl (j_isr_vc h0 rfl)) (Eq.trans (s_iload_n r163_1 rfl) (j_cll (as := [x0, .int x1]) (es := [x0, .int x1]) (s_c2 r163_2 rfl h0 rfl rfl (j_dok (s := [.int x1, x0]) (as := [x0, .int x1]) (rest := []) (es := [x0, .int x1]) rfl rfl rfl rfl (j_slc (j_c1r (j_isr_vc h0 rfl)) rfl) rfl)) (j_slc (j_c1r (j_isr_vc h0 rfl)) rfl) rfl))
theorem b163_5 {b : Nat} {x0 : Value} {x1 : Int32} {x2 : Int32} {u3 : Value} {u4 : Value} {u5 : Value} {y0 : Int32} {H : j_H} {Q : Option Value → j_H → Prop}  : j_wp b 163 5 [x0, .int x1, .int x2, u3, u4, u5] [.int y0] H Q = (if y0.toInt = 0 then j_wp b 163 16 [x0, .int x1, .int x2, u3, u4, u5] [] H Q else j_wp b 163 8 [x0, .int x1, .int x2, u3, u4, u5] [] H Q) := s_ifeq r163_5 rfl rfl
theorem b163_8 {b : Nat} {x0 : Value} {x1 : Int32} {x2 : Int32} {u3 : Value} {u4 : Value} {u5 : Value} {H : j_H} {Q : Option Value → j_H → Prop} (h0 : j_vc H x0 = 12) : j_wp (b + 1) 163 8 [x0, .int x1, .int x2, u3, u4, u5] [] H Q = j_wp b 124 0 [x0, .int x2] [] H (j_k (b + 1) 163 13 [x0, .int x1, .int x2, u3, u4, u5] [] Q) := Eq.trans (s_aload_n r163_8 rfl (j_isr_vc h0 rfl)) (Eq.trans (s_iload_n r163_9 rfl) (j_cll (as := [x0, .int x2]) (es := [x0, .int x2]) (s_c2 r163_10 rfl h0 rfl rfl (j_dok (s := [.int x2, x0]) (as := [x0, .int x2]) (rest := []) (es := [x0, .int x2]) rfl rfl rfl rfl (j_slc (j_c1r (j_isr_vc h0 rfl)) rfl) rfl)) (j_slc (j_c1r (j_isr_vc h0 rfl)) rfl) rfl))
theorem b163_13 {b : Nat} {x0 : Value} {x1 : Int32} {x2 : Int32} {u3 : Value} {u4 : Value} {u5 : Value} {y0 : Int32} {H : j_H} {Q : Option Value → j_H → Prop}  : j_wp b 163 13 [x0, .int x1, .int x2, u3, u4, u5] [.int y0] H Q = (if ¬ y0.toInt = 0 then j_wp b 163 18 [x0, .int x1, .int x2, u3, u4, u5] [] H Q else j_wp b 163 16 [x0, .int x1, .int x2, u3, u4, u5] [] H Q) := s_ifne r163_13 rfl rfl
theorem b163_16 {b : Nat} {x0 : Value} {x1 : Int32} {x2 : Int32} {u3 : Value} {u4 : Value} {u5 : Value} {H : j_H} {Q : Option Value → j_H → Prop}  : j_wp b 163 16 [x0, .int x1, .int x2, u3, u4, u5] [] H Q = Q (some (.int (Int32.ofInt (-1)))) H := Eq.trans (s_iconst r163_16) (s_ireturn r163_17 (j_rok1 rfl))
theorem b163_18 {b : Nat} {x0 : Value} {x1 : Int32} {x2 : Int32} {u3 : Value} {u4 : Value} {u5 : Value} {H : j_H} {Q : Option Value → j_H → Prop}  : j_wp b 163 18 [x0, .int x1, .int x2, u3, u4, u5] [] H Q = j_wp b 163 26 [x0, .int x1, .int x2, .int x1, .int x1, .int (Int32.ofInt 0)] [] H Q := Eq.trans (s_iload_n r163_18 rfl) (Eq.trans (s_istore_n r163_19 (Nat.le_of_ble_eq_true rfl) rfl) (Eq.trans (s_iload_n r163_20 rfl) (Eq.trans (s_istore r163_21 (Nat.le_of_ble_eq_true rfl) rfl) (Eq.trans (s_iconst r163_23) (s_istore r163_24 (Nat.le_of_ble_eq_true rfl) rfl)))))
theorem b163_26 {b : Nat} {x0 : Value} {x1 : Int32} {x2 : Int32} {x3 : Int32} {x4 : Int32} {x5 : Int32} {H : j_H} {Q : Option Value → j_H → Prop}  : j_wp b 163 26 [x0, .int x1, .int x2, .int x3, .int x4, .int x5] [] H Q = (if 8 ≤ x5.toInt then j_wp b 163 69 [x0, .int x1, .int x2, .int x3, .int x4, .int x5] [] H Q else j_wp b 163 33 [x0, .int x1, .int x2, .int x3, .int x4, .int x5] [] H Q) := Eq.trans (s_iload r163_26 rfl) (Eq.trans (s_bipush r163_28) (s_icge r163_30 rfl rfl rfl))
theorem b163_33 {b : Nat} {x0 : Value} {x1 : Int32} {x2 : Int32} {x3 : Int32} {x4 : Int32} {x5 : Int32} {H : j_H} {Q : Option Value → j_H → Prop}  : j_wp b 163 33 [x0, .int x1, .int x2, .int x3, .int x4, .int x5] [] H Q = (if x3.toInt = x2.toInt then j_wp b 163 44 [x0, .int x1, .int x2, .int x3, .int x4, .int x5] [] H Q else j_wp b 163 38 [x0, .int x1, .int x2, .int x3, .int x4, .int x5] [] H Q) := Eq.trans (s_iload_n r163_33 rfl) (Eq.trans (s_iload_n r163_34 rfl) (s_iceq r163_35 rfl rfl rfl))
theorem b163_38 {b : Nat} {x0 : Value} {x1 : Int32} {x2 : Int32} {x3 : Int32} {x4 : Int32} {x5 : Int32} {H : j_H} {Q : Option Value → j_H → Prop}  : j_wp b 163 38 [x0, .int x1, .int x2, .int x3, .int x4, .int x5] [] H Q = (if ¬ x4.toInt = x2.toInt then j_wp b 163 47 [x0, .int x1, .int x2, .int x3, .int x4, .int x5] [] H Q else j_wp b 163 44 [x0, .int x1, .int x2, .int x3, .int x4, .int x5] [] H Q) := Eq.trans (s_iload r163_38 rfl) (Eq.trans (s_iload_n r163_40 rfl) (s_icne r163_41 rfl rfl rfl))
theorem b163_44 {b : Nat} {x0 : Value} {x1 : Int32} {x2 : Int32} {x3 : Int32} {x4 : Int32} {x5 : Int32} {H : j_H} {Q : Option Value → j_H → Prop}  : j_wp b 163 44 [x0, .int x1, .int x2, .int x3, .int x4, .int x5] [] H Q = Q (some (.int x5)) H := Eq.trans (s_iload r163_44 rfl) (s_ireturn r163_46 (j_rok1 rfl))
theorem b163_47 {b : Nat} {x0 : Value} {x1 : Int32} {x2 : Int32} {x3 : Int32} {x4 : Int32} {x5 : Int32} {H : j_H} {Q : Option Value → j_H → Prop} (h0 : j_vc H x0 = 12) : j_wp (b + 1) 163 47 [x0, .int x1, .int x2, .int x3, .int x4, .int x5] [] H Q = j_wp b 156 0 [x0, .int x3, .int (Int32.ofInt 1), j_u] [] H (j_k (b + 1) 163 53 [x0, .int x1, .int x2, .int x3, .int x4, .int x5] [] Q) := Eq.trans (s_aload_n r163_47 rfl (j_isr_vc h0 rfl)) (Eq.trans (s_iload_n r163_48 rfl) (Eq.trans (s_iconst r163_49) (j_cll (as := [x0, .int x3, .int (Int32.ofInt 1)]) (es := [x0, .int x3, .int (Int32.ofInt 1)]) (s_c2 r163_50 rfl h0 rfl rfl (j_dok (s := [.int (Int32.ofInt 1), .int x3, x0]) (as := [x0, .int x3, .int (Int32.ofInt 1)]) (rest := []) (es := [x0, .int x3, .int (Int32.ofInt 1)]) rfl rfl rfl rfl (j_slc (j_c1r (j_isr_vc h0 rfl)) rfl) rfl)) (j_slc (j_c1r (j_isr_vc h0 rfl)) rfl) rfl)))
theorem b163_53 {b : Nat} {x0 : Value} {x1 : Int32} {x2 : Int32} {x3 : Int32} {x4 : Int32} {x5 : Int32} {y0 : Int32} {H : j_H} {Q : Option Value → j_H → Prop} (h0 : j_vc H x0 = 12) : j_wp (b + 1) 163 53 [x0, .int x1, .int x2, .int x3, .int x4, .int x5] [.int y0] H Q = j_wp b 156 0 [x0, .int x4, .int (Int32.ofInt 0), j_u] [] H (j_k (b + 1) 163 61 [x0, .int x1, .int x2, .int y0, .int x4, .int x5] [] Q) := Eq.trans (s_istore_n r163_53 (Nat.le_of_ble_eq_true rfl) rfl) (Eq.trans (s_aload_n r163_54 rfl (j_isr_vc h0 rfl)) (Eq.trans (s_iload r163_55 rfl) (Eq.trans (s_iconst r163_57) (j_cll (as := [x0, .int x4, .int (Int32.ofInt 0)]) (es := [x0, .int x4, .int (Int32.ofInt 0)]) (s_c2 r163_58 rfl h0 rfl rfl (j_dok (s := [.int (Int32.ofInt 0), .int x4, x0]) (as := [x0, .int x4, .int (Int32.ofInt 0)]) (rest := []) (es := [x0, .int x4, .int (Int32.ofInt 0)]) rfl rfl rfl rfl (j_slc (j_c1r (j_isr_vc h0 rfl)) rfl) rfl)) (j_slc (j_c1r (j_isr_vc h0 rfl)) rfl) rfl))))
theorem b163_61 {b : Nat} {x0 : Value} {x1 : Int32} {x2 : Int32} {x3 : Int32} {x4 : Int32} {x5 : Int32} {y0 : Int32} {H : j_H} {Q : Option Value → j_H → Prop}  : j_wp b 163 61 [x0, .int x1, .int x2, .int x3, .int x4, .int x5] [.int y0] H Q = j_wp b 163 26 [x0, .int x1, .int x2, .int x3, .int y0, .int (x5 + Int32.ofInt 1)] [] H Q := Eq.trans (s_istore r163_61 (Nat.le_of_ble_eq_true rfl) rfl) (Eq.trans (s_iinc r163_63 rfl rfl) (s_goto r163_66 rfl))
theorem b163_69 {b : Nat} {x0 : Value} {x1 : Int32} {x2 : Int32} {x3 : Int32} {x4 : Int32} {x5 : Int32} {H : j_H} {Q : Option Value → j_H → Prop}  : j_wp b 163 69 [x0, .int x1, .int x2, .int x3, .int x4, .int x5] [] H Q = Q (some (.int (Int32.ofInt (-5)))) H := Eq.trans (s_bipush r163_69) (s_ireturn r163_71 (j_rok1 rfl))
-- X12_keeps
theorem r164_0 : j_at 164 0 = some (0, .aload_n 0, 1, []) := by decide +kernel
theorem r164_1 : j_at 164 1 = some (1, .iload_n 1, 1, []) := by decide +kernel
theorem r164_2 : j_at 164 2 = some (2, .invokevirtual 193, 3, [2, 2, 124, 833, 834, 27, 77, 0, 12]) := by decide +kernel
theorem r164_5 : j_at 164 5 = some (5, .ifCond .ne 5, 3, []) := by decide +kernel
theorem r164_8 : j_at 164 8 = some (8, .iconst (-1), 1, []) := by decide +kernel
theorem r164_9 : j_at 164 9 = some (9, .ireturn, 1, []) := by decide +kernel
theorem r164_10 : j_at 164 10 = some (10, .aload_n 0, 1, []) := by decide +kernel
theorem r164_11 : j_at 164 11 = some (11, .iload_n 2, 1, []) := by decide +kernel
theorem r164_12 : j_at 164 12 = some (12, .iconst 0, 1, []) := by decide +kernel
theorem r164_13 : j_at 164 13 = some (13, .bipush 12, 2, []) := by decide +kernel
theorem r164_15 : j_at 164 15 = some (15, .invokevirtual 189, 3, [2, 4, 121, 825, 826, 26, 77, 0, 12]) := by decide +kernel
theorem r164_18 : j_at 164 18 = some (18, .ifCond .ne 6, 3, []) := by decide +kernel
theorem r164_21 : j_at 164 21 = some (21, .bipush (-2), 2, []) := by decide +kernel
theorem r164_23 : j_at 164 23 = some (23, .ireturn, 1, []) := by decide +kernel
theorem r164_24 : j_at 164 24 = some (24, .iconst 0, 1, []) := by decide +kernel
theorem r164_25 : j_at 164 25 = some (25, .istore_n 3, 1, []) := by decide +kernel
theorem r164_26 : j_at 164 26 = some (26, .iconst 0, 1, []) := by decide +kernel
theorem r164_27 : j_at 164 27 = some (27, .istore 4, 2, []) := by decide +kernel
theorem r164_29 : j_at 164 29 = some (29, .iload 4, 2, []) := by decide +kernel
theorem r164_31 : j_at 164 31 = some (31, .iconst 1, 1, []) := by decide +kernel
theorem r164_32 : j_at 164 32 = some (32, .iload_n 2, 1, []) := by decide +kernel
theorem r164_33 : j_at 164 33 = some (33, .ishl, 1, []) := by decide +kernel
theorem r164_34 : j_at 164 34 = some (34, .if_icmp .ge 89, 3, []) := by decide +kernel
theorem r164_37 : j_at 164 37 = some (37, .aload_n 0, 1, []) := by decide +kernel
theorem r164_38 : j_at 164 38 = some (38, .getfield 16, 3, [706, 12, 0, 2, 0, 12]) := by decide +kernel
theorem r164_41 : j_at 164 41 = some (41, .istore 5, 2, []) := by decide +kernel
theorem r164_43 : j_at 164 43 = some (43, .iload 5, 2, []) := by decide +kernel
theorem r164_45 : j_at 164 45 = some (45, .iload_n 1, 1, []) := by decide +kernel
theorem r164_46 : j_at 164 46 = some (46, .if_icmp .eq 7, 3, []) := by decide +kernel
theorem r164_49 : j_at 164 49 = some (49, .iconst 1, 1, []) := by decide +kernel
theorem r164_50 : j_at 164 50 = some (50, .goto 4, 3, []) := by decide +kernel
theorem r164_53 : j_at 164 53 = some (53, .iconst 0, 1, []) := by decide +kernel
theorem r164_54 : j_at 164 54 = some (54, .istore 6, 2, []) := by decide +kernel
theorem r164_56 : j_at 164 56 = some (56, .iconst 0, 1, []) := by decide +kernel
theorem r164_57 : j_at 164 57 = some (57, .istore 7, 2, []) := by decide +kernel
theorem r164_59 : j_at 164 59 = some (59, .iload 7, 2, []) := by decide +kernel
theorem r164_61 : j_at 164 61 = some (61, .iload_n 2, 1, []) := by decide +kernel
theorem r164_62 : j_at 164 62 = some (62, .if_icmp .ge 42, 3, []) := by decide +kernel
theorem r164_65 : j_at 164 65 = some (65, .iload 6, 2, []) := by decide +kernel
theorem r164_67 : j_at 164 67 = some (67, .ifCond .eq 37, 3, []) := by decide +kernel
theorem r164_70 : j_at 164 70 = some (70, .aload_n 0, 1, []) := by decide +kernel
theorem r164_71 : j_at 164 71 = some (71, .iload 5, 2, []) := by decide +kernel
theorem r164_73 : j_at 164 73 = some (73, .iload 4, 2, []) := by decide +kernel
theorem r164_75 : j_at 164 75 = some (75, .iload 7, 2, []) := by decide +kernel
theorem r164_77 : j_at 164 77 = some (77, .ishr, 1, []) := by decide +kernel
theorem r164_78 : j_at 164 78 = some (78, .iconst 1, 1, []) := by decide +kernel
theorem r164_79 : j_at 164 79 = some (79, .iand, 1, []) := by decide +kernel
theorem r164_80 : j_at 164 80 = some (80, .invokevirtual 283, 3, [2, 3, 156, 907, 908, 55, 77, 0, 12]) := by decide +kernel
theorem r164_83 : j_at 164 83 = some (83, .istore 5, 2, []) := by decide +kernel
theorem r164_85 : j_at 164 85 = some (85, .iload 5, 2, []) := by decide +kernel
theorem r164_87 : j_at 164 87 = some (87, .iload_n 1, 1, []) := by decide +kernel
theorem r164_88 : j_at 164 88 = some (88, .if_icmp .eq 7, 3, []) := by decide +kernel
theorem r164_91 : j_at 164 91 = some (91, .iconst 1, 1, []) := by decide +kernel
theorem r164_92 : j_at 164 92 = some (92, .goto 4, 3, []) := by decide +kernel
theorem r164_95 : j_at 164 95 = some (95, .iconst 0, 1, []) := by decide +kernel
theorem r164_96 : j_at 164 96 = some (96, .istore 6, 2, []) := by decide +kernel
theorem r164_98 : j_at 164 98 = some (98, .iinc 7 1, 3, []) := by decide +kernel
theorem r164_101 : j_at 164 101 = some (101, .goto (-42), 3, []) := by decide +kernel
theorem r164_104 : j_at 164 104 = some (104, .iload_n 3, 1, []) := by decide +kernel
theorem r164_105 : j_at 164 105 = some (105, .iload 6, 2, []) := by decide +kernel
theorem r164_107 : j_at 164 107 = some (107, .ifCond .eq 7, 3, []) := by decide +kernel
theorem r164_110 : j_at 164 110 = some (110, .iconst 1, 1, []) := by decide +kernel
theorem r164_111 : j_at 164 111 = some (111, .goto 4, 3, []) := by decide +kernel
theorem r164_114 : j_at 164 114 = some (114, .iconst 0, 1, []) := by decide +kernel
theorem r164_115 : j_at 164 115 = some (115, .iadd, 1, []) := by decide +kernel
theorem r164_116 : j_at 164 116 = some (116, .istore_n 3, 1, []) := by decide +kernel
theorem r164_117 : j_at 164 117 = some (117, .iinc 4 1, 3, []) := by decide +kernel
theorem r164_120 : j_at 164 120 = some (120, .goto (-91), 3, []) := by decide +kernel
theorem r164_123 : j_at 164 123 = some (123, .iload_n 3, 1, []) := by decide +kernel
theorem r164_124 : j_at 164 124 = some (124, .ireturn, 1, []) := by decide +kernel
theorem b164_0 {b : Nat} {x0 : Value} {x1 : Int32} {x2 : Int32} {u3 : Value} {u4 : Value} {u5 : Value} {u6 : Value} {u7 : Value} {H : j_H} {Q : Option Value → j_H → Prop} (h0 : j_vc H x0 = 12) : j_wp (b + 1) 164 0 [x0, .int x1, .int x2, u3, u4, u5, u6, u7] [] H Q = j_wp b 124 0 [x0, .int x1] [] H (j_k (b + 1) 164 5 [x0, .int x1, .int x2, u3, u4, u5, u6, u7] [] Q) := Eq.trans (s_aload_n r164_0 rfl (j_isr_vc h0 rfl)) (Eq.trans (s_iload_n r164_1 rfl) (j_cll (as := [x0, .int x1]) (es := [x0, .int x1]) (s_c2 r164_2 rfl h0 rfl rfl (j_dok (s := [.int x1, x0]) (as := [x0, .int x1]) (rest := []) (es := [x0, .int x1]) rfl rfl rfl rfl (j_slc (j_c1r (j_isr_vc h0 rfl)) rfl) rfl)) (j_slc (j_c1r (j_isr_vc h0 rfl)) rfl) rfl))
theorem b164_5 {b : Nat} {x0 : Value} {x1 : Int32} {x2 : Int32} {u3 : Value} {u4 : Value} {u5 : Value} {u6 : Value} {u7 : Value} {y0 : Int32} {H : j_H} {Q : Option Value → j_H → Prop}  : j_wp b 164 5 [x0, .int x1, .int x2, u3, u4, u5, u6, u7] [.int y0] H Q = (if ¬ y0.toInt = 0 then j_wp b 164 10 [x0, .int x1, .int x2, u3, u4, u5, u6, u7] [] H Q else j_wp b 164 8 [x0, .int x1, .int x2, u3, u4, u5, u6, u7] [] H Q) := s_ifne r164_5 rfl rfl
theorem b164_8 {b : Nat} {x0 : Value} {x1 : Int32} {x2 : Int32} {u3 : Value} {u4 : Value} {u5 : Value} {u6 : Value} {u7 : Value} {H : j_H} {Q : Option Value → j_H → Prop}  : j_wp b 164 8 [x0, .int x1, .int x2, u3, u4, u5, u6, u7] [] H Q = Q (some (.int (Int32.ofInt (-1)))) H := Eq.trans (s_iconst r164_8) (s_ireturn r164_9 (j_rok1 rfl))
theorem b164_10 {b : Nat} {x0 : Value} {x1 : Int32} {x2 : Int32} {u3 : Value} {u4 : Value} {u5 : Value} {u6 : Value} {u7 : Value} {H : j_H} {Q : Option Value → j_H → Prop} (h0 : j_vc H x0 = 12) : j_wp (b + 1) 164 10 [x0, .int x1, .int x2, u3, u4, u5, u6, u7] [] H Q = j_wp b 121 0 [x0, .int x2, .int (Int32.ofInt 0), .int (Int32.ofInt 12)] [] H (j_k (b + 1) 164 18 [x0, .int x1, .int x2, u3, u4, u5, u6, u7] [] Q) := Eq.trans (s_aload_n r164_10 rfl (j_isr_vc h0 rfl)) (Eq.trans (s_iload_n r164_11 rfl) (Eq.trans (s_iconst r164_12) (Eq.trans (s_bipush r164_13) (j_cll (as := [x0, .int x2, .int (Int32.ofInt 0), .int (Int32.ofInt 12)]) (es := [x0, .int x2, .int (Int32.ofInt 0), .int (Int32.ofInt 12)]) (s_c2 r164_15 rfl h0 rfl rfl (j_dok (s := [.int (Int32.ofInt 12), .int (Int32.ofInt 0), .int x2, x0]) (as := [x0, .int x2, .int (Int32.ofInt 0), .int (Int32.ofInt 12)]) (rest := []) (es := [x0, .int x2, .int (Int32.ofInt 0), .int (Int32.ofInt 12)]) rfl rfl rfl rfl (j_slc (j_c1r (j_isr_vc h0 rfl)) rfl) rfl)) (j_slc (j_c1r (j_isr_vc h0 rfl)) rfl) rfl))))
theorem b164_18 {b : Nat} {x0 : Value} {x1 : Int32} {x2 : Int32} {u3 : Value} {u4 : Value} {u5 : Value} {u6 : Value} {u7 : Value} {y0 : Int32} {H : j_H} {Q : Option Value → j_H → Prop}  : j_wp b 164 18 [x0, .int x1, .int x2, u3, u4, u5, u6, u7] [.int y0] H Q = (if ¬ y0.toInt = 0 then j_wp b 164 24 [x0, .int x1, .int x2, u3, u4, u5, u6, u7] [] H Q else j_wp b 164 21 [x0, .int x1, .int x2, u3, u4, u5, u6, u7] [] H Q) := s_ifne r164_18 rfl rfl
theorem b164_21 {b : Nat} {x0 : Value} {x1 : Int32} {x2 : Int32} {u3 : Value} {u4 : Value} {u5 : Value} {u6 : Value} {u7 : Value} {H : j_H} {Q : Option Value → j_H → Prop}  : j_wp b 164 21 [x0, .int x1, .int x2, u3, u4, u5, u6, u7] [] H Q = Q (some (.int (Int32.ofInt (-2)))) H := Eq.trans (s_bipush r164_21) (s_ireturn r164_23 (j_rok1 rfl))
theorem b164_24 {b : Nat} {x0 : Value} {x1 : Int32} {x2 : Int32} {u3 : Value} {u4 : Value} {u5 : Value} {u6 : Value} {u7 : Value} {H : j_H} {Q : Option Value → j_H → Prop}  : j_wp b 164 24 [x0, .int x1, .int x2, u3, u4, u5, u6, u7] [] H Q = j_wp b 164 29 [x0, .int x1, .int x2, .int (Int32.ofInt 0), .int (Int32.ofInt 0), u5, u6, u7] [] H Q := Eq.trans (s_iconst r164_24) (Eq.trans (s_istore_n r164_25 (Nat.le_of_ble_eq_true rfl) rfl) (Eq.trans (s_iconst r164_26) (s_istore r164_27 (Nat.le_of_ble_eq_true rfl) rfl)))
theorem b164_29 {b : Nat} {x0 : Value} {x1 : Int32} {x2 : Int32} {x3 : Int32} {x4 : Int32} {u5 : Value} {u6 : Value} {u7 : Value} {H : j_H} {Q : Option Value → j_H → Prop}  : j_wp b 164 29 [x0, .int x1, .int x2, .int x3, .int x4, u5, u6, u7] [] H Q = (if (j_shl (Int32.ofInt 1) x2).toInt ≤ x4.toInt then j_wp b 164 123 [x0, .int x1, .int x2, .int x3, .int x4, u5, u6, u7] [] H Q else j_wp b 164 37 [x0, .int x1, .int x2, .int x3, .int x4, u5, u6, u7] [] H Q) := Eq.trans (s_iload r164_29 rfl) (Eq.trans (s_iconst r164_31) (Eq.trans (s_iload_n r164_32 rfl) (Eq.trans (s_ishl r164_33) (s_icge r164_34 rfl rfl rfl))))
theorem b164_37 {b : Nat} {x0 : Value} {x1 : Int32} {x2 : Int32} {x3 : Int32} {x4 : Int32} {u5 : Value} {u6 : Value} {u7 : Value} {H : j_H} {Q : Option Value → j_H → Prop} (h0 : j_vc H x0 = 12) : j_wp b 164 37 [x0, .int x1, .int x2, .int x3, .int x4, u5, u6, u7] [] H Q = (if (j_I H (j_pa x0) 2).toInt = x1.toInt then j_wp b 164 53 [x0, .int x1, .int x2, .int x3, .int x4, .int (j_I H (j_pa x0) 2), u6, u7] [] H Q else j_wp b 164 49 [x0, .int x1, .int x2, .int x3, .int x4, .int (j_I H (j_pa x0) 2), u6, u7] [] H Q) := Eq.trans (s_aload_n r164_37 rfl (j_isr_vc h0 rfl)) (Eq.trans (s_getfi r164_38 (j_al1 h0 rfl) rfl rfl rfl) (Eq.trans (s_istore r164_41 (Nat.le_of_ble_eq_true rfl) rfl) (Eq.trans (s_iload r164_43 rfl) (Eq.trans (s_iload_n r164_45 rfl) (s_iceq r164_46 rfl rfl rfl)))))
theorem b164_49 {b : Nat} {x0 : Value} {x1 : Int32} {x2 : Int32} {x3 : Int32} {x4 : Int32} {x5 : Int32} {u6 : Value} {u7 : Value} {H : j_H} {Q : Option Value → j_H → Prop}  : j_wp b 164 49 [x0, .int x1, .int x2, .int x3, .int x4, .int x5, u6, u7] [] H Q = j_wp b 164 54 [x0, .int x1, .int x2, .int x3, .int x4, .int x5, u6, u7] [.int (Int32.ofInt 1)] H Q := Eq.trans (s_iconst r164_49) (s_goto r164_50 rfl)
theorem b164_53 {b : Nat} {x0 : Value} {x1 : Int32} {x2 : Int32} {x3 : Int32} {x4 : Int32} {x5 : Int32} {u6 : Value} {u7 : Value} {H : j_H} {Q : Option Value → j_H → Prop}  : j_wp b 164 53 [x0, .int x1, .int x2, .int x3, .int x4, .int x5, u6, u7] [] H Q = j_wp b 164 54 [x0, .int x1, .int x2, .int x3, .int x4, .int x5, u6, u7] [.int (Int32.ofInt 0)] H Q := s_iconst r164_53
theorem b164_54 {b : Nat} {x0 : Value} {x1 : Int32} {x2 : Int32} {x3 : Int32} {x4 : Int32} {x5 : Int32} {u6 : Value} {u7 : Value} {y0 : Int32} {H : j_H} {Q : Option Value → j_H → Prop}  : j_wp b 164 54 [x0, .int x1, .int x2, .int x3, .int x4, .int x5, u6, u7] [.int y0] H Q = j_wp b 164 59 [x0, .int x1, .int x2, .int x3, .int x4, .int x5, .int y0, .int (Int32.ofInt 0)] [] H Q := Eq.trans (s_istore r164_54 (Nat.le_of_ble_eq_true rfl) rfl) (Eq.trans (s_iconst r164_56) (s_istore r164_57 (Nat.le_of_ble_eq_true rfl) rfl))
theorem b164_59 {b : Nat} {x0 : Value} {x1 : Int32} {x2 : Int32} {x3 : Int32} {x4 : Int32} {x5 : Int32} {x6 : Int32} {x7 : Int32} {H : j_H} {Q : Option Value → j_H → Prop}  : j_wp b 164 59 [x0, .int x1, .int x2, .int x3, .int x4, .int x5, .int x6, .int x7] [] H Q = (if x2.toInt ≤ x7.toInt then j_wp b 164 104 [x0, .int x1, .int x2, .int x3, .int x4, .int x5, .int x6, .int x7] [] H Q else j_wp b 164 65 [x0, .int x1, .int x2, .int x3, .int x4, .int x5, .int x6, .int x7] [] H Q) := Eq.trans (s_iload r164_59 rfl) (Eq.trans (s_iload_n r164_61 rfl) (s_icge r164_62 rfl rfl rfl))
theorem b164_65 {b : Nat} {x0 : Value} {x1 : Int32} {x2 : Int32} {x3 : Int32} {x4 : Int32} {x5 : Int32} {x6 : Int32} {x7 : Int32} {H : j_H} {Q : Option Value → j_H → Prop}  : j_wp b 164 65 [x0, .int x1, .int x2, .int x3, .int x4, .int x5, .int x6, .int x7] [] H Q = (if x6.toInt = 0 then j_wp b 164 104 [x0, .int x1, .int x2, .int x3, .int x4, .int x5, .int x6, .int x7] [] H Q else j_wp b 164 70 [x0, .int x1, .int x2, .int x3, .int x4, .int x5, .int x6, .int x7] [] H Q) := Eq.trans (s_iload r164_65 rfl) (s_ifeq r164_67 rfl rfl)
theorem b164_70 {b : Nat} {x0 : Value} {x1 : Int32} {x2 : Int32} {x3 : Int32} {x4 : Int32} {x5 : Int32} {x6 : Int32} {x7 : Int32} {H : j_H} {Q : Option Value → j_H → Prop} (h0 : j_vc H x0 = 12) : j_wp (b + 1) 164 70 [x0, .int x1, .int x2, .int x3, .int x4, .int x5, .int x6, .int x7] [] H Q = j_wp b 156 0 [x0, .int x5, .int ((j_shr x4 x7) &&& (Int32.ofInt 1)), j_u] [] H (j_k (b + 1) 164 83 [x0, .int x1, .int x2, .int x3, .int x4, .int x5, .int x6, .int x7] [] Q) := Eq.trans (s_aload_n r164_70 rfl (j_isr_vc h0 rfl)) (Eq.trans (s_iload r164_71 rfl) (Eq.trans (s_iload r164_73 rfl) (Eq.trans (s_iload r164_75 rfl) (Eq.trans (s_ishr r164_77) (Eq.trans (s_iconst r164_78) (Eq.trans (s_iand r164_79) (j_cll (as := [x0, .int x5, .int ((j_shr x4 x7) &&& (Int32.ofInt 1))]) (es := [x0, .int x5, .int ((j_shr x4 x7) &&& (Int32.ofInt 1))]) (s_c2 r164_80 rfl h0 rfl rfl (j_dok (s := [.int ((j_shr x4 x7) &&& (Int32.ofInt 1)), .int x5, x0]) (as := [x0, .int x5, .int ((j_shr x4 x7) &&& (Int32.ofInt 1))]) (rest := []) (es := [x0, .int x5, .int ((j_shr x4 x7) &&& (Int32.ofInt 1))]) rfl rfl rfl rfl (j_slc (j_c1r (j_isr_vc h0 rfl)) rfl) rfl)) (j_slc (j_c1r (j_isr_vc h0 rfl)) rfl) rfl)))))))
theorem b164_83 {b : Nat} {x0 : Value} {x1 : Int32} {x2 : Int32} {x3 : Int32} {x4 : Int32} {x5 : Int32} {x6 : Int32} {x7 : Int32} {y0 : Int32} {H : j_H} {Q : Option Value → j_H → Prop}  : j_wp b 164 83 [x0, .int x1, .int x2, .int x3, .int x4, .int x5, .int x6, .int x7] [.int y0] H Q = (if y0.toInt = x1.toInt then j_wp b 164 95 [x0, .int x1, .int x2, .int x3, .int x4, .int y0, .int x6, .int x7] [] H Q else j_wp b 164 91 [x0, .int x1, .int x2, .int x3, .int x4, .int y0, .int x6, .int x7] [] H Q) := Eq.trans (s_istore r164_83 (Nat.le_of_ble_eq_true rfl) rfl) (Eq.trans (s_iload r164_85 rfl) (Eq.trans (s_iload_n r164_87 rfl) (s_iceq r164_88 rfl rfl rfl)))
theorem b164_91 {b : Nat} {x0 : Value} {x1 : Int32} {x2 : Int32} {x3 : Int32} {x4 : Int32} {x5 : Int32} {x6 : Int32} {x7 : Int32} {H : j_H} {Q : Option Value → j_H → Prop}  : j_wp b 164 91 [x0, .int x1, .int x2, .int x3, .int x4, .int x5, .int x6, .int x7] [] H Q = j_wp b 164 96 [x0, .int x1, .int x2, .int x3, .int x4, .int x5, .int x6, .int x7] [.int (Int32.ofInt 1)] H Q := Eq.trans (s_iconst r164_91) (s_goto r164_92 rfl)
theorem b164_95 {b : Nat} {x0 : Value} {x1 : Int32} {x2 : Int32} {x3 : Int32} {x4 : Int32} {x5 : Int32} {x6 : Int32} {x7 : Int32} {H : j_H} {Q : Option Value → j_H → Prop}  : j_wp b 164 95 [x0, .int x1, .int x2, .int x3, .int x4, .int x5, .int x6, .int x7] [] H Q = j_wp b 164 96 [x0, .int x1, .int x2, .int x3, .int x4, .int x5, .int x6, .int x7] [.int (Int32.ofInt 0)] H Q := s_iconst r164_95
theorem b164_96 {b : Nat} {x0 : Value} {x1 : Int32} {x2 : Int32} {x3 : Int32} {x4 : Int32} {x5 : Int32} {x6 : Int32} {x7 : Int32} {y0 : Int32} {H : j_H} {Q : Option Value → j_H → Prop}  : j_wp b 164 96 [x0, .int x1, .int x2, .int x3, .int x4, .int x5, .int x6, .int x7] [.int y0] H Q = j_wp b 164 59 [x0, .int x1, .int x2, .int x3, .int x4, .int x5, .int y0, .int (x7 + Int32.ofInt 1)] [] H Q := Eq.trans (s_istore r164_96 (Nat.le_of_ble_eq_true rfl) rfl) (Eq.trans (s_iinc r164_98 rfl rfl) (s_goto r164_101 rfl))
theorem b164_104 {b : Nat} {x0 : Value} {x1 : Int32} {x2 : Int32} {x3 : Int32} {x4 : Int32} {x5 : Int32} {x6 : Int32} {x7 : Int32} {H : j_H} {Q : Option Value → j_H → Prop}  : j_wp b 164 104 [x0, .int x1, .int x2, .int x3, .int x4, .int x5, .int x6, .int x7] [] H Q = (if x6.toInt = 0 then j_wp b 164 114 [x0, .int x1, .int x2, .int x3, .int x4, .int x5, .int x6, .int x7] [.int x3] H Q else j_wp b 164 110 [x0, .int x1, .int x2, .int x3, .int x4, .int x5, .int x6, .int x7] [.int x3] H Q) := Eq.trans (s_iload_n r164_104 rfl) (Eq.trans (s_iload r164_105 rfl) (s_ifeq r164_107 rfl rfl))
theorem b164_110 {b : Nat} {x0 : Value} {x1 : Int32} {x2 : Int32} {x3 : Int32} {x4 : Int32} {x5 : Int32} {x6 : Int32} {x7 : Int32} {y0 : Int32} {H : j_H} {Q : Option Value → j_H → Prop}  : j_wp b 164 110 [x0, .int x1, .int x2, .int x3, .int x4, .int x5, .int x6, .int x7] [.int y0] H Q = j_wp b 164 115 [x0, .int x1, .int x2, .int x3, .int x4, .int x5, .int x6, .int x7] [.int (Int32.ofInt 1), .int y0] H Q := Eq.trans (s_iconst r164_110) (s_goto r164_111 rfl)
theorem b164_114 {b : Nat} {x0 : Value} {x1 : Int32} {x2 : Int32} {x3 : Int32} {x4 : Int32} {x5 : Int32} {x6 : Int32} {x7 : Int32} {y0 : Int32} {H : j_H} {Q : Option Value → j_H → Prop}  : j_wp b 164 114 [x0, .int x1, .int x2, .int x3, .int x4, .int x5, .int x6, .int x7] [.int y0] H Q = j_wp b 164 115 [x0, .int x1, .int x2, .int x3, .int x4, .int x5, .int x6, .int x7] [.int (Int32.ofInt 0), .int y0] H Q := s_iconst r164_114
theorem b164_115 {b : Nat} {x0 : Value} {x1 : Int32} {x2 : Int32} {x3 : Int32} {x4 : Int32} {x5 : Int32} {x6 : Int32} {x7 : Int32} {y0 : Int32} {y1 : Int32} {H : j_H} {Q : Option Value → j_H → Prop}  : j_wp b 164 115 [x0, .int x1, .int x2, .int x3, .int x4, .int x5, .int x6, .int x7] [.int y0, .int y1] H Q = j_wp b 164 29 [x0, .int x1, .int x2, .int (y1 + y0), .int (x4 + Int32.ofInt 1), .int x5, .int x6, .int x7] [] H Q := Eq.trans (s_iadd r164_115) (Eq.trans (s_istore_n r164_116 (Nat.le_of_ble_eq_true rfl) rfl) (Eq.trans (s_iinc r164_117 rfl rfl) (s_goto r164_120 rfl)))
theorem b164_123 {b : Nat} {x0 : Value} {x1 : Int32} {x2 : Int32} {x3 : Int32} {x4 : Int32} {u5 : Value} {u6 : Value} {u7 : Value} {H : j_H} {Q : Option Value → j_H → Prop}  : j_wp b 164 123 [x0, .int x1, .int x2, .int x3, .int x4, u5, u6, u7] [] H Q = Q (some (.int x3)) H := Eq.trans (s_iload_n r164_123 rfl) (s_ireturn r164_124 (j_rok1 rfl))
-- X12_was
theorem r165_0 : j_at 165 0 = some (0, .iload_n 1, 1, []) := by decide +kernel
theorem r165_1 : j_at 165 1 = some (1, .iconst (-1), 1, []) := by decide +kernel
theorem r165_2 : j_at 165 2 = some (2, .if_icmp .ne 10, 3, []) := by decide +kernel
theorem r165_5 : j_at 165 5 = some (5, .aload_n 0, 1, []) := by decide +kernel
theorem r165_6 : j_at 165 6 = some (6, .iconst 0, 1, []) := by decide +kernel
theorem r165_7 : j_at 165 7 = some (7, .putfield 93, 3, [731, 12, 0, 27, 0, 0, 12]) := by decide +kernel
theorem r165_10 : j_at 165 10 = some (10, .iconst 0, 1, []) := by decide +kernel
theorem r165_11 : j_at 165 11 = some (11, .ireturn, 1, []) := by decide +kernel
theorem r165_12 : j_at 165 12 = some (12, .aload_n 0, 1, []) := by decide +kernel
theorem r165_13 : j_at 165 13 = some (13, .iload_n 1, 1, []) := by decide +kernel
theorem r165_14 : j_at 165 14 = some (14, .invokevirtual 193, 3, [2, 2, 124, 833, 834, 27, 77, 0, 12]) := by decide +kernel
theorem r165_17 : j_at 165 17 = some (17, .ifCond .ne 5, 3, []) := by decide +kernel
theorem r165_20 : j_at 165 20 = some (20, .iconst (-1), 1, []) := by decide +kernel
theorem r165_21 : j_at 165 21 = some (21, .ireturn, 1, []) := by decide +kernel
theorem r165_22 : j_at 165 22 = some (22, .aload_n 0, 1, []) := by decide +kernel
theorem r165_23 : j_at 165 23 = some (23, .getfield 93, 3, [731, 12, 0, 27, 0, 12]) := by decide +kernel
theorem r165_26 : j_at 165 26 = some (26, .bipush 12, 2, []) := by decide +kernel
theorem r165_28 : j_at 165 28 = some (28, .if_icmp .ne 6, 3, []) := by decide +kernel
theorem r165_31 : j_at 165 31 = some (31, .bipush (-4), 2, []) := by decide +kernel
theorem r165_33 : j_at 165 33 = some (33, .ireturn, 1, []) := by decide +kernel
theorem r165_34 : j_at 165 34 = some (34, .aload_n 0, 1, []) := by decide +kernel
theorem r165_35 : j_at 165 35 = some (35, .getfield 96, 3, [732, 12, 2, 28, 0, 12]) := by decide +kernel
theorem r165_38 : j_at 165 38 = some (38, .aload_n 0, 1, []) := by decide +kernel
theorem r165_39 : j_at 165 39 = some (39, .getfield 93, 3, [731, 12, 0, 27, 0, 12]) := by decide +kernel
theorem r165_42 : j_at 165 42 = some (42, .iload_n 1, 1, []) := by decide +kernel
theorem r165_43 : j_at 165 43 = some (43, .iastore, 1, []) := by decide +kernel
theorem r165_44 : j_at 165 44 = some (44, .aload_n 0, 1, []) := by decide +kernel
theorem r165_45 : j_at 165 45 = some (45, .dup, 1, []) := by decide +kernel
theorem r165_46 : j_at 165 46 = some (46, .getfield 93, 3, [731, 12, 0, 27, 0, 12]) := by decide +kernel
theorem r165_49 : j_at 165 49 = some (49, .iconst 1, 1, []) := by decide +kernel
theorem r165_50 : j_at 165 50 = some (50, .iadd, 1, []) := by decide +kernel
theorem r165_51 : j_at 165 51 = some (51, .putfield 93, 3, [731, 12, 0, 27, 0, 0, 12]) := by decide +kernel
theorem r165_54 : j_at 165 54 = some (54, .aload_n 0, 1, []) := by decide +kernel
theorem r165_55 : j_at 165 55 = some (55, .getfield 93, 3, [731, 12, 0, 27, 0, 12]) := by decide +kernel
theorem r165_58 : j_at 165 58 = some (58, .ireturn, 1, []) := by decide +kernel
theorem b165_0 {b : Nat} {x0 : Value} {x1 : Int32} {H : j_H} {Q : Option Value → j_H → Prop}  : j_wp b 165 0 [x0, .int x1] [] H Q = (if ¬ x1.toInt = (-1) then j_wp b 165 12 [x0, .int x1] [] H Q else j_wp b 165 5 [x0, .int x1] [] H Q) := Eq.trans (s_iload_n r165_0 rfl) (Eq.trans (s_iconst r165_1) (s_icne r165_2 rfl rfl rfl))
theorem b165_5 {b : Nat} {x0 : Value} {x1 : Int32} {H : j_H} {Q : Option Value → j_H → Prop} (h0 : j_vc H x0 = 12) : j_wp b 165 5 [x0, .int x1] [] H Q = j_wp b 165 10 [x0, .int x1] [] (j_sI H (j_pa x0) 27 (Int32.ofInt 0)) Q := Eq.trans (s_aload_n r165_5 rfl (j_isr_vc h0 rfl)) (Eq.trans (s_iconst r165_6) (s_put r165_7 (j_al1 h0 rfl) rfl j_putI))
theorem b165_10 {b : Nat} {x0 : Value} {x1 : Int32} {H : j_H} {Q : Option Value → j_H → Prop}  : j_wp b 165 10 [x0, .int x1] [] H Q = Q (some (.int (Int32.ofInt 0))) H := Eq.trans (s_iconst r165_10) (s_ireturn r165_11 (j_rok1 rfl))
theorem b165_12 {b : Nat} {x0 : Value} {x1 : Int32} {H : j_H} {Q : Option Value → j_H → Prop} (h0 : j_vc H x0 = 12) : j_wp (b + 1) 165 12 [x0, .int x1] [] H Q = j_wp b 124 0 [x0, .int x1] [] H (j_k (b + 1) 165 17 [x0, .int x1] [] Q) := Eq.trans (s_aload_n r165_12 rfl (j_isr_vc h0 rfl)) (Eq.trans (s_iload_n r165_13 rfl) (j_cll (as := [x0, .int x1]) (es := [x0, .int x1]) (s_c2 r165_14 rfl h0 rfl rfl (j_dok (s := [.int x1, x0]) (as := [x0, .int x1]) (rest := []) (es := [x0, .int x1]) rfl rfl rfl rfl (j_slc (j_c1r (j_isr_vc h0 rfl)) rfl) rfl)) (j_slc (j_c1r (j_isr_vc h0 rfl)) rfl) rfl))
theorem b165_17 {b : Nat} {x0 : Value} {x1 : Int32} {y0 : Int32} {H : j_H} {Q : Option Value → j_H → Prop}  : j_wp b 165 17 [x0, .int x1] [.int y0] H Q = (if ¬ y0.toInt = 0 then j_wp b 165 22 [x0, .int x1] [] H Q else j_wp b 165 20 [x0, .int x1] [] H Q) := s_ifne r165_17 rfl rfl
theorem b165_20 {b : Nat} {x0 : Value} {x1 : Int32} {H : j_H} {Q : Option Value → j_H → Prop}  : j_wp b 165 20 [x0, .int x1] [] H Q = Q (some (.int (Int32.ofInt (-1)))) H := Eq.trans (s_iconst r165_20) (s_ireturn r165_21 (j_rok1 rfl))
theorem b165_22 {b : Nat} {x0 : Value} {x1 : Int32} {H : j_H} {Q : Option Value → j_H → Prop} (h0 : j_vc H x0 = 12) : j_wp b 165 22 [x0, .int x1] [] H Q = (if ¬ (j_I H (j_pa x0) 27).toInt = 12 then j_wp b 165 34 [x0, .int x1] [] H Q else j_wp b 165 31 [x0, .int x1] [] H Q) := Eq.trans (s_aload_n r165_22 rfl (j_isr_vc h0 rfl)) (Eq.trans (s_getfi r165_23 (j_al1 h0 rfl) rfl rfl rfl) (Eq.trans (s_bipush r165_26) (s_icne r165_28 rfl rfl rfl)))
theorem b165_31 {b : Nat} {x0 : Value} {x1 : Int32} {H : j_H} {Q : Option Value → j_H → Prop}  : j_wp b 165 31 [x0, .int x1] [] H Q = Q (some (.int (Int32.ofInt (-4)))) H := Eq.trans (s_bipush r165_31) (s_ireturn r165_33 (j_rok1 rfl))
theorem b165_34 {b : Nat} {x0 : Value} {x1 : Int32} {H : j_H} {Q : Option Value → j_H → Prop} (h0 : j_vc H x0 = 12) (h1 : j_vt H (va_rf (j_R H (j_pa x0) 28)) = 0) (h2 : 0 ≤ (j_I H (j_pa x0) 27).toInt) (h3 : (j_I H (j_pa x0) 27).toInt < ((j_vl H (va_rf (j_R H (j_pa x0) 28)) : Nat) : Int)) : j_wp b 165 34 [x0, .int x1] [] H Q = j_wp b 165 44 [x0, .int x1] [] (j_sI H (j_pa (va_rf (j_R H (j_pa x0) 28))) (j_ix (j_I H (j_pa x0) 27)) x1) Q := Eq.trans (s_aload_n r165_34 rfl (j_isr_vc h0 rfl)) (Eq.trans (s_getfr r165_35 (j_al1 h0 rfl) rfl) (Eq.trans (s_aload_n r165_38 rfl (j_isr_vc h0 rfl)) (Eq.trans (s_getfi r165_39 (j_al1 h0 rfl) rfl rfl rfl) (Eq.trans (s_iload_n r165_42 rfl) (s_iast r165_43 h1 (j_ib_of (z := (j_I H (j_pa x0) 27).toInt) rfl h2 h3))))))
theorem b165_44 {b : Nat} {x0 : Value} {x1 : Int32} {H : j_H} {Q : Option Value → j_H → Prop} (h0 : j_vc H x0 = 12) : j_wp b 165 44 [x0, .int x1] [] H Q = j_wp b 165 54 [x0, .int x1] [] (j_sI H (j_pa x0) 27 ((j_I H (j_pa x0) 27) + (Int32.ofInt 1))) Q := Eq.trans (s_aload_n r165_44 rfl (j_isr_vc h0 rfl)) (Eq.trans (s_dup r165_45 (j_vc_lt h0 rfl)) (Eq.trans (s_getfi r165_46 (j_al1 h0 rfl) rfl rfl rfl) (Eq.trans (s_iconst r165_49) (Eq.trans (s_iadd r165_50) (s_put r165_51 (j_al1 h0 rfl) rfl j_putI)))))
theorem b165_54 {b : Nat} {x0 : Value} {x1 : Int32} {H : j_H} {Q : Option Value → j_H → Prop} (h0 : j_vc H x0 = 12) : j_wp b 165 54 [x0, .int x1] [] H Q = Q (some (.int (j_I H (j_pa x0) 27))) H := Eq.trans (s_aload_n r165_54 rfl (j_isr_vc h0 rfl)) (Eq.trans (s_getfi r165_55 (j_al1 h0 rfl) rfl rfl rfl) (s_ireturn r165_58 (j_rok1 rfl)))
-- X12_lied
theorem r166_0 : j_at 166 0 = some (0, .aload_n 0, 1, []) := by decide +kernel
theorem r166_1 : j_at 166 1 = some (1, .iload_n 1, 1, []) := by decide +kernel
theorem r166_2 : j_at 166 2 = some (2, .iconst 0, 1, []) := by decide +kernel
theorem r166_3 : j_at 166 3 = some (3, .iconst 3, 1, []) := by decide +kernel
theorem r166_4 : j_at 166 4 = some (4, .invokevirtual 189, 3, [2, 4, 121, 825, 826, 26, 77, 0, 12]) := by decide +kernel
theorem r166_7 : j_at 166 7 = some (7, .ifCond .ne 5, 3, []) := by decide +kernel
theorem r166_10 : j_at 166 10 = some (10, .iconst (-1), 1, []) := by decide +kernel
theorem r166_11 : j_at 166 11 = some (11, .ireturn, 1, []) := by decide +kernel
theorem r166_12 : j_at 166 12 = some (12, .aload_n 0, 1, []) := by decide +kernel
theorem r166_13 : j_at 166 13 = some (13, .getfield 93, 3, [731, 12, 0, 27, 0, 12]) := by decide +kernel
theorem r166_16 : j_at 166 16 = some (16, .ifCond .le 26, 3, []) := by decide +kernel
theorem r166_19 : j_at 166 19 = some (19, .aload_n 0, 1, []) := by decide +kernel
theorem r166_20 : j_at 166 20 = some (20, .getfield 7, 3, [704, 12, 0, 0, 0, 12]) := by decide +kernel
theorem r166_23 : j_at 166 23 = some (23, .ifCond .eq 16, 3, []) := by decide +kernel
theorem r166_26 : j_at 166 26 = some (26, .aload_n 0, 1, []) := by decide +kernel
theorem r166_27 : j_at 166 27 = some (27, .getfield 96, 3, [732, 12, 2, 28, 0, 12]) := by decide +kernel
theorem r166_30 : j_at 166 30 = some (30, .iconst 0, 1, []) := by decide +kernel
theorem r166_31 : j_at 166 31 = some (31, .iaload, 1, []) := by decide +kernel
theorem r166_32 : j_at 166 32 = some (32, .aload_n 0, 1, []) := by decide +kernel
theorem r166_33 : j_at 166 33 = some (33, .getfield 16, 3, [706, 12, 0, 2, 0, 12]) := by decide +kernel
theorem r166_36 : j_at 166 36 = some (36, .if_icmp .eq 6, 3, []) := by decide +kernel
theorem r166_39 : j_at 166 39 = some (39, .bipush (-5), 2, []) := by decide +kernel
theorem r166_41 : j_at 166 41 = some (41, .ireturn, 1, []) := by decide +kernel
theorem r166_42 : j_at 166 42 = some (42, .iconst 0, 1, []) := by decide +kernel
theorem r166_43 : j_at 166 43 = some (43, .istore_n 2, 1, []) := by decide +kernel
theorem r166_44 : j_at 166 44 = some (44, .iconst 0, 1, []) := by decide +kernel
theorem r166_45 : j_at 166 45 = some (45, .istore_n 3, 1, []) := by decide +kernel
theorem r166_46 : j_at 166 46 = some (46, .iconst 1, 1, []) := by decide +kernel
theorem r166_47 : j_at 166 47 = some (47, .istore 4, 2, []) := by decide +kernel
theorem r166_49 : j_at 166 49 = some (49, .iload 4, 2, []) := by decide +kernel
theorem r166_51 : j_at 166 51 = some (51, .aload_n 0, 1, []) := by decide +kernel
theorem r166_52 : j_at 166 52 = some (52, .getfield 93, 3, [731, 12, 0, 27, 0, 12]) := by decide +kernel
theorem r166_55 : j_at 166 55 = some (55, .if_icmp .ge 120, 3, []) := by decide +kernel
theorem r166_58 : j_at 166 58 = some (58, .aload_n 0, 1, []) := by decide +kernel
theorem r166_59 : j_at 166 59 = some (59, .aload_n 0, 1, []) := by decide +kernel
theorem r166_60 : j_at 166 60 = some (60, .getfield 96, 3, [732, 12, 2, 28, 0, 12]) := by decide +kernel
theorem r166_63 : j_at 166 63 = some (63, .iload 4, 2, []) := by decide +kernel
theorem r166_65 : j_at 166 65 = some (65, .iconst 1, 1, []) := by decide +kernel
theorem r166_66 : j_at 166 66 = some (66, .isub, 1, []) := by decide +kernel
theorem r166_67 : j_at 166 67 = some (67, .iaload, 1, []) := by decide +kernel
theorem r166_68 : j_at 166 68 = some (68, .iconst 1, 1, []) := by decide +kernel
theorem r166_69 : j_at 166 69 = some (69, .invokevirtual 283, 3, [2, 3, 156, 907, 908, 55, 77, 0, 12]) := by decide +kernel
theorem r166_72 : j_at 166 72 = some (72, .aload_n 0, 1, []) := by decide +kernel
theorem r166_73 : j_at 166 73 = some (73, .getfield 96, 3, [732, 12, 2, 28, 0, 12]) := by decide +kernel
theorem r166_76 : j_at 166 76 = some (76, .iload 4, 2, []) := by decide +kernel
theorem r166_78 : j_at 166 78 = some (78, .iaload, 1, []) := by decide +kernel
theorem r166_79 : j_at 166 79 = some (79, .if_icmp .ne 7, 3, []) := by decide +kernel
theorem r166_82 : j_at 166 82 = some (82, .iconst 1, 1, []) := by decide +kernel
theorem r166_83 : j_at 166 83 = some (83, .goto 4, 3, []) := by decide +kernel
theorem r166_86 : j_at 166 86 = some (86, .iconst 0, 1, []) := by decide +kernel
theorem r166_87 : j_at 166 87 = some (87, .istore 5, 2, []) := by decide +kernel
theorem r166_89 : j_at 166 89 = some (89, .aload_n 0, 1, []) := by decide +kernel
theorem r166_90 : j_at 166 90 = some (90, .aload_n 0, 1, []) := by decide +kernel
theorem r166_91 : j_at 166 91 = some (91, .getfield 96, 3, [732, 12, 2, 28, 0, 12]) := by decide +kernel
theorem r166_94 : j_at 166 94 = some (94, .iload 4, 2, []) := by decide +kernel
theorem r166_96 : j_at 166 96 = some (96, .iconst 1, 1, []) := by decide +kernel
theorem r166_97 : j_at 166 97 = some (97, .isub, 1, []) := by decide +kernel
theorem r166_98 : j_at 166 98 = some (98, .iaload, 1, []) := by decide +kernel
theorem r166_99 : j_at 166 99 = some (99, .iconst 0, 1, []) := by decide +kernel
theorem r166_100 : j_at 166 100 = some (100, .invokevirtual 283, 3, [2, 3, 156, 907, 908, 55, 77, 0, 12]) := by decide +kernel
theorem r166_103 : j_at 166 103 = some (103, .aload_n 0, 1, []) := by decide +kernel
theorem r166_104 : j_at 166 104 = some (104, .getfield 96, 3, [732, 12, 2, 28, 0, 12]) := by decide +kernel
theorem r166_107 : j_at 166 107 = some (107, .iload 4, 2, []) := by decide +kernel
theorem r166_109 : j_at 166 109 = some (109, .iaload, 1, []) := by decide +kernel
theorem r166_110 : j_at 166 110 = some (110, .if_icmp .ne 7, 3, []) := by decide +kernel
theorem r166_113 : j_at 166 113 = some (113, .iconst 1, 1, []) := by decide +kernel
theorem r166_114 : j_at 166 114 = some (114, .goto 4, 3, []) := by decide +kernel
theorem r166_117 : j_at 166 117 = some (117, .iconst 0, 1, []) := by decide +kernel
theorem r166_118 : j_at 166 118 = some (118, .istore 6, 2, []) := by decide +kernel
theorem r166_120 : j_at 166 120 = some (120, .iload 5, 2, []) := by decide +kernel
theorem r166_122 : j_at 166 122 = some (122, .ifCond .ne 11, 3, []) := by decide +kernel
theorem r166_125 : j_at 166 125 = some (125, .iload 6, 2, []) := by decide +kernel
theorem r166_127 : j_at 166 127 = some (127, .ifCond .ne 6, 3, []) := by decide +kernel
theorem r166_130 : j_at 166 130 = some (130, .bipush (-5), 2, []) := by decide +kernel
theorem r166_132 : j_at 166 132 = some (132, .ireturn, 1, []) := by decide +kernel
theorem r166_133 : j_at 166 133 = some (133, .iload_n 2, 1, []) := by decide +kernel
theorem r166_134 : j_at 166 134 = some (134, .iload 5, 2, []) := by decide +kernel
theorem r166_136 : j_at 166 136 = some (136, .ifCond .ne 12, 3, []) := by decide +kernel
theorem r166_139 : j_at 166 139 = some (139, .iconst 1, 1, []) := by decide +kernel
theorem r166_140 : j_at 166 140 = some (140, .iload 4, 2, []) := by decide +kernel
theorem r166_142 : j_at 166 142 = some (142, .iconst 1, 1, []) := by decide +kernel
theorem r166_143 : j_at 166 143 = some (143, .isub, 1, []) := by decide +kernel
theorem r166_144 : j_at 166 144 = some (144, .ishl, 1, []) := by decide +kernel
theorem r166_145 : j_at 166 145 = some (145, .goto 4, 3, []) := by decide +kernel
theorem r166_148 : j_at 166 148 = some (148, .iconst 0, 1, []) := by decide +kernel
theorem r166_149 : j_at 166 149 = some (149, .ior, 1, []) := by decide +kernel
theorem r166_150 : j_at 166 150 = some (150, .istore_n 2, 1, []) := by decide +kernel
theorem r166_151 : j_at 166 151 = some (151, .iload_n 3, 1, []) := by decide +kernel
theorem r166_152 : j_at 166 152 = some (152, .iload 6, 2, []) := by decide +kernel
theorem r166_154 : j_at 166 154 = some (154, .ifCond .eq 12, 3, []) := by decide +kernel
theorem r166_157 : j_at 166 157 = some (157, .iconst 1, 1, []) := by decide +kernel
theorem r166_158 : j_at 166 158 = some (158, .iload 4, 2, []) := by decide +kernel
theorem r166_160 : j_at 166 160 = some (160, .iconst 1, 1, []) := by decide +kernel
theorem r166_161 : j_at 166 161 = some (161, .isub, 1, []) := by decide +kernel
theorem r166_162 : j_at 166 162 = some (162, .ishl, 1, []) := by decide +kernel
theorem r166_163 : j_at 166 163 = some (163, .goto 4, 3, []) := by decide +kernel
theorem r166_166 : j_at 166 166 = some (166, .iconst 0, 1, []) := by decide +kernel
theorem r166_167 : j_at 166 167 = some (167, .ior, 1, []) := by decide +kernel
theorem r166_168 : j_at 166 168 = some (168, .istore_n 3, 1, []) := by decide +kernel
theorem r166_169 : j_at 166 169 = some (169, .iinc 4 1, 3, []) := by decide +kernel
theorem r166_172 : j_at 166 172 = some (172, .goto (-123), 3, []) := by decide +kernel
theorem r166_175 : j_at 166 175 = some (175, .iload_n 1, 1, []) := by decide +kernel
theorem r166_176 : j_at 166 176 = some (176, .ifCond .ne 11, 3, []) := by decide +kernel
theorem r166_179 : j_at 166 179 = some (179, .aload_n 0, 1, []) := by decide +kernel
theorem r166_180 : j_at 166 180 = some (180, .iload_n 2, 1, []) := by decide +kernel
theorem r166_181 : j_at 166 181 = some (181, .invokevirtual 250, 3, [2, 2, 123, 887, 888, 48, 77, 0, 12]) := by decide +kernel
theorem r166_184 : j_at 166 184 = some (184, .goto 26, 3, []) := by decide +kernel
theorem r166_187 : j_at 166 187 = some (187, .iload_n 1, 1, []) := by decide +kernel
theorem r166_188 : j_at 166 188 = some (188, .iconst 1, 1, []) := by decide +kernel
theorem r166_189 : j_at 166 189 = some (189, .if_icmp .ne 11, 3, []) := by decide +kernel
theorem r166_192 : j_at 166 192 = some (192, .aload_n 0, 1, []) := by decide +kernel
theorem r166_193 : j_at 166 193 = some (193, .iload_n 3, 1, []) := by decide +kernel
theorem r166_194 : j_at 166 194 = some (194, .invokevirtual 250, 3, [2, 2, 123, 887, 888, 48, 77, 0, 12]) := by decide +kernel
theorem r166_197 : j_at 166 197 = some (197, .goto 13, 3, []) := by decide +kernel
theorem r166_200 : j_at 166 200 = some (200, .iload_n 1, 1, []) := by decide +kernel
theorem r166_201 : j_at 166 201 = some (201, .iconst 2, 1, []) := by decide +kernel
theorem r166_202 : j_at 166 202 = some (202, .if_icmp .ne 7, 3, []) := by decide +kernel
theorem r166_205 : j_at 166 205 = some (205, .iload_n 2, 1, []) := by decide +kernel
theorem r166_206 : j_at 166 206 = some (206, .goto 4, 3, []) := by decide +kernel
theorem r166_209 : j_at 166 209 = some (209, .iload_n 3, 1, []) := by decide +kernel
theorem r166_210 : j_at 166 210 = some (210, .ireturn, 1, []) := by decide +kernel
theorem b166_0 {b : Nat} {x0 : Value} {x1 : Int32} {u2 : Value} {u3 : Value} {u4 : Value} {u5 : Value} {u6 : Value} {H : j_H} {Q : Option Value → j_H → Prop} (h0 : j_vc H x0 = 12) : j_wp (b + 1) 166 0 [x0, .int x1, u2, u3, u4, u5, u6] [] H Q = j_wp b 121 0 [x0, .int x1, .int (Int32.ofInt 0), .int (Int32.ofInt 3)] [] H (j_k (b + 1) 166 7 [x0, .int x1, u2, u3, u4, u5, u6] [] Q) := Eq.trans (s_aload_n r166_0 rfl (j_isr_vc h0 rfl)) (Eq.trans (s_iload_n r166_1 rfl) (Eq.trans (s_iconst r166_2) (Eq.trans (s_iconst r166_3) (j_cll (as := [x0, .int x1, .int (Int32.ofInt 0), .int (Int32.ofInt 3)]) (es := [x0, .int x1, .int (Int32.ofInt 0), .int (Int32.ofInt 3)]) (s_c2 r166_4 rfl h0 rfl rfl (j_dok (s := [.int (Int32.ofInt 3), .int (Int32.ofInt 0), .int x1, x0]) (as := [x0, .int x1, .int (Int32.ofInt 0), .int (Int32.ofInt 3)]) (rest := []) (es := [x0, .int x1, .int (Int32.ofInt 0), .int (Int32.ofInt 3)]) rfl rfl rfl rfl (j_slc (j_c1r (j_isr_vc h0 rfl)) rfl) rfl)) (j_slc (j_c1r (j_isr_vc h0 rfl)) rfl) rfl))))
theorem b166_7 {b : Nat} {x0 : Value} {x1 : Int32} {u2 : Value} {u3 : Value} {u4 : Value} {u5 : Value} {u6 : Value} {y0 : Int32} {H : j_H} {Q : Option Value → j_H → Prop}  : j_wp b 166 7 [x0, .int x1, u2, u3, u4, u5, u6] [.int y0] H Q = (if ¬ y0.toInt = 0 then j_wp b 166 12 [x0, .int x1, u2, u3, u4, u5, u6] [] H Q else j_wp b 166 10 [x0, .int x1, u2, u3, u4, u5, u6] [] H Q) := s_ifne r166_7 rfl rfl
theorem b166_10 {b : Nat} {x0 : Value} {x1 : Int32} {u2 : Value} {u3 : Value} {u4 : Value} {u5 : Value} {u6 : Value} {H : j_H} {Q : Option Value → j_H → Prop}  : j_wp b 166 10 [x0, .int x1, u2, u3, u4, u5, u6] [] H Q = Q (some (.int (Int32.ofInt (-1)))) H := Eq.trans (s_iconst r166_10) (s_ireturn r166_11 (j_rok1 rfl))
theorem b166_12 {b : Nat} {x0 : Value} {x1 : Int32} {u2 : Value} {u3 : Value} {u4 : Value} {u5 : Value} {u6 : Value} {H : j_H} {Q : Option Value → j_H → Prop} (h0 : j_vc H x0 = 12) : j_wp b 166 12 [x0, .int x1, u2, u3, u4, u5, u6] [] H Q = (if (j_I H (j_pa x0) 27).toInt ≤ 0 then j_wp b 166 42 [x0, .int x1, u2, u3, u4, u5, u6] [] H Q else j_wp b 166 19 [x0, .int x1, u2, u3, u4, u5, u6] [] H Q) := Eq.trans (s_aload_n r166_12 rfl (j_isr_vc h0 rfl)) (Eq.trans (s_getfi r166_13 (j_al1 h0 rfl) rfl rfl rfl) (s_ifle r166_16 rfl rfl))
theorem b166_19 {b : Nat} {x0 : Value} {x1 : Int32} {u2 : Value} {u3 : Value} {u4 : Value} {u5 : Value} {u6 : Value} {H : j_H} {Q : Option Value → j_H → Prop} (h0 : j_vc H x0 = 12) : j_wp b 166 19 [x0, .int x1, u2, u3, u4, u5, u6] [] H Q = (if (j_I H (j_pa x0) 0).toInt = 0 then j_wp b 166 39 [x0, .int x1, u2, u3, u4, u5, u6] [] H Q else j_wp b 166 26 [x0, .int x1, u2, u3, u4, u5, u6] [] H Q) := Eq.trans (s_aload_n r166_19 rfl (j_isr_vc h0 rfl)) (Eq.trans (s_getfi r166_20 (j_al1 h0 rfl) rfl rfl rfl) (s_ifeq r166_23 rfl rfl))
theorem b166_26 {b : Nat} {x0 : Value} {x1 : Int32} {u2 : Value} {u3 : Value} {u4 : Value} {u5 : Value} {u6 : Value} {H : j_H} {Q : Option Value → j_H → Prop} (h0 : j_vc H x0 = 12) (h1 : j_vt H (va_rf (j_R H (j_pa x0) 28)) = 0) (h2 : 0 < ((j_vl H (va_rf (j_R H (j_pa x0) 28)) : Nat) : Int)) : j_wp b 166 26 [x0, .int x1, u2, u3, u4, u5, u6] [] H Q = (if (j_I H (j_pa (va_rf (j_R H (j_pa x0) 28))) (j_ix (Int32.ofInt 0))).toInt = (j_I H (j_pa x0) 2).toInt then j_wp b 166 42 [x0, .int x1, u2, u3, u4, u5, u6] [] H Q else j_wp b 166 39 [x0, .int x1, u2, u3, u4, u5, u6] [] H Q) := Eq.trans (s_aload_n r166_26 rfl (j_isr_vc h0 rfl)) (Eq.trans (s_getfr r166_27 (j_al1 h0 rfl) rfl) (Eq.trans (s_iconst r166_30) (Eq.trans (s_iald r166_31 h1 (by decide) (j_ib_of (z := 0) rfl (by decide) h2)) (Eq.trans (s_aload_n r166_32 rfl (j_isr_vc h0 rfl)) (Eq.trans (s_getfi r166_33 (j_al1 h0 rfl) rfl rfl rfl) (s_iceq r166_36 rfl rfl rfl))))))
theorem b166_39 {b : Nat} {x0 : Value} {x1 : Int32} {u2 : Value} {u3 : Value} {u4 : Value} {u5 : Value} {u6 : Value} {H : j_H} {Q : Option Value → j_H → Prop}  : j_wp b 166 39 [x0, .int x1, u2, u3, u4, u5, u6] [] H Q = Q (some (.int (Int32.ofInt (-5)))) H := Eq.trans (s_bipush r166_39) (s_ireturn r166_41 (j_rok1 rfl))
theorem b166_42 {b : Nat} {x0 : Value} {x1 : Int32} {u2 : Value} {u3 : Value} {u4 : Value} {u5 : Value} {u6 : Value} {H : j_H} {Q : Option Value → j_H → Prop}  : j_wp b 166 42 [x0, .int x1, u2, u3, u4, u5, u6] [] H Q = j_wp b 166 49 [x0, .int x1, .int (Int32.ofInt 0), .int (Int32.ofInt 0), .int (Int32.ofInt 1), u5, u6] [] H Q := Eq.trans (s_iconst r166_42) (Eq.trans (s_istore_n r166_43 (Nat.le_of_ble_eq_true rfl) rfl) (Eq.trans (s_iconst r166_44) (Eq.trans (s_istore_n r166_45 (Nat.le_of_ble_eq_true rfl) rfl) (Eq.trans (s_iconst r166_46) (s_istore r166_47 (Nat.le_of_ble_eq_true rfl) rfl)))))
theorem b166_49 {b : Nat} {x0 : Value} {x1 : Int32} {x2 : Int32} {x3 : Int32} {x4 : Int32} {u5 : Value} {u6 : Value} {H : j_H} {Q : Option Value → j_H → Prop} (h0 : j_vc H x0 = 12) : j_wp b 166 49 [x0, .int x1, .int x2, .int x3, .int x4, u5, u6] [] H Q = (if (j_I H (j_pa x0) 27).toInt ≤ x4.toInt then j_wp b 166 175 [x0, .int x1, .int x2, .int x3, .int x4, u5, u6] [] H Q else j_wp b 166 58 [x0, .int x1, .int x2, .int x3, .int x4, u5, u6] [] H Q) := Eq.trans (s_iload r166_49 rfl) (Eq.trans (s_aload_n r166_51 rfl (j_isr_vc h0 rfl)) (Eq.trans (s_getfi r166_52 (j_al1 h0 rfl) rfl rfl rfl) (s_icge r166_55 rfl rfl rfl)))
theorem b166_58 {b : Nat} {x0 : Value} {x1 : Int32} {x2 : Int32} {x3 : Int32} {x4 : Int32} {u5 : Value} {u6 : Value} {H : j_H} {Q : Option Value → j_H → Prop} (h0 : j_vc H x0 = 12) (h1 : j_vt H (va_rf (j_R H (j_pa x0) 28)) = 0) (h2 : 0 ≤ (x4 - (Int32.ofInt 1)).toInt) (h3 : (x4 - (Int32.ofInt 1)).toInt < ((j_vl H (va_rf (j_R H (j_pa x0) 28)) : Nat) : Int)) : j_wp (b + 1) 166 58 [x0, .int x1, .int x2, .int x3, .int x4, u5, u6] [] H Q = j_wp b 156 0 [x0, .int (j_I H (j_pa (va_rf (j_R H (j_pa x0) 28))) (j_ix (x4 - (Int32.ofInt 1)))), .int (Int32.ofInt 1), j_u] [] H (j_k (b + 1) 166 72 [x0, .int x1, .int x2, .int x3, .int x4, u5, u6] [] Q) := Eq.trans (s_aload_n r166_58 rfl (j_isr_vc h0 rfl)) (Eq.trans (s_aload_n r166_59 rfl (j_isr_vc h0 rfl)) (Eq.trans (s_getfr r166_60 (j_al1 h0 rfl) rfl) (Eq.trans (s_iload r166_63 rfl) (Eq.trans (s_iconst r166_65) (Eq.trans (s_isub r166_66) (Eq.trans (s_iald r166_67 h1 (by decide) (j_ib_of (z := (x4 - (Int32.ofInt 1)).toInt) rfl h2 h3)) (Eq.trans (s_iconst r166_68) (j_cll (as := [x0, .int (j_I H (j_pa (va_rf (j_R H (j_pa x0) 28))) (j_ix (x4 - (Int32.ofInt 1)))), .int (Int32.ofInt 1)]) (es := [x0, .int (j_I H (j_pa (va_rf (j_R H (j_pa x0) 28))) (j_ix (x4 - (Int32.ofInt 1)))), .int (Int32.ofInt 1)]) (s_c2 r166_69 rfl h0 rfl rfl (j_dok (s := [.int (Int32.ofInt 1), .int (j_I H (j_pa (va_rf (j_R H (j_pa x0) 28))) (j_ix (x4 - (Int32.ofInt 1)))), x0]) (as := [x0, .int (j_I H (j_pa (va_rf (j_R H (j_pa x0) 28))) (j_ix (x4 - (Int32.ofInt 1)))), .int (Int32.ofInt 1)]) (rest := []) (es := [x0, .int (j_I H (j_pa (va_rf (j_R H (j_pa x0) 28))) (j_ix (x4 - (Int32.ofInt 1)))), .int (Int32.ofInt 1)]) rfl rfl rfl rfl (j_slc (j_c1r (j_isr_vc h0 rfl)) rfl) rfl)) (j_slc (j_c1r (j_isr_vc h0 rfl)) rfl) rfl))))))))
theorem b166_72 {b : Nat} {x0 : Value} {x1 : Int32} {x2 : Int32} {x3 : Int32} {x4 : Int32} {u5 : Value} {u6 : Value} {y0 : Int32} {H : j_H} {Q : Option Value → j_H → Prop} (h0 : j_vc H x0 = 12) (h1 : j_vt H (va_rf (j_R H (j_pa x0) 28)) = 0) (h2 : 0 ≤ x4.toInt) (h3 : x4.toInt < ((j_vl H (va_rf (j_R H (j_pa x0) 28)) : Nat) : Int)) : j_wp b 166 72 [x0, .int x1, .int x2, .int x3, .int x4, u5, u6] [.int y0] H Q = (if ¬ y0.toInt = (j_I H (j_pa (va_rf (j_R H (j_pa x0) 28))) (j_ix x4)).toInt then j_wp b 166 86 [x0, .int x1, .int x2, .int x3, .int x4, u5, u6] [] H Q else j_wp b 166 82 [x0, .int x1, .int x2, .int x3, .int x4, u5, u6] [] H Q) := Eq.trans (s_aload_n r166_72 rfl (j_isr_vc h0 rfl)) (Eq.trans (s_getfr r166_73 (j_al1 h0 rfl) rfl) (Eq.trans (s_iload r166_76 rfl) (Eq.trans (s_iald r166_78 h1 (by decide) (j_ib_of (z := x4.toInt) rfl h2 h3)) (s_icne r166_79 rfl rfl rfl))))
theorem b166_82 {b : Nat} {x0 : Value} {x1 : Int32} {x2 : Int32} {x3 : Int32} {x4 : Int32} {u5 : Value} {u6 : Value} {H : j_H} {Q : Option Value → j_H → Prop}  : j_wp b 166 82 [x0, .int x1, .int x2, .int x3, .int x4, u5, u6] [] H Q = j_wp b 166 87 [x0, .int x1, .int x2, .int x3, .int x4, u5, u6] [.int (Int32.ofInt 1)] H Q := Eq.trans (s_iconst r166_82) (s_goto r166_83 rfl)
theorem b166_86 {b : Nat} {x0 : Value} {x1 : Int32} {x2 : Int32} {x3 : Int32} {x4 : Int32} {u5 : Value} {u6 : Value} {H : j_H} {Q : Option Value → j_H → Prop}  : j_wp b 166 86 [x0, .int x1, .int x2, .int x3, .int x4, u5, u6] [] H Q = j_wp b 166 87 [x0, .int x1, .int x2, .int x3, .int x4, u5, u6] [.int (Int32.ofInt 0)] H Q := s_iconst r166_86
theorem b166_87 {b : Nat} {x0 : Value} {x1 : Int32} {x2 : Int32} {x3 : Int32} {x4 : Int32} {u5 : Value} {u6 : Value} {y0 : Int32} {H : j_H} {Q : Option Value → j_H → Prop} (h0 : j_vc H x0 = 12) (h1 : j_vt H (va_rf (j_R H (j_pa x0) 28)) = 0) (h2 : 0 ≤ (x4 - (Int32.ofInt 1)).toInt) (h3 : (x4 - (Int32.ofInt 1)).toInt < ((j_vl H (va_rf (j_R H (j_pa x0) 28)) : Nat) : Int)) : j_wp (b + 1) 166 87 [x0, .int x1, .int x2, .int x3, .int x4, u5, u6] [.int y0] H Q = j_wp b 156 0 [x0, .int (j_I H (j_pa (va_rf (j_R H (j_pa x0) 28))) (j_ix (x4 - (Int32.ofInt 1)))), .int (Int32.ofInt 0), j_u] [] H (j_k (b + 1) 166 103 [x0, .int x1, .int x2, .int x3, .int x4, .int y0, u6] [] Q) := Eq.trans (s_istore r166_87 (Nat.le_of_ble_eq_true rfl) rfl) (Eq.trans (s_aload_n r166_89 rfl (j_isr_vc h0 rfl)) (Eq.trans (s_aload_n r166_90 rfl (j_isr_vc h0 rfl)) (Eq.trans (s_getfr r166_91 (j_al1 h0 rfl) rfl) (Eq.trans (s_iload r166_94 rfl) (Eq.trans (s_iconst r166_96) (Eq.trans (s_isub r166_97) (Eq.trans (s_iald r166_98 h1 (by decide) (j_ib_of (z := (x4 - (Int32.ofInt 1)).toInt) rfl h2 h3)) (Eq.trans (s_iconst r166_99) (j_cll (as := [x0, .int (j_I H (j_pa (va_rf (j_R H (j_pa x0) 28))) (j_ix (x4 - (Int32.ofInt 1)))), .int (Int32.ofInt 0)]) (es := [x0, .int (j_I H (j_pa (va_rf (j_R H (j_pa x0) 28))) (j_ix (x4 - (Int32.ofInt 1)))), .int (Int32.ofInt 0)]) (s_c2 r166_100 rfl h0 rfl rfl (j_dok (s := [.int (Int32.ofInt 0), .int (j_I H (j_pa (va_rf (j_R H (j_pa x0) 28))) (j_ix (x4 - (Int32.ofInt 1)))), x0]) (as := [x0, .int (j_I H (j_pa (va_rf (j_R H (j_pa x0) 28))) (j_ix (x4 - (Int32.ofInt 1)))), .int (Int32.ofInt 0)]) (rest := []) (es := [x0, .int (j_I H (j_pa (va_rf (j_R H (j_pa x0) 28))) (j_ix (x4 - (Int32.ofInt 1)))), .int (Int32.ofInt 0)]) rfl rfl rfl rfl (j_slc (j_c1r (j_isr_vc h0 rfl)) rfl) rfl)) (j_slc (j_c1r (j_isr_vc h0 rfl)) rfl) rfl)))))))))
theorem b166_103 {b : Nat} {x0 : Value} {x1 : Int32} {x2 : Int32} {x3 : Int32} {x4 : Int32} {x5 : Int32} {u6 : Value} {y0 : Int32} {H : j_H} {Q : Option Value → j_H → Prop} (h0 : j_vc H x0 = 12) (h1 : j_vt H (va_rf (j_R H (j_pa x0) 28)) = 0) (h2 : 0 ≤ x4.toInt) (h3 : x4.toInt < ((j_vl H (va_rf (j_R H (j_pa x0) 28)) : Nat) : Int)) : j_wp b 166 103 [x0, .int x1, .int x2, .int x3, .int x4, .int x5, u6] [.int y0] H Q = (if ¬ y0.toInt = (j_I H (j_pa (va_rf (j_R H (j_pa x0) 28))) (j_ix x4)).toInt then j_wp b 166 117 [x0, .int x1, .int x2, .int x3, .int x4, .int x5, u6] [] H Q else j_wp b 166 113 [x0, .int x1, .int x2, .int x3, .int x4, .int x5, u6] [] H Q) := Eq.trans (s_aload_n r166_103 rfl (j_isr_vc h0 rfl)) (Eq.trans (s_getfr r166_104 (j_al1 h0 rfl) rfl) (Eq.trans (s_iload r166_107 rfl) (Eq.trans (s_iald r166_109 h1 (by decide) (j_ib_of (z := x4.toInt) rfl h2 h3)) (s_icne r166_110 rfl rfl rfl))))
theorem b166_113 {b : Nat} {x0 : Value} {x1 : Int32} {x2 : Int32} {x3 : Int32} {x4 : Int32} {x5 : Int32} {u6 : Value} {H : j_H} {Q : Option Value → j_H → Prop}  : j_wp b 166 113 [x0, .int x1, .int x2, .int x3, .int x4, .int x5, u6] [] H Q = j_wp b 166 118 [x0, .int x1, .int x2, .int x3, .int x4, .int x5, u6] [.int (Int32.ofInt 1)] H Q := Eq.trans (s_iconst r166_113) (s_goto r166_114 rfl)
theorem b166_117 {b : Nat} {x0 : Value} {x1 : Int32} {x2 : Int32} {x3 : Int32} {x4 : Int32} {x5 : Int32} {u6 : Value} {H : j_H} {Q : Option Value → j_H → Prop}  : j_wp b 166 117 [x0, .int x1, .int x2, .int x3, .int x4, .int x5, u6] [] H Q = j_wp b 166 118 [x0, .int x1, .int x2, .int x3, .int x4, .int x5, u6] [.int (Int32.ofInt 0)] H Q := s_iconst r166_117
theorem b166_118 {b : Nat} {x0 : Value} {x1 : Int32} {x2 : Int32} {x3 : Int32} {x4 : Int32} {x5 : Int32} {u6 : Value} {y0 : Int32} {H : j_H} {Q : Option Value → j_H → Prop}  : j_wp b 166 118 [x0, .int x1, .int x2, .int x3, .int x4, .int x5, u6] [.int y0] H Q = (if ¬ x5.toInt = 0 then j_wp b 166 133 [x0, .int x1, .int x2, .int x3, .int x4, .int x5, .int y0] [] H Q else j_wp b 166 125 [x0, .int x1, .int x2, .int x3, .int x4, .int x5, .int y0] [] H Q) := Eq.trans (s_istore r166_118 (Nat.le_of_ble_eq_true rfl) rfl) (Eq.trans (s_iload r166_120 rfl) (s_ifne r166_122 rfl rfl))
theorem b166_125 {b : Nat} {x0 : Value} {x1 : Int32} {x2 : Int32} {x3 : Int32} {x4 : Int32} {x5 : Int32} {x6 : Int32} {H : j_H} {Q : Option Value → j_H → Prop}  : j_wp b 166 125 [x0, .int x1, .int x2, .int x3, .int x4, .int x5, .int x6] [] H Q = (if ¬ x6.toInt = 0 then j_wp b 166 133 [x0, .int x1, .int x2, .int x3, .int x4, .int x5, .int x6] [] H Q else j_wp b 166 130 [x0, .int x1, .int x2, .int x3, .int x4, .int x5, .int x6] [] H Q) := Eq.trans (s_iload r166_125 rfl) (s_ifne r166_127 rfl rfl)
theorem b166_130 {b : Nat} {x0 : Value} {x1 : Int32} {x2 : Int32} {x3 : Int32} {x4 : Int32} {x5 : Int32} {x6 : Int32} {H : j_H} {Q : Option Value → j_H → Prop}  : j_wp b 166 130 [x0, .int x1, .int x2, .int x3, .int x4, .int x5, .int x6] [] H Q = Q (some (.int (Int32.ofInt (-5)))) H := Eq.trans (s_bipush r166_130) (s_ireturn r166_132 (j_rok1 rfl))
theorem b166_133 {b : Nat} {x0 : Value} {x1 : Int32} {x2 : Int32} {x3 : Int32} {x4 : Int32} {x5 : Int32} {x6 : Int32} {H : j_H} {Q : Option Value → j_H → Prop}  : j_wp b 166 133 [x0, .int x1, .int x2, .int x3, .int x4, .int x5, .int x6] [] H Q = (if ¬ x5.toInt = 0 then j_wp b 166 148 [x0, .int x1, .int x2, .int x3, .int x4, .int x5, .int x6] [.int x2] H Q else j_wp b 166 139 [x0, .int x1, .int x2, .int x3, .int x4, .int x5, .int x6] [.int x2] H Q) := Eq.trans (s_iload_n r166_133 rfl) (Eq.trans (s_iload r166_134 rfl) (s_ifne r166_136 rfl rfl))
theorem b166_139 {b : Nat} {x0 : Value} {x1 : Int32} {x2 : Int32} {x3 : Int32} {x4 : Int32} {x5 : Int32} {x6 : Int32} {y0 : Int32} {H : j_H} {Q : Option Value → j_H → Prop}  : j_wp b 166 139 [x0, .int x1, .int x2, .int x3, .int x4, .int x5, .int x6] [.int y0] H Q = j_wp b 166 149 [x0, .int x1, .int x2, .int x3, .int x4, .int x5, .int x6] [.int (j_shl (Int32.ofInt 1) (x4 - (Int32.ofInt 1))), .int y0] H Q := Eq.trans (s_iconst r166_139) (Eq.trans (s_iload r166_140 rfl) (Eq.trans (s_iconst r166_142) (Eq.trans (s_isub r166_143) (Eq.trans (s_ishl r166_144) (s_goto r166_145 rfl)))))
theorem b166_148 {b : Nat} {x0 : Value} {x1 : Int32} {x2 : Int32} {x3 : Int32} {x4 : Int32} {x5 : Int32} {x6 : Int32} {y0 : Int32} {H : j_H} {Q : Option Value → j_H → Prop}  : j_wp b 166 148 [x0, .int x1, .int x2, .int x3, .int x4, .int x5, .int x6] [.int y0] H Q = j_wp b 166 149 [x0, .int x1, .int x2, .int x3, .int x4, .int x5, .int x6] [.int (Int32.ofInt 0), .int y0] H Q := s_iconst r166_148
theorem b166_149 {b : Nat} {x0 : Value} {x1 : Int32} {x2 : Int32} {x3 : Int32} {x4 : Int32} {x5 : Int32} {x6 : Int32} {y0 : Int32} {y1 : Int32} {H : j_H} {Q : Option Value → j_H → Prop}  : j_wp b 166 149 [x0, .int x1, .int x2, .int x3, .int x4, .int x5, .int x6] [.int y0, .int y1] H Q = (if x6.toInt = 0 then j_wp b 166 166 [x0, .int x1, .int (y1 ||| y0), .int x3, .int x4, .int x5, .int x6] [.int x3] H Q else j_wp b 166 157 [x0, .int x1, .int (y1 ||| y0), .int x3, .int x4, .int x5, .int x6] [.int x3] H Q) := Eq.trans (s_ior r166_149) (Eq.trans (s_istore_n r166_150 (Nat.le_of_ble_eq_true rfl) rfl) (Eq.trans (s_iload_n r166_151 rfl) (Eq.trans (s_iload r166_152 rfl) (s_ifeq r166_154 rfl rfl))))
theorem b166_157 {b : Nat} {x0 : Value} {x1 : Int32} {x2 : Int32} {x3 : Int32} {x4 : Int32} {x5 : Int32} {x6 : Int32} {y0 : Int32} {H : j_H} {Q : Option Value → j_H → Prop}  : j_wp b 166 157 [x0, .int x1, .int x2, .int x3, .int x4, .int x5, .int x6] [.int y0] H Q = j_wp b 166 167 [x0, .int x1, .int x2, .int x3, .int x4, .int x5, .int x6] [.int (j_shl (Int32.ofInt 1) (x4 - (Int32.ofInt 1))), .int y0] H Q := Eq.trans (s_iconst r166_157) (Eq.trans (s_iload r166_158 rfl) (Eq.trans (s_iconst r166_160) (Eq.trans (s_isub r166_161) (Eq.trans (s_ishl r166_162) (s_goto r166_163 rfl)))))
theorem b166_166 {b : Nat} {x0 : Value} {x1 : Int32} {x2 : Int32} {x3 : Int32} {x4 : Int32} {x5 : Int32} {x6 : Int32} {y0 : Int32} {H : j_H} {Q : Option Value → j_H → Prop}  : j_wp b 166 166 [x0, .int x1, .int x2, .int x3, .int x4, .int x5, .int x6] [.int y0] H Q = j_wp b 166 167 [x0, .int x1, .int x2, .int x3, .int x4, .int x5, .int x6] [.int (Int32.ofInt 0), .int y0] H Q := s_iconst r166_166
theorem b166_167 {b : Nat} {x0 : Value} {x1 : Int32} {x2 : Int32} {x3 : Int32} {x4 : Int32} {x5 : Int32} {x6 : Int32} {y0 : Int32} {y1 : Int32} {H : j_H} {Q : Option Value → j_H → Prop}  : j_wp b 166 167 [x0, .int x1, .int x2, .int x3, .int x4, .int x5, .int x6] [.int y0, .int y1] H Q = j_wp b 166 49 [x0, .int x1, .int x2, .int (y1 ||| y0), .int (x4 + Int32.ofInt 1), .int x5, .int x6] [] H Q := Eq.trans (s_ior r166_167) (Eq.trans (s_istore_n r166_168 (Nat.le_of_ble_eq_true rfl) rfl) (Eq.trans (s_iinc r166_169 rfl rfl) (s_goto r166_172 rfl)))
theorem b166_175 {b : Nat} {x0 : Value} {x1 : Int32} {x2 : Int32} {x3 : Int32} {x4 : Int32} {u5 : Value} {u6 : Value} {H : j_H} {Q : Option Value → j_H → Prop}  : j_wp b 166 175 [x0, .int x1, .int x2, .int x3, .int x4, u5, u6] [] H Q = (if ¬ x1.toInt = 0 then j_wp b 166 187 [x0, .int x1, .int x2, .int x3, .int x4, u5, u6] [] H Q else j_wp b 166 179 [x0, .int x1, .int x2, .int x3, .int x4, u5, u6] [] H Q) := Eq.trans (s_iload_n r166_175 rfl) (s_ifne r166_176 rfl rfl)
theorem b166_179 {b : Nat} {x0 : Value} {x1 : Int32} {x2 : Int32} {x3 : Int32} {x4 : Int32} {u5 : Value} {u6 : Value} {H : j_H} {Q : Option Value → j_H → Prop} (h0 : j_vc H x0 = 12) : j_wp (b + 1) 166 179 [x0, .int x1, .int x2, .int x3, .int x4, u5, u6] [] H Q = j_wp b 123 0 [x0, .int x2, j_u, j_u] [] H (j_k (b + 1) 166 184 [x0, .int x1, .int x2, .int x3, .int x4, u5, u6] [] Q) := Eq.trans (s_aload_n r166_179 rfl (j_isr_vc h0 rfl)) (Eq.trans (s_iload_n r166_180 rfl) (j_cll (as := [x0, .int x2]) (es := [x0, .int x2]) (s_c2 r166_181 rfl h0 rfl rfl (j_dok (s := [.int x2, x0]) (as := [x0, .int x2]) (rest := []) (es := [x0, .int x2]) rfl rfl rfl rfl (j_slc (j_c1r (j_isr_vc h0 rfl)) rfl) rfl)) (j_slc (j_c1r (j_isr_vc h0 rfl)) rfl) rfl))
theorem b166_184 {b : Nat} {x0 : Value} {x1 : Int32} {x2 : Int32} {x3 : Int32} {x4 : Int32} {u5 : Value} {u6 : Value} {y0 : Int32} {H : j_H} {Q : Option Value → j_H → Prop}  : j_wp b 166 184 [x0, .int x1, .int x2, .int x3, .int x4, u5, u6] [.int y0] H Q = j_wp b 166 210 [x0, .int x1, .int x2, .int x3, .int x4, u5, u6] [.int y0] H Q := s_goto r166_184 rfl
theorem b166_187 {b : Nat} {x0 : Value} {x1 : Int32} {x2 : Int32} {x3 : Int32} {x4 : Int32} {u5 : Value} {u6 : Value} {H : j_H} {Q : Option Value → j_H → Prop}  : j_wp b 166 187 [x0, .int x1, .int x2, .int x3, .int x4, u5, u6] [] H Q = (if ¬ x1.toInt = 1 then j_wp b 166 200 [x0, .int x1, .int x2, .int x3, .int x4, u5, u6] [] H Q else j_wp b 166 192 [x0, .int x1, .int x2, .int x3, .int x4, u5, u6] [] H Q) := Eq.trans (s_iload_n r166_187 rfl) (Eq.trans (s_iconst r166_188) (s_icne r166_189 rfl rfl rfl))
theorem b166_192 {b : Nat} {x0 : Value} {x1 : Int32} {x2 : Int32} {x3 : Int32} {x4 : Int32} {u5 : Value} {u6 : Value} {H : j_H} {Q : Option Value → j_H → Prop} (h0 : j_vc H x0 = 12) : j_wp (b + 1) 166 192 [x0, .int x1, .int x2, .int x3, .int x4, u5, u6] [] H Q = j_wp b 123 0 [x0, .int x3, j_u, j_u] [] H (j_k (b + 1) 166 197 [x0, .int x1, .int x2, .int x3, .int x4, u5, u6] [] Q) := Eq.trans (s_aload_n r166_192 rfl (j_isr_vc h0 rfl)) (Eq.trans (s_iload_n r166_193 rfl) (j_cll (as := [x0, .int x3]) (es := [x0, .int x3]) (s_c2 r166_194 rfl h0 rfl rfl (j_dok (s := [.int x3, x0]) (as := [x0, .int x3]) (rest := []) (es := [x0, .int x3]) rfl rfl rfl rfl (j_slc (j_c1r (j_isr_vc h0 rfl)) rfl) rfl)) (j_slc (j_c1r (j_isr_vc h0 rfl)) rfl) rfl))
theorem b166_197 {b : Nat} {x0 : Value} {x1 : Int32} {x2 : Int32} {x3 : Int32} {x4 : Int32} {u5 : Value} {u6 : Value} {y0 : Int32} {H : j_H} {Q : Option Value → j_H → Prop}  : j_wp b 166 197 [x0, .int x1, .int x2, .int x3, .int x4, u5, u6] [.int y0] H Q = j_wp b 166 210 [x0, .int x1, .int x2, .int x3, .int x4, u5, u6] [.int y0] H Q := s_goto r166_197 rfl
theorem b166_200 {b : Nat} {x0 : Value} {x1 : Int32} {x2 : Int32} {x3 : Int32} {x4 : Int32} {u5 : Value} {u6 : Value} {H : j_H} {Q : Option Value → j_H → Prop}  : j_wp b 166 200 [x0, .int x1, .int x2, .int x3, .int x4, u5, u6] [] H Q = (if ¬ x1.toInt = 2 then j_wp b 166 209 [x0, .int x1, .int x2, .int x3, .int x4, u5, u6] [] H Q else j_wp b 166 205 [x0, .int x1, .int x2, .int x3, .int x4, u5, u6] [] H Q) := Eq.trans (s_iload_n r166_200 rfl) (Eq.trans (s_iconst r166_201) (s_icne r166_202 rfl rfl rfl))
theorem b166_205 {b : Nat} {x0 : Value} {x1 : Int32} {x2 : Int32} {x3 : Int32} {x4 : Int32} {u5 : Value} {u6 : Value} {H : j_H} {Q : Option Value → j_H → Prop}  : j_wp b 166 205 [x0, .int x1, .int x2, .int x3, .int x4, u5, u6] [] H Q = j_wp b 166 210 [x0, .int x1, .int x2, .int x3, .int x4, u5, u6] [.int x2] H Q := Eq.trans (s_iload_n r166_205 rfl) (s_goto r166_206 rfl)
theorem b166_209 {b : Nat} {x0 : Value} {x1 : Int32} {x2 : Int32} {x3 : Int32} {x4 : Int32} {u5 : Value} {u6 : Value} {H : j_H} {Q : Option Value → j_H → Prop}  : j_wp b 166 209 [x0, .int x1, .int x2, .int x3, .int x4, u5, u6] [] H Q = j_wp b 166 210 [x0, .int x1, .int x2, .int x3, .int x4, u5, u6] [.int x3] H Q := s_iload_n r166_209 rfl
theorem b166_210 {b : Nat} {x0 : Value} {x1 : Int32} {x2 : Int32} {x3 : Int32} {x4 : Int32} {u5 : Value} {u6 : Value} {y0 : Int32} {H : j_H} {Q : Option Value → j_H → Prop}  : j_wp b 166 210 [x0, .int x1, .int x2, .int x3, .int x4, u5, u6] [.int y0] H Q = Q (some (.int y0)) H := s_ireturn r166_210 (j_rok1 rfl)
-- X12_stranger
theorem r167_0 : j_at 167 0 = some (0, .aload_n 0, 1, []) := by decide +kernel
theorem r167_1 : j_at 167 1 = some (1, .iload_n 2, 1, []) := by decide +kernel
theorem r167_2 : j_at 167 2 = some (2, .iconst 0, 1, []) := by decide +kernel
theorem r167_3 : j_at 167 3 = some (3, .iconst 2, 1, []) := by decide +kernel
theorem r167_4 : j_at 167 4 = some (4, .invokevirtual 189, 3, [2, 4, 121, 825, 826, 26, 77, 0, 12]) := by decide +kernel
theorem r167_7 : j_at 167 7 = some (7, .ifCond .ne 5, 3, []) := by decide +kernel
theorem r167_10 : j_at 167 10 = some (10, .iconst (-1), 1, []) := by decide +kernel
theorem r167_11 : j_at 167 11 = some (11, .ireturn, 1, []) := by decide +kernel
theorem r167_12 : j_at 167 12 = some (12, .aload_n 0, 1, []) := by decide +kernel
theorem r167_13 : j_at 167 13 = some (13, .iload_n 1, 1, []) := by decide +kernel
theorem r167_14 : j_at 167 14 = some (14, .iconst 0, 1, []) := by decide +kernel
theorem r167_15 : j_at 167 15 = some (15, .bipush 12, 2, []) := by decide +kernel
theorem r167_17 : j_at 167 17 = some (17, .invokevirtual 189, 3, [2, 4, 121, 825, 826, 26, 77, 0, 12]) := by decide +kernel
theorem r167_20 : j_at 167 20 = some (20, .ifCond .ne 6, 3, []) := by decide +kernel
theorem r167_23 : j_at 167 23 = some (23, .bipush (-2), 2, []) := by decide +kernel
theorem r167_25 : j_at 167 25 = some (25, .ireturn, 1, []) := by decide +kernel
theorem r167_26 : j_at 167 26 = some (26, .aload_n 0, 1, []) := by decide +kernel
theorem r167_27 : j_at 167 27 = some (27, .getfield 7, 3, [704, 12, 0, 0, 0, 12]) := by decide +kernel
theorem r167_30 : j_at 167 30 = some (30, .ifCond .ne 6, 3, []) := by decide +kernel
theorem r167_33 : j_at 167 33 = some (33, .bipush (-3), 2, []) := by decide +kernel
theorem r167_35 : j_at 167 35 = some (35, .ireturn, 1, []) := by decide +kernel
theorem r167_36 : j_at 167 36 = some (36, .aload_n 0, 1, []) := by decide +kernel
theorem r167_37 : j_at 167 37 = some (37, .getfield 99, 3, [733, 12, 2, 29, 0, 12]) := by decide +kernel
theorem r167_40 : j_at 167 40 = some (40, .iconst 0, 1, []) := by decide +kernel
theorem r167_41 : j_at 167 41 = some (41, .aload_n 0, 1, []) := by decide +kernel
theorem r167_42 : j_at 167 42 = some (42, .getfield 16, 3, [706, 12, 0, 2, 0, 12]) := by decide +kernel
theorem r167_45 : j_at 167 45 = some (45, .iastore, 1, []) := by decide +kernel
theorem r167_46 : j_at 167 46 = some (46, .iconst 0, 1, []) := by decide +kernel
theorem r167_47 : j_at 167 47 = some (47, .istore_n 3, 1, []) := by decide +kernel
theorem r167_48 : j_at 167 48 = some (48, .iload_n 3, 1, []) := by decide +kernel
theorem r167_49 : j_at 167 49 = some (49, .iload_n 1, 1, []) := by decide +kernel
theorem r167_50 : j_at 167 50 = some (50, .if_icmp .ge 33, 3, []) := by decide +kernel
theorem r167_53 : j_at 167 53 = some (53, .aload_n 0, 1, []) := by decide +kernel
theorem r167_54 : j_at 167 54 = some (54, .getfield 99, 3, [733, 12, 2, 29, 0, 12]) := by decide +kernel
theorem r167_57 : j_at 167 57 = some (57, .iload_n 3, 1, []) := by decide +kernel
theorem r167_58 : j_at 167 58 = some (58, .iconst 1, 1, []) := by decide +kernel
theorem r167_59 : j_at 167 59 = some (59, .iadd, 1, []) := by decide +kernel
theorem r167_60 : j_at 167 60 = some (60, .aload_n 0, 1, []) := by decide +kernel
theorem r167_61 : j_at 167 61 = some (61, .aload_n 0, 1, []) := by decide +kernel
theorem r167_62 : j_at 167 62 = some (62, .getfield 99, 3, [733, 12, 2, 29, 0, 12]) := by decide +kernel
theorem r167_65 : j_at 167 65 = some (65, .iload_n 3, 1, []) := by decide +kernel
theorem r167_66 : j_at 167 66 = some (66, .iaload, 1, []) := by decide +kernel
theorem r167_67 : j_at 167 67 = some (67, .aload_n 0, 1, []) := by decide +kernel
theorem r167_68 : j_at 167 68 = some (68, .getfield 19, 3, [707, 12, 0, 3, 0, 12]) := by decide +kernel
theorem r167_71 : j_at 167 71 = some (71, .iload_n 3, 1, []) := by decide +kernel
theorem r167_72 : j_at 167 72 = some (72, .iadd, 1, []) := by decide +kernel
theorem r167_73 : j_at 167 73 = some (73, .invokevirtual 289, 3, [2, 3, 157, 918, 919, 56, 77, 0, 12]) := by decide +kernel
theorem r167_76 : j_at 167 76 = some (76, .iastore, 1, []) := by decide +kernel
theorem r167_77 : j_at 167 77 = some (77, .iinc 3 1, 3, []) := by decide +kernel
theorem r167_80 : j_at 167 80 = some (80, .goto (-32), 3, []) := by decide +kernel
theorem r167_83 : j_at 167 83 = some (83, .aload_n 0, 1, []) := by decide +kernel
theorem r167_84 : j_at 167 84 = some (84, .getfield 13, 3, [705, 12, 0, 1, 0, 12]) := by decide +kernel
theorem r167_87 : j_at 167 87 = some (87, .istore_n 3, 1, []) := by decide +kernel
theorem r167_88 : j_at 167 88 = some (88, .iconst 0, 1, []) := by decide +kernel
theorem r167_89 : j_at 167 89 = some (89, .istore 4, 2, []) := by decide +kernel
theorem r167_91 : j_at 167 91 = some (91, .sipush 255, 3, []) := by decide +kernel
theorem r167_94 : j_at 167 94 = some (94, .istore 5, 2, []) := by decide +kernel
theorem r167_96 : j_at 167 96 = some (96, .iconst 0, 1, []) := by decide +kernel
theorem r167_97 : j_at 167 97 = some (97, .istore 6, 2, []) := by decide +kernel
theorem r167_99 : j_at 167 99 = some (99, .iconst 0, 1, []) := by decide +kernel
theorem r167_100 : j_at 167 100 = some (100, .istore 7, 2, []) := by decide +kernel
theorem r167_102 : j_at 167 102 = some (102, .iload 7, 2, []) := by decide +kernel
theorem r167_104 : j_at 167 104 = some (104, .sipush 256, 3, []) := by decide +kernel
theorem r167_107 : j_at 167 107 = some (107, .if_icmp .ge 124, 3, []) := by decide +kernel
theorem r167_110 : j_at 167 110 = some (110, .aload_n 0, 1, []) := by decide +kernel
theorem r167_111 : j_at 167 111 = some (111, .iload 7, 2, []) := by decide +kernel
theorem r167_113 : j_at 167 113 = some (113, .putfield 13, 3, [705, 12, 0, 1, 0, 0, 12]) := by decide +kernel
theorem r167_116 : j_at 167 116 = some (116, .iconst 1, 1, []) := by decide +kernel
theorem r167_117 : j_at 167 117 = some (117, .istore 8, 2, []) := by decide +kernel
theorem r167_119 : j_at 167 119 = some (119, .iconst 0, 1, []) := by decide +kernel
theorem r167_120 : j_at 167 120 = some (120, .istore 9, 2, []) := by decide +kernel
theorem r167_122 : j_at 167 122 = some (122, .iload 9, 2, []) := by decide +kernel
theorem r167_124 : j_at 167 124 = some (124, .iload_n 1, 1, []) := by decide +kernel
theorem r167_125 : j_at 167 125 = some (125, .if_icmp .ge 51, 3, []) := by decide +kernel
theorem r167_128 : j_at 167 128 = some (128, .iload 8, 2, []) := by decide +kernel
theorem r167_130 : j_at 167 130 = some (130, .ifCond .eq 46, 3, []) := by decide +kernel
theorem r167_133 : j_at 167 133 = some (133, .aload_n 0, 1, []) := by decide +kernel
theorem r167_134 : j_at 167 134 = some (134, .aload_n 0, 1, []) := by decide +kernel
theorem r167_135 : j_at 167 135 = some (135, .getfield 99, 3, [733, 12, 2, 29, 0, 12]) := by decide +kernel
theorem r167_138 : j_at 167 138 = some (138, .iload 9, 2, []) := by decide +kernel
theorem r167_140 : j_at 167 140 = some (140, .iaload, 1, []) := by decide +kernel
theorem r167_141 : j_at 167 141 = some (141, .aload_n 0, 1, []) := by decide +kernel
theorem r167_142 : j_at 167 142 = some (142, .getfield 19, 3, [707, 12, 0, 3, 0, 12]) := by decide +kernel
theorem r167_145 : j_at 167 145 = some (145, .iload 9, 2, []) := by decide +kernel
theorem r167_147 : j_at 167 147 = some (147, .iadd, 1, []) := by decide +kernel
theorem r167_148 : j_at 167 148 = some (148, .invokevirtual 289, 3, [2, 3, 157, 918, 919, 56, 77, 0, 12]) := by decide +kernel
theorem r167_151 : j_at 167 151 = some (151, .aload_n 0, 1, []) := by decide +kernel
theorem r167_152 : j_at 167 152 = some (152, .getfield 99, 3, [733, 12, 2, 29, 0, 12]) := by decide +kernel
theorem r167_155 : j_at 167 155 = some (155, .iload 9, 2, []) := by decide +kernel
theorem r167_157 : j_at 167 157 = some (157, .iconst 1, 1, []) := by decide +kernel
theorem r167_158 : j_at 167 158 = some (158, .iadd, 1, []) := by decide +kernel
theorem r167_159 : j_at 167 159 = some (159, .iaload, 1, []) := by decide +kernel
theorem r167_160 : j_at 167 160 = some (160, .if_icmp .ne 7, 3, []) := by decide +kernel
theorem r167_163 : j_at 167 163 = some (163, .iconst 1, 1, []) := by decide +kernel
theorem r167_164 : j_at 167 164 = some (164, .goto 4, 3, []) := by decide +kernel
theorem r167_167 : j_at 167 167 = some (167, .iconst 0, 1, []) := by decide +kernel
theorem r167_168 : j_at 167 168 = some (168, .istore 8, 2, []) := by decide +kernel
theorem r167_170 : j_at 167 170 = some (170, .iinc 9 1, 3, []) := by decide +kernel
theorem r167_173 : j_at 167 173 = some (173, .goto (-51), 3, []) := by decide +kernel
theorem r167_176 : j_at 167 176 = some (176, .iload 4, 2, []) := by decide +kernel
theorem r167_178 : j_at 167 178 = some (178, .iload 8, 2, []) := by decide +kernel
theorem r167_180 : j_at 167 180 = some (180, .ifCond .eq 7, 3, []) := by decide +kernel
theorem r167_183 : j_at 167 183 = some (183, .iconst 1, 1, []) := by decide +kernel
theorem r167_184 : j_at 167 184 = some (184, .goto 4, 3, []) := by decide +kernel
theorem r167_187 : j_at 167 187 = some (187, .iconst 0, 1, []) := by decide +kernel
theorem r167_188 : j_at 167 188 = some (188, .iadd, 1, []) := by decide +kernel
theorem r167_189 : j_at 167 189 = some (189, .istore 4, 2, []) := by decide +kernel
theorem r167_191 : j_at 167 191 = some (191, .iload 5, 2, []) := by decide +kernel
theorem r167_193 : j_at 167 193 = some (193, .iload 8, 2, []) := by decide +kernel
theorem r167_195 : j_at 167 195 = some (195, .ifCond .eq 8, 3, []) := by decide +kernel
theorem r167_198 : j_at 167 198 = some (198, .iload 7, 2, []) := by decide +kernel
theorem r167_200 : j_at 167 200 = some (200, .goto 6, 3, []) := by decide +kernel
theorem r167_203 : j_at 167 203 = some (203, .sipush 255, 3, []) := by decide +kernel
theorem r167_206 : j_at 167 206 = some (206, .iand, 1, []) := by decide +kernel
theorem r167_207 : j_at 167 207 = some (207, .istore 5, 2, []) := by decide +kernel
theorem r167_209 : j_at 167 209 = some (209, .iload 6, 2, []) := by decide +kernel
theorem r167_211 : j_at 167 211 = some (211, .iload 8, 2, []) := by decide +kernel
theorem r167_213 : j_at 167 213 = some (213, .ifCond .eq 8, 3, []) := by decide +kernel
theorem r167_216 : j_at 167 216 = some (216, .iload 7, 2, []) := by decide +kernel
theorem r167_218 : j_at 167 218 = some (218, .goto 4, 3, []) := by decide +kernel
theorem r167_221 : j_at 167 221 = some (221, .iconst 0, 1, []) := by decide +kernel
theorem r167_222 : j_at 167 222 = some (222, .ior, 1, []) := by decide +kernel
theorem r167_223 : j_at 167 223 = some (223, .istore 6, 2, []) := by decide +kernel
theorem r167_225 : j_at 167 225 = some (225, .iinc 7 1, 3, []) := by decide +kernel
theorem r167_228 : j_at 167 228 = some (228, .goto (-126), 3, []) := by decide +kernel
theorem r167_231 : j_at 167 231 = some (231, .aload_n 0, 1, []) := by decide +kernel
theorem r167_232 : j_at 167 232 = some (232, .iload_n 3, 1, []) := by decide +kernel
theorem r167_233 : j_at 167 233 = some (233, .putfield 13, 3, [705, 12, 0, 1, 0, 0, 12]) := by decide +kernel
theorem r167_236 : j_at 167 236 = some (236, .iload 5, 2, []) := by decide +kernel
theorem r167_238 : j_at 167 238 = some (238, .sipush 255, 3, []) := by decide +kernel
theorem r167_241 : j_at 167 241 = some (241, .iload 6, 2, []) := by decide +kernel
theorem r167_243 : j_at 167 243 = some (243, .isub, 1, []) := by decide +kernel
theorem r167_244 : j_at 167 244 = some (244, .ior, 1, []) := by decide +kernel
theorem r167_245 : j_at 167 245 = some (245, .istore 7, 2, []) := by decide +kernel
theorem r167_247 : j_at 167 247 = some (247, .iload_n 2, 1, []) := by decide +kernel
theorem r167_248 : j_at 167 248 = some (248, .ifCond .ne 8, 3, []) := by decide +kernel
theorem r167_251 : j_at 167 251 = some (251, .iload 4, 2, []) := by decide +kernel
theorem r167_253 : j_at 167 253 = some (253, .goto 20, 3, []) := by decide +kernel
theorem r167_256 : j_at 167 256 = some (256, .iload_n 2, 1, []) := by decide +kernel
theorem r167_257 : j_at 167 257 = some (257, .iconst 1, 1, []) := by decide +kernel
theorem r167_258 : j_at 167 258 = some (258, .if_icmp .ne 8, 3, []) := by decide +kernel
theorem r167_261 : j_at 167 261 = some (261, .iload 7, 2, []) := by decide +kernel
theorem r167_263 : j_at 167 263 = some (263, .goto 10, 3, []) := by decide +kernel
theorem r167_266 : j_at 167 266 = some (266, .iload 7, 2, []) := by decide +kernel
theorem r167_268 : j_at 167 268 = some (268, .aload_n 0, 1, []) := by decide +kernel
theorem r167_269 : j_at 167 269 = some (269, .getfield 13, 3, [705, 12, 0, 1, 0, 12]) := by decide +kernel
theorem r167_272 : j_at 167 272 = some (272, .iand, 1, []) := by decide +kernel
theorem r167_273 : j_at 167 273 = some (273, .ireturn, 1, []) := by decide +kernel
theorem b167_0 {b : Nat} {x0 : Value} {x1 : Int32} {x2 : Int32} {u3 : Value} {u4 : Value} {u5 : Value} {u6 : Value} {u7 : Value} {u8 : Value} {u9 : Value} {H : j_H} {Q : Option Value → j_H → Prop} (h0 : j_vc H x0 = 12) : j_wp (b + 1) 167 0 [x0, .int x1, .int x2, u3, u4, u5, u6, u7, u8, u9] [] H Q = j_wp b 121 0 [x0, .int x2, .int (Int32.ofInt 0), .int (Int32.ofInt 2)] [] H (j_k (b + 1) 167 7 [x0, .int x1, .int x2, u3, u4, u5, u6, u7, u8, u9] [] Q) := Eq.trans (s_aload_n r167_0 rfl (j_isr_vc h0 rfl)) (Eq.trans (s_iload_n r167_1 rfl) (Eq.trans (s_iconst r167_2) (Eq.trans (s_iconst r167_3) (j_cll (as := [x0, .int x2, .int (Int32.ofInt 0), .int (Int32.ofInt 2)]) (es := [x0, .int x2, .int (Int32.ofInt 0), .int (Int32.ofInt 2)]) (s_c2 r167_4 rfl h0 rfl rfl (j_dok (s := [.int (Int32.ofInt 2), .int (Int32.ofInt 0), .int x2, x0]) (as := [x0, .int x2, .int (Int32.ofInt 0), .int (Int32.ofInt 2)]) (rest := []) (es := [x0, .int x2, .int (Int32.ofInt 0), .int (Int32.ofInt 2)]) rfl rfl rfl rfl (j_slc (j_c1r (j_isr_vc h0 rfl)) rfl) rfl)) (j_slc (j_c1r (j_isr_vc h0 rfl)) rfl) rfl))))
theorem b167_7 {b : Nat} {x0 : Value} {x1 : Int32} {x2 : Int32} {u3 : Value} {u4 : Value} {u5 : Value} {u6 : Value} {u7 : Value} {u8 : Value} {u9 : Value} {y0 : Int32} {H : j_H} {Q : Option Value → j_H → Prop}  : j_wp b 167 7 [x0, .int x1, .int x2, u3, u4, u5, u6, u7, u8, u9] [.int y0] H Q = (if ¬ y0.toInt = 0 then j_wp b 167 12 [x0, .int x1, .int x2, u3, u4, u5, u6, u7, u8, u9] [] H Q else j_wp b 167 10 [x0, .int x1, .int x2, u3, u4, u5, u6, u7, u8, u9] [] H Q) := s_ifne r167_7 rfl rfl
theorem b167_10 {b : Nat} {x0 : Value} {x1 : Int32} {x2 : Int32} {u3 : Value} {u4 : Value} {u5 : Value} {u6 : Value} {u7 : Value} {u8 : Value} {u9 : Value} {H : j_H} {Q : Option Value → j_H → Prop}  : j_wp b 167 10 [x0, .int x1, .int x2, u3, u4, u5, u6, u7, u8, u9] [] H Q = Q (some (.int (Int32.ofInt (-1)))) H := Eq.trans (s_iconst r167_10) (s_ireturn r167_11 (j_rok1 rfl))
theorem b167_12 {b : Nat} {x0 : Value} {x1 : Int32} {x2 : Int32} {u3 : Value} {u4 : Value} {u5 : Value} {u6 : Value} {u7 : Value} {u8 : Value} {u9 : Value} {H : j_H} {Q : Option Value → j_H → Prop} (h0 : j_vc H x0 = 12) : j_wp (b + 1) 167 12 [x0, .int x1, .int x2, u3, u4, u5, u6, u7, u8, u9] [] H Q = j_wp b 121 0 [x0, .int x1, .int (Int32.ofInt 0), .int (Int32.ofInt 12)] [] H (j_k (b + 1) 167 20 [x0, .int x1, .int x2, u3, u4, u5, u6, u7, u8, u9] [] Q) := Eq.trans (s_aload_n r167_12 rfl (j_isr_vc h0 rfl)) (Eq.trans (s_iload_n r167_13 rfl) (Eq.trans (s_iconst r167_14) (Eq.trans (s_bipush r167_15) (j_cll (as := [x0, .int x1, .int (Int32.ofInt 0), .int (Int32.ofInt 12)]) (es := [x0, .int x1, .int (Int32.ofInt 0), .int (Int32.ofInt 12)]) (s_c2 r167_17 rfl h0 rfl rfl (j_dok (s := [.int (Int32.ofInt 12), .int (Int32.ofInt 0), .int x1, x0]) (as := [x0, .int x1, .int (Int32.ofInt 0), .int (Int32.ofInt 12)]) (rest := []) (es := [x0, .int x1, .int (Int32.ofInt 0), .int (Int32.ofInt 12)]) rfl rfl rfl rfl (j_slc (j_c1r (j_isr_vc h0 rfl)) rfl) rfl)) (j_slc (j_c1r (j_isr_vc h0 rfl)) rfl) rfl))))
theorem b167_20 {b : Nat} {x0 : Value} {x1 : Int32} {x2 : Int32} {u3 : Value} {u4 : Value} {u5 : Value} {u6 : Value} {u7 : Value} {u8 : Value} {u9 : Value} {y0 : Int32} {H : j_H} {Q : Option Value → j_H → Prop}  : j_wp b 167 20 [x0, .int x1, .int x2, u3, u4, u5, u6, u7, u8, u9] [.int y0] H Q = (if ¬ y0.toInt = 0 then j_wp b 167 26 [x0, .int x1, .int x2, u3, u4, u5, u6, u7, u8, u9] [] H Q else j_wp b 167 23 [x0, .int x1, .int x2, u3, u4, u5, u6, u7, u8, u9] [] H Q) := s_ifne r167_20 rfl rfl
theorem b167_23 {b : Nat} {x0 : Value} {x1 : Int32} {x2 : Int32} {u3 : Value} {u4 : Value} {u5 : Value} {u6 : Value} {u7 : Value} {u8 : Value} {u9 : Value} {H : j_H} {Q : Option Value → j_H → Prop}  : j_wp b 167 23 [x0, .int x1, .int x2, u3, u4, u5, u6, u7, u8, u9] [] H Q = Q (some (.int (Int32.ofInt (-2)))) H := Eq.trans (s_bipush r167_23) (s_ireturn r167_25 (j_rok1 rfl))
theorem b167_26 {b : Nat} {x0 : Value} {x1 : Int32} {x2 : Int32} {u3 : Value} {u4 : Value} {u5 : Value} {u6 : Value} {u7 : Value} {u8 : Value} {u9 : Value} {H : j_H} {Q : Option Value → j_H → Prop} (h0 : j_vc H x0 = 12) : j_wp b 167 26 [x0, .int x1, .int x2, u3, u4, u5, u6, u7, u8, u9] [] H Q = (if ¬ (j_I H (j_pa x0) 0).toInt = 0 then j_wp b 167 36 [x0, .int x1, .int x2, u3, u4, u5, u6, u7, u8, u9] [] H Q else j_wp b 167 33 [x0, .int x1, .int x2, u3, u4, u5, u6, u7, u8, u9] [] H Q) := Eq.trans (s_aload_n r167_26 rfl (j_isr_vc h0 rfl)) (Eq.trans (s_getfi r167_27 (j_al1 h0 rfl) rfl rfl rfl) (s_ifne r167_30 rfl rfl))
theorem b167_33 {b : Nat} {x0 : Value} {x1 : Int32} {x2 : Int32} {u3 : Value} {u4 : Value} {u5 : Value} {u6 : Value} {u7 : Value} {u8 : Value} {u9 : Value} {H : j_H} {Q : Option Value → j_H → Prop}  : j_wp b 167 33 [x0, .int x1, .int x2, u3, u4, u5, u6, u7, u8, u9] [] H Q = Q (some (.int (Int32.ofInt (-3)))) H := Eq.trans (s_bipush r167_33) (s_ireturn r167_35 (j_rok1 rfl))
theorem b167_36 {b : Nat} {x0 : Value} {x1 : Int32} {x2 : Int32} {u3 : Value} {u4 : Value} {u5 : Value} {u6 : Value} {u7 : Value} {u8 : Value} {u9 : Value} {H : j_H} {Q : Option Value → j_H → Prop} (h0 : j_vc H x0 = 12) (h1 : j_vt H (va_rf (j_R H (j_pa x0) 29)) = 0) (h2 : 0 < ((j_vl H (va_rf (j_R H (j_pa x0) 29)) : Nat) : Int)) : j_wp b 167 36 [x0, .int x1, .int x2, u3, u4, u5, u6, u7, u8, u9] [] H Q = j_wp b 167 46 [x0, .int x1, .int x2, u3, u4, u5, u6, u7, u8, u9] [] (j_sI H (j_pa (va_rf (j_R H (j_pa x0) 29))) (j_ix (Int32.ofInt 0)) (j_I H (j_pa x0) 2)) Q := Eq.trans (s_aload_n r167_36 rfl (j_isr_vc h0 rfl)) (Eq.trans (s_getfr r167_37 (j_al1 h0 rfl) rfl) (Eq.trans (s_iconst r167_40) (Eq.trans (s_aload_n r167_41 rfl (j_isr_vc h0 rfl)) (Eq.trans (s_getfi r167_42 (j_al1 h0 rfl) rfl rfl rfl) (s_iast r167_45 h1 (j_ib_of (z := 0) rfl (by decide) h2))))))
theorem b167_46 {b : Nat} {x0 : Value} {x1 : Int32} {x2 : Int32} {u3 : Value} {u4 : Value} {u5 : Value} {u6 : Value} {u7 : Value} {u8 : Value} {u9 : Value} {H : j_H} {Q : Option Value → j_H → Prop}  : j_wp b 167 46 [x0, .int x1, .int x2, u3, u4, u5, u6, u7, u8, u9] [] H Q = j_wp b 167 48 [x0, .int x1, .int x2, .int (Int32.ofInt 0), u4, u5, u6, u7, u8, u9] [] H Q := Eq.trans (s_iconst r167_46) (s_istore_n r167_47 (Nat.le_of_ble_eq_true rfl) rfl)
theorem b167_48 {b : Nat} {x0 : Value} {x1 : Int32} {x2 : Int32} {x3 : Int32} {u4 : Value} {u5 : Value} {u6 : Value} {u7 : Value} {u8 : Value} {u9 : Value} {H : j_H} {Q : Option Value → j_H → Prop}  : j_wp b 167 48 [x0, .int x1, .int x2, .int x3, u4, u5, u6, u7, u8, u9] [] H Q = (if x1.toInt ≤ x3.toInt then j_wp b 167 83 [x0, .int x1, .int x2, .int x3, u4, u5, u6, u7, u8, u9] [] H Q else j_wp b 167 53 [x0, .int x1, .int x2, .int x3, u4, u5, u6, u7, u8, u9] [] H Q) := Eq.trans (s_iload_n r167_48 rfl) (Eq.trans (s_iload_n r167_49 rfl) (s_icge r167_50 rfl rfl rfl))
theorem b167_53 {b : Nat} {x0 : Value} {x1 : Int32} {x2 : Int32} {x3 : Int32} {u4 : Value} {u5 : Value} {u6 : Value} {u7 : Value} {u8 : Value} {u9 : Value} {H : j_H} {Q : Option Value → j_H → Prop} (h0 : j_vc H x0 = 12) (h1 : j_vt H (va_rf (j_R H (j_pa x0) 29)) = 0) (h2 : 0 ≤ x3.toInt) (h3 : x3.toInt < ((j_vl H (va_rf (j_R H (j_pa x0) 29)) : Nat) : Int)) : j_wp (b + 1) 167 53 [x0, .int x1, .int x2, .int x3, u4, u5, u6, u7, u8, u9] [] H Q = j_wp b 157 0 [x0, .int (j_I H (j_pa (va_rf (j_R H (j_pa x0) 29))) (j_ix x3)), .int ((j_I H (j_pa x0) 3) + x3)] [] H (j_k (b + 1) 167 76 [x0, .int x1, .int x2, .int x3, u4, u5, u6, u7, u8, u9] [.int (x3 + (Int32.ofInt 1)), va_rf (j_R H (j_pa x0) 29)] Q) := Eq.trans (s_aload_n r167_53 rfl (j_isr_vc h0 rfl)) (Eq.trans (s_getfr r167_54 (j_al1 h0 rfl) rfl) (Eq.trans (s_iload_n r167_57 rfl) (Eq.trans (s_iconst r167_58) (Eq.trans (s_iadd r167_59) (Eq.trans (s_aload_n r167_60 rfl (j_isr_vc h0 rfl)) (Eq.trans (s_aload_n r167_61 rfl (j_isr_vc h0 rfl)) (Eq.trans (s_getfr r167_62 (j_al1 h0 rfl) rfl) (Eq.trans (s_iload_n r167_65 rfl) (Eq.trans (s_iald r167_66 h1 (by decide) (j_ib_of (z := x3.toInt) rfl h2 h3)) (Eq.trans (s_aload_n r167_67 rfl (j_isr_vc h0 rfl)) (Eq.trans (s_getfi r167_68 (j_al1 h0 rfl) rfl rfl rfl) (Eq.trans (s_iload_n r167_71 rfl) (Eq.trans (s_iadd r167_72) (j_cll (as := [x0, .int (j_I H (j_pa (va_rf (j_R H (j_pa x0) 29))) (j_ix x3)), .int ((j_I H (j_pa x0) 3) + x3)]) (es := [x0, .int (j_I H (j_pa (va_rf (j_R H (j_pa x0) 29))) (j_ix x3)), .int ((j_I H (j_pa x0) 3) + x3)]) (s_c2 r167_73 rfl h0 rfl rfl (j_dok (s := [.int ((j_I H (j_pa x0) 3) + x3), .int (j_I H (j_pa (va_rf (j_R H (j_pa x0) 29))) (j_ix x3)), x0, .int (x3 + (Int32.ofInt 1)), va_rf (j_R H (j_pa x0) 29)]) (as := [x0, .int (j_I H (j_pa (va_rf (j_R H (j_pa x0) 29))) (j_ix x3)), .int ((j_I H (j_pa x0) 3) + x3)]) (rest := [.int (x3 + (Int32.ofInt 1)), va_rf (j_R H (j_pa x0) 29)]) (es := [x0, .int (j_I H (j_pa (va_rf (j_R H (j_pa x0) 29))) (j_ix x3)), .int ((j_I H (j_pa x0) 3) + x3)]) rfl rfl rfl rfl (j_slc (j_c1r (j_isr_vc h0 rfl)) rfl) rfl)) (j_slc (j_c1r (j_isr_vc h0 rfl)) rfl) rfl))))))))))))))
theorem b167_76 {b : Nat} {x0 : Value} {x1 : Int32} {x2 : Int32} {x3 : Int32} {u4 : Value} {u5 : Value} {u6 : Value} {u7 : Value} {u8 : Value} {u9 : Value} {y0 : Int32} {y1 : Int32} {y2 : Value} {H : j_H} {Q : Option Value → j_H → Prop} (h0 : j_vt H y2 = 0) (h1 : 0 ≤ y1.toInt) (h2 : y1.toInt < ((j_vl H y2 : Nat) : Int)) : j_wp b 167 76 [x0, .int x1, .int x2, .int x3, u4, u5, u6, u7, u8, u9] [.int y0, .int y1, y2] H Q = j_wp b 167 77 [x0, .int x1, .int x2, .int x3, u4, u5, u6, u7, u8, u9] [] (j_sI H (j_pa y2) (j_ix y1) y0) Q := s_iast r167_76 h0 (j_ib_of (z := y1.toInt) rfl h1 h2)
theorem b167_77 {b : Nat} {x0 : Value} {x1 : Int32} {x2 : Int32} {x3 : Int32} {u4 : Value} {u5 : Value} {u6 : Value} {u7 : Value} {u8 : Value} {u9 : Value} {H : j_H} {Q : Option Value → j_H → Prop}  : j_wp b 167 77 [x0, .int x1, .int x2, .int x3, u4, u5, u6, u7, u8, u9] [] H Q = j_wp b 167 48 [x0, .int x1, .int x2, .int (x3 + Int32.ofInt 1), u4, u5, u6, u7, u8, u9] [] H Q := Eq.trans (s_iinc r167_77 rfl rfl) (s_goto r167_80 rfl)
theorem b167_83 {b : Nat} {x0 : Value} {x1 : Int32} {x2 : Int32} {x3 : Int32} {u4 : Value} {u5 : Value} {u6 : Value} {u7 : Value} {u8 : Value} {u9 : Value} {H : j_H} {Q : Option Value → j_H → Prop} (h0 : j_vc H x0 = 12) : j_wp b 167 83 [x0, .int x1, .int x2, .int x3, u4, u5, u6, u7, u8, u9] [] H Q = j_wp b 167 102 [x0, .int x1, .int x2, .int (j_I H (j_pa x0) 1), .int (Int32.ofInt 0), .int (Int32.ofInt 255), .int (Int32.ofInt 0), .int (Int32.ofInt 0), u8, u9] [] H Q := Eq.trans (s_aload_n r167_83 rfl (j_isr_vc h0 rfl)) (Eq.trans (s_getfi r167_84 (j_al1 h0 rfl) rfl rfl rfl) (Eq.trans (s_istore_n r167_87 (Nat.le_of_ble_eq_true rfl) rfl) (Eq.trans (s_iconst r167_88) (Eq.trans (s_istore r167_89 (Nat.le_of_ble_eq_true rfl) rfl) (Eq.trans (s_sipush r167_91) (Eq.trans (s_istore r167_94 (Nat.le_of_ble_eq_true rfl) rfl) (Eq.trans (s_iconst r167_96) (Eq.trans (s_istore r167_97 (Nat.le_of_ble_eq_true rfl) rfl) (Eq.trans (s_iconst r167_99) (s_istore r167_100 (Nat.le_of_ble_eq_true rfl) rfl))))))))))
theorem b167_102 {b : Nat} {x0 : Value} {x1 : Int32} {x2 : Int32} {x3 : Int32} {x4 : Int32} {x5 : Int32} {x6 : Int32} {x7 : Int32} {u8 : Value} {u9 : Value} {H : j_H} {Q : Option Value → j_H → Prop}  : j_wp b 167 102 [x0, .int x1, .int x2, .int x3, .int x4, .int x5, .int x6, .int x7, u8, u9] [] H Q = (if 256 ≤ x7.toInt then j_wp b 167 231 [x0, .int x1, .int x2, .int x3, .int x4, .int x5, .int x6, .int x7, u8, u9] [] H Q else j_wp b 167 110 [x0, .int x1, .int x2, .int x3, .int x4, .int x5, .int x6, .int x7, u8, u9] [] H Q) := Eq.trans (s_iload r167_102 rfl) (Eq.trans (s_sipush r167_104) (s_icge r167_107 rfl rfl rfl))
theorem b167_110 {b : Nat} {x0 : Value} {x1 : Int32} {x2 : Int32} {x3 : Int32} {x4 : Int32} {x5 : Int32} {x6 : Int32} {x7 : Int32} {u8 : Value} {u9 : Value} {H : j_H} {Q : Option Value → j_H → Prop} (h0 : j_vc H x0 = 12) : j_wp b 167 110 [x0, .int x1, .int x2, .int x3, .int x4, .int x5, .int x6, .int x7, u8, u9] [] H Q = j_wp b 167 116 [x0, .int x1, .int x2, .int x3, .int x4, .int x5, .int x6, .int x7, u8, u9] [] (j_sI H (j_pa x0) 1 x7) Q := Eq.trans (s_aload_n r167_110 rfl (j_isr_vc h0 rfl)) (Eq.trans (s_iload r167_111 rfl) (s_put r167_113 (j_al1 h0 rfl) rfl j_putI))
theorem b167_116 {b : Nat} {x0 : Value} {x1 : Int32} {x2 : Int32} {x3 : Int32} {x4 : Int32} {x5 : Int32} {x6 : Int32} {x7 : Int32} {u8 : Value} {u9 : Value} {H : j_H} {Q : Option Value → j_H → Prop}  : j_wp b 167 116 [x0, .int x1, .int x2, .int x3, .int x4, .int x5, .int x6, .int x7, u8, u9] [] H Q = j_wp b 167 122 [x0, .int x1, .int x2, .int x3, .int x4, .int x5, .int x6, .int x7, .int (Int32.ofInt 1), .int (Int32.ofInt 0)] [] H Q := Eq.trans (s_iconst r167_116) (Eq.trans (s_istore r167_117 (Nat.le_of_ble_eq_true rfl) rfl) (Eq.trans (s_iconst r167_119) (s_istore r167_120 (Nat.le_of_ble_eq_true rfl) rfl)))
theorem b167_122 {b : Nat} {x0 : Value} {x1 : Int32} {x2 : Int32} {x3 : Int32} {x4 : Int32} {x5 : Int32} {x6 : Int32} {x7 : Int32} {x8 : Int32} {x9 : Int32} {H : j_H} {Q : Option Value → j_H → Prop}  : j_wp b 167 122 [x0, .int x1, .int x2, .int x3, .int x4, .int x5, .int x6, .int x7, .int x8, .int x9] [] H Q = (if x1.toInt ≤ x9.toInt then j_wp b 167 176 [x0, .int x1, .int x2, .int x3, .int x4, .int x5, .int x6, .int x7, .int x8, .int x9] [] H Q else j_wp b 167 128 [x0, .int x1, .int x2, .int x3, .int x4, .int x5, .int x6, .int x7, .int x8, .int x9] [] H Q) := Eq.trans (s_iload r167_122 rfl) (Eq.trans (s_iload_n r167_124 rfl) (s_icge r167_125 rfl rfl rfl))
theorem b167_128 {b : Nat} {x0 : Value} {x1 : Int32} {x2 : Int32} {x3 : Int32} {x4 : Int32} {x5 : Int32} {x6 : Int32} {x7 : Int32} {x8 : Int32} {x9 : Int32} {H : j_H} {Q : Option Value → j_H → Prop}  : j_wp b 167 128 [x0, .int x1, .int x2, .int x3, .int x4, .int x5, .int x6, .int x7, .int x8, .int x9] [] H Q = (if x8.toInt = 0 then j_wp b 167 176 [x0, .int x1, .int x2, .int x3, .int x4, .int x5, .int x6, .int x7, .int x8, .int x9] [] H Q else j_wp b 167 133 [x0, .int x1, .int x2, .int x3, .int x4, .int x5, .int x6, .int x7, .int x8, .int x9] [] H Q) := Eq.trans (s_iload r167_128 rfl) (s_ifeq r167_130 rfl rfl)
theorem b167_133 {b : Nat} {x0 : Value} {x1 : Int32} {x2 : Int32} {x3 : Int32} {x4 : Int32} {x5 : Int32} {x6 : Int32} {x7 : Int32} {x8 : Int32} {x9 : Int32} {H : j_H} {Q : Option Value → j_H → Prop} (h0 : j_vc H x0 = 12) (h1 : j_vt H (va_rf (j_R H (j_pa x0) 29)) = 0) (h2 : 0 ≤ x9.toInt) (h3 : x9.toInt < ((j_vl H (va_rf (j_R H (j_pa x0) 29)) : Nat) : Int)) : j_wp (b + 1) 167 133 [x0, .int x1, .int x2, .int x3, .int x4, .int x5, .int x6, .int x7, .int x8, .int x9] [] H Q = j_wp b 157 0 [x0, .int (j_I H (j_pa (va_rf (j_R H (j_pa x0) 29))) (j_ix x9)), .int ((j_I H (j_pa x0) 3) + x9)] [] H (j_k (b + 1) 167 151 [x0, .int x1, .int x2, .int x3, .int x4, .int x5, .int x6, .int x7, .int x8, .int x9] [] Q) := Eq.trans (s_aload_n r167_133 rfl (j_isr_vc h0 rfl)) (Eq.trans (s_aload_n r167_134 rfl (j_isr_vc h0 rfl)) (Eq.trans (s_getfr r167_135 (j_al1 h0 rfl) rfl) (Eq.trans (s_iload r167_138 rfl) (Eq.trans (s_iald r167_140 h1 (by decide) (j_ib_of (z := x9.toInt) rfl h2 h3)) (Eq.trans (s_aload_n r167_141 rfl (j_isr_vc h0 rfl)) (Eq.trans (s_getfi r167_142 (j_al1 h0 rfl) rfl rfl rfl) (Eq.trans (s_iload r167_145 rfl) (Eq.trans (s_iadd r167_147) (j_cll (as := [x0, .int (j_I H (j_pa (va_rf (j_R H (j_pa x0) 29))) (j_ix x9)), .int ((j_I H (j_pa x0) 3) + x9)]) (es := [x0, .int (j_I H (j_pa (va_rf (j_R H (j_pa x0) 29))) (j_ix x9)), .int ((j_I H (j_pa x0) 3) + x9)]) (s_c2 r167_148 rfl h0 rfl rfl (j_dok (s := [.int ((j_I H (j_pa x0) 3) + x9), .int (j_I H (j_pa (va_rf (j_R H (j_pa x0) 29))) (j_ix x9)), x0]) (as := [x0, .int (j_I H (j_pa (va_rf (j_R H (j_pa x0) 29))) (j_ix x9)), .int ((j_I H (j_pa x0) 3) + x9)]) (rest := []) (es := [x0, .int (j_I H (j_pa (va_rf (j_R H (j_pa x0) 29))) (j_ix x9)), .int ((j_I H (j_pa x0) 3) + x9)]) rfl rfl rfl rfl (j_slc (j_c1r (j_isr_vc h0 rfl)) rfl) rfl)) (j_slc (j_c1r (j_isr_vc h0 rfl)) rfl) rfl)))))))))
theorem b167_151 {b : Nat} {x0 : Value} {x1 : Int32} {x2 : Int32} {x3 : Int32} {x4 : Int32} {x5 : Int32} {x6 : Int32} {x7 : Int32} {x8 : Int32} {x9 : Int32} {y0 : Int32} {H : j_H} {Q : Option Value → j_H → Prop} (h0 : j_vc H x0 = 12) (h1 : j_vt H (va_rf (j_R H (j_pa x0) 29)) = 0) (h2 : 0 ≤ (x9 + (Int32.ofInt 1)).toInt) (h3 : (x9 + (Int32.ofInt 1)).toInt < ((j_vl H (va_rf (j_R H (j_pa x0) 29)) : Nat) : Int)) : j_wp b 167 151 [x0, .int x1, .int x2, .int x3, .int x4, .int x5, .int x6, .int x7, .int x8, .int x9] [.int y0] H Q = (if ¬ y0.toInt = (j_I H (j_pa (va_rf (j_R H (j_pa x0) 29))) (j_ix (x9 + (Int32.ofInt 1)))).toInt then j_wp b 167 167 [x0, .int x1, .int x2, .int x3, .int x4, .int x5, .int x6, .int x7, .int x8, .int x9] [] H Q else j_wp b 167 163 [x0, .int x1, .int x2, .int x3, .int x4, .int x5, .int x6, .int x7, .int x8, .int x9] [] H Q) := Eq.trans (s_aload_n r167_151 rfl (j_isr_vc h0 rfl)) (Eq.trans (s_getfr r167_152 (j_al1 h0 rfl) rfl) (Eq.trans (s_iload r167_155 rfl) (Eq.trans (s_iconst r167_157) (Eq.trans (s_iadd r167_158) (Eq.trans (s_iald r167_159 h1 (by decide) (j_ib_of (z := (x9 + (Int32.ofInt 1)).toInt) rfl h2 h3)) (s_icne r167_160 rfl rfl rfl))))))
theorem b167_163 {b : Nat} {x0 : Value} {x1 : Int32} {x2 : Int32} {x3 : Int32} {x4 : Int32} {x5 : Int32} {x6 : Int32} {x7 : Int32} {x8 : Int32} {x9 : Int32} {H : j_H} {Q : Option Value → j_H → Prop}  : j_wp b 167 163 [x0, .int x1, .int x2, .int x3, .int x4, .int x5, .int x6, .int x7, .int x8, .int x9] [] H Q = j_wp b 167 168 [x0, .int x1, .int x2, .int x3, .int x4, .int x5, .int x6, .int x7, .int x8, .int x9] [.int (Int32.ofInt 1)] H Q := Eq.trans (s_iconst r167_163) (s_goto r167_164 rfl)
theorem b167_167 {b : Nat} {x0 : Value} {x1 : Int32} {x2 : Int32} {x3 : Int32} {x4 : Int32} {x5 : Int32} {x6 : Int32} {x7 : Int32} {x8 : Int32} {x9 : Int32} {H : j_H} {Q : Option Value → j_H → Prop}  : j_wp b 167 167 [x0, .int x1, .int x2, .int x3, .int x4, .int x5, .int x6, .int x7, .int x8, .int x9] [] H Q = j_wp b 167 168 [x0, .int x1, .int x2, .int x3, .int x4, .int x5, .int x6, .int x7, .int x8, .int x9] [.int (Int32.ofInt 0)] H Q := s_iconst r167_167
theorem b167_168 {b : Nat} {x0 : Value} {x1 : Int32} {x2 : Int32} {x3 : Int32} {x4 : Int32} {x5 : Int32} {x6 : Int32} {x7 : Int32} {x8 : Int32} {x9 : Int32} {y0 : Int32} {H : j_H} {Q : Option Value → j_H → Prop}  : j_wp b 167 168 [x0, .int x1, .int x2, .int x3, .int x4, .int x5, .int x6, .int x7, .int x8, .int x9] [.int y0] H Q = j_wp b 167 122 [x0, .int x1, .int x2, .int x3, .int x4, .int x5, .int x6, .int x7, .int y0, .int (x9 + Int32.ofInt 1)] [] H Q := Eq.trans (s_istore r167_168 (Nat.le_of_ble_eq_true rfl) rfl) (Eq.trans (s_iinc r167_170 rfl rfl) (s_goto r167_173 rfl))
theorem b167_176 {b : Nat} {x0 : Value} {x1 : Int32} {x2 : Int32} {x3 : Int32} {x4 : Int32} {x5 : Int32} {x6 : Int32} {x7 : Int32} {x8 : Int32} {x9 : Int32} {H : j_H} {Q : Option Value → j_H → Prop}  : j_wp b 167 176 [x0, .int x1, .int x2, .int x3, .int x4, .int x5, .int x6, .int x7, .int x8, .int x9] [] H Q = (if x8.toInt = 0 then j_wp b 167 187 [x0, .int x1, .int x2, .int x3, .int x4, .int x5, .int x6, .int x7, .int x8, .int x9] [.int x4] H Q else j_wp b 167 183 [x0, .int x1, .int x2, .int x3, .int x4, .int x5, .int x6, .int x7, .int x8, .int x9] [.int x4] H Q) := Eq.trans (s_iload r167_176 rfl) (Eq.trans (s_iload r167_178 rfl) (s_ifeq r167_180 rfl rfl))
theorem b167_183 {b : Nat} {x0 : Value} {x1 : Int32} {x2 : Int32} {x3 : Int32} {x4 : Int32} {x5 : Int32} {x6 : Int32} {x7 : Int32} {x8 : Int32} {x9 : Int32} {y0 : Int32} {H : j_H} {Q : Option Value → j_H → Prop}  : j_wp b 167 183 [x0, .int x1, .int x2, .int x3, .int x4, .int x5, .int x6, .int x7, .int x8, .int x9] [.int y0] H Q = j_wp b 167 188 [x0, .int x1, .int x2, .int x3, .int x4, .int x5, .int x6, .int x7, .int x8, .int x9] [.int (Int32.ofInt 1), .int y0] H Q := Eq.trans (s_iconst r167_183) (s_goto r167_184 rfl)
theorem b167_187 {b : Nat} {x0 : Value} {x1 : Int32} {x2 : Int32} {x3 : Int32} {x4 : Int32} {x5 : Int32} {x6 : Int32} {x7 : Int32} {x8 : Int32} {x9 : Int32} {y0 : Int32} {H : j_H} {Q : Option Value → j_H → Prop}  : j_wp b 167 187 [x0, .int x1, .int x2, .int x3, .int x4, .int x5, .int x6, .int x7, .int x8, .int x9] [.int y0] H Q = j_wp b 167 188 [x0, .int x1, .int x2, .int x3, .int x4, .int x5, .int x6, .int x7, .int x8, .int x9] [.int (Int32.ofInt 0), .int y0] H Q := s_iconst r167_187
theorem b167_188 {b : Nat} {x0 : Value} {x1 : Int32} {x2 : Int32} {x3 : Int32} {x4 : Int32} {x5 : Int32} {x6 : Int32} {x7 : Int32} {x8 : Int32} {x9 : Int32} {y0 : Int32} {y1 : Int32} {H : j_H} {Q : Option Value → j_H → Prop}  : j_wp b 167 188 [x0, .int x1, .int x2, .int x3, .int x4, .int x5, .int x6, .int x7, .int x8, .int x9] [.int y0, .int y1] H Q = (if x8.toInt = 0 then j_wp b 167 203 [x0, .int x1, .int x2, .int x3, .int (y1 + y0), .int x5, .int x6, .int x7, .int x8, .int x9] [.int x5] H Q else j_wp b 167 198 [x0, .int x1, .int x2, .int x3, .int (y1 + y0), .int x5, .int x6, .int x7, .int x8, .int x9] [.int x5] H Q) := Eq.trans (s_iadd r167_188) (Eq.trans (s_istore r167_189 (Nat.le_of_ble_eq_true rfl) rfl) (Eq.trans (s_iload r167_191 rfl) (Eq.trans (s_iload r167_193 rfl) (s_ifeq r167_195 rfl rfl))))
theorem b167_198 {b : Nat} {x0 : Value} {x1 : Int32} {x2 : Int32} {x3 : Int32} {x4 : Int32} {x5 : Int32} {x6 : Int32} {x7 : Int32} {x8 : Int32} {x9 : Int32} {y0 : Int32} {H : j_H} {Q : Option Value → j_H → Prop}  : j_wp b 167 198 [x0, .int x1, .int x2, .int x3, .int x4, .int x5, .int x6, .int x7, .int x8, .int x9] [.int y0] H Q = j_wp b 167 206 [x0, .int x1, .int x2, .int x3, .int x4, .int x5, .int x6, .int x7, .int x8, .int x9] [.int x7, .int y0] H Q := Eq.trans (s_iload r167_198 rfl) (s_goto r167_200 rfl)
theorem b167_203 {b : Nat} {x0 : Value} {x1 : Int32} {x2 : Int32} {x3 : Int32} {x4 : Int32} {x5 : Int32} {x6 : Int32} {x7 : Int32} {x8 : Int32} {x9 : Int32} {y0 : Int32} {H : j_H} {Q : Option Value → j_H → Prop}  : j_wp b 167 203 [x0, .int x1, .int x2, .int x3, .int x4, .int x5, .int x6, .int x7, .int x8, .int x9] [.int y0] H Q = j_wp b 167 206 [x0, .int x1, .int x2, .int x3, .int x4, .int x5, .int x6, .int x7, .int x8, .int x9] [.int (Int32.ofInt 255), .int y0] H Q := s_sipush r167_203
theorem b167_206 {b : Nat} {x0 : Value} {x1 : Int32} {x2 : Int32} {x3 : Int32} {x4 : Int32} {x5 : Int32} {x6 : Int32} {x7 : Int32} {x8 : Int32} {x9 : Int32} {y0 : Int32} {y1 : Int32} {H : j_H} {Q : Option Value → j_H → Prop}  : j_wp b 167 206 [x0, .int x1, .int x2, .int x3, .int x4, .int x5, .int x6, .int x7, .int x8, .int x9] [.int y0, .int y1] H Q = (if x8.toInt = 0 then j_wp b 167 221 [x0, .int x1, .int x2, .int x3, .int x4, .int (y1 &&& y0), .int x6, .int x7, .int x8, .int x9] [.int x6] H Q else j_wp b 167 216 [x0, .int x1, .int x2, .int x3, .int x4, .int (y1 &&& y0), .int x6, .int x7, .int x8, .int x9] [.int x6] H Q) := Eq.trans (s_iand r167_206) (Eq.trans (s_istore r167_207 (Nat.le_of_ble_eq_true rfl) rfl) (Eq.trans (s_iload r167_209 rfl) (Eq.trans (s_iload r167_211 rfl) (s_ifeq r167_213 rfl rfl))))
theorem b167_216 {b : Nat} {x0 : Value} {x1 : Int32} {x2 : Int32} {x3 : Int32} {x4 : Int32} {x5 : Int32} {x6 : Int32} {x7 : Int32} {x8 : Int32} {x9 : Int32} {y0 : Int32} {H : j_H} {Q : Option Value → j_H → Prop}  : j_wp b 167 216 [x0, .int x1, .int x2, .int x3, .int x4, .int x5, .int x6, .int x7, .int x8, .int x9] [.int y0] H Q = j_wp b 167 222 [x0, .int x1, .int x2, .int x3, .int x4, .int x5, .int x6, .int x7, .int x8, .int x9] [.int x7, .int y0] H Q := Eq.trans (s_iload r167_216 rfl) (s_goto r167_218 rfl)
theorem b167_221 {b : Nat} {x0 : Value} {x1 : Int32} {x2 : Int32} {x3 : Int32} {x4 : Int32} {x5 : Int32} {x6 : Int32} {x7 : Int32} {x8 : Int32} {x9 : Int32} {y0 : Int32} {H : j_H} {Q : Option Value → j_H → Prop}  : j_wp b 167 221 [x0, .int x1, .int x2, .int x3, .int x4, .int x5, .int x6, .int x7, .int x8, .int x9] [.int y0] H Q = j_wp b 167 222 [x0, .int x1, .int x2, .int x3, .int x4, .int x5, .int x6, .int x7, .int x8, .int x9] [.int (Int32.ofInt 0), .int y0] H Q := s_iconst r167_221
theorem b167_222 {b : Nat} {x0 : Value} {x1 : Int32} {x2 : Int32} {x3 : Int32} {x4 : Int32} {x5 : Int32} {x6 : Int32} {x7 : Int32} {x8 : Int32} {x9 : Int32} {y0 : Int32} {y1 : Int32} {H : j_H} {Q : Option Value → j_H → Prop}  : j_wp b 167 222 [x0, .int x1, .int x2, .int x3, .int x4, .int x5, .int x6, .int x7, .int x8, .int x9] [.int y0, .int y1] H Q = j_wp b 167 102 [x0, .int x1, .int x2, .int x3, .int x4, .int x5, .int (y1 ||| y0), .int (x7 + Int32.ofInt 1), .int x8, .int x9] [] H Q := Eq.trans (s_ior r167_222) (Eq.trans (s_istore r167_223 (Nat.le_of_ble_eq_true rfl) rfl) (Eq.trans (s_iinc r167_225 rfl rfl) (s_goto r167_228 rfl)))
theorem b167_231 {b : Nat} {x0 : Value} {x1 : Int32} {x2 : Int32} {x3 : Int32} {x4 : Int32} {x5 : Int32} {x6 : Int32} {x7 : Int32} {u8 : Value} {u9 : Value} {H : j_H} {Q : Option Value → j_H → Prop} (h0 : j_vc H x0 = 12) : j_wp b 167 231 [x0, .int x1, .int x2, .int x3, .int x4, .int x5, .int x6, .int x7, u8, u9] [] H Q = j_wp b 167 236 [x0, .int x1, .int x2, .int x3, .int x4, .int x5, .int x6, .int x7, u8, u9] [] (j_sI H (j_pa x0) 1 x3) Q := Eq.trans (s_aload_n r167_231 rfl (j_isr_vc h0 rfl)) (Eq.trans (s_iload_n r167_232 rfl) (s_put r167_233 (j_al1 h0 rfl) rfl j_putI))
theorem b167_236 {b : Nat} {x0 : Value} {x1 : Int32} {x2 : Int32} {x3 : Int32} {x4 : Int32} {x5 : Int32} {x6 : Int32} {x7 : Int32} {u8 : Value} {u9 : Value} {H : j_H} {Q : Option Value → j_H → Prop}  : j_wp b 167 236 [x0, .int x1, .int x2, .int x3, .int x4, .int x5, .int x6, .int x7, u8, u9] [] H Q = (if ¬ x2.toInt = 0 then j_wp b 167 256 [x0, .int x1, .int x2, .int x3, .int x4, .int x5, .int x6, .int (x5 ||| ((Int32.ofInt 255) - x6)), u8, u9] [] H Q else j_wp b 167 251 [x0, .int x1, .int x2, .int x3, .int x4, .int x5, .int x6, .int (x5 ||| ((Int32.ofInt 255) - x6)), u8, u9] [] H Q) := Eq.trans (s_iload r167_236 rfl) (Eq.trans (s_sipush r167_238) (Eq.trans (s_iload r167_241 rfl) (Eq.trans (s_isub r167_243) (Eq.trans (s_ior r167_244) (Eq.trans (s_istore r167_245 (Nat.le_of_ble_eq_true rfl) rfl) (Eq.trans (s_iload_n r167_247 rfl) (s_ifne r167_248 rfl rfl)))))))
theorem b167_251 {b : Nat} {x0 : Value} {x1 : Int32} {x2 : Int32} {x3 : Int32} {x4 : Int32} {x5 : Int32} {x6 : Int32} {x7 : Int32} {u8 : Value} {u9 : Value} {H : j_H} {Q : Option Value → j_H → Prop}  : j_wp b 167 251 [x0, .int x1, .int x2, .int x3, .int x4, .int x5, .int x6, .int x7, u8, u9] [] H Q = j_wp b 167 273 [x0, .int x1, .int x2, .int x3, .int x4, .int x5, .int x6, .int x7, u8, u9] [.int x4] H Q := Eq.trans (s_iload r167_251 rfl) (s_goto r167_253 rfl)
theorem b167_256 {b : Nat} {x0 : Value} {x1 : Int32} {x2 : Int32} {x3 : Int32} {x4 : Int32} {x5 : Int32} {x6 : Int32} {x7 : Int32} {u8 : Value} {u9 : Value} {H : j_H} {Q : Option Value → j_H → Prop}  : j_wp b 167 256 [x0, .int x1, .int x2, .int x3, .int x4, .int x5, .int x6, .int x7, u8, u9] [] H Q = (if ¬ x2.toInt = 1 then j_wp b 167 266 [x0, .int x1, .int x2, .int x3, .int x4, .int x5, .int x6, .int x7, u8, u9] [] H Q else j_wp b 167 261 [x0, .int x1, .int x2, .int x3, .int x4, .int x5, .int x6, .int x7, u8, u9] [] H Q) := Eq.trans (s_iload_n r167_256 rfl) (Eq.trans (s_iconst r167_257) (s_icne r167_258 rfl rfl rfl))
theorem b167_261 {b : Nat} {x0 : Value} {x1 : Int32} {x2 : Int32} {x3 : Int32} {x4 : Int32} {x5 : Int32} {x6 : Int32} {x7 : Int32} {u8 : Value} {u9 : Value} {H : j_H} {Q : Option Value → j_H → Prop}  : j_wp b 167 261 [x0, .int x1, .int x2, .int x3, .int x4, .int x5, .int x6, .int x7, u8, u9] [] H Q = j_wp b 167 273 [x0, .int x1, .int x2, .int x3, .int x4, .int x5, .int x6, .int x7, u8, u9] [.int x7] H Q := Eq.trans (s_iload r167_261 rfl) (s_goto r167_263 rfl)
theorem b167_266 {b : Nat} {x0 : Value} {x1 : Int32} {x2 : Int32} {x3 : Int32} {x4 : Int32} {x5 : Int32} {x6 : Int32} {x7 : Int32} {u8 : Value} {u9 : Value} {H : j_H} {Q : Option Value → j_H → Prop} (h0 : j_vc H x0 = 12) : j_wp b 167 266 [x0, .int x1, .int x2, .int x3, .int x4, .int x5, .int x6, .int x7, u8, u9] [] H Q = j_wp b 167 273 [x0, .int x1, .int x2, .int x3, .int x4, .int x5, .int x6, .int x7, u8, u9] [.int (x7 &&& (j_I H (j_pa x0) 1))] H Q := Eq.trans (s_iload r167_266 rfl) (Eq.trans (s_aload_n r167_268 rfl (j_isr_vc h0 rfl)) (Eq.trans (s_getfi r167_269 (j_al1 h0 rfl) rfl rfl rfl) (s_iand r167_272)))
theorem b167_273 {b : Nat} {x0 : Value} {x1 : Int32} {x2 : Int32} {x3 : Int32} {x4 : Int32} {x5 : Int32} {x6 : Int32} {x7 : Int32} {u8 : Value} {u9 : Value} {y0 : Int32} {H : j_H} {Q : Option Value → j_H → Prop}  : j_wp b 167 273 [x0, .int x1, .int x2, .int x3, .int x4, .int x5, .int x6, .int x7, u8, u9] [.int y0] H Q = Q (some (.int y0)) H := s_ireturn r167_273 (j_rok1 rfl)
-- X12_layBest
theorem r168_0 : j_at 168 0 = some (0, .iconst 0, 1, []) := by decide +kernel
theorem r168_1 : j_at 168 1 = some (1, .istore 5, 2, []) := by decide +kernel
theorem r168_3 : j_at 168 3 = some (3, .iload 5, 2, []) := by decide +kernel
theorem r168_5 : j_at 168 5 = some (5, .bipush 7, 2, []) := by decide +kernel
theorem r168_7 : j_at 168 7 = some (7, .if_icmp .ge 17, 3, []) := by decide +kernel
theorem r168_10 : j_at 168 10 = some (10, .aload_n 0, 1, []) := by decide +kernel
theorem r168_11 : j_at 168 11 = some (11, .getfield 102, 3, [734, 12, 2, 30, 0, 12]) := by decide +kernel
theorem r168_14 : j_at 168 14 = some (14, .iload 5, 2, []) := by decide +kernel
theorem r168_16 : j_at 168 16 = some (16, .iconst 0, 1, []) := by decide +kernel
theorem r168_17 : j_at 168 17 = some (17, .iastore, 1, []) := by decide +kernel
theorem r168_18 : j_at 168 18 = some (18, .iinc 5 1, 3, []) := by decide +kernel
theorem r168_21 : j_at 168 21 = some (21, .goto (-18), 3, []) := by decide +kernel
theorem r168_24 : j_at 168 24 = some (24, .iload_n 3, 1, []) := by decide +kernel
theorem r168_25 : j_at 168 25 = some (25, .iconst 1, 1, []) := by decide +kernel
theorem r168_26 : j_at 168 26 = some (26, .isub, 1, []) := by decide +kernel
theorem r168_27 : j_at 168 27 = some (27, .istore 5, 2, []) := by decide +kernel
theorem r168_29 : j_at 168 29 = some (29, .iload 5, 2, []) := by decide +kernel
theorem r168_31 : j_at 168 31 = some (31, .iload_n 2, 1, []) := by decide +kernel
theorem r168_32 : j_at 168 32 = some (32, .if_icmp .lt 158, 3, []) := by decide +kernel
theorem r168_35 : j_at 168 35 = some (35, .iconst 0, 1, []) := by decide +kernel
theorem r168_36 : j_at 168 36 = some (36, .istore 6, 2, []) := by decide +kernel
theorem r168_38 : j_at 168 38 = some (38, .iload 6, 2, []) := by decide +kernel
theorem r168_40 : j_at 168 40 = some (40, .aload_n 0, 1, []) := by decide +kernel
theorem r168_41 : j_at 168 41 = some (41, .getfield 7, 3, [704, 12, 0, 0, 0, 12]) := by decide +kernel
theorem r168_44 : j_at 168 44 = some (44, .if_icmp .ge 108, 3, []) := by decide +kernel
theorem r168_47 : j_at 168 47 = some (47, .aload_n 0, 1, []) := by decide +kernel
theorem r168_48 : j_at 168 48 = some (48, .getfield 102, 3, [734, 12, 2, 30, 0, 12]) := by decide +kernel
theorem r168_51 : j_at 168 51 = some (51, .aload_n 0, 1, []) := by decide +kernel
theorem r168_52 : j_at 168 52 = some (52, .iload 6, 2, []) := by decide +kernel
theorem r168_54 : j_at 168 54 = some (54, .iconst 1, 1, []) := by decide +kernel
theorem r168_55 : j_at 168 55 = some (55, .invokevirtual 283, 3, [2, 3, 156, 907, 908, 55, 77, 0, 12]) := by decide +kernel
theorem r168_58 : j_at 168 58 = some (58, .iaload, 1, []) := by decide +kernel
theorem r168_59 : j_at 168 59 = some (59, .istore 7, 2, []) := by decide +kernel
theorem r168_61 : j_at 168 61 = some (61, .aload_n 0, 1, []) := by decide +kernel
theorem r168_62 : j_at 168 62 = some (62, .getfield 102, 3, [734, 12, 2, 30, 0, 12]) := by decide +kernel
theorem r168_65 : j_at 168 65 = some (65, .aload_n 0, 1, []) := by decide +kernel
theorem r168_66 : j_at 168 66 = some (66, .iload 6, 2, []) := by decide +kernel
theorem r168_68 : j_at 168 68 = some (68, .iconst 0, 1, []) := by decide +kernel
theorem r168_69 : j_at 168 69 = some (69, .invokevirtual 283, 3, [2, 3, 156, 907, 908, 55, 77, 0, 12]) := by decide +kernel
theorem r168_72 : j_at 168 72 = some (72, .iaload, 1, []) := by decide +kernel
theorem r168_73 : j_at 168 73 = some (73, .istore 8, 2, []) := by decide +kernel
theorem r168_75 : j_at 168 75 = some (75, .aload_n 0, 1, []) := by decide +kernel
theorem r168_76 : j_at 168 76 = some (76, .getfield 105, 3, [735, 12, 2, 31, 0, 12]) := by decide +kernel
theorem r168_79 : j_at 168 79 = some (79, .iload 6, 2, []) := by decide +kernel
theorem r168_81 : j_at 168 81 = some (81, .iload 6, 2, []) := by decide +kernel
theorem r168_83 : j_at 168 83 = some (83, .iload_n 1, 1, []) := by decide +kernel
theorem r168_84 : j_at 168 84 = some (84, .if_icmp .eq 24, 3, []) := by decide +kernel
theorem r168_87 : j_at 168 87 = some (87, .aload_n 0, 1, []) := by decide +kernel
theorem r168_88 : j_at 168 88 = some (88, .getfield 102, 3, [734, 12, 2, 30, 0, 12]) := by decide +kernel
theorem r168_91 : j_at 168 91 = some (91, .aload_n 0, 1, []) := by decide +kernel
theorem r168_92 : j_at 168 92 = some (92, .iload 6, 2, []) := by decide +kernel
theorem r168_94 : j_at 168 94 = some (94, .aload_n 0, 1, []) := by decide +kernel
theorem r168_95 : j_at 168 95 = some (95, .getfield 19, 3, [707, 12, 0, 3, 0, 12]) := by decide +kernel
theorem r168_98 : j_at 168 98 = some (98, .iload 5, 2, []) := by decide +kernel
theorem r168_100 : j_at 168 100 = some (100, .iadd, 1, []) := by decide +kernel
theorem r168_101 : j_at 168 101 = some (101, .invokevirtual 289, 3, [2, 3, 157, 918, 919, 56, 77, 0, 12]) := by decide +kernel
theorem r168_104 : j_at 168 104 = some (104, .iaload, 1, []) := by decide +kernel
theorem r168_105 : j_at 168 105 = some (105, .goto 40, 3, []) := by decide +kernel
theorem r168_108 : j_at 168 108 = some (108, .aload_n 0, 1, []) := by decide +kernel
theorem r168_109 : j_at 168 109 = some (109, .iload_n 1, 1, []) := by decide +kernel
theorem r168_110 : j_at 168 110 = some (110, .aload_n 0, 1, []) := by decide +kernel
theorem r168_111 : j_at 168 111 = some (111, .getfield 19, 3, [707, 12, 0, 3, 0, 12]) := by decide +kernel
theorem r168_114 : j_at 168 114 = some (114, .iload 5, 2, []) := by decide +kernel
theorem r168_116 : j_at 168 116 = some (116, .iadd, 1, []) := by decide +kernel
theorem r168_117 : j_at 168 117 = some (117, .invokevirtual 274, 3, [2, 3, 152, 889, 890, 49, 77, 0, 12]) := by decide +kernel
theorem r168_120 : j_at 168 120 = some (120, .iload 7, 2, []) := by decide +kernel
theorem r168_122 : j_at 168 122 = some (122, .iload 8, 2, []) := by decide +kernel
theorem r168_124 : j_at 168 124 = some (124, .if_icmp .le 7, 3, []) := by decide +kernel
theorem r168_127 : j_at 168 127 = some (127, .iconst 1, 1, []) := by decide +kernel
theorem r168_128 : j_at 168 128 = some (128, .goto 4, 3, []) := by decide +kernel
theorem r168_131 : j_at 168 131 = some (131, .iconst 0, 1, []) := by decide +kernel
theorem r168_132 : j_at 168 132 = some (132, .iload 4, 2, []) := by decide +kernel
theorem r168_134 : j_at 168 134 = some (134, .if_icmp .ne 8, 3, []) := by decide +kernel
theorem r168_137 : j_at 168 137 = some (137, .iload 7, 2, []) := by decide +kernel
theorem r168_139 : j_at 168 139 = some (139, .goto 5, 3, []) := by decide +kernel
theorem r168_142 : j_at 168 142 = some (142, .iload 8, 2, []) := by decide +kernel
theorem r168_144 : j_at 168 144 = some (144, .iadd, 1, []) := by decide +kernel
theorem r168_145 : j_at 168 145 = some (145, .iastore, 1, []) := by decide +kernel
theorem r168_146 : j_at 168 146 = some (146, .iinc 6 1, 3, []) := by decide +kernel
theorem r168_149 : j_at 168 149 = some (149, .goto (-111), 3, []) := by decide +kernel
theorem r168_152 : j_at 168 152 = some (152, .iconst 0, 1, []) := by decide +kernel
theorem r168_153 : j_at 168 153 = some (153, .istore 6, 2, []) := by decide +kernel
theorem r168_155 : j_at 168 155 = some (155, .iload 6, 2, []) := by decide +kernel
theorem r168_157 : j_at 168 157 = some (157, .aload_n 0, 1, []) := by decide +kernel
theorem r168_158 : j_at 168 158 = some (158, .getfield 7, 3, [704, 12, 0, 0, 0, 12]) := by decide +kernel
theorem r168_161 : j_at 168 161 = some (161, .if_icmp .ge 23, 3, []) := by decide +kernel
theorem r168_164 : j_at 168 164 = some (164, .aload_n 0, 1, []) := by decide +kernel
theorem r168_165 : j_at 168 165 = some (165, .getfield 102, 3, [734, 12, 2, 30, 0, 12]) := by decide +kernel
theorem r168_168 : j_at 168 168 = some (168, .iload 6, 2, []) := by decide +kernel
theorem r168_170 : j_at 168 170 = some (170, .aload_n 0, 1, []) := by decide +kernel
theorem r168_171 : j_at 168 171 = some (171, .getfield 105, 3, [735, 12, 2, 31, 0, 12]) := by decide +kernel
theorem r168_174 : j_at 168 174 = some (174, .iload 6, 2, []) := by decide +kernel
theorem r168_176 : j_at 168 176 = some (176, .iaload, 1, []) := by decide +kernel
theorem r168_177 : j_at 168 177 = some (177, .iastore, 1, []) := by decide +kernel
theorem r168_178 : j_at 168 178 = some (178, .iinc 6 1, 3, []) := by decide +kernel
theorem r168_181 : j_at 168 181 = some (181, .goto (-26), 3, []) := by decide +kernel
theorem r168_184 : j_at 168 184 = some (184, .iinc 5 (-1), 3, []) := by decide +kernel
theorem r168_187 : j_at 168 187 = some (187, .goto (-158), 3, []) := by decide +kernel
theorem r168_190 : j_at 168 190 = some (190, .return_, 1, []) := by decide +kernel
theorem b168_0 {b : Nat} {x0 : Value} {x1 : Int32} {x2 : Int32} {x3 : Int32} {x4 : Int32} {u5 : Value} {u6 : Value} {u7 : Value} {u8 : Value} {H : j_H} {Q : Option Value → j_H → Prop}  : j_wp b 168 0 [x0, .int x1, .int x2, .int x3, .int x4, u5, u6, u7, u8] [] H Q = j_wp b 168 3 [x0, .int x1, .int x2, .int x3, .int x4, .int (Int32.ofInt 0), u6, u7, u8] [] H Q := Eq.trans (s_iconst r168_0) (s_istore r168_1 (Nat.le_of_ble_eq_true rfl) rfl)
theorem b168_3 {b : Nat} {x0 : Value} {x1 : Int32} {x2 : Int32} {x3 : Int32} {x4 : Int32} {x5 : Int32} {u6 : Value} {u7 : Value} {u8 : Value} {H : j_H} {Q : Option Value → j_H → Prop}  : j_wp b 168 3 [x0, .int x1, .int x2, .int x3, .int x4, .int x5, u6, u7, u8] [] H Q = (if 7 ≤ x5.toInt then j_wp b 168 24 [x0, .int x1, .int x2, .int x3, .int x4, .int x5, u6, u7, u8] [] H Q else j_wp b 168 10 [x0, .int x1, .int x2, .int x3, .int x4, .int x5, u6, u7, u8] [] H Q) := Eq.trans (s_iload r168_3 rfl) (Eq.trans (s_bipush r168_5) (s_icge r168_7 rfl rfl rfl))
theorem b168_10 {b : Nat} {x0 : Value} {x1 : Int32} {x2 : Int32} {x3 : Int32} {x4 : Int32} {x5 : Int32} {u6 : Value} {u7 : Value} {u8 : Value} {H : j_H} {Q : Option Value → j_H → Prop} (h0 : j_vc H x0 = 12) (h1 : j_vt H (va_rf (j_R H (j_pa x0) 30)) = 0) (h2 : 0 ≤ x5.toInt) (h3 : x5.toInt < ((j_vl H (va_rf (j_R H (j_pa x0) 30)) : Nat) : Int)) : j_wp b 168 10 [x0, .int x1, .int x2, .int x3, .int x4, .int x5, u6, u7, u8] [] H Q = j_wp b 168 18 [x0, .int x1, .int x2, .int x3, .int x4, .int x5, u6, u7, u8] [] (j_sI H (j_pa (va_rf (j_R H (j_pa x0) 30))) (j_ix x5) (Int32.ofInt 0)) Q := Eq.trans (s_aload_n r168_10 rfl (j_isr_vc h0 rfl)) (Eq.trans (s_getfr r168_11 (j_al1 h0 rfl) rfl) (Eq.trans (s_iload r168_14 rfl) (Eq.trans (s_iconst r168_16) (s_iast r168_17 h1 (j_ib_of (z := x5.toInt) rfl h2 h3)))))
theorem b168_18 {b : Nat} {x0 : Value} {x1 : Int32} {x2 : Int32} {x3 : Int32} {x4 : Int32} {x5 : Int32} {u6 : Value} {u7 : Value} {u8 : Value} {H : j_H} {Q : Option Value → j_H → Prop}  : j_wp b 168 18 [x0, .int x1, .int x2, .int x3, .int x4, .int x5, u6, u7, u8] [] H Q = j_wp b 168 3 [x0, .int x1, .int x2, .int x3, .int x4, .int (x5 + Int32.ofInt 1), u6, u7, u8] [] H Q := Eq.trans (s_iinc r168_18 rfl rfl) (s_goto r168_21 rfl)
theorem b168_24 {b : Nat} {x0 : Value} {x1 : Int32} {x2 : Int32} {x3 : Int32} {x4 : Int32} {x5 : Int32} {u6 : Value} {u7 : Value} {u8 : Value} {H : j_H} {Q : Option Value → j_H → Prop}  : j_wp b 168 24 [x0, .int x1, .int x2, .int x3, .int x4, .int x5, u6, u7, u8] [] H Q = j_wp b 168 29 [x0, .int x1, .int x2, .int x3, .int x4, .int (x3 - (Int32.ofInt 1)), u6, u7, u8] [] H Q := Eq.trans (s_iload_n r168_24 rfl) (Eq.trans (s_iconst r168_25) (Eq.trans (s_isub r168_26) (s_istore r168_27 (Nat.le_of_ble_eq_true rfl) rfl)))
theorem b168_29 {b : Nat} {x0 : Value} {x1 : Int32} {x2 : Int32} {x3 : Int32} {x4 : Int32} {x5 : Int32} {u6 : Value} {u7 : Value} {u8 : Value} {H : j_H} {Q : Option Value → j_H → Prop}  : j_wp b 168 29 [x0, .int x1, .int x2, .int x3, .int x4, .int x5, u6, u7, u8] [] H Q = (if x5.toInt < x2.toInt then j_wp b 168 190 [x0, .int x1, .int x2, .int x3, .int x4, .int x5, u6, u7, u8] [] H Q else j_wp b 168 35 [x0, .int x1, .int x2, .int x3, .int x4, .int x5, u6, u7, u8] [] H Q) := Eq.trans (s_iload r168_29 rfl) (Eq.trans (s_iload_n r168_31 rfl) (s_iclt r168_32 rfl rfl rfl))
theorem b168_35 {b : Nat} {x0 : Value} {x1 : Int32} {x2 : Int32} {x3 : Int32} {x4 : Int32} {x5 : Int32} {u6 : Value} {u7 : Value} {u8 : Value} {H : j_H} {Q : Option Value → j_H → Prop}  : j_wp b 168 35 [x0, .int x1, .int x2, .int x3, .int x4, .int x5, u6, u7, u8] [] H Q = j_wp b 168 38 [x0, .int x1, .int x2, .int x3, .int x4, .int x5, .int (Int32.ofInt 0), u7, u8] [] H Q := Eq.trans (s_iconst r168_35) (s_istore r168_36 (Nat.le_of_ble_eq_true rfl) rfl)
theorem b168_38 {b : Nat} {x0 : Value} {x1 : Int32} {x2 : Int32} {x3 : Int32} {x4 : Int32} {x5 : Int32} {x6 : Int32} {u7 : Value} {u8 : Value} {H : j_H} {Q : Option Value → j_H → Prop} (h0 : j_vc H x0 = 12) : j_wp b 168 38 [x0, .int x1, .int x2, .int x3, .int x4, .int x5, .int x6, u7, u8] [] H Q = (if (j_I H (j_pa x0) 0).toInt ≤ x6.toInt then j_wp b 168 152 [x0, .int x1, .int x2, .int x3, .int x4, .int x5, .int x6, u7, u8] [] H Q else j_wp b 168 47 [x0, .int x1, .int x2, .int x3, .int x4, .int x5, .int x6, u7, u8] [] H Q) := Eq.trans (s_iload r168_38 rfl) (Eq.trans (s_aload_n r168_40 rfl (j_isr_vc h0 rfl)) (Eq.trans (s_getfi r168_41 (j_al1 h0 rfl) rfl rfl rfl) (s_icge r168_44 rfl rfl rfl)))
theorem b168_47 {b : Nat} {x0 : Value} {x1 : Int32} {x2 : Int32} {x3 : Int32} {x4 : Int32} {x5 : Int32} {x6 : Int32} {u7 : Value} {u8 : Value} {H : j_H} {Q : Option Value → j_H → Prop} (h0 : j_vc H x0 = 12) : j_wp (b + 1) 168 47 [x0, .int x1, .int x2, .int x3, .int x4, .int x5, .int x6, u7, u8] [] H Q = j_wp b 156 0 [x0, .int x6, .int (Int32.ofInt 1), j_u] [] H (j_k (b + 1) 168 58 [x0, .int x1, .int x2, .int x3, .int x4, .int x5, .int x6, u7, u8] [va_rf (j_R H (j_pa x0) 30)] Q) := Eq.trans (s_aload_n r168_47 rfl (j_isr_vc h0 rfl)) (Eq.trans (s_getfr r168_48 (j_al1 h0 rfl) rfl) (Eq.trans (s_aload_n r168_51 rfl (j_isr_vc h0 rfl)) (Eq.trans (s_iload r168_52 rfl) (Eq.trans (s_iconst r168_54) (j_cll (as := [x0, .int x6, .int (Int32.ofInt 1)]) (es := [x0, .int x6, .int (Int32.ofInt 1)]) (s_c2 r168_55 rfl h0 rfl rfl (j_dok (s := [.int (Int32.ofInt 1), .int x6, x0, va_rf (j_R H (j_pa x0) 30)]) (as := [x0, .int x6, .int (Int32.ofInt 1)]) (rest := [va_rf (j_R H (j_pa x0) 30)]) (es := [x0, .int x6, .int (Int32.ofInt 1)]) rfl rfl rfl rfl (j_slc (j_c1r (j_isr_vc h0 rfl)) rfl) rfl)) (j_slc (j_c1r (j_isr_vc h0 rfl)) rfl) rfl)))))
theorem b168_58 {b : Nat} {x0 : Value} {x1 : Int32} {x2 : Int32} {x3 : Int32} {x4 : Int32} {x5 : Int32} {x6 : Int32} {u7 : Value} {u8 : Value} {y0 : Int32} {y1 : Value} {H : j_H} {Q : Option Value → j_H → Prop} (h0 : j_vt H y1 = 0) (h1 : 0 ≤ y0.toInt) (h2 : y0.toInt < ((j_vl H y1 : Nat) : Int)) (h3 : j_vc H x0 = 12) : j_wp (b + 1) 168 58 [x0, .int x1, .int x2, .int x3, .int x4, .int x5, .int x6, u7, u8] [.int y0, y1] H Q = j_wp b 156 0 [x0, .int x6, .int (Int32.ofInt 0), j_u] [] H (j_k (b + 1) 168 72 [x0, .int x1, .int x2, .int x3, .int x4, .int x5, .int x6, .int (j_I H (j_pa y1) (j_ix y0)), u8] [va_rf (j_R H (j_pa x0) 30)] Q) := Eq.trans (s_iald r168_58 h0 (by decide) (j_ib_of (z := y0.toInt) rfl h1 h2)) (Eq.trans (s_istore r168_59 (Nat.le_of_ble_eq_true rfl) rfl) (Eq.trans (s_aload_n r168_61 rfl (j_isr_vc h3 rfl)) (Eq.trans (s_getfr r168_62 (j_al1 h3 rfl) rfl) (Eq.trans (s_aload_n r168_65 rfl (j_isr_vc h3 rfl)) (Eq.trans (s_iload r168_66 rfl) (Eq.trans (s_iconst r168_68) (j_cll (as := [x0, .int x6, .int (Int32.ofInt 0)]) (es := [x0, .int x6, .int (Int32.ofInt 0)]) (s_c2 r168_69 rfl h3 rfl rfl (j_dok (s := [.int (Int32.ofInt 0), .int x6, x0, va_rf (j_R H (j_pa x0) 30)]) (as := [x0, .int x6, .int (Int32.ofInt 0)]) (rest := [va_rf (j_R H (j_pa x0) 30)]) (es := [x0, .int x6, .int (Int32.ofInt 0)]) rfl rfl rfl rfl (j_slc (j_c1r (j_isr_vc h3 rfl)) rfl) rfl)) (j_slc (j_c1r (j_isr_vc h3 rfl)) rfl) rfl)))))))
theorem b168_72 {b : Nat} {x0 : Value} {x1 : Int32} {x2 : Int32} {x3 : Int32} {x4 : Int32} {x5 : Int32} {x6 : Int32} {x7 : Int32} {u8 : Value} {y0 : Int32} {y1 : Value} {H : j_H} {Q : Option Value → j_H → Prop} (h0 : j_vt H y1 = 0) (h1 : 0 ≤ y0.toInt) (h2 : y0.toInt < ((j_vl H y1 : Nat) : Int)) (h3 : j_vc H x0 = 12) : j_wp b 168 72 [x0, .int x1, .int x2, .int x3, .int x4, .int x5, .int x6, .int x7, u8] [.int y0, y1] H Q = (if x6.toInt = x1.toInt then j_wp b 168 108 [x0, .int x1, .int x2, .int x3, .int x4, .int x5, .int x6, .int x7, .int (j_I H (j_pa y1) (j_ix y0))] [.int x6, va_rf (j_R H (j_pa x0) 31)] H Q else j_wp b 168 87 [x0, .int x1, .int x2, .int x3, .int x4, .int x5, .int x6, .int x7, .int (j_I H (j_pa y1) (j_ix y0))] [.int x6, va_rf (j_R H (j_pa x0) 31)] H Q) := Eq.trans (s_iald r168_72 h0 (by decide) (j_ib_of (z := y0.toInt) rfl h1 h2)) (Eq.trans (s_istore r168_73 (Nat.le_of_ble_eq_true rfl) rfl) (Eq.trans (s_aload_n r168_75 rfl (j_isr_vc h3 rfl)) (Eq.trans (s_getfr r168_76 (j_al1 h3 rfl) rfl) (Eq.trans (s_iload r168_79 rfl) (Eq.trans (s_iload r168_81 rfl) (Eq.trans (s_iload_n r168_83 rfl) (s_iceq r168_84 rfl rfl rfl)))))))
theorem b168_87 {b : Nat} {x0 : Value} {x1 : Int32} {x2 : Int32} {x3 : Int32} {x4 : Int32} {x5 : Int32} {x6 : Int32} {x7 : Int32} {x8 : Int32} {y0 : Int32} {y1 : Value} {H : j_H} {Q : Option Value → j_H → Prop} (h0 : j_vc H x0 = 12) : j_wp (b + 1) 168 87 [x0, .int x1, .int x2, .int x3, .int x4, .int x5, .int x6, .int x7, .int x8] [.int y0, y1] H Q = j_wp b 157 0 [x0, .int x6, .int ((j_I H (j_pa x0) 3) + x5)] [] H (j_k (b + 1) 168 104 [x0, .int x1, .int x2, .int x3, .int x4, .int x5, .int x6, .int x7, .int x8] [va_rf (j_R H (j_pa x0) 30), .int y0, y1] Q) := Eq.trans (s_aload_n r168_87 rfl (j_isr_vc h0 rfl)) (Eq.trans (s_getfr r168_88 (j_al1 h0 rfl) rfl) (Eq.trans (s_aload_n r168_91 rfl (j_isr_vc h0 rfl)) (Eq.trans (s_iload r168_92 rfl) (Eq.trans (s_aload_n r168_94 rfl (j_isr_vc h0 rfl)) (Eq.trans (s_getfi r168_95 (j_al1 h0 rfl) rfl rfl rfl) (Eq.trans (s_iload r168_98 rfl) (Eq.trans (s_iadd r168_100) (j_cll (as := [x0, .int x6, .int ((j_I H (j_pa x0) 3) + x5)]) (es := [x0, .int x6, .int ((j_I H (j_pa x0) 3) + x5)]) (s_c2 r168_101 rfl h0 rfl rfl (j_dok (s := [.int ((j_I H (j_pa x0) 3) + x5), .int x6, x0, va_rf (j_R H (j_pa x0) 30), .int y0, y1]) (as := [x0, .int x6, .int ((j_I H (j_pa x0) 3) + x5)]) (rest := [va_rf (j_R H (j_pa x0) 30), .int y0, y1]) (es := [x0, .int x6, .int ((j_I H (j_pa x0) 3) + x5)]) rfl rfl rfl rfl (j_slc (j_c1r (j_isr_vc h0 rfl)) rfl) rfl)) (j_slc (j_c1r (j_isr_vc h0 rfl)) rfl) rfl))))))))
theorem b168_104 {b : Nat} {x0 : Value} {x1 : Int32} {x2 : Int32} {x3 : Int32} {x4 : Int32} {x5 : Int32} {x6 : Int32} {x7 : Int32} {x8 : Int32} {y0 : Int32} {y1 : Value} {y2 : Int32} {y3 : Value} {H : j_H} {Q : Option Value → j_H → Prop} (h0 : j_vt H y1 = 0) (h1 : 0 ≤ y0.toInt) (h2 : y0.toInt < ((j_vl H y1 : Nat) : Int)) : j_wp b 168 104 [x0, .int x1, .int x2, .int x3, .int x4, .int x5, .int x6, .int x7, .int x8] [.int y0, y1, .int y2, y3] H Q = j_wp b 168 145 [x0, .int x1, .int x2, .int x3, .int x4, .int x5, .int x6, .int x7, .int x8] [.int (j_I H (j_pa y1) (j_ix y0)), .int y2, y3] H Q := Eq.trans (s_iald r168_104 h0 (by decide) (j_ib_of (z := y0.toInt) rfl h1 h2)) (s_goto r168_105 rfl)
theorem b168_108 {b : Nat} {x0 : Value} {x1 : Int32} {x2 : Int32} {x3 : Int32} {x4 : Int32} {x5 : Int32} {x6 : Int32} {x7 : Int32} {x8 : Int32} {y0 : Int32} {y1 : Value} {H : j_H} {Q : Option Value → j_H → Prop} (h0 : j_vc H x0 = 12) : j_wp (b + 1) 168 108 [x0, .int x1, .int x2, .int x3, .int x4, .int x5, .int x6, .int x7, .int x8] [.int y0, y1] H Q = j_wp b 152 0 [x0, .int x1, .int ((j_I H (j_pa x0) 3) + x5)] [] H (j_k (b + 1) 168 120 [x0, .int x1, .int x2, .int x3, .int x4, .int x5, .int x6, .int x7, .int x8] [.int y0, y1] Q) := Eq.trans (s_aload_n r168_108 rfl (j_isr_vc h0 rfl)) (Eq.trans (s_iload_n r168_109 rfl) (Eq.trans (s_aload_n r168_110 rfl (j_isr_vc h0 rfl)) (Eq.trans (s_getfi r168_111 (j_al1 h0 rfl) rfl rfl rfl) (Eq.trans (s_iload r168_114 rfl) (Eq.trans (s_iadd r168_116) (j_cll (as := [x0, .int x1, .int ((j_I H (j_pa x0) 3) + x5)]) (es := [x0, .int x1, .int ((j_I H (j_pa x0) 3) + x5)]) (s_c2 r168_117 rfl h0 rfl rfl (j_dok (s := [.int ((j_I H (j_pa x0) 3) + x5), .int x1, x0, .int y0, y1]) (as := [x0, .int x1, .int ((j_I H (j_pa x0) 3) + x5)]) (rest := [.int y0, y1]) (es := [x0, .int x1, .int ((j_I H (j_pa x0) 3) + x5)]) rfl rfl rfl rfl (j_slc (j_c1r (j_isr_vc h0 rfl)) rfl) rfl)) (j_slc (j_c1r (j_isr_vc h0 rfl)) rfl) rfl))))))
theorem b168_120 {b : Nat} {x0 : Value} {x1 : Int32} {x2 : Int32} {x3 : Int32} {x4 : Int32} {x5 : Int32} {x6 : Int32} {x7 : Int32} {x8 : Int32} {y0 : Int32} {y1 : Int32} {y2 : Value} {H : j_H} {Q : Option Value → j_H → Prop}  : j_wp b 168 120 [x0, .int x1, .int x2, .int x3, .int x4, .int x5, .int x6, .int x7, .int x8] [.int y0, .int y1, y2] H Q = (if x7.toInt ≤ x8.toInt then j_wp b 168 131 [x0, .int x1, .int x2, .int x3, .int x4, .int x5, .int x6, .int x7, .int x8] [.int y0, .int y1, y2] H Q else j_wp b 168 127 [x0, .int x1, .int x2, .int x3, .int x4, .int x5, .int x6, .int x7, .int x8] [.int y0, .int y1, y2] H Q) := Eq.trans (s_iload r168_120 rfl) (Eq.trans (s_iload r168_122 rfl) (s_icle r168_124 rfl rfl rfl))
theorem b168_127 {b : Nat} {x0 : Value} {x1 : Int32} {x2 : Int32} {x3 : Int32} {x4 : Int32} {x5 : Int32} {x6 : Int32} {x7 : Int32} {x8 : Int32} {y0 : Int32} {y1 : Int32} {y2 : Value} {H : j_H} {Q : Option Value → j_H → Prop}  : j_wp b 168 127 [x0, .int x1, .int x2, .int x3, .int x4, .int x5, .int x6, .int x7, .int x8] [.int y0, .int y1, y2] H Q = j_wp b 168 132 [x0, .int x1, .int x2, .int x3, .int x4, .int x5, .int x6, .int x7, .int x8] [.int (Int32.ofInt 1), .int y0, .int y1, y2] H Q := Eq.trans (s_iconst r168_127) (s_goto r168_128 rfl)
theorem b168_131 {b : Nat} {x0 : Value} {x1 : Int32} {x2 : Int32} {x3 : Int32} {x4 : Int32} {x5 : Int32} {x6 : Int32} {x7 : Int32} {x8 : Int32} {y0 : Int32} {y1 : Int32} {y2 : Value} {H : j_H} {Q : Option Value → j_H → Prop}  : j_wp b 168 131 [x0, .int x1, .int x2, .int x3, .int x4, .int x5, .int x6, .int x7, .int x8] [.int y0, .int y1, y2] H Q = j_wp b 168 132 [x0, .int x1, .int x2, .int x3, .int x4, .int x5, .int x6, .int x7, .int x8] [.int (Int32.ofInt 0), .int y0, .int y1, y2] H Q := s_iconst r168_131
theorem b168_132 {b : Nat} {x0 : Value} {x1 : Int32} {x2 : Int32} {x3 : Int32} {x4 : Int32} {x5 : Int32} {x6 : Int32} {x7 : Int32} {x8 : Int32} {y0 : Int32} {y1 : Int32} {y2 : Int32} {y3 : Value} {H : j_H} {Q : Option Value → j_H → Prop}  : j_wp b 168 132 [x0, .int x1, .int x2, .int x3, .int x4, .int x5, .int x6, .int x7, .int x8] [.int y0, .int y1, .int y2, y3] H Q = (if ¬ y0.toInt = x4.toInt then j_wp b 168 142 [x0, .int x1, .int x2, .int x3, .int x4, .int x5, .int x6, .int x7, .int x8] [.int y1, .int y2, y3] H Q else j_wp b 168 137 [x0, .int x1, .int x2, .int x3, .int x4, .int x5, .int x6, .int x7, .int x8] [.int y1, .int y2, y3] H Q) := Eq.trans (s_iload r168_132 rfl) (s_icne r168_134 rfl rfl rfl)
theorem b168_137 {b : Nat} {x0 : Value} {x1 : Int32} {x2 : Int32} {x3 : Int32} {x4 : Int32} {x5 : Int32} {x6 : Int32} {x7 : Int32} {x8 : Int32} {y0 : Int32} {y1 : Int32} {y2 : Value} {H : j_H} {Q : Option Value → j_H → Prop}  : j_wp b 168 137 [x0, .int x1, .int x2, .int x3, .int x4, .int x5, .int x6, .int x7, .int x8] [.int y0, .int y1, y2] H Q = j_wp b 168 144 [x0, .int x1, .int x2, .int x3, .int x4, .int x5, .int x6, .int x7, .int x8] [.int x7, .int y0, .int y1, y2] H Q := Eq.trans (s_iload r168_137 rfl) (s_goto r168_139 rfl)
theorem b168_142 {b : Nat} {x0 : Value} {x1 : Int32} {x2 : Int32} {x3 : Int32} {x4 : Int32} {x5 : Int32} {x6 : Int32} {x7 : Int32} {x8 : Int32} {y0 : Int32} {y1 : Int32} {y2 : Value} {H : j_H} {Q : Option Value → j_H → Prop}  : j_wp b 168 142 [x0, .int x1, .int x2, .int x3, .int x4, .int x5, .int x6, .int x7, .int x8] [.int y0, .int y1, y2] H Q = j_wp b 168 144 [x0, .int x1, .int x2, .int x3, .int x4, .int x5, .int x6, .int x7, .int x8] [.int x8, .int y0, .int y1, y2] H Q := s_iload r168_142 rfl
theorem b168_144 {b : Nat} {x0 : Value} {x1 : Int32} {x2 : Int32} {x3 : Int32} {x4 : Int32} {x5 : Int32} {x6 : Int32} {x7 : Int32} {x8 : Int32} {y0 : Int32} {y1 : Int32} {y2 : Int32} {y3 : Value} {H : j_H} {Q : Option Value → j_H → Prop}  : j_wp b 168 144 [x0, .int x1, .int x2, .int x3, .int x4, .int x5, .int x6, .int x7, .int x8] [.int y0, .int y1, .int y2, y3] H Q = j_wp b 168 145 [x0, .int x1, .int x2, .int x3, .int x4, .int x5, .int x6, .int x7, .int x8] [.int (y1 + y0), .int y2, y3] H Q := s_iadd r168_144
theorem b168_145 {b : Nat} {x0 : Value} {x1 : Int32} {x2 : Int32} {x3 : Int32} {x4 : Int32} {x5 : Int32} {x6 : Int32} {x7 : Int32} {x8 : Int32} {y0 : Int32} {y1 : Int32} {y2 : Value} {H : j_H} {Q : Option Value → j_H → Prop} (h0 : j_vt H y2 = 0) (h1 : 0 ≤ y1.toInt) (h2 : y1.toInt < ((j_vl H y2 : Nat) : Int)) : j_wp b 168 145 [x0, .int x1, .int x2, .int x3, .int x4, .int x5, .int x6, .int x7, .int x8] [.int y0, .int y1, y2] H Q = j_wp b 168 146 [x0, .int x1, .int x2, .int x3, .int x4, .int x5, .int x6, .int x7, .int x8] [] (j_sI H (j_pa y2) (j_ix y1) y0) Q := s_iast r168_145 h0 (j_ib_of (z := y1.toInt) rfl h1 h2)
theorem b168_146 {b : Nat} {x0 : Value} {x1 : Int32} {x2 : Int32} {x3 : Int32} {x4 : Int32} {x5 : Int32} {x6 : Int32} {x7 : Int32} {x8 : Int32} {H : j_H} {Q : Option Value → j_H → Prop}  : j_wp b 168 146 [x0, .int x1, .int x2, .int x3, .int x4, .int x5, .int x6, .int x7, .int x8] [] H Q = j_wp b 168 38 [x0, .int x1, .int x2, .int x3, .int x4, .int x5, .int (x6 + Int32.ofInt 1), .int x7, .int x8] [] H Q := Eq.trans (s_iinc r168_146 rfl rfl) (s_goto r168_149 rfl)
theorem b168_152 {b : Nat} {x0 : Value} {x1 : Int32} {x2 : Int32} {x3 : Int32} {x4 : Int32} {x5 : Int32} {x6 : Int32} {u7 : Value} {u8 : Value} {H : j_H} {Q : Option Value → j_H → Prop}  : j_wp b 168 152 [x0, .int x1, .int x2, .int x3, .int x4, .int x5, .int x6, u7, u8] [] H Q = j_wp b 168 155 [x0, .int x1, .int x2, .int x3, .int x4, .int x5, .int (Int32.ofInt 0), u7, u8] [] H Q := Eq.trans (s_iconst r168_152) (s_istore r168_153 (Nat.le_of_ble_eq_true rfl) rfl)
theorem b168_155 {b : Nat} {x0 : Value} {x1 : Int32} {x2 : Int32} {x3 : Int32} {x4 : Int32} {x5 : Int32} {x6 : Int32} {u7 : Value} {u8 : Value} {H : j_H} {Q : Option Value → j_H → Prop} (h0 : j_vc H x0 = 12) : j_wp b 168 155 [x0, .int x1, .int x2, .int x3, .int x4, .int x5, .int x6, u7, u8] [] H Q = (if (j_I H (j_pa x0) 0).toInt ≤ x6.toInt then j_wp b 168 184 [x0, .int x1, .int x2, .int x3, .int x4, .int x5, .int x6, u7, u8] [] H Q else j_wp b 168 164 [x0, .int x1, .int x2, .int x3, .int x4, .int x5, .int x6, u7, u8] [] H Q) := Eq.trans (s_iload r168_155 rfl) (Eq.trans (s_aload_n r168_157 rfl (j_isr_vc h0 rfl)) (Eq.trans (s_getfi r168_158 (j_al1 h0 rfl) rfl rfl rfl) (s_icge r168_161 rfl rfl rfl)))
theorem b168_164 {b : Nat} {x0 : Value} {x1 : Int32} {x2 : Int32} {x3 : Int32} {x4 : Int32} {x5 : Int32} {x6 : Int32} {u7 : Value} {u8 : Value} {H : j_H} {Q : Option Value → j_H → Prop} (h0 : j_vc H x0 = 12) (h1 : j_vt H (va_rf (j_R H (j_pa x0) 31)) = 0) (h2 : 0 ≤ x6.toInt) (h3 : x6.toInt < ((j_vl H (va_rf (j_R H (j_pa x0) 31)) : Nat) : Int)) (h4 : j_vt H (va_rf (j_R H (j_pa x0) 30)) = 0) (h5 : x6.toInt < ((j_vl H (va_rf (j_R H (j_pa x0) 30)) : Nat) : Int)) : j_wp b 168 164 [x0, .int x1, .int x2, .int x3, .int x4, .int x5, .int x6, u7, u8] [] H Q = j_wp b 168 178 [x0, .int x1, .int x2, .int x3, .int x4, .int x5, .int x6, u7, u8] [] (j_sI H (j_pa (va_rf (j_R H (j_pa x0) 30))) (j_ix x6) (j_I H (j_pa (va_rf (j_R H (j_pa x0) 31))) (j_ix x6))) Q := Eq.trans (s_aload_n r168_164 rfl (j_isr_vc h0 rfl)) (Eq.trans (s_getfr r168_165 (j_al1 h0 rfl) rfl) (Eq.trans (s_iload r168_168 rfl) (Eq.trans (s_aload_n r168_170 rfl (j_isr_vc h0 rfl)) (Eq.trans (s_getfr r168_171 (j_al1 h0 rfl) rfl) (Eq.trans (s_iload r168_174 rfl) (Eq.trans (s_iald r168_176 h1 (by decide) (j_ib_of (z := x6.toInt) rfl h2 h3)) (s_iast r168_177 h4 (j_ib_of (z := x6.toInt) rfl h2 h5))))))))
theorem b168_178 {b : Nat} {x0 : Value} {x1 : Int32} {x2 : Int32} {x3 : Int32} {x4 : Int32} {x5 : Int32} {x6 : Int32} {u7 : Value} {u8 : Value} {H : j_H} {Q : Option Value → j_H → Prop}  : j_wp b 168 178 [x0, .int x1, .int x2, .int x3, .int x4, .int x5, .int x6, u7, u8] [] H Q = j_wp b 168 155 [x0, .int x1, .int x2, .int x3, .int x4, .int x5, .int (x6 + Int32.ofInt 1), u7, u8] [] H Q := Eq.trans (s_iinc r168_178 rfl rfl) (s_goto r168_181 rfl)
theorem b168_184 {b : Nat} {x0 : Value} {x1 : Int32} {x2 : Int32} {x3 : Int32} {x4 : Int32} {x5 : Int32} {x6 : Int32} {u7 : Value} {u8 : Value} {H : j_H} {Q : Option Value → j_H → Prop}  : j_wp b 168 184 [x0, .int x1, .int x2, .int x3, .int x4, .int x5, .int x6, u7, u8] [] H Q = j_wp b 168 29 [x0, .int x1, .int x2, .int x3, .int x4, .int (x5 + Int32.ofInt (-1)), .int x6, u7, u8] [] H Q := Eq.trans (s_iinc r168_184 rfl rfl) (s_goto r168_187 rfl)
theorem b168_190 {b : Nat} {x0 : Value} {x1 : Int32} {x2 : Int32} {x3 : Int32} {x4 : Int32} {x5 : Int32} {u6 : Value} {u7 : Value} {u8 : Value} {H : j_H} {Q : Option Value → j_H → Prop}  : j_wp b 168 190 [x0, .int x1, .int x2, .int x3, .int x4, .int x5, u6, u7, u8] [] H Q = Q none H := s_return r168_190 rfl
-- X12_best
theorem r169_0 : j_at 169 0 = some (0, .aload_n 0, 1, []) := by decide +kernel
theorem r169_1 : j_at 169 1 = some (1, .iload_n 1, 1, []) := by decide +kernel
theorem r169_2 : j_at 169 2 = some (2, .invokevirtual 193, 3, [2, 2, 124, 833, 834, 27, 77, 0, 12]) := by decide +kernel
theorem r169_5 : j_at 169 5 = some (5, .ifCond .eq 13, 3, []) := by decide +kernel
theorem r169_8 : j_at 169 8 = some (8, .aload_n 0, 1, []) := by decide +kernel
theorem r169_9 : j_at 169 9 = some (9, .iload_n 3, 1, []) := by decide +kernel
theorem r169_10 : j_at 169 10 = some (10, .iconst 0, 1, []) := by decide +kernel
theorem r169_11 : j_at 169 11 = some (11, .iconst 1, 1, []) := by decide +kernel
theorem r169_12 : j_at 169 12 = some (12, .invokevirtual 189, 3, [2, 4, 121, 825, 826, 26, 77, 0, 12]) := by decide +kernel
theorem r169_15 : j_at 169 15 = some (15, .ifCond .ne 7, 3, []) := by decide +kernel
theorem r169_18 : j_at 169 18 = some (18, .sipush (-1001), 3, []) := by decide +kernel
theorem r169_21 : j_at 169 21 = some (21, .ireturn, 1, []) := by decide +kernel
theorem r169_22 : j_at 169 22 = some (22, .aload_n 0, 1, []) := by decide +kernel
theorem r169_23 : j_at 169 23 = some (23, .iload_n 2, 1, []) := by decide +kernel
theorem r169_24 : j_at 169 24 = some (24, .iconst 0, 1, []) := by decide +kernel
theorem r169_25 : j_at 169 25 = some (25, .bipush 12, 2, []) := by decide +kernel
theorem r169_27 : j_at 169 27 = some (27, .invokevirtual 189, 3, [2, 4, 121, 825, 826, 26, 77, 0, 12]) := by decide +kernel
theorem r169_30 : j_at 169 30 = some (30, .ifCond .ne 7, 3, []) := by decide +kernel
theorem r169_33 : j_at 169 33 = some (33, .sipush (-1002), 3, []) := by decide +kernel
theorem r169_36 : j_at 169 36 = some (36, .ireturn, 1, []) := by decide +kernel
theorem r169_37 : j_at 169 37 = some (37, .iload_n 3, 1, []) := by decide +kernel
theorem r169_38 : j_at 169 38 = some (38, .ifCond .ne 22, 3, []) := by decide +kernel
theorem r169_41 : j_at 169 41 = some (41, .aload_n 0, 1, []) := by decide +kernel
theorem r169_42 : j_at 169 42 = some (42, .iload_n 1, 1, []) := by decide +kernel
theorem r169_43 : j_at 169 43 = some (43, .iconst 0, 1, []) := by decide +kernel
theorem r169_44 : j_at 169 44 = some (44, .iload_n 2, 1, []) := by decide +kernel
theorem r169_45 : j_at 169 45 = some (45, .iload 4, 2, []) := by decide +kernel
theorem r169_47 : j_at 169 47 = some (47, .invokevirtual 292, 3, [2, 5, 168, 940, 941, 58, 77, 0, 12]) := by decide +kernel
theorem r169_50 : j_at 169 50 = some (50, .aload_n 0, 1, []) := by decide +kernel
theorem r169_51 : j_at 169 51 = some (51, .getfield 102, 3, [734, 12, 2, 30, 0, 12]) := by decide +kernel
theorem r169_54 : j_at 169 54 = some (54, .aload_n 0, 1, []) := by decide +kernel
theorem r169_55 : j_at 169 55 = some (55, .getfield 16, 3, [706, 12, 0, 2, 0, 12]) := by decide +kernel
theorem r169_58 : j_at 169 58 = some (58, .iaload, 1, []) := by decide +kernel
theorem r169_59 : j_at 169 59 = some (59, .ireturn, 1, []) := by decide +kernel
theorem r169_60 : j_at 169 60 = some (60, .aload_n 0, 1, []) := by decide +kernel
theorem r169_61 : j_at 169 61 = some (61, .getfield 16, 3, [706, 12, 0, 2, 0, 12]) := by decide +kernel
theorem r169_64 : j_at 169 64 = some (64, .istore 5, 2, []) := by decide +kernel
theorem r169_66 : j_at 169 66 = some (66, .iconst 0, 1, []) := by decide +kernel
theorem r169_67 : j_at 169 67 = some (67, .istore 6, 2, []) := by decide +kernel
theorem r169_69 : j_at 169 69 = some (69, .iload 6, 2, []) := by decide +kernel
theorem r169_71 : j_at 169 71 = some (71, .iload_n 2, 1, []) := by decide +kernel
theorem r169_72 : j_at 169 72 = some (72, .if_icmp .ge 98, 3, []) := by decide +kernel
theorem r169_75 : j_at 169 75 = some (75, .iload 5, 2, []) := by decide +kernel
theorem r169_77 : j_at 169 77 = some (77, .iload_n 1, 1, []) := by decide +kernel
theorem r169_78 : j_at 169 78 = some (78, .if_icmp .ne 71, 3, []) := by decide +kernel
theorem r169_81 : j_at 169 81 = some (81, .aload_n 0, 1, []) := by decide +kernel
theorem r169_82 : j_at 169 82 = some (82, .iload_n 1, 1, []) := by decide +kernel
theorem r169_83 : j_at 169 83 = some (83, .iload 6, 2, []) := by decide +kernel
theorem r169_85 : j_at 169 85 = some (85, .iconst 1, 1, []) := by decide +kernel
theorem r169_86 : j_at 169 86 = some (86, .iadd, 1, []) := by decide +kernel
theorem r169_87 : j_at 169 87 = some (87, .iload_n 2, 1, []) := by decide +kernel
theorem r169_88 : j_at 169 88 = some (88, .iload 4, 2, []) := by decide +kernel
theorem r169_90 : j_at 169 90 = some (90, .invokevirtual 292, 3, [2, 5, 168, 940, 941, 58, 77, 0, 12]) := by decide +kernel
theorem r169_93 : j_at 169 93 = some (93, .aload_n 0, 1, []) := by decide +kernel
theorem r169_94 : j_at 169 94 = some (94, .getfield 102, 3, [734, 12, 2, 30, 0, 12]) := by decide +kernel
theorem r169_97 : j_at 169 97 = some (97, .aload_n 0, 1, []) := by decide +kernel
theorem r169_98 : j_at 169 98 = some (98, .iload_n 1, 1, []) := by decide +kernel
theorem r169_99 : j_at 169 99 = some (99, .iconst 1, 1, []) := by decide +kernel
theorem r169_100 : j_at 169 100 = some (100, .invokevirtual 283, 3, [2, 3, 156, 907, 908, 55, 77, 0, 12]) := by decide +kernel
theorem r169_103 : j_at 169 103 = some (103, .iaload, 1, []) := by decide +kernel
theorem r169_104 : j_at 169 104 = some (104, .istore 7, 2, []) := by decide +kernel
theorem r169_106 : j_at 169 106 = some (106, .aload_n 0, 1, []) := by decide +kernel
theorem r169_107 : j_at 169 107 = some (107, .getfield 102, 3, [734, 12, 2, 30, 0, 12]) := by decide +kernel
theorem r169_110 : j_at 169 110 = some (110, .aload_n 0, 1, []) := by decide +kernel
theorem r169_111 : j_at 169 111 = some (111, .iload_n 1, 1, []) := by decide +kernel
theorem r169_112 : j_at 169 112 = some (112, .iconst 0, 1, []) := by decide +kernel
theorem r169_113 : j_at 169 113 = some (113, .invokevirtual 283, 3, [2, 3, 156, 907, 908, 55, 77, 0, 12]) := by decide +kernel
theorem r169_116 : j_at 169 116 = some (116, .iaload, 1, []) := by decide +kernel
theorem r169_117 : j_at 169 117 = some (117, .istore 8, 2, []) := by decide +kernel
theorem r169_119 : j_at 169 119 = some (119, .iload 7, 2, []) := by decide +kernel
theorem r169_121 : j_at 169 121 = some (121, .iload 8, 2, []) := by decide +kernel
theorem r169_123 : j_at 169 123 = some (123, .if_icmp .eq 20, 3, []) := by decide +kernel
theorem r169_126 : j_at 169 126 = some (126, .iload 7, 2, []) := by decide +kernel
theorem r169_128 : j_at 169 128 = some (128, .iload 8, 2, []) := by decide +kernel
theorem r169_130 : j_at 169 130 = some (130, .if_icmp .le 7, 3, []) := by decide +kernel
theorem r169_133 : j_at 169 133 = some (133, .iconst 1, 1, []) := by decide +kernel
theorem r169_134 : j_at 169 134 = some (134, .goto 4, 3, []) := by decide +kernel
theorem r169_137 : j_at 169 137 = some (137, .iconst 0, 1, []) := by decide +kernel
theorem r169_138 : j_at 169 138 = some (138, .iload 4, 2, []) := by decide +kernel
theorem r169_140 : j_at 169 140 = some (140, .if_icmp .ne 7, 3, []) := by decide +kernel
theorem r169_143 : j_at 169 143 = some (143, .iconst 1, 1, []) := by decide +kernel
theorem r169_144 : j_at 169 144 = some (144, .goto 4, 3, []) := by decide +kernel
theorem r169_147 : j_at 169 147 = some (147, .iconst 0, 1, []) := by decide +kernel
theorem r169_148 : j_at 169 148 = some (148, .ireturn, 1, []) := by decide +kernel
theorem r169_149 : j_at 169 149 = some (149, .aload_n 0, 1, []) := by decide +kernel
theorem r169_150 : j_at 169 150 = some (150, .iload 5, 2, []) := by decide +kernel
theorem r169_152 : j_at 169 152 = some (152, .aload_n 0, 1, []) := by decide +kernel
theorem r169_153 : j_at 169 153 = some (153, .getfield 19, 3, [707, 12, 0, 3, 0, 12]) := by decide +kernel
theorem r169_156 : j_at 169 156 = some (156, .iload 6, 2, []) := by decide +kernel
theorem r169_158 : j_at 169 158 = some (158, .iadd, 1, []) := by decide +kernel
theorem r169_159 : j_at 169 159 = some (159, .invokevirtual 289, 3, [2, 3, 157, 918, 919, 56, 77, 0, 12]) := by decide +kernel
theorem r169_162 : j_at 169 162 = some (162, .istore 5, 2, []) := by decide +kernel
theorem r169_164 : j_at 169 164 = some (164, .iinc 6 1, 3, []) := by decide +kernel
theorem r169_167 : j_at 169 167 = some (167, .goto (-98), 3, []) := by decide +kernel
theorem r169_170 : j_at 169 170 = some (170, .bipush (-5), 2, []) := by decide +kernel
theorem r169_172 : j_at 169 172 = some (172, .ireturn, 1, []) := by decide +kernel
theorem b169_0 {b : Nat} {x0 : Value} {x1 : Int32} {x2 : Int32} {x3 : Int32} {x4 : Int32} {u5 : Value} {u6 : Value} {u7 : Value} {u8 : Value} {H : j_H} {Q : Option Value → j_H → Prop} (h0 : j_vc H x0 = 12) : j_wp (b + 1) 169 0 [x0, .int x1, .int x2, .int x3, .int x4, u5, u6, u7, u8] [] H Q = j_wp b 124 0 [x0, .int x1] [] H (j_k (b + 1) 169 5 [x0, .int x1, .int x2, .int x3, .int x4, u5, u6, u7, u8] [] Q) := Eq.trans (s_aload_n r169_0 rfl (j_isr_vc h0 rfl)) (Eq.trans (s_iload_n r169_1 rfl) (j_cll (as := [x0, .int x1]) (es := [x0, .int x1]) (s_c2 r169_2 rfl h0 rfl rfl (j_dok (s := [.int x1, x0]) (as := [x0, .int x1]) (rest := []) (es := [x0, .int x1]) rfl rfl rfl rfl (j_slc (j_c1r (j_isr_vc h0 rfl)) rfl) rfl)) (j_slc (j_c1r (j_isr_vc h0 rfl)) rfl) rfl))
theorem b169_5 {b : Nat} {x0 : Value} {x1 : Int32} {x2 : Int32} {x3 : Int32} {x4 : Int32} {u5 : Value} {u6 : Value} {u7 : Value} {u8 : Value} {y0 : Int32} {H : j_H} {Q : Option Value → j_H → Prop}  : j_wp b 169 5 [x0, .int x1, .int x2, .int x3, .int x4, u5, u6, u7, u8] [.int y0] H Q = (if y0.toInt = 0 then j_wp b 169 18 [x0, .int x1, .int x2, .int x3, .int x4, u5, u6, u7, u8] [] H Q else j_wp b 169 8 [x0, .int x1, .int x2, .int x3, .int x4, u5, u6, u7, u8] [] H Q) := s_ifeq r169_5 rfl rfl
theorem b169_8 {b : Nat} {x0 : Value} {x1 : Int32} {x2 : Int32} {x3 : Int32} {x4 : Int32} {u5 : Value} {u6 : Value} {u7 : Value} {u8 : Value} {H : j_H} {Q : Option Value → j_H → Prop} (h0 : j_vc H x0 = 12) : j_wp (b + 1) 169 8 [x0, .int x1, .int x2, .int x3, .int x4, u5, u6, u7, u8] [] H Q = j_wp b 121 0 [x0, .int x3, .int (Int32.ofInt 0), .int (Int32.ofInt 1)] [] H (j_k (b + 1) 169 15 [x0, .int x1, .int x2, .int x3, .int x4, u5, u6, u7, u8] [] Q) := Eq.trans (s_aload_n r169_8 rfl (j_isr_vc h0 rfl)) (Eq.trans (s_iload_n r169_9 rfl) (Eq.trans (s_iconst r169_10) (Eq.trans (s_iconst r169_11) (j_cll (as := [x0, .int x3, .int (Int32.ofInt 0), .int (Int32.ofInt 1)]) (es := [x0, .int x3, .int (Int32.ofInt 0), .int (Int32.ofInt 1)]) (s_c2 r169_12 rfl h0 rfl rfl (j_dok (s := [.int (Int32.ofInt 1), .int (Int32.ofInt 0), .int x3, x0]) (as := [x0, .int x3, .int (Int32.ofInt 0), .int (Int32.ofInt 1)]) (rest := []) (es := [x0, .int x3, .int (Int32.ofInt 0), .int (Int32.ofInt 1)]) rfl rfl rfl rfl (j_slc (j_c1r (j_isr_vc h0 rfl)) rfl) rfl)) (j_slc (j_c1r (j_isr_vc h0 rfl)) rfl) rfl))))
theorem b169_15 {b : Nat} {x0 : Value} {x1 : Int32} {x2 : Int32} {x3 : Int32} {x4 : Int32} {u5 : Value} {u6 : Value} {u7 : Value} {u8 : Value} {y0 : Int32} {H : j_H} {Q : Option Value → j_H → Prop}  : j_wp b 169 15 [x0, .int x1, .int x2, .int x3, .int x4, u5, u6, u7, u8] [.int y0] H Q = (if ¬ y0.toInt = 0 then j_wp b 169 22 [x0, .int x1, .int x2, .int x3, .int x4, u5, u6, u7, u8] [] H Q else j_wp b 169 18 [x0, .int x1, .int x2, .int x3, .int x4, u5, u6, u7, u8] [] H Q) := s_ifne r169_15 rfl rfl
theorem b169_18 {b : Nat} {x0 : Value} {x1 : Int32} {x2 : Int32} {x3 : Int32} {x4 : Int32} {u5 : Value} {u6 : Value} {u7 : Value} {u8 : Value} {H : j_H} {Q : Option Value → j_H → Prop}  : j_wp b 169 18 [x0, .int x1, .int x2, .int x3, .int x4, u5, u6, u7, u8] [] H Q = Q (some (.int (Int32.ofInt (-1001)))) H := Eq.trans (s_sipush r169_18) (s_ireturn r169_21 (j_rok1 rfl))
theorem b169_22 {b : Nat} {x0 : Value} {x1 : Int32} {x2 : Int32} {x3 : Int32} {x4 : Int32} {u5 : Value} {u6 : Value} {u7 : Value} {u8 : Value} {H : j_H} {Q : Option Value → j_H → Prop} (h0 : j_vc H x0 = 12) : j_wp (b + 1) 169 22 [x0, .int x1, .int x2, .int x3, .int x4, u5, u6, u7, u8] [] H Q = j_wp b 121 0 [x0, .int x2, .int (Int32.ofInt 0), .int (Int32.ofInt 12)] [] H (j_k (b + 1) 169 30 [x0, .int x1, .int x2, .int x3, .int x4, u5, u6, u7, u8] [] Q) := Eq.trans (s_aload_n r169_22 rfl (j_isr_vc h0 rfl)) (Eq.trans (s_iload_n r169_23 rfl) (Eq.trans (s_iconst r169_24) (Eq.trans (s_bipush r169_25) (j_cll (as := [x0, .int x2, .int (Int32.ofInt 0), .int (Int32.ofInt 12)]) (es := [x0, .int x2, .int (Int32.ofInt 0), .int (Int32.ofInt 12)]) (s_c2 r169_27 rfl h0 rfl rfl (j_dok (s := [.int (Int32.ofInt 12), .int (Int32.ofInt 0), .int x2, x0]) (as := [x0, .int x2, .int (Int32.ofInt 0), .int (Int32.ofInt 12)]) (rest := []) (es := [x0, .int x2, .int (Int32.ofInt 0), .int (Int32.ofInt 12)]) rfl rfl rfl rfl (j_slc (j_c1r (j_isr_vc h0 rfl)) rfl) rfl)) (j_slc (j_c1r (j_isr_vc h0 rfl)) rfl) rfl))))
theorem b169_30 {b : Nat} {x0 : Value} {x1 : Int32} {x2 : Int32} {x3 : Int32} {x4 : Int32} {u5 : Value} {u6 : Value} {u7 : Value} {u8 : Value} {y0 : Int32} {H : j_H} {Q : Option Value → j_H → Prop}  : j_wp b 169 30 [x0, .int x1, .int x2, .int x3, .int x4, u5, u6, u7, u8] [.int y0] H Q = (if ¬ y0.toInt = 0 then j_wp b 169 37 [x0, .int x1, .int x2, .int x3, .int x4, u5, u6, u7, u8] [] H Q else j_wp b 169 33 [x0, .int x1, .int x2, .int x3, .int x4, u5, u6, u7, u8] [] H Q) := s_ifne r169_30 rfl rfl
theorem b169_33 {b : Nat} {x0 : Value} {x1 : Int32} {x2 : Int32} {x3 : Int32} {x4 : Int32} {u5 : Value} {u6 : Value} {u7 : Value} {u8 : Value} {H : j_H} {Q : Option Value → j_H → Prop}  : j_wp b 169 33 [x0, .int x1, .int x2, .int x3, .int x4, u5, u6, u7, u8] [] H Q = Q (some (.int (Int32.ofInt (-1002)))) H := Eq.trans (s_sipush r169_33) (s_ireturn r169_36 (j_rok1 rfl))
theorem b169_37 {b : Nat} {x0 : Value} {x1 : Int32} {x2 : Int32} {x3 : Int32} {x4 : Int32} {u5 : Value} {u6 : Value} {u7 : Value} {u8 : Value} {H : j_H} {Q : Option Value → j_H → Prop}  : j_wp b 169 37 [x0, .int x1, .int x2, .int x3, .int x4, u5, u6, u7, u8] [] H Q = (if ¬ x3.toInt = 0 then j_wp b 169 60 [x0, .int x1, .int x2, .int x3, .int x4, u5, u6, u7, u8] [] H Q else j_wp b 169 41 [x0, .int x1, .int x2, .int x3, .int x4, u5, u6, u7, u8] [] H Q) := Eq.trans (s_iload_n r169_37 rfl) (s_ifne r169_38 rfl rfl)
theorem b169_41 {b : Nat} {x0 : Value} {x1 : Int32} {x2 : Int32} {x3 : Int32} {x4 : Int32} {u5 : Value} {u6 : Value} {u7 : Value} {u8 : Value} {H : j_H} {Q : Option Value → j_H → Prop} (h0 : j_vc H x0 = 12) : j_wp (b + 1) 169 41 [x0, .int x1, .int x2, .int x3, .int x4, u5, u6, u7, u8] [] H Q = j_wp b 168 0 [x0, .int x1, .int (Int32.ofInt 0), .int x2, .int x4, j_u, j_u, j_u, j_u] [] H (j_k (b + 1) 169 50 [x0, .int x1, .int x2, .int x3, .int x4, u5, u6, u7, u8] [] Q) := Eq.trans (s_aload_n r169_41 rfl (j_isr_vc h0 rfl)) (Eq.trans (s_iload_n r169_42 rfl) (Eq.trans (s_iconst r169_43) (Eq.trans (s_iload_n r169_44 rfl) (Eq.trans (s_iload r169_45 rfl) (j_cll (as := [x0, .int x1, .int (Int32.ofInt 0), .int x2, .int x4]) (es := [x0, .int x1, .int (Int32.ofInt 0), .int x2, .int x4]) (s_c2 r169_47 rfl h0 rfl rfl (j_dok (s := [.int x4, .int x2, .int (Int32.ofInt 0), .int x1, x0]) (as := [x0, .int x1, .int (Int32.ofInt 0), .int x2, .int x4]) (rest := []) (es := [x0, .int x1, .int (Int32.ofInt 0), .int x2, .int x4]) rfl rfl rfl rfl (j_slc (j_c1r (j_isr_vc h0 rfl)) rfl) rfl)) (j_slc (j_c1r (j_isr_vc h0 rfl)) rfl) rfl)))))
theorem b169_50 {b : Nat} {x0 : Value} {x1 : Int32} {x2 : Int32} {x3 : Int32} {x4 : Int32} {u5 : Value} {u6 : Value} {u7 : Value} {u8 : Value} {H : j_H} {Q : Option Value → j_H → Prop} (h0 : j_vc H x0 = 12) (h1 : j_vt H (va_rf (j_R H (j_pa x0) 30)) = 0) (h2 : 0 ≤ (j_I H (j_pa x0) 2).toInt) (h3 : (j_I H (j_pa x0) 2).toInt < ((j_vl H (va_rf (j_R H (j_pa x0) 30)) : Nat) : Int)) : j_wp b 169 50 [x0, .int x1, .int x2, .int x3, .int x4, u5, u6, u7, u8] [] H Q = Q (some (.int (j_I H (j_pa (va_rf (j_R H (j_pa x0) 30))) (j_ix (j_I H (j_pa x0) 2))))) H := Eq.trans (s_aload_n r169_50 rfl (j_isr_vc h0 rfl)) (Eq.trans (s_getfr r169_51 (j_al1 h0 rfl) rfl) (Eq.trans (s_aload_n r169_54 rfl (j_isr_vc h0 rfl)) (Eq.trans (s_getfi r169_55 (j_al1 h0 rfl) rfl rfl rfl) (Eq.trans (s_iald r169_58 h1 (by decide) (j_ib_of (z := (j_I H (j_pa x0) 2).toInt) rfl h2 h3)) (s_ireturn r169_59 (j_rok1 rfl))))))
theorem b169_60 {b : Nat} {x0 : Value} {x1 : Int32} {x2 : Int32} {x3 : Int32} {x4 : Int32} {u5 : Value} {u6 : Value} {u7 : Value} {u8 : Value} {H : j_H} {Q : Option Value → j_H → Prop} (h0 : j_vc H x0 = 12) : j_wp b 169 60 [x0, .int x1, .int x2, .int x3, .int x4, u5, u6, u7, u8] [] H Q = j_wp b 169 69 [x0, .int x1, .int x2, .int x3, .int x4, .int (j_I H (j_pa x0) 2), .int (Int32.ofInt 0), u7, u8] [] H Q := Eq.trans (s_aload_n r169_60 rfl (j_isr_vc h0 rfl)) (Eq.trans (s_getfi r169_61 (j_al1 h0 rfl) rfl rfl rfl) (Eq.trans (s_istore r169_64 (Nat.le_of_ble_eq_true rfl) rfl) (Eq.trans (s_iconst r169_66) (s_istore r169_67 (Nat.le_of_ble_eq_true rfl) rfl))))
theorem b169_69 {b : Nat} {x0 : Value} {x1 : Int32} {x2 : Int32} {x3 : Int32} {x4 : Int32} {x5 : Int32} {x6 : Int32} {u7 : Value} {u8 : Value} {H : j_H} {Q : Option Value → j_H → Prop}  : j_wp b 169 69 [x0, .int x1, .int x2, .int x3, .int x4, .int x5, .int x6, u7, u8] [] H Q = (if x2.toInt ≤ x6.toInt then j_wp b 169 170 [x0, .int x1, .int x2, .int x3, .int x4, .int x5, .int x6, u7, u8] [] H Q else j_wp b 169 75 [x0, .int x1, .int x2, .int x3, .int x4, .int x5, .int x6, u7, u8] [] H Q) := Eq.trans (s_iload r169_69 rfl) (Eq.trans (s_iload_n r169_71 rfl) (s_icge r169_72 rfl rfl rfl))
theorem b169_75 {b : Nat} {x0 : Value} {x1 : Int32} {x2 : Int32} {x3 : Int32} {x4 : Int32} {x5 : Int32} {x6 : Int32} {u7 : Value} {u8 : Value} {H : j_H} {Q : Option Value → j_H → Prop}  : j_wp b 169 75 [x0, .int x1, .int x2, .int x3, .int x4, .int x5, .int x6, u7, u8] [] H Q = (if ¬ x5.toInt = x1.toInt then j_wp b 169 149 [x0, .int x1, .int x2, .int x3, .int x4, .int x5, .int x6, u7, u8] [] H Q else j_wp b 169 81 [x0, .int x1, .int x2, .int x3, .int x4, .int x5, .int x6, u7, u8] [] H Q) := Eq.trans (s_iload r169_75 rfl) (Eq.trans (s_iload_n r169_77 rfl) (s_icne r169_78 rfl rfl rfl))
theorem b169_81 {b : Nat} {x0 : Value} {x1 : Int32} {x2 : Int32} {x3 : Int32} {x4 : Int32} {x5 : Int32} {x6 : Int32} {u7 : Value} {u8 : Value} {H : j_H} {Q : Option Value → j_H → Prop} (h0 : j_vc H x0 = 12) : j_wp (b + 1) 169 81 [x0, .int x1, .int x2, .int x3, .int x4, .int x5, .int x6, u7, u8] [] H Q = j_wp b 168 0 [x0, .int x1, .int (x6 + (Int32.ofInt 1)), .int x2, .int x4, j_u, j_u, j_u, j_u] [] H (j_k (b + 1) 169 93 [x0, .int x1, .int x2, .int x3, .int x4, .int x5, .int x6, u7, u8] [] Q) := Eq.trans (s_aload_n r169_81 rfl (j_isr_vc h0 rfl)) (Eq.trans (s_iload_n r169_82 rfl) (Eq.trans (s_iload r169_83 rfl) (Eq.trans (s_iconst r169_85) (Eq.trans (s_iadd r169_86) (Eq.trans (s_iload_n r169_87 rfl) (Eq.trans (s_iload r169_88 rfl) (j_cll (as := [x0, .int x1, .int (x6 + (Int32.ofInt 1)), .int x2, .int x4]) (es := [x0, .int x1, .int (x6 + (Int32.ofInt 1)), .int x2, .int x4]) (s_c2 r169_90 rfl h0 rfl rfl (j_dok (s := [.int x4, .int x2, .int (x6 + (Int32.ofInt 1)), .int x1, x0]) (as := [x0, .int x1, .int (x6 + (Int32.ofInt 1)), .int x2, .int x4]) (rest := []) (es := [x0, .int x1, .int (x6 + (Int32.ofInt 1)), .int x2, .int x4]) rfl rfl rfl rfl (j_slc (j_c1r (j_isr_vc h0 rfl)) rfl) rfl)) (j_slc (j_c1r (j_isr_vc h0 rfl)) rfl) rfl)))))))
theorem b169_93 {b : Nat} {x0 : Value} {x1 : Int32} {x2 : Int32} {x3 : Int32} {x4 : Int32} {x5 : Int32} {x6 : Int32} {u7 : Value} {u8 : Value} {H : j_H} {Q : Option Value → j_H → Prop} (h0 : j_vc H x0 = 12) : j_wp (b + 1) 169 93 [x0, .int x1, .int x2, .int x3, .int x4, .int x5, .int x6, u7, u8] [] H Q = j_wp b 156 0 [x0, .int x1, .int (Int32.ofInt 1), j_u] [] H (j_k (b + 1) 169 103 [x0, .int x1, .int x2, .int x3, .int x4, .int x5, .int x6, u7, u8] [va_rf (j_R H (j_pa x0) 30)] Q) := Eq.trans (s_aload_n r169_93 rfl (j_isr_vc h0 rfl)) (Eq.trans (s_getfr r169_94 (j_al1 h0 rfl) rfl) (Eq.trans (s_aload_n r169_97 rfl (j_isr_vc h0 rfl)) (Eq.trans (s_iload_n r169_98 rfl) (Eq.trans (s_iconst r169_99) (j_cll (as := [x0, .int x1, .int (Int32.ofInt 1)]) (es := [x0, .int x1, .int (Int32.ofInt 1)]) (s_c2 r169_100 rfl h0 rfl rfl (j_dok (s := [.int (Int32.ofInt 1), .int x1, x0, va_rf (j_R H (j_pa x0) 30)]) (as := [x0, .int x1, .int (Int32.ofInt 1)]) (rest := [va_rf (j_R H (j_pa x0) 30)]) (es := [x0, .int x1, .int (Int32.ofInt 1)]) rfl rfl rfl rfl (j_slc (j_c1r (j_isr_vc h0 rfl)) rfl) rfl)) (j_slc (j_c1r (j_isr_vc h0 rfl)) rfl) rfl)))))
theorem b169_103 {b : Nat} {x0 : Value} {x1 : Int32} {x2 : Int32} {x3 : Int32} {x4 : Int32} {x5 : Int32} {x6 : Int32} {u7 : Value} {u8 : Value} {y0 : Int32} {y1 : Value} {H : j_H} {Q : Option Value → j_H → Prop} (h0 : j_vt H y1 = 0) (h1 : 0 ≤ y0.toInt) (h2 : y0.toInt < ((j_vl H y1 : Nat) : Int)) (h3 : j_vc H x0 = 12) : j_wp (b + 1) 169 103 [x0, .int x1, .int x2, .int x3, .int x4, .int x5, .int x6, u7, u8] [.int y0, y1] H Q = j_wp b 156 0 [x0, .int x1, .int (Int32.ofInt 0), j_u] [] H (j_k (b + 1) 169 116 [x0, .int x1, .int x2, .int x3, .int x4, .int x5, .int x6, .int (j_I H (j_pa y1) (j_ix y0)), u8] [va_rf (j_R H (j_pa x0) 30)] Q) := Eq.trans (s_iald r169_103 h0 (by decide) (j_ib_of (z := y0.toInt) rfl h1 h2)) (Eq.trans (s_istore r169_104 (Nat.le_of_ble_eq_true rfl) rfl) (Eq.trans (s_aload_n r169_106 rfl (j_isr_vc h3 rfl)) (Eq.trans (s_getfr r169_107 (j_al1 h3 rfl) rfl) (Eq.trans (s_aload_n r169_110 rfl (j_isr_vc h3 rfl)) (Eq.trans (s_iload_n r169_111 rfl) (Eq.trans (s_iconst r169_112) (j_cll (as := [x0, .int x1, .int (Int32.ofInt 0)]) (es := [x0, .int x1, .int (Int32.ofInt 0)]) (s_c2 r169_113 rfl h3 rfl rfl (j_dok (s := [.int (Int32.ofInt 0), .int x1, x0, va_rf (j_R H (j_pa x0) 30)]) (as := [x0, .int x1, .int (Int32.ofInt 0)]) (rest := [va_rf (j_R H (j_pa x0) 30)]) (es := [x0, .int x1, .int (Int32.ofInt 0)]) rfl rfl rfl rfl (j_slc (j_c1r (j_isr_vc h3 rfl)) rfl) rfl)) (j_slc (j_c1r (j_isr_vc h3 rfl)) rfl) rfl)))))))
theorem b169_116 {b : Nat} {x0 : Value} {x1 : Int32} {x2 : Int32} {x3 : Int32} {x4 : Int32} {x5 : Int32} {x6 : Int32} {x7 : Int32} {u8 : Value} {y0 : Int32} {y1 : Value} {H : j_H} {Q : Option Value → j_H → Prop} (h0 : j_vt H y1 = 0) (h1 : 0 ≤ y0.toInt) (h2 : y0.toInt < ((j_vl H y1 : Nat) : Int)) : j_wp b 169 116 [x0, .int x1, .int x2, .int x3, .int x4, .int x5, .int x6, .int x7, u8] [.int y0, y1] H Q = (if x7.toInt = (j_I H (j_pa y1) (j_ix y0)).toInt then j_wp b 169 143 [x0, .int x1, .int x2, .int x3, .int x4, .int x5, .int x6, .int x7, .int (j_I H (j_pa y1) (j_ix y0))] [] H Q else j_wp b 169 126 [x0, .int x1, .int x2, .int x3, .int x4, .int x5, .int x6, .int x7, .int (j_I H (j_pa y1) (j_ix y0))] [] H Q) := Eq.trans (s_iald r169_116 h0 (by decide) (j_ib_of (z := y0.toInt) rfl h1 h2)) (Eq.trans (s_istore r169_117 (Nat.le_of_ble_eq_true rfl) rfl) (Eq.trans (s_iload r169_119 rfl) (Eq.trans (s_iload r169_121 rfl) (s_iceq r169_123 rfl rfl rfl))))
theorem b169_126 {b : Nat} {x0 : Value} {x1 : Int32} {x2 : Int32} {x3 : Int32} {x4 : Int32} {x5 : Int32} {x6 : Int32} {x7 : Int32} {x8 : Int32} {H : j_H} {Q : Option Value → j_H → Prop}  : j_wp b 169 126 [x0, .int x1, .int x2, .int x3, .int x4, .int x5, .int x6, .int x7, .int x8] [] H Q = (if x7.toInt ≤ x8.toInt then j_wp b 169 137 [x0, .int x1, .int x2, .int x3, .int x4, .int x5, .int x6, .int x7, .int x8] [] H Q else j_wp b 169 133 [x0, .int x1, .int x2, .int x3, .int x4, .int x5, .int x6, .int x7, .int x8] [] H Q) := Eq.trans (s_iload r169_126 rfl) (Eq.trans (s_iload r169_128 rfl) (s_icle r169_130 rfl rfl rfl))
theorem b169_133 {b : Nat} {x0 : Value} {x1 : Int32} {x2 : Int32} {x3 : Int32} {x4 : Int32} {x5 : Int32} {x6 : Int32} {x7 : Int32} {x8 : Int32} {H : j_H} {Q : Option Value → j_H → Prop}  : j_wp b 169 133 [x0, .int x1, .int x2, .int x3, .int x4, .int x5, .int x6, .int x7, .int x8] [] H Q = j_wp b 169 138 [x0, .int x1, .int x2, .int x3, .int x4, .int x5, .int x6, .int x7, .int x8] [.int (Int32.ofInt 1)] H Q := Eq.trans (s_iconst r169_133) (s_goto r169_134 rfl)
theorem b169_137 {b : Nat} {x0 : Value} {x1 : Int32} {x2 : Int32} {x3 : Int32} {x4 : Int32} {x5 : Int32} {x6 : Int32} {x7 : Int32} {x8 : Int32} {H : j_H} {Q : Option Value → j_H → Prop}  : j_wp b 169 137 [x0, .int x1, .int x2, .int x3, .int x4, .int x5, .int x6, .int x7, .int x8] [] H Q = j_wp b 169 138 [x0, .int x1, .int x2, .int x3, .int x4, .int x5, .int x6, .int x7, .int x8] [.int (Int32.ofInt 0)] H Q := s_iconst r169_137
theorem b169_138 {b : Nat} {x0 : Value} {x1 : Int32} {x2 : Int32} {x3 : Int32} {x4 : Int32} {x5 : Int32} {x6 : Int32} {x7 : Int32} {x8 : Int32} {y0 : Int32} {H : j_H} {Q : Option Value → j_H → Prop}  : j_wp b 169 138 [x0, .int x1, .int x2, .int x3, .int x4, .int x5, .int x6, .int x7, .int x8] [.int y0] H Q = (if ¬ y0.toInt = x4.toInt then j_wp b 169 147 [x0, .int x1, .int x2, .int x3, .int x4, .int x5, .int x6, .int x7, .int x8] [] H Q else j_wp b 169 143 [x0, .int x1, .int x2, .int x3, .int x4, .int x5, .int x6, .int x7, .int x8] [] H Q) := Eq.trans (s_iload r169_138 rfl) (s_icne r169_140 rfl rfl rfl)
theorem b169_143 {b : Nat} {x0 : Value} {x1 : Int32} {x2 : Int32} {x3 : Int32} {x4 : Int32} {x5 : Int32} {x6 : Int32} {x7 : Int32} {x8 : Int32} {H : j_H} {Q : Option Value → j_H → Prop}  : j_wp b 169 143 [x0, .int x1, .int x2, .int x3, .int x4, .int x5, .int x6, .int x7, .int x8] [] H Q = j_wp b 169 148 [x0, .int x1, .int x2, .int x3, .int x4, .int x5, .int x6, .int x7, .int x8] [.int (Int32.ofInt 1)] H Q := Eq.trans (s_iconst r169_143) (s_goto r169_144 rfl)
theorem b169_147 {b : Nat} {x0 : Value} {x1 : Int32} {x2 : Int32} {x3 : Int32} {x4 : Int32} {x5 : Int32} {x6 : Int32} {x7 : Int32} {x8 : Int32} {H : j_H} {Q : Option Value → j_H → Prop}  : j_wp b 169 147 [x0, .int x1, .int x2, .int x3, .int x4, .int x5, .int x6, .int x7, .int x8] [] H Q = j_wp b 169 148 [x0, .int x1, .int x2, .int x3, .int x4, .int x5, .int x6, .int x7, .int x8] [.int (Int32.ofInt 0)] H Q := s_iconst r169_147
theorem b169_148 {b : Nat} {x0 : Value} {x1 : Int32} {x2 : Int32} {x3 : Int32} {x4 : Int32} {x5 : Int32} {x6 : Int32} {x7 : Int32} {x8 : Int32} {y0 : Int32} {H : j_H} {Q : Option Value → j_H → Prop}  : j_wp b 169 148 [x0, .int x1, .int x2, .int x3, .int x4, .int x5, .int x6, .int x7, .int x8] [.int y0] H Q = Q (some (.int y0)) H := s_ireturn r169_148 (j_rok1 rfl)
theorem b169_149 {b : Nat} {x0 : Value} {x1 : Int32} {x2 : Int32} {x3 : Int32} {x4 : Int32} {x5 : Int32} {x6 : Int32} {u7 : Value} {u8 : Value} {H : j_H} {Q : Option Value → j_H → Prop} (h0 : j_vc H x0 = 12) : j_wp (b + 1) 169 149 [x0, .int x1, .int x2, .int x3, .int x4, .int x5, .int x6, u7, u8] [] H Q = j_wp b 157 0 [x0, .int x5, .int ((j_I H (j_pa x0) 3) + x6)] [] H (j_k (b + 1) 169 162 [x0, .int x1, .int x2, .int x3, .int x4, .int x5, .int x6, u7, u8] [] Q) := Eq.trans (s_aload_n r169_149 rfl (j_isr_vc h0 rfl)) (Eq.trans (s_iload r169_150 rfl) (Eq.trans (s_aload_n r169_152 rfl (j_isr_vc h0 rfl)) (Eq.trans (s_getfi r169_153 (j_al1 h0 rfl) rfl rfl rfl) (Eq.trans (s_iload r169_156 rfl) (Eq.trans (s_iadd r169_158) (j_cll (as := [x0, .int x5, .int ((j_I H (j_pa x0) 3) + x6)]) (es := [x0, .int x5, .int ((j_I H (j_pa x0) 3) + x6)]) (s_c2 r169_159 rfl h0 rfl rfl (j_dok (s := [.int ((j_I H (j_pa x0) 3) + x6), .int x5, x0]) (as := [x0, .int x5, .int ((j_I H (j_pa x0) 3) + x6)]) (rest := []) (es := [x0, .int x5, .int ((j_I H (j_pa x0) 3) + x6)]) rfl rfl rfl rfl (j_slc (j_c1r (j_isr_vc h0 rfl)) rfl) rfl)) (j_slc (j_c1r (j_isr_vc h0 rfl)) rfl) rfl))))))
theorem b169_162 {b : Nat} {x0 : Value} {x1 : Int32} {x2 : Int32} {x3 : Int32} {x4 : Int32} {x5 : Int32} {x6 : Int32} {u7 : Value} {u8 : Value} {y0 : Int32} {H : j_H} {Q : Option Value → j_H → Prop}  : j_wp b 169 162 [x0, .int x1, .int x2, .int x3, .int x4, .int x5, .int x6, u7, u8] [.int y0] H Q = j_wp b 169 69 [x0, .int x1, .int x2, .int x3, .int x4, .int y0, .int (x6 + Int32.ofInt 1), u7, u8] [] H Q := Eq.trans (s_istore r169_162 (Nat.le_of_ble_eq_true rfl) rfl) (Eq.trans (s_iinc r169_164 rfl rfl) (s_goto r169_167 rfl))
theorem b169_170 {b : Nat} {x0 : Value} {x1 : Int32} {x2 : Int32} {x3 : Int32} {x4 : Int32} {x5 : Int32} {x6 : Int32} {u7 : Value} {u8 : Value} {H : j_H} {Q : Option Value → j_H → Prop}  : j_wp b 169 170 [x0, .int x1, .int x2, .int x3, .int x4, .int x5, .int x6, u7, u8] [] H Q = Q (some (.int (Int32.ofInt (-5)))) H := Eq.trans (s_bipush r169_170) (s_ireturn r169_172 (j_rok1 rfl))
-- X12_wants
theorem r170_0 : j_at 170 0 = some (0, .aload_n 0, 1, []) := by decide +kernel
theorem r170_1 : j_at 170 1 = some (1, .iload_n 1, 1, []) := by decide +kernel
theorem r170_2 : j_at 170 2 = some (2, .iload_n 2, 1, []) := by decide +kernel
theorem r170_3 : j_at 170 3 = some (3, .iload_n 3, 1, []) := by decide +kernel
theorem r170_4 : j_at 170 4 = some (4, .iconst 1, 1, []) := by decide +kernel
theorem r170_5 : j_at 170 5 = some (5, .invokevirtual 296, 3, [2, 5, 169, 938, 939, 57, 77, 0, 12]) := by decide +kernel
theorem r170_8 : j_at 170 8 = some (8, .ireturn, 1, []) := by decide +kernel
theorem b170_0 {b : Nat} {x0 : Value} {x1 : Int32} {x2 : Int32} {x3 : Int32} {H : j_H} {Q : Option Value → j_H → Prop} (h0 : j_vc H x0 = 12) : j_wp (b + 1) 170 0 [x0, .int x1, .int x2, .int x3] [] H Q = j_wp b 169 0 [x0, .int x1, .int x2, .int x3, .int (Int32.ofInt 1), j_u, j_u, j_u, j_u] [] H (j_k (b + 1) 170 8 [x0, .int x1, .int x2, .int x3] [] Q) := Eq.trans (s_aload_n r170_0 rfl (j_isr_vc h0 rfl)) (Eq.trans (s_iload_n r170_1 rfl) (Eq.trans (s_iload_n r170_2 rfl) (Eq.trans (s_iload_n r170_3 rfl) (Eq.trans (s_iconst r170_4) (j_cll (as := [x0, .int x1, .int x2, .int x3, .int (Int32.ofInt 1)]) (es := [x0, .int x1, .int x2, .int x3, .int (Int32.ofInt 1)]) (s_c2 r170_5 rfl h0 rfl rfl (j_dok (s := [.int (Int32.ofInt 1), .int x3, .int x2, .int x1, x0]) (as := [x0, .int x1, .int x2, .int x3, .int (Int32.ofInt 1)]) (rest := []) (es := [x0, .int x1, .int x2, .int x3, .int (Int32.ofInt 1)]) rfl rfl rfl rfl (j_slc (j_c1r (j_isr_vc h0 rfl)) rfl) rfl)) (j_slc (j_c1r (j_isr_vc h0 rfl)) rfl) rfl)))))
theorem b170_8 {b : Nat} {x0 : Value} {x1 : Int32} {x2 : Int32} {x3 : Int32} {y0 : Int32} {H : j_H} {Q : Option Value → j_H → Prop}  : j_wp b 170 8 [x0, .int x1, .int x2, .int x3] [.int y0] H Q = Q (some (.int y0)) H := s_ireturn r170_8 (j_rok1 rfl)
-- X12_rid
theorem r171_0 : j_at 171 0 = some (0, .aload_n 0, 1, []) := by decide +kernel
theorem r171_1 : j_at 171 1 = some (1, .iload_n 1, 1, []) := by decide +kernel
theorem r171_2 : j_at 171 2 = some (2, .iload_n 2, 1, []) := by decide +kernel
theorem r171_3 : j_at 171 3 = some (3, .iload_n 3, 1, []) := by decide +kernel
theorem r171_4 : j_at 171 4 = some (4, .iconst 0, 1, []) := by decide +kernel
theorem r171_5 : j_at 171 5 = some (5, .invokevirtual 296, 3, [2, 5, 169, 938, 939, 57, 77, 0, 12]) := by decide +kernel
theorem r171_8 : j_at 171 8 = some (8, .ireturn, 1, []) := by decide +kernel
theorem b171_0 {b : Nat} {x0 : Value} {x1 : Int32} {x2 : Int32} {x3 : Int32} {H : j_H} {Q : Option Value → j_H → Prop} (h0 : j_vc H x0 = 12) : j_wp (b + 1) 171 0 [x0, .int x1, .int x2, .int x3] [] H Q = j_wp b 169 0 [x0, .int x1, .int x2, .int x3, .int (Int32.ofInt 0), j_u, j_u, j_u, j_u] [] H (j_k (b + 1) 171 8 [x0, .int x1, .int x2, .int x3] [] Q) := Eq.trans (s_aload_n r171_0 rfl (j_isr_vc h0 rfl)) (Eq.trans (s_iload_n r171_1 rfl) (Eq.trans (s_iload_n r171_2 rfl) (Eq.trans (s_iload_n r171_3 rfl) (Eq.trans (s_iconst r171_4) (j_cll (as := [x0, .int x1, .int x2, .int x3, .int (Int32.ofInt 0)]) (es := [x0, .int x1, .int x2, .int x3, .int (Int32.ofInt 0)]) (s_c2 r171_5 rfl h0 rfl rfl (j_dok (s := [.int (Int32.ofInt 0), .int x3, .int x2, .int x1, x0]) (as := [x0, .int x1, .int x2, .int x3, .int (Int32.ofInt 0)]) (rest := []) (es := [x0, .int x1, .int x2, .int x3, .int (Int32.ofInt 0)]) rfl rfl rfl rfl (j_slc (j_c1r (j_isr_vc h0 rfl)) rfl) rfl)) (j_slc (j_c1r (j_isr_vc h0 rfl)) rfl) rfl)))))
theorem b171_8 {b : Nat} {x0 : Value} {x1 : Int32} {x2 : Int32} {x3 : Int32} {y0 : Int32} {H : j_H} {Q : Option Value → j_H → Prop}  : j_wp b 171 8 [x0, .int x1, .int x2, .int x3] [.int y0] H Q = Q (some (.int y0)) H := s_ireturn r171_8 (j_rok1 rfl)
-- X12_two
theorem r172_0 : j_at 172 0 = some (0, .aload_n 0, 1, []) := by decide +kernel
theorem r172_1 : j_at 172 1 = some (1, .iload_n 1, 1, []) := by decide +kernel
theorem r172_2 : j_at 172 2 = some (2, .invokevirtual 193, 3, [2, 2, 124, 833, 834, 27, 77, 0, 12]) := by decide +kernel
theorem r172_5 : j_at 172 5 = some (5, .ifCond .ne 5, 3, []) := by decide +kernel
theorem r172_8 : j_at 172 8 = some (8, .iconst (-1), 1, []) := by decide +kernel
theorem r172_9 : j_at 172 9 = some (9, .ireturn, 1, []) := by decide +kernel
theorem r172_10 : j_at 172 10 = some (10, .aload_n 0, 1, []) := by decide +kernel
theorem r172_11 : j_at 172 11 = some (11, .getfield 16, 3, [706, 12, 0, 2, 0, 12]) := by decide +kernel
theorem r172_14 : j_at 172 14 = some (14, .istore_n 2, 1, []) := by decide +kernel
theorem r172_15 : j_at 172 15 = some (15, .iload_n 1, 1, []) := by decide +kernel
theorem r172_16 : j_at 172 16 = some (16, .istore_n 3, 1, []) := by decide +kernel
theorem r172_17 : j_at 172 17 = some (17, .iconst 0, 1, []) := by decide +kernel
theorem r172_18 : j_at 172 18 = some (18, .istore 4, 2, []) := by decide +kernel
theorem r172_20 : j_at 172 20 = some (20, .iload 4, 2, []) := by decide +kernel
theorem r172_22 : j_at 172 22 = some (22, .bipush 61, 2, []) := by decide +kernel
theorem r172_24 : j_at 172 24 = some (24, .if_icmp .ge 43, 3, []) := by decide +kernel
theorem r172_27 : j_at 172 27 = some (27, .iload_n 2, 1, []) := by decide +kernel
theorem r172_28 : j_at 172 28 = some (28, .iload_n 3, 1, []) := by decide +kernel
theorem r172_29 : j_at 172 29 = some (29, .if_icmp .ne 6, 3, []) := by decide +kernel
theorem r172_32 : j_at 172 32 = some (32, .iload 4, 2, []) := by decide +kernel
theorem r172_34 : j_at 172 34 = some (34, .ireturn, 1, []) := by decide +kernel
theorem r172_35 : j_at 172 35 = some (35, .aload_n 0, 1, []) := by decide +kernel
theorem r172_36 : j_at 172 36 = some (36, .iload_n 2, 1, []) := by decide +kernel
theorem r172_37 : j_at 172 37 = some (37, .aload_n 0, 1, []) := by decide +kernel
theorem r172_38 : j_at 172 38 = some (38, .getfield 19, 3, [707, 12, 0, 3, 0, 12]) := by decide +kernel
theorem r172_41 : j_at 172 41 = some (41, .iload 4, 2, []) := by decide +kernel
theorem r172_43 : j_at 172 43 = some (43, .iadd, 1, []) := by decide +kernel
theorem r172_44 : j_at 172 44 = some (44, .invokevirtual 289, 3, [2, 3, 157, 918, 919, 56, 77, 0, 12]) := by decide +kernel
theorem r172_47 : j_at 172 47 = some (47, .istore_n 2, 1, []) := by decide +kernel
theorem r172_48 : j_at 172 48 = some (48, .aload_n 0, 1, []) := by decide +kernel
theorem r172_49 : j_at 172 49 = some (49, .iload_n 3, 1, []) := by decide +kernel
theorem r172_50 : j_at 172 50 = some (50, .aload_n 0, 1, []) := by decide +kernel
theorem r172_51 : j_at 172 51 = some (51, .getfield 19, 3, [707, 12, 0, 3, 0, 12]) := by decide +kernel
theorem r172_54 : j_at 172 54 = some (54, .iload 4, 2, []) := by decide +kernel
theorem r172_56 : j_at 172 56 = some (56, .iadd, 1, []) := by decide +kernel
theorem r172_57 : j_at 172 57 = some (57, .invokevirtual 289, 3, [2, 3, 157, 918, 919, 56, 77, 0, 12]) := by decide +kernel
theorem r172_60 : j_at 172 60 = some (60, .istore_n 3, 1, []) := by decide +kernel
theorem r172_61 : j_at 172 61 = some (61, .iinc 4 1, 3, []) := by decide +kernel
theorem r172_64 : j_at 172 64 = some (64, .goto (-44), 3, []) := by decide +kernel
theorem r172_67 : j_at 172 67 = some (67, .bipush (-5), 2, []) := by decide +kernel
theorem r172_69 : j_at 172 69 = some (69, .ireturn, 1, []) := by decide +kernel
theorem b172_0 {b : Nat} {x0 : Value} {x1 : Int32} {u2 : Value} {u3 : Value} {u4 : Value} {H : j_H} {Q : Option Value → j_H → Prop} (h0 : j_vc H x0 = 12) : j_wp (b + 1) 172 0 [x0, .int x1, u2, u3, u4] [] H Q = j_wp b 124 0 [x0, .int x1] [] H (j_k (b + 1) 172 5 [x0, .int x1, u2, u3, u4] [] Q) := Eq.trans (s_aload_n r172_0 rfl (j_isr_vc h0 rfl)) (Eq.trans (s_iload_n r172_1 rfl) (j_cll (as := [x0, .int x1]) (es := [x0, .int x1]) (s_c2 r172_2 rfl h0 rfl rfl (j_dok (s := [.int x1, x0]) (as := [x0, .int x1]) (rest := []) (es := [x0, .int x1]) rfl rfl rfl rfl (j_slc (j_c1r (j_isr_vc h0 rfl)) rfl) rfl)) (j_slc (j_c1r (j_isr_vc h0 rfl)) rfl) rfl))
theorem b172_5 {b : Nat} {x0 : Value} {x1 : Int32} {u2 : Value} {u3 : Value} {u4 : Value} {y0 : Int32} {H : j_H} {Q : Option Value → j_H → Prop}  : j_wp b 172 5 [x0, .int x1, u2, u3, u4] [.int y0] H Q = (if ¬ y0.toInt = 0 then j_wp b 172 10 [x0, .int x1, u2, u3, u4] [] H Q else j_wp b 172 8 [x0, .int x1, u2, u3, u4] [] H Q) := s_ifne r172_5 rfl rfl
theorem b172_8 {b : Nat} {x0 : Value} {x1 : Int32} {u2 : Value} {u3 : Value} {u4 : Value} {H : j_H} {Q : Option Value → j_H → Prop}  : j_wp b 172 8 [x0, .int x1, u2, u3, u4] [] H Q = Q (some (.int (Int32.ofInt (-1)))) H := Eq.trans (s_iconst r172_8) (s_ireturn r172_9 (j_rok1 rfl))
theorem b172_10 {b : Nat} {x0 : Value} {x1 : Int32} {u2 : Value} {u3 : Value} {u4 : Value} {H : j_H} {Q : Option Value → j_H → Prop} (h0 : j_vc H x0 = 12) : j_wp b 172 10 [x0, .int x1, u2, u3, u4] [] H Q = j_wp b 172 20 [x0, .int x1, .int (j_I H (j_pa x0) 2), .int x1, .int (Int32.ofInt 0)] [] H Q := Eq.trans (s_aload_n r172_10 rfl (j_isr_vc h0 rfl)) (Eq.trans (s_getfi r172_11 (j_al1 h0 rfl) rfl rfl rfl) (Eq.trans (s_istore_n r172_14 (Nat.le_of_ble_eq_true rfl) rfl) (Eq.trans (s_iload_n r172_15 rfl) (Eq.trans (s_istore_n r172_16 (Nat.le_of_ble_eq_true rfl) rfl) (Eq.trans (s_iconst r172_17) (s_istore r172_18 (Nat.le_of_ble_eq_true rfl) rfl))))))
theorem b172_20 {b : Nat} {x0 : Value} {x1 : Int32} {x2 : Int32} {x3 : Int32} {x4 : Int32} {H : j_H} {Q : Option Value → j_H → Prop}  : j_wp b 172 20 [x0, .int x1, .int x2, .int x3, .int x4] [] H Q = (if 61 ≤ x4.toInt then j_wp b 172 67 [x0, .int x1, .int x2, .int x3, .int x4] [] H Q else j_wp b 172 27 [x0, .int x1, .int x2, .int x3, .int x4] [] H Q) := Eq.trans (s_iload r172_20 rfl) (Eq.trans (s_bipush r172_22) (s_icge r172_24 rfl rfl rfl))
theorem b172_27 {b : Nat} {x0 : Value} {x1 : Int32} {x2 : Int32} {x3 : Int32} {x4 : Int32} {H : j_H} {Q : Option Value → j_H → Prop}  : j_wp b 172 27 [x0, .int x1, .int x2, .int x3, .int x4] [] H Q = (if ¬ x2.toInt = x3.toInt then j_wp b 172 35 [x0, .int x1, .int x2, .int x3, .int x4] [] H Q else j_wp b 172 32 [x0, .int x1, .int x2, .int x3, .int x4] [] H Q) := Eq.trans (s_iload_n r172_27 rfl) (Eq.trans (s_iload_n r172_28 rfl) (s_icne r172_29 rfl rfl rfl))
theorem b172_32 {b : Nat} {x0 : Value} {x1 : Int32} {x2 : Int32} {x3 : Int32} {x4 : Int32} {H : j_H} {Q : Option Value → j_H → Prop}  : j_wp b 172 32 [x0, .int x1, .int x2, .int x3, .int x4] [] H Q = Q (some (.int x4)) H := Eq.trans (s_iload r172_32 rfl) (s_ireturn r172_34 (j_rok1 rfl))
theorem b172_35 {b : Nat} {x0 : Value} {x1 : Int32} {x2 : Int32} {x3 : Int32} {x4 : Int32} {H : j_H} {Q : Option Value → j_H → Prop} (h0 : j_vc H x0 = 12) : j_wp (b + 1) 172 35 [x0, .int x1, .int x2, .int x3, .int x4] [] H Q = j_wp b 157 0 [x0, .int x2, .int ((j_I H (j_pa x0) 3) + x4)] [] H (j_k (b + 1) 172 47 [x0, .int x1, .int x2, .int x3, .int x4] [] Q) := Eq.trans (s_aload_n r172_35 rfl (j_isr_vc h0 rfl)) (Eq.trans (s_iload_n r172_36 rfl) (Eq.trans (s_aload_n r172_37 rfl (j_isr_vc h0 rfl)) (Eq.trans (s_getfi r172_38 (j_al1 h0 rfl) rfl rfl rfl) (Eq.trans (s_iload r172_41 rfl) (Eq.trans (s_iadd r172_43) (j_cll (as := [x0, .int x2, .int ((j_I H (j_pa x0) 3) + x4)]) (es := [x0, .int x2, .int ((j_I H (j_pa x0) 3) + x4)]) (s_c2 r172_44 rfl h0 rfl rfl (j_dok (s := [.int ((j_I H (j_pa x0) 3) + x4), .int x2, x0]) (as := [x0, .int x2, .int ((j_I H (j_pa x0) 3) + x4)]) (rest := []) (es := [x0, .int x2, .int ((j_I H (j_pa x0) 3) + x4)]) rfl rfl rfl rfl (j_slc (j_c1r (j_isr_vc h0 rfl)) rfl) rfl)) (j_slc (j_c1r (j_isr_vc h0 rfl)) rfl) rfl))))))
theorem b172_47 {b : Nat} {x0 : Value} {x1 : Int32} {x2 : Int32} {x3 : Int32} {x4 : Int32} {y0 : Int32} {H : j_H} {Q : Option Value → j_H → Prop} (h0 : j_vc H x0 = 12) : j_wp (b + 1) 172 47 [x0, .int x1, .int x2, .int x3, .int x4] [.int y0] H Q = j_wp b 157 0 [x0, .int x3, .int ((j_I H (j_pa x0) 3) + x4)] [] H (j_k (b + 1) 172 60 [x0, .int x1, .int y0, .int x3, .int x4] [] Q) := Eq.trans (s_istore_n r172_47 (Nat.le_of_ble_eq_true rfl) rfl) (Eq.trans (s_aload_n r172_48 rfl (j_isr_vc h0 rfl)) (Eq.trans (s_iload_n r172_49 rfl) (Eq.trans (s_aload_n r172_50 rfl (j_isr_vc h0 rfl)) (Eq.trans (s_getfi r172_51 (j_al1 h0 rfl) rfl rfl rfl) (Eq.trans (s_iload r172_54 rfl) (Eq.trans (s_iadd r172_56) (j_cll (as := [x0, .int x3, .int ((j_I H (j_pa x0) 3) + x4)]) (es := [x0, .int x3, .int ((j_I H (j_pa x0) 3) + x4)]) (s_c2 r172_57 rfl h0 rfl rfl (j_dok (s := [.int ((j_I H (j_pa x0) 3) + x4), .int x3, x0]) (as := [x0, .int x3, .int ((j_I H (j_pa x0) 3) + x4)]) (rest := []) (es := [x0, .int x3, .int ((j_I H (j_pa x0) 3) + x4)]) rfl rfl rfl rfl (j_slc (j_c1r (j_isr_vc h0 rfl)) rfl) rfl)) (j_slc (j_c1r (j_isr_vc h0 rfl)) rfl) rfl)))))))
theorem b172_60 {b : Nat} {x0 : Value} {x1 : Int32} {x2 : Int32} {x3 : Int32} {x4 : Int32} {y0 : Int32} {H : j_H} {Q : Option Value → j_H → Prop}  : j_wp b 172 60 [x0, .int x1, .int x2, .int x3, .int x4] [.int y0] H Q = j_wp b 172 20 [x0, .int x1, .int x2, .int y0, .int (x4 + Int32.ofInt 1)] [] H Q := Eq.trans (s_istore_n r172_60 (Nat.le_of_ble_eq_true rfl) rfl) (Eq.trans (s_iinc r172_61 rfl rfl) (s_goto r172_64 rfl))
theorem b172_67 {b : Nat} {x0 : Value} {x1 : Int32} {x2 : Int32} {x3 : Int32} {x4 : Int32} {H : j_H} {Q : Option Value → j_H → Prop}  : j_wp b 172 67 [x0, .int x1, .int x2, .int x3, .int x4] [] H Q = Q (some (.int (Int32.ofInt (-5)))) H := Eq.trans (s_bipush r172_67) (s_ireturn r172_69 (j_rok1 rfl))
-- X12_divisor
theorem r173_0 : j_at 173 0 = some (0, .lload_n 1, 1, []) := by decide +kernel
theorem r173_1 : j_at 173 1 = some (1, .lstore 5, 2, []) := by decide +kernel
theorem r173_3 : j_at 173 3 = some (3, .lload_n 3, 1, []) := by decide +kernel
theorem r173_4 : j_at 173 4 = some (4, .lstore 7, 2, []) := by decide +kernel
theorem r173_6 : j_at 173 6 = some (6, .lload 7, 2, []) := by decide +kernel
theorem r173_8 : j_at 173 8 = some (8, .lconst 0, 1, []) := by decide +kernel
theorem r173_9 : j_at 173 9 = some (9, .lcmp, 1, []) := by decide +kernel
theorem r173_10 : j_at 173 10 = some (10, .ifCond .eq 21, 3, []) := by decide +kernel
theorem r173_13 : j_at 173 13 = some (13, .lload 5, 2, []) := by decide +kernel
theorem r173_15 : j_at 173 15 = some (15, .lload 7, 2, []) := by decide +kernel
theorem r173_17 : j_at 173 17 = some (17, .lrem, 1, []) := by decide +kernel
theorem r173_18 : j_at 173 18 = some (18, .lstore 9, 2, []) := by decide +kernel
theorem r173_20 : j_at 173 20 = some (20, .lload 7, 2, []) := by decide +kernel
theorem r173_22 : j_at 173 22 = some (22, .lstore 5, 2, []) := by decide +kernel
theorem r173_24 : j_at 173 24 = some (24, .lload 9, 2, []) := by decide +kernel
theorem r173_26 : j_at 173 26 = some (26, .lstore 7, 2, []) := by decide +kernel
theorem r173_28 : j_at 173 28 = some (28, .goto (-22), 3, []) := by decide +kernel
theorem r173_31 : j_at 173 31 = some (31, .lload 5, 2, []) := by decide +kernel
theorem r173_33 : j_at 173 33 = some (33, .lreturn, 1, []) := by decide +kernel
theorem b173_0 {b : Nat} {x0 : Value} {x1 : Int64} {x3 : Int64} {u5 : Value} {u6 : Value} {u7 : Value} {u8 : Value} {u9 : Value} {u10 : Value} {H : j_H} {Q : Option Value → j_H → Prop}  : j_wp b 173 0 [x0, .long x1, j_u, .long x3, j_u, u5, u6, u7, u8, u9, u10] [] H Q = j_wp b 173 6 [x0, .long x1, j_u, .long x3, j_u, .long x1, j_u, .long x3, j_u, u9, u10] [] H Q := Eq.trans (s_lload_n r173_0 rfl) (Eq.trans (s_lstore r173_1 (Nat.le_of_ble_eq_true rfl) rfl) (Eq.trans (s_lload_n r173_3 rfl) (s_lstore r173_4 (Nat.le_of_ble_eq_true rfl) rfl)))
theorem b173_6 {b : Nat} {x0 : Value} {x1 : Int64} {x3 : Int64} {x5 : Int64} {x7 : Int64} {u9 : Value} {u10 : Value} {H : j_H} {Q : Option Value → j_H → Prop}  : j_wp b 173 6 [x0, .long x1, j_u, .long x3, j_u, .long x5, j_u, .long x7, j_u, u9, u10] [] H Q = (if (lg_cmp x7 (Int64.ofInt 0)).toInt = 0 then j_wp b 173 31 [x0, .long x1, j_u, .long x3, j_u, .long x5, j_u, .long x7, j_u, u9, u10] [] H Q else j_wp b 173 13 [x0, .long x1, j_u, .long x3, j_u, .long x5, j_u, .long x7, j_u, u9, u10] [] H Q) := Eq.trans (s_lload r173_6 rfl) (Eq.trans (s_lconst r173_8 rfl) (Eq.trans (s_lcmp r173_9) (s_ifeq r173_10 rfl rfl)))
theorem b173_13 {b : Nat} {x0 : Value} {x1 : Int64} {x3 : Int64} {x5 : Int64} {x7 : Int64} {u9 : Value} {u10 : Value} {H : j_H} {Q : Option Value → j_H → Prop} (h0 : ¬ x7.toInt = 0) : j_wp b 173 13 [x0, .long x1, j_u, .long x3, j_u, .long x5, j_u, .long x7, j_u, u9, u10] [] H Q = j_wp b 173 6 [x0, .long x1, j_u, .long x3, j_u, .long x7, j_u, .long (j_lrem x5 x7), j_u, .long (j_lrem x5 x7), j_u] [] H Q := Eq.trans (s_lload r173_13 rfl) (Eq.trans (s_lload r173_15 rfl) (Eq.trans (s_lrem r173_17 (j_nzl h0)) (Eq.trans (s_lstore r173_18 (Nat.le_of_ble_eq_true rfl) rfl) (Eq.trans (s_lload r173_20 rfl) (Eq.trans (s_lstore r173_22 (Nat.le_of_ble_eq_true rfl) rfl) (Eq.trans (s_lload r173_24 rfl) (Eq.trans (s_lstore r173_26 (Nat.le_of_ble_eq_true rfl) rfl) (s_goto r173_28 rfl))))))))
theorem b173_31 {b : Nat} {x0 : Value} {x1 : Int64} {x3 : Int64} {x5 : Int64} {x7 : Int64} {u9 : Value} {u10 : Value} {H : j_H} {Q : Option Value → j_H → Prop}  : j_wp b 173 31 [x0, .long x1, j_u, .long x3, j_u, .long x5, j_u, .long x7, j_u, u9, u10] [] H Q = Q (some (.long x5)) H := Eq.trans (s_lload r173_31 rfl) (s_lreturn r173_33 rfl)
-- X12_lowest
theorem r174_0 : j_at 174 0 = some (0, .aload_n 0, 1, []) := by decide +kernel
theorem r174_1 : j_at 174 1 = some (1, .lload_n 1, 1, []) := by decide +kernel
theorem r174_2 : j_at 174 2 = some (2, .lload_n 3, 1, []) := by decide +kernel
theorem r174_3 : j_at 174 3 = some (3, .invokevirtual 300, 3, [2, 3, 173, 957, 958, 61, 77, 0, 12]) := by decide +kernel
theorem r174_6 : j_at 174 6 = some (6, .lstore 6, 2, []) := by decide +kernel
theorem r174_8 : j_at 174 8 = some (8, .iload 5, 2, []) := by decide +kernel
theorem r174_10 : j_at 174 10 = some (10, .ifCond .ne 10, 3, []) := by decide +kernel
theorem r174_13 : j_at 174 13 = some (13, .lload_n 1, 1, []) := by decide +kernel
theorem r174_14 : j_at 174 14 = some (14, .lload 6, 2, []) := by decide +kernel
theorem r174_16 : j_at 174 16 = some (16, .ldiv, 1, []) := by decide +kernel
theorem r174_17 : j_at 174 17 = some (17, .goto 7, 3, []) := by decide +kernel
theorem r174_20 : j_at 174 20 = some (20, .lload_n 3, 1, []) := by decide +kernel
theorem r174_21 : j_at 174 21 = some (21, .lload 6, 2, []) := by decide +kernel
theorem r174_23 : j_at 174 23 = some (23, .ldiv, 1, []) := by decide +kernel
theorem r174_24 : j_at 174 24 = some (24, .lreturn, 1, []) := by decide +kernel
theorem b174_0 {b : Nat} {x0 : Value} {x1 : Int64} {x3 : Int64} {x5 : Int32} {u6 : Value} {u7 : Value} {H : j_H} {Q : Option Value → j_H → Prop} (h0 : j_vc H x0 = 12) : j_wp (b + 1) 174 0 [x0, .long x1, j_u, .long x3, j_u, .int x5, u6, u7] [] H Q = j_wp b 173 0 [x0, .long x1, j_u, .long x3, j_u, j_u, j_u, j_u, j_u, j_u, j_u] [] H (j_k (b + 1) 174 6 [x0, .long x1, j_u, .long x3, j_u, .int x5, u6, u7] [] Q) := Eq.trans (s_aload_n r174_0 rfl (j_isr_vc h0 rfl)) (Eq.trans (s_lload_n r174_1 rfl) (Eq.trans (s_lload_n r174_2 rfl) (j_cll (as := [x0, .long x1, .long x3]) (es := [x0, .long x1, j_u, .long x3, j_u]) (s_c2 r174_3 rfl h0 rfl rfl (j_dok (s := [.long x3, .long x1, x0]) (as := [x0, .long x1, .long x3]) (rest := []) (es := [x0, .long x1, j_u, .long x3, j_u]) rfl rfl rfl rfl (j_slc (j_c1r (j_isr_vc h0 rfl)) rfl) rfl)) (j_slc (j_c1r (j_isr_vc h0 rfl)) rfl) rfl)))
theorem b174_6 {b : Nat} {x0 : Value} {x1 : Int64} {x3 : Int64} {x5 : Int32} {u6 : Value} {u7 : Value} {y0 : Int64} {H : j_H} {Q : Option Value → j_H → Prop}  : j_wp b 174 6 [x0, .long x1, j_u, .long x3, j_u, .int x5, u6, u7] [.long y0] H Q = (if ¬ x5.toInt = 0 then j_wp b 174 20 [x0, .long x1, j_u, .long x3, j_u, .int x5, .long y0, j_u] [] H Q else j_wp b 174 13 [x0, .long x1, j_u, .long x3, j_u, .int x5, .long y0, j_u] [] H Q) := Eq.trans (s_lstore r174_6 (Nat.le_of_ble_eq_true rfl) rfl) (Eq.trans (s_iload r174_8 rfl) (s_ifne r174_10 rfl rfl))
theorem b174_13 {b : Nat} {x0 : Value} {x1 : Int64} {x3 : Int64} {x5 : Int32} {x6 : Int64} {H : j_H} {Q : Option Value → j_H → Prop} (h0 : ¬ x6.toInt = 0) : j_wp b 174 13 [x0, .long x1, j_u, .long x3, j_u, .int x5, .long x6, j_u] [] H Q = j_wp b 174 24 [x0, .long x1, j_u, .long x3, j_u, .int x5, .long x6, j_u] [.long (x1 / x6)] H Q := Eq.trans (s_lload_n r174_13 rfl) (Eq.trans (s_lload r174_14 rfl) (Eq.trans (s_ldiv r174_16 (j_nzl h0)) (s_goto r174_17 rfl)))
theorem b174_20 {b : Nat} {x0 : Value} {x1 : Int64} {x3 : Int64} {x5 : Int32} {x6 : Int64} {H : j_H} {Q : Option Value → j_H → Prop} (h0 : ¬ x6.toInt = 0) : j_wp b 174 20 [x0, .long x1, j_u, .long x3, j_u, .int x5, .long x6, j_u] [] H Q = j_wp b 174 24 [x0, .long x1, j_u, .long x3, j_u, .int x5, .long x6, j_u] [.long (x3 / x6)] H Q := Eq.trans (s_lload_n r174_20 rfl) (Eq.trans (s_lload r174_21 rfl) (s_ldiv r174_23 (j_nzl h0)))
theorem b174_24 {b : Nat} {x0 : Value} {x1 : Int64} {x3 : Int64} {x5 : Int32} {x6 : Int64} {y0 : Int64} {H : j_H} {Q : Option Value → j_H → Prop}  : j_wp b 174 24 [x0, .long x1, j_u, .long x3, j_u, .int x5, .long x6, j_u] [.long y0] H Q = Q (some (.long y0)) H := s_lreturn r174_24 rfl
-- X12_layOften
theorem r175_0 : j_at 175 0 = some (0, .iconst 0, 1, []) := by decide +kernel
theorem r175_1 : j_at 175 1 = some (1, .istore_n 2, 1, []) := by decide +kernel
theorem r175_2 : j_at 175 2 = some (2, .iload_n 2, 1, []) := by decide +kernel
theorem r175_3 : j_at 175 3 = some (3, .bipush 7, 2, []) := by decide +kernel
theorem r175_5 : j_at 175 5 = some (5, .if_icmp .ge 28, 3, []) := by decide +kernel
theorem r175_8 : j_at 175 8 = some (8, .aload_n 0, 1, []) := by decide +kernel
theorem r175_9 : j_at 175 9 = some (9, .getfield 108, 3, [736, 12, 2, 32, 0, 12]) := by decide +kernel
theorem r175_12 : j_at 175 12 = some (12, .iload_n 2, 1, []) := by decide +kernel
theorem r175_13 : j_at 175 13 = some (13, .iload_n 2, 1, []) := by decide +kernel
theorem r175_14 : j_at 175 14 = some (14, .aload_n 0, 1, []) := by decide +kernel
theorem r175_15 : j_at 175 15 = some (15, .getfield 16, 3, [706, 12, 0, 2, 0, 12]) := by decide +kernel
theorem r175_18 : j_at 175 18 = some (18, .if_icmp .ne 7, 3, []) := by decide +kernel
theorem r175_21 : j_at 175 21 = some (21, .lconst 1, 1, []) := by decide +kernel
theorem r175_22 : j_at 175 22 = some (22, .goto 4, 3, []) := by decide +kernel
theorem r175_25 : j_at 175 25 = some (25, .lconst 0, 1, []) := by decide +kernel
theorem r175_26 : j_at 175 26 = some (26, .lastore, 1, []) := by decide +kernel
theorem r175_27 : j_at 175 27 = some (27, .iinc 2 1, 3, []) := by decide +kernel
theorem r175_30 : j_at 175 30 = some (30, .goto (-28), 3, []) := by decide +kernel
theorem r175_33 : j_at 175 33 = some (33, .aload_n 0, 1, []) := by decide +kernel
theorem r175_34 : j_at 175 34 = some (34, .lconst 0, 1, []) := by decide +kernel
theorem r175_35 : j_at 175 35 = some (35, .putfield 115, 3, [738, 12, 1, 34, 0, 0, 12]) := by decide +kernel
theorem r175_38 : j_at 175 38 = some (38, .aload_n 0, 1, []) := by decide +kernel
theorem r175_39 : j_at 175 39 = some (39, .lconst 1, 1, []) := by decide +kernel
theorem r175_40 : j_at 175 40 = some (40, .putfield 119, 3, [739, 12, 1, 35, 0, 0, 12]) := by decide +kernel
theorem r175_43 : j_at 175 43 = some (43, .iconst 0, 1, []) := by decide +kernel
theorem r175_44 : j_at 175 44 = some (44, .istore_n 2, 1, []) := by decide +kernel
theorem r175_45 : j_at 175 45 = some (45, .iload_n 2, 1, []) := by decide +kernel
theorem r175_46 : j_at 175 46 = some (46, .iload_n 1, 1, []) := by decide +kernel
theorem r175_47 : j_at 175 47 = some (47, .if_icmp .ge 204, 3, []) := by decide +kernel
theorem r175_50 : j_at 175 50 = some (50, .iconst 0, 1, []) := by decide +kernel
theorem r175_51 : j_at 175 51 = some (51, .istore_n 3, 1, []) := by decide +kernel
theorem r175_52 : j_at 175 52 = some (52, .iload_n 3, 1, []) := by decide +kernel
theorem r175_53 : j_at 175 53 = some (53, .bipush 7, 2, []) := by decide +kernel
theorem r175_55 : j_at 175 55 = some (55, .if_icmp .ge 16, 3, []) := by decide +kernel
theorem r175_58 : j_at 175 58 = some (58, .aload_n 0, 1, []) := by decide +kernel
theorem r175_59 : j_at 175 59 = some (59, .getfield 112, 3, [737, 12, 2, 33, 0, 12]) := by decide +kernel
theorem r175_62 : j_at 175 62 = some (62, .iload_n 3, 1, []) := by decide +kernel
theorem r175_63 : j_at 175 63 = some (63, .lconst 0, 1, []) := by decide +kernel
theorem r175_64 : j_at 175 64 = some (64, .lastore, 1, []) := by decide +kernel
theorem r175_65 : j_at 175 65 = some (65, .iinc 3 1, 3, []) := by decide +kernel
theorem r175_68 : j_at 175 68 = some (68, .goto (-16), 3, []) := by decide +kernel
theorem r175_71 : j_at 175 71 = some (71, .iconst 0, 1, []) := by decide +kernel
theorem r175_72 : j_at 175 72 = some (72, .istore_n 3, 1, []) := by decide +kernel
theorem r175_73 : j_at 175 73 = some (73, .iload_n 3, 1, []) := by decide +kernel
theorem r175_74 : j_at 175 74 = some (74, .aload_n 0, 1, []) := by decide +kernel
theorem r175_75 : j_at 175 75 = some (75, .getfield 7, 3, [704, 12, 0, 0, 0, 12]) := by decide +kernel
theorem r175_78 : j_at 175 78 = some (78, .if_icmp .ge 37, 3, []) := by decide +kernel
theorem r175_81 : j_at 175 81 = some (81, .aload_n 0, 1, []) := by decide +kernel
theorem r175_82 : j_at 175 82 = some (82, .dup, 1, []) := by decide +kernel
theorem r175_83 : j_at 175 83 = some (83, .getfield 115, 3, [738, 12, 1, 34, 0, 12]) := by decide +kernel
theorem r175_86 : j_at 175 86 = some (86, .aload_n 0, 1, []) := by decide +kernel
theorem r175_87 : j_at 175 87 = some (87, .iload_n 3, 1, []) := by decide +kernel
theorem r175_88 : j_at 175 88 = some (88, .aload_n 0, 1, []) := by decide +kernel
theorem r175_89 : j_at 175 89 = some (89, .getfield 19, 3, [707, 12, 0, 3, 0, 12]) := by decide +kernel
theorem r175_92 : j_at 175 92 = some (92, .iload_n 2, 1, []) := by decide +kernel
theorem r175_93 : j_at 175 93 = some (93, .iadd, 1, []) := by decide +kernel
theorem r175_94 : j_at 175 94 = some (94, .invokevirtual 274, 3, [2, 3, 152, 889, 890, 49, 77, 0, 12]) := by decide +kernel
theorem r175_97 : j_at 175 97 = some (97, .i2l, 1, []) := by decide +kernel
theorem r175_98 : j_at 175 98 = some (98, .aload_n 0, 1, []) := by decide +kernel
theorem r175_99 : j_at 175 99 = some (99, .getfield 108, 3, [736, 12, 2, 32, 0, 12]) := by decide +kernel
theorem r175_102 : j_at 175 102 = some (102, .iload_n 3, 1, []) := by decide +kernel
theorem r175_103 : j_at 175 103 = some (103, .laload, 1, []) := by decide +kernel
theorem r175_104 : j_at 175 104 = some (104, .lmul, 1, []) := by decide +kernel
theorem r175_105 : j_at 175 105 = some (105, .ladd, 1, []) := by decide +kernel
theorem r175_106 : j_at 175 106 = some (106, .putfield 115, 3, [738, 12, 1, 34, 0, 0, 12]) := by decide +kernel
theorem r175_109 : j_at 175 109 = some (109, .iinc 3 1, 3, []) := by decide +kernel
theorem r175_112 : j_at 175 112 = some (112, .goto (-39), 3, []) := by decide +kernel
theorem r175_115 : j_at 175 115 = some (115, .iconst 0, 1, []) := by decide +kernel
theorem r175_116 : j_at 175 116 = some (116, .istore_n 3, 1, []) := by decide +kernel
theorem r175_117 : j_at 175 117 = some (117, .iload_n 3, 1, []) := by decide +kernel
theorem r175_118 : j_at 175 118 = some (118, .aload_n 0, 1, []) := by decide +kernel
theorem r175_119 : j_at 175 119 = some (119, .getfield 7, 3, [704, 12, 0, 0, 0, 12]) := by decide +kernel
theorem r175_122 : j_at 175 122 = some (122, .if_icmp .ge 73, 3, []) := by decide +kernel
theorem r175_125 : j_at 175 125 = some (125, .aload_n 0, 1, []) := by decide +kernel
theorem r175_126 : j_at 175 126 = some (126, .iload_n 3, 1, []) := by decide +kernel
theorem r175_127 : j_at 175 127 = some (127, .aload_n 0, 1, []) := by decide +kernel
theorem r175_128 : j_at 175 128 = some (128, .getfield 19, 3, [707, 12, 0, 3, 0, 12]) := by decide +kernel
theorem r175_131 : j_at 175 131 = some (131, .iload_n 2, 1, []) := by decide +kernel
theorem r175_132 : j_at 175 132 = some (132, .iadd, 1, []) := by decide +kernel
theorem r175_133 : j_at 175 133 = some (133, .invokevirtual 286, 3, [2, 3, 151, 875, 876, 42, 77, 0, 12]) := by decide +kernel
theorem r175_136 : j_at 175 136 = some (136, .istore 4, 2, []) := by decide +kernel
theorem r175_138 : j_at 175 138 = some (138, .aload_n 0, 1, []) := by decide +kernel
theorem r175_139 : j_at 175 139 = some (139, .getfield 112, 3, [737, 12, 2, 33, 0, 12]) := by decide +kernel
theorem r175_142 : j_at 175 142 = some (142, .aload_n 0, 1, []) := by decide +kernel
theorem r175_143 : j_at 175 143 = some (143, .iload_n 3, 1, []) := by decide +kernel
theorem r175_144 : j_at 175 144 = some (144, .iconst 0, 1, []) := by decide +kernel
theorem r175_145 : j_at 175 145 = some (145, .invokevirtual 283, 3, [2, 3, 156, 907, 908, 55, 77, 0, 12]) := by decide +kernel
theorem r175_148 : j_at 175 148 = some (148, .dup2, 1, []) := by decide +kernel
theorem r175_149 : j_at 175 149 = some (149, .laload, 1, []) := by decide +kernel
theorem r175_150 : j_at 175 150 = some (150, .iload 4, 2, []) := by decide +kernel
theorem r175_152 : j_at 175 152 = some (152, .i2l, 1, []) := by decide +kernel
theorem r175_153 : j_at 175 153 = some (153, .aload_n 0, 1, []) := by decide +kernel
theorem r175_154 : j_at 175 154 = some (154, .getfield 108, 3, [736, 12, 2, 32, 0, 12]) := by decide +kernel
theorem r175_157 : j_at 175 157 = some (157, .iload_n 3, 1, []) := by decide +kernel
theorem r175_158 : j_at 175 158 = some (158, .laload, 1, []) := by decide +kernel
theorem r175_159 : j_at 175 159 = some (159, .lmul, 1, []) := by decide +kernel
theorem r175_160 : j_at 175 160 = some (160, .ladd, 1, []) := by decide +kernel
theorem r175_161 : j_at 175 161 = some (161, .lastore, 1, []) := by decide +kernel
theorem r175_162 : j_at 175 162 = some (162, .aload_n 0, 1, []) := by decide +kernel
theorem r175_163 : j_at 175 163 = some (163, .getfield 112, 3, [737, 12, 2, 33, 0, 12]) := by decide +kernel
theorem r175_166 : j_at 175 166 = some (166, .aload_n 0, 1, []) := by decide +kernel
theorem r175_167 : j_at 175 167 = some (167, .iload_n 3, 1, []) := by decide +kernel
theorem r175_168 : j_at 175 168 = some (168, .iconst 1, 1, []) := by decide +kernel
theorem r175_169 : j_at 175 169 = some (169, .invokevirtual 283, 3, [2, 3, 156, 907, 908, 55, 77, 0, 12]) := by decide +kernel
theorem r175_172 : j_at 175 172 = some (172, .dup2, 1, []) := by decide +kernel
theorem r175_173 : j_at 175 173 = some (173, .laload, 1, []) := by decide +kernel
theorem r175_174 : j_at 175 174 = some (174, .bipush 10, 2, []) := by decide +kernel
theorem r175_176 : j_at 175 176 = some (176, .iload 4, 2, []) := by decide +kernel
theorem r175_178 : j_at 175 178 = some (178, .isub, 1, []) := by decide +kernel
theorem r175_179 : j_at 175 179 = some (179, .i2l, 1, []) := by decide +kernel
theorem r175_180 : j_at 175 180 = some (180, .aload_n 0, 1, []) := by decide +kernel
theorem r175_181 : j_at 175 181 = some (181, .getfield 108, 3, [736, 12, 2, 32, 0, 12]) := by decide +kernel
theorem r175_184 : j_at 175 184 = some (184, .iload_n 3, 1, []) := by decide +kernel
theorem r175_185 : j_at 175 185 = some (185, .laload, 1, []) := by decide +kernel
theorem r175_186 : j_at 175 186 = some (186, .lmul, 1, []) := by decide +kernel
theorem r175_187 : j_at 175 187 = some (187, .ladd, 1, []) := by decide +kernel
theorem r175_188 : j_at 175 188 = some (188, .lastore, 1, []) := by decide +kernel
theorem r175_189 : j_at 175 189 = some (189, .iinc 3 1, 3, []) := by decide +kernel
theorem r175_192 : j_at 175 192 = some (192, .goto (-75), 3, []) := by decide +kernel
theorem r175_195 : j_at 175 195 = some (195, .iconst 0, 1, []) := by decide +kernel
theorem r175_196 : j_at 175 196 = some (196, .istore_n 3, 1, []) := by decide +kernel
theorem r175_197 : j_at 175 197 = some (197, .iload_n 3, 1, []) := by decide +kernel
theorem r175_198 : j_at 175 198 = some (198, .bipush 7, 2, []) := by decide +kernel
theorem r175_200 : j_at 175 200 = some (200, .if_icmp .ge 21, 3, []) := by decide +kernel
theorem r175_203 : j_at 175 203 = some (203, .aload_n 0, 1, []) := by decide +kernel
theorem r175_204 : j_at 175 204 = some (204, .getfield 108, 3, [736, 12, 2, 32, 0, 12]) := by decide +kernel
theorem r175_207 : j_at 175 207 = some (207, .iload_n 3, 1, []) := by decide +kernel
theorem r175_208 : j_at 175 208 = some (208, .aload_n 0, 1, []) := by decide +kernel
theorem r175_209 : j_at 175 209 = some (209, .getfield 112, 3, [737, 12, 2, 33, 0, 12]) := by decide +kernel
theorem r175_212 : j_at 175 212 = some (212, .iload_n 3, 1, []) := by decide +kernel
theorem r175_213 : j_at 175 213 = some (213, .laload, 1, []) := by decide +kernel
theorem r175_214 : j_at 175 214 = some (214, .lastore, 1, []) := by decide +kernel
theorem r175_215 : j_at 175 215 = some (215, .iinc 3 1, 3, []) := by decide +kernel
theorem r175_218 : j_at 175 218 = some (218, .goto (-21), 3, []) := by decide +kernel
theorem r175_221 : j_at 175 221 = some (221, .aload_n 0, 1, []) := by decide +kernel
theorem r175_222 : j_at 175 222 = some (222, .dup, 1, []) := by decide +kernel
theorem r175_223 : j_at 175 223 = some (223, .getfield 115, 3, [738, 12, 1, 34, 0, 12]) := by decide +kernel
theorem r175_226 : j_at 175 226 = some (226, .ldc2_w 304, 3, [954, 0, 10]) := by decide +kernel
theorem r175_229 : j_at 175 229 = some (229, .lmul, 1, []) := by decide +kernel
theorem r175_230 : j_at 175 230 = some (230, .putfield 115, 3, [738, 12, 1, 34, 0, 0, 12]) := by decide +kernel
theorem r175_233 : j_at 175 233 = some (233, .aload_n 0, 1, []) := by decide +kernel
theorem r175_234 : j_at 175 234 = some (234, .dup, 1, []) := by decide +kernel
theorem r175_235 : j_at 175 235 = some (235, .getfield 119, 3, [739, 12, 1, 35, 0, 12]) := by decide +kernel
theorem r175_238 : j_at 175 238 = some (238, .ldc2_w 304, 3, [954, 0, 10]) := by decide +kernel
theorem r175_241 : j_at 175 241 = some (241, .lmul, 1, []) := by decide +kernel
theorem r175_242 : j_at 175 242 = some (242, .putfield 119, 3, [739, 12, 1, 35, 0, 0, 12]) := by decide +kernel
theorem r175_245 : j_at 175 245 = some (245, .iinc 2 1, 3, []) := by decide +kernel
theorem r175_248 : j_at 175 248 = some (248, .goto (-203), 3, []) := by decide +kernel
theorem r175_251 : j_at 175 251 = some (251, .return_, 1, []) := by decide +kernel
theorem b175_0 {b : Nat} {x0 : Value} {x1 : Int32} {u2 : Value} {u3 : Value} {u4 : Value} {H : j_H} {Q : Option Value → j_H → Prop}  : j_wp b 175 0 [x0, .int x1, u2, u3, u4] [] H Q = j_wp b 175 2 [x0, .int x1, .int (Int32.ofInt 0), u3, u4] [] H Q := Eq.trans (s_iconst r175_0) (s_istore_n r175_1 (Nat.le_of_ble_eq_true rfl) rfl)
theorem b175_2 {b : Nat} {x0 : Value} {x1 : Int32} {x2 : Int32} {u3 : Value} {u4 : Value} {H : j_H} {Q : Option Value → j_H → Prop}  : j_wp b 175 2 [x0, .int x1, .int x2, u3, u4] [] H Q = (if 7 ≤ x2.toInt then j_wp b 175 33 [x0, .int x1, .int x2, u3, u4] [] H Q else j_wp b 175 8 [x0, .int x1, .int x2, u3, u4] [] H Q) := Eq.trans (s_iload_n r175_2 rfl) (Eq.trans (s_bipush r175_3) (s_icge r175_5 rfl rfl rfl))
theorem b175_8 {b : Nat} {x0 : Value} {x1 : Int32} {x2 : Int32} {u3 : Value} {u4 : Value} {H : j_H} {Q : Option Value → j_H → Prop} (h0 : j_vc H x0 = 12) : j_wp b 175 8 [x0, .int x1, .int x2, u3, u4] [] H Q = (if ¬ x2.toInt = (j_I H (j_pa x0) 2).toInt then j_wp b 175 25 [x0, .int x1, .int x2, u3, u4] [.int x2, va_rf (j_R H (j_pa x0) 32)] H Q else j_wp b 175 21 [x0, .int x1, .int x2, u3, u4] [.int x2, va_rf (j_R H (j_pa x0) 32)] H Q) := Eq.trans (s_aload_n r175_8 rfl (j_isr_vc h0 rfl)) (Eq.trans (s_getfr r175_9 (j_al1 h0 rfl) rfl) (Eq.trans (s_iload_n r175_12 rfl) (Eq.trans (s_iload_n r175_13 rfl) (Eq.trans (s_aload_n r175_14 rfl (j_isr_vc h0 rfl)) (Eq.trans (s_getfi r175_15 (j_al1 h0 rfl) rfl rfl rfl) (s_icne r175_18 rfl rfl rfl))))))
theorem b175_21 {b : Nat} {x0 : Value} {x1 : Int32} {x2 : Int32} {u3 : Value} {u4 : Value} {y0 : Int32} {y1 : Value} {H : j_H} {Q : Option Value → j_H → Prop}  : j_wp b 175 21 [x0, .int x1, .int x2, u3, u4] [.int y0, y1] H Q = j_wp b 175 26 [x0, .int x1, .int x2, u3, u4] [.long (Int64.ofInt 1), .int y0, y1] H Q := Eq.trans (s_lconst r175_21 rfl) (s_goto r175_22 rfl)
theorem b175_25 {b : Nat} {x0 : Value} {x1 : Int32} {x2 : Int32} {u3 : Value} {u4 : Value} {y0 : Int32} {y1 : Value} {H : j_H} {Q : Option Value → j_H → Prop}  : j_wp b 175 25 [x0, .int x1, .int x2, u3, u4] [.int y0, y1] H Q = j_wp b 175 26 [x0, .int x1, .int x2, u3, u4] [.long (Int64.ofInt 0), .int y0, y1] H Q := s_lconst r175_25 rfl
theorem b175_26 {b : Nat} {x0 : Value} {x1 : Int32} {x2 : Int32} {u3 : Value} {u4 : Value} {y0 : Int64} {y1 : Int32} {y2 : Value} {H : j_H} {Q : Option Value → j_H → Prop} (h0 : j_vt H y2 = 1) (h1 : 0 ≤ y1.toInt) (h2 : y1.toInt < ((j_vl H y2 : Nat) : Int)) : j_wp b 175 26 [x0, .int x1, .int x2, u3, u4] [.long y0, .int y1, y2] H Q = j_wp b 175 27 [x0, .int x1, .int x2, u3, u4] [] (j_sL H (j_pa y2) (j_ix y1) y0) Q := s_last r175_26 h0 (j_ib_of (z := y1.toInt) rfl h1 h2)
theorem b175_27 {b : Nat} {x0 : Value} {x1 : Int32} {x2 : Int32} {u3 : Value} {u4 : Value} {H : j_H} {Q : Option Value → j_H → Prop}  : j_wp b 175 27 [x0, .int x1, .int x2, u3, u4] [] H Q = j_wp b 175 2 [x0, .int x1, .int (x2 + Int32.ofInt 1), u3, u4] [] H Q := Eq.trans (s_iinc r175_27 rfl rfl) (s_goto r175_30 rfl)
theorem b175_33 {b : Nat} {x0 : Value} {x1 : Int32} {x2 : Int32} {u3 : Value} {u4 : Value} {H : j_H} {Q : Option Value → j_H → Prop} (h0 : j_vc H x0 = 12) : j_wp b 175 33 [x0, .int x1, .int x2, u3, u4] [] H Q = j_wp b 175 38 [x0, .int x1, .int x2, u3, u4] [] (j_sL H (j_pa x0) 34 (Int64.ofInt 0)) Q := Eq.trans (s_aload_n r175_33 rfl (j_isr_vc h0 rfl)) (Eq.trans (s_lconst r175_34 rfl) (s_put r175_35 (j_al1 h0 rfl) rfl j_putL))
theorem b175_38 {b : Nat} {x0 : Value} {x1 : Int32} {x2 : Int32} {u3 : Value} {u4 : Value} {H : j_H} {Q : Option Value → j_H → Prop} (h0 : j_vc H x0 = 12) : j_wp b 175 38 [x0, .int x1, .int x2, u3, u4] [] H Q = j_wp b 175 43 [x0, .int x1, .int x2, u3, u4] [] (j_sL H (j_pa x0) 35 (Int64.ofInt 1)) Q := Eq.trans (s_aload_n r175_38 rfl (j_isr_vc h0 rfl)) (Eq.trans (s_lconst r175_39 rfl) (s_put r175_40 (j_al1 h0 rfl) rfl j_putL))
theorem b175_43 {b : Nat} {x0 : Value} {x1 : Int32} {x2 : Int32} {u3 : Value} {u4 : Value} {H : j_H} {Q : Option Value → j_H → Prop}  : j_wp b 175 43 [x0, .int x1, .int x2, u3, u4] [] H Q = j_wp b 175 45 [x0, .int x1, .int (Int32.ofInt 0), u3, u4] [] H Q := Eq.trans (s_iconst r175_43) (s_istore_n r175_44 (Nat.le_of_ble_eq_true rfl) rfl)
theorem b175_45 {b : Nat} {x0 : Value} {x1 : Int32} {x2 : Int32} {u3 : Value} {u4 : Value} {H : j_H} {Q : Option Value → j_H → Prop}  : j_wp b 175 45 [x0, .int x1, .int x2, u3, u4] [] H Q = (if x1.toInt ≤ x2.toInt then j_wp b 175 251 [x0, .int x1, .int x2, u3, u4] [] H Q else j_wp b 175 50 [x0, .int x1, .int x2, u3, u4] [] H Q) := Eq.trans (s_iload_n r175_45 rfl) (Eq.trans (s_iload_n r175_46 rfl) (s_icge r175_47 rfl rfl rfl))
theorem b175_50 {b : Nat} {x0 : Value} {x1 : Int32} {x2 : Int32} {u3 : Value} {u4 : Value} {H : j_H} {Q : Option Value → j_H → Prop}  : j_wp b 175 50 [x0, .int x1, .int x2, u3, u4] [] H Q = j_wp b 175 52 [x0, .int x1, .int x2, .int (Int32.ofInt 0), u4] [] H Q := Eq.trans (s_iconst r175_50) (s_istore_n r175_51 (Nat.le_of_ble_eq_true rfl) rfl)
theorem b175_52 {b : Nat} {x0 : Value} {x1 : Int32} {x2 : Int32} {x3 : Int32} {u4 : Value} {H : j_H} {Q : Option Value → j_H → Prop}  : j_wp b 175 52 [x0, .int x1, .int x2, .int x3, u4] [] H Q = (if 7 ≤ x3.toInt then j_wp b 175 71 [x0, .int x1, .int x2, .int x3, u4] [] H Q else j_wp b 175 58 [x0, .int x1, .int x2, .int x3, u4] [] H Q) := Eq.trans (s_iload_n r175_52 rfl) (Eq.trans (s_bipush r175_53) (s_icge r175_55 rfl rfl rfl))
theorem b175_58 {b : Nat} {x0 : Value} {x1 : Int32} {x2 : Int32} {x3 : Int32} {u4 : Value} {H : j_H} {Q : Option Value → j_H → Prop} (h0 : j_vc H x0 = 12) (h1 : j_vt H (va_rf (j_R H (j_pa x0) 33)) = 1) (h2 : 0 ≤ x3.toInt) (h3 : x3.toInt < ((j_vl H (va_rf (j_R H (j_pa x0) 33)) : Nat) : Int)) : j_wp b 175 58 [x0, .int x1, .int x2, .int x3, u4] [] H Q = j_wp b 175 65 [x0, .int x1, .int x2, .int x3, u4] [] (j_sL H (j_pa (va_rf (j_R H (j_pa x0) 33))) (j_ix x3) (Int64.ofInt 0)) Q := Eq.trans (s_aload_n r175_58 rfl (j_isr_vc h0 rfl)) (Eq.trans (s_getfr r175_59 (j_al1 h0 rfl) rfl) (Eq.trans (s_iload_n r175_62 rfl) (Eq.trans (s_lconst r175_63 rfl) (s_last r175_64 h1 (j_ib_of (z := x3.toInt) rfl h2 h3)))))
theorem b175_65 {b : Nat} {x0 : Value} {x1 : Int32} {x2 : Int32} {x3 : Int32} {u4 : Value} {H : j_H} {Q : Option Value → j_H → Prop}  : j_wp b 175 65 [x0, .int x1, .int x2, .int x3, u4] [] H Q = j_wp b 175 52 [x0, .int x1, .int x2, .int (x3 + Int32.ofInt 1), u4] [] H Q := Eq.trans (s_iinc r175_65 rfl rfl) (s_goto r175_68 rfl)
theorem b175_71 {b : Nat} {x0 : Value} {x1 : Int32} {x2 : Int32} {x3 : Int32} {u4 : Value} {H : j_H} {Q : Option Value → j_H → Prop}  : j_wp b 175 71 [x0, .int x1, .int x2, .int x3, u4] [] H Q = j_wp b 175 73 [x0, .int x1, .int x2, .int (Int32.ofInt 0), u4] [] H Q := Eq.trans (s_iconst r175_71) (s_istore_n r175_72 (Nat.le_of_ble_eq_true rfl) rfl)
theorem b175_73 {b : Nat} {x0 : Value} {x1 : Int32} {x2 : Int32} {x3 : Int32} {u4 : Value} {H : j_H} {Q : Option Value → j_H → Prop} (h0 : j_vc H x0 = 12) : j_wp b 175 73 [x0, .int x1, .int x2, .int x3, u4] [] H Q = (if (j_I H (j_pa x0) 0).toInt ≤ x3.toInt then j_wp b 175 115 [x0, .int x1, .int x2, .int x3, u4] [] H Q else j_wp b 175 81 [x0, .int x1, .int x2, .int x3, u4] [] H Q) := Eq.trans (s_iload_n r175_73 rfl) (Eq.trans (s_aload_n r175_74 rfl (j_isr_vc h0 rfl)) (Eq.trans (s_getfi r175_75 (j_al1 h0 rfl) rfl rfl rfl) (s_icge r175_78 rfl rfl rfl)))
theorem b175_81 {b : Nat} {x0 : Value} {x1 : Int32} {x2 : Int32} {x3 : Int32} {u4 : Value} {H : j_H} {Q : Option Value → j_H → Prop} (h0 : j_vc H x0 = 12) : j_wp (b + 1) 175 81 [x0, .int x1, .int x2, .int x3, u4] [] H Q = j_wp b 152 0 [x0, .int x3, .int ((j_I H (j_pa x0) 3) + x2)] [] H (j_k (b + 1) 175 97 [x0, .int x1, .int x2, .int x3, u4] [.long (j_L H (j_pa x0) 34), x0] Q) := Eq.trans (s_aload_n r175_81 rfl (j_isr_vc h0 rfl)) (Eq.trans (s_dup r175_82 (j_vc_lt h0 rfl)) (Eq.trans (s_getfl r175_83 (j_al1 h0 rfl) rfl) (Eq.trans (s_aload_n r175_86 rfl (j_isr_vc h0 rfl)) (Eq.trans (s_iload_n r175_87 rfl) (Eq.trans (s_aload_n r175_88 rfl (j_isr_vc h0 rfl)) (Eq.trans (s_getfi r175_89 (j_al1 h0 rfl) rfl rfl rfl) (Eq.trans (s_iload_n r175_92 rfl) (Eq.trans (s_iadd r175_93) (j_cll (as := [x0, .int x3, .int ((j_I H (j_pa x0) 3) + x2)]) (es := [x0, .int x3, .int ((j_I H (j_pa x0) 3) + x2)]) (s_c2 r175_94 rfl h0 rfl rfl (j_dok (s := [.int ((j_I H (j_pa x0) 3) + x2), .int x3, x0, .long (j_L H (j_pa x0) 34), x0]) (as := [x0, .int x3, .int ((j_I H (j_pa x0) 3) + x2)]) (rest := [.long (j_L H (j_pa x0) 34), x0]) (es := [x0, .int x3, .int ((j_I H (j_pa x0) 3) + x2)]) rfl rfl rfl rfl (j_slc (j_c1r (j_isr_vc h0 rfl)) rfl) rfl)) (j_slc (j_c1r (j_isr_vc h0 rfl)) rfl) rfl)))))))))
theorem b175_97 {b : Nat} {x0 : Value} {x1 : Int32} {x2 : Int32} {x3 : Int32} {u4 : Value} {y0 : Int32} {y1 : Int64} {y2 : Value} {H : j_H} {Q : Option Value → j_H → Prop} (h0 : j_vc H x0 = 12) (h1 : j_vt H (va_rf (j_R H (j_pa x0) 32)) = 1) (h2 : 0 ≤ x3.toInt) (h3 : x3.toInt < ((j_vl H (va_rf (j_R H (j_pa x0) 32)) : Nat) : Int)) (h4 : j_vc H y2 = 12) : j_wp b 175 97 [x0, .int x1, .int x2, .int x3, u4] [.int y0, .long y1, y2] H Q = j_wp b 175 109 [x0, .int x1, .int x2, .int x3, u4] [] (j_sL H (j_pa y2) 34 (y1 + (y0.toInt64 * (j_L H (j_pa (va_rf (j_R H (j_pa x0) 32))) (j_ix x3))))) Q := Eq.trans (s_i2l r175_97) (Eq.trans (s_aload_n r175_98 rfl (j_isr_vc h0 rfl)) (Eq.trans (s_getfr r175_99 (j_al1 h0 rfl) rfl) (Eq.trans (s_iload_n r175_102 rfl) (Eq.trans (s_lald r175_103 h1 (j_ib_of (z := x3.toInt) rfl h2 h3)) (Eq.trans (s_lmul r175_104) (Eq.trans (s_ladd r175_105) (s_put r175_106 (j_al1 h4 rfl) rfl j_putL)))))))
theorem b175_109 {b : Nat} {x0 : Value} {x1 : Int32} {x2 : Int32} {x3 : Int32} {u4 : Value} {H : j_H} {Q : Option Value → j_H → Prop}  : j_wp b 175 109 [x0, .int x1, .int x2, .int x3, u4] [] H Q = j_wp b 175 73 [x0, .int x1, .int x2, .int (x3 + Int32.ofInt 1), u4] [] H Q := Eq.trans (s_iinc r175_109 rfl rfl) (s_goto r175_112 rfl)
theorem b175_115 {b : Nat} {x0 : Value} {x1 : Int32} {x2 : Int32} {x3 : Int32} {u4 : Value} {H : j_H} {Q : Option Value → j_H → Prop}  : j_wp b 175 115 [x0, .int x1, .int x2, .int x3, u4] [] H Q = j_wp b 175 117 [x0, .int x1, .int x2, .int (Int32.ofInt 0), u4] [] H Q := Eq.trans (s_iconst r175_115) (s_istore_n r175_116 (Nat.le_of_ble_eq_true rfl) rfl)
theorem b175_117 {b : Nat} {x0 : Value} {x1 : Int32} {x2 : Int32} {x3 : Int32} {u4 : Value} {H : j_H} {Q : Option Value → j_H → Prop} (h0 : j_vc H x0 = 12) : j_wp b 175 117 [x0, .int x1, .int x2, .int x3, u4] [] H Q = (if (j_I H (j_pa x0) 0).toInt ≤ x3.toInt then j_wp b 175 195 [x0, .int x1, .int x2, .int x3, u4] [] H Q else j_wp b 175 125 [x0, .int x1, .int x2, .int x3, u4] [] H Q) := Eq.trans (s_iload_n r175_117 rfl) (Eq.trans (s_aload_n r175_118 rfl (j_isr_vc h0 rfl)) (Eq.trans (s_getfi r175_119 (j_al1 h0 rfl) rfl rfl rfl) (s_icge r175_122 rfl rfl rfl)))
theorem b175_125 {b : Nat} {x0 : Value} {x1 : Int32} {x2 : Int32} {x3 : Int32} {u4 : Value} {H : j_H} {Q : Option Value → j_H → Prop} (h0 : j_vc H x0 = 12) : j_wp (b + 1) 175 125 [x0, .int x1, .int x2, .int x3, u4] [] H Q = j_wp b 151 0 [x0, .int x3, .int ((j_I H (j_pa x0) 3) + x2), j_u] [] H (j_k (b + 1) 175 136 [x0, .int x1, .int x2, .int x3, u4] [] Q) := Eq.trans (s_aload_n r175_125 rfl (j_isr_vc h0 rfl)) (Eq.trans (s_iload_n r175_126 rfl) (Eq.trans (s_aload_n r175_127 rfl (j_isr_vc h0 rfl)) (Eq.trans (s_getfi r175_128 (j_al1 h0 rfl) rfl rfl rfl) (Eq.trans (s_iload_n r175_131 rfl) (Eq.trans (s_iadd r175_132) (j_cll (as := [x0, .int x3, .int ((j_I H (j_pa x0) 3) + x2)]) (es := [x0, .int x3, .int ((j_I H (j_pa x0) 3) + x2)]) (s_c2 r175_133 rfl h0 rfl rfl (j_dok (s := [.int ((j_I H (j_pa x0) 3) + x2), .int x3, x0]) (as := [x0, .int x3, .int ((j_I H (j_pa x0) 3) + x2)]) (rest := []) (es := [x0, .int x3, .int ((j_I H (j_pa x0) 3) + x2)]) rfl rfl rfl rfl (j_slc (j_c1r (j_isr_vc h0 rfl)) rfl) rfl)) (j_slc (j_c1r (j_isr_vc h0 rfl)) rfl) rfl))))))
theorem b175_136 {b : Nat} {x0 : Value} {x1 : Int32} {x2 : Int32} {x3 : Int32} {u4 : Value} {y0 : Int32} {H : j_H} {Q : Option Value → j_H → Prop} (h0 : j_vc H x0 = 12) : j_wp (b + 1) 175 136 [x0, .int x1, .int x2, .int x3, u4] [.int y0] H Q = j_wp b 156 0 [x0, .int x3, .int (Int32.ofInt 0), j_u] [] H (j_k (b + 1) 175 148 [x0, .int x1, .int x2, .int x3, .int y0] [va_rf (j_R H (j_pa x0) 33)] Q) := Eq.trans (s_istore r175_136 (Nat.le_of_ble_eq_true rfl) rfl) (Eq.trans (s_aload_n r175_138 rfl (j_isr_vc h0 rfl)) (Eq.trans (s_getfr r175_139 (j_al1 h0 rfl) rfl) (Eq.trans (s_aload_n r175_142 rfl (j_isr_vc h0 rfl)) (Eq.trans (s_iload_n r175_143 rfl) (Eq.trans (s_iconst r175_144) (j_cll (as := [x0, .int x3, .int (Int32.ofInt 0)]) (es := [x0, .int x3, .int (Int32.ofInt 0)]) (s_c2 r175_145 rfl h0 rfl rfl (j_dok (s := [.int (Int32.ofInt 0), .int x3, x0, va_rf (j_R H (j_pa x0) 33)]) (as := [x0, .int x3, .int (Int32.ofInt 0)]) (rest := [va_rf (j_R H (j_pa x0) 33)]) (es := [x0, .int x3, .int (Int32.ofInt 0)]) rfl rfl rfl rfl (j_slc (j_c1r (j_isr_vc h0 rfl)) rfl) rfl)) (j_slc (j_c1r (j_isr_vc h0 rfl)) rfl) rfl))))))
theorem b175_148 {b : Nat} {x0 : Value} {x1 : Int32} {x2 : Int32} {x3 : Int32} {x4 : Int32} {y0 : Int32} {y1 : Value} {H : j_H} {Q : Option Value → j_H → Prop} (h0 : j_vt H y1 = 1) (h1 : 0 ≤ y0.toInt) (h2 : y0.toInt < ((j_vl H y1 : Nat) : Int)) (h3 : j_vc H x0 = 12) (h4 : j_vt H (va_rf (j_R H (j_pa x0) 32)) = 1) (h5 : 0 ≤ x3.toInt) (h6 : x3.toInt < ((j_vl H (va_rf (j_R H (j_pa x0) 32)) : Nat) : Int)) : j_wp b 175 148 [x0, .int x1, .int x2, .int x3, .int x4] [.int y0, y1] H Q = j_wp b 175 162 [x0, .int x1, .int x2, .int x3, .int x4] [] (j_sL H (j_pa y1) (j_ix y0) ((j_L H (j_pa y1) (j_ix y0)) + (x4.toInt64 * (j_L H (j_pa (va_rf (j_R H (j_pa x0) 32))) (j_ix x3))))) Q := Eq.trans (s_dup2 r175_148 (j_vt_lt h0 rfl)) (Eq.trans (s_lald r175_149 h0 (j_ib_of (z := y0.toInt) rfl h1 h2)) (Eq.trans (s_iload r175_150 rfl) (Eq.trans (s_i2l r175_152) (Eq.trans (s_aload_n r175_153 rfl (j_isr_vc h3 rfl)) (Eq.trans (s_getfr r175_154 (j_al1 h3 rfl) rfl) (Eq.trans (s_iload_n r175_157 rfl) (Eq.trans (s_lald r175_158 h4 (j_ib_of (z := x3.toInt) rfl h5 h6)) (Eq.trans (s_lmul r175_159) (Eq.trans (s_ladd r175_160) (s_last r175_161 h0 (j_ib_of (z := y0.toInt) rfl h1 h2)))))))))))
theorem b175_162 {b : Nat} {x0 : Value} {x1 : Int32} {x2 : Int32} {x3 : Int32} {x4 : Int32} {H : j_H} {Q : Option Value → j_H → Prop} (h0 : j_vc H x0 = 12) : j_wp (b + 1) 175 162 [x0, .int x1, .int x2, .int x3, .int x4] [] H Q = j_wp b 156 0 [x0, .int x3, .int (Int32.ofInt 1), j_u] [] H (j_k (b + 1) 175 172 [x0, .int x1, .int x2, .int x3, .int x4] [va_rf (j_R H (j_pa x0) 33)] Q) := Eq.trans (s_aload_n r175_162 rfl (j_isr_vc h0 rfl)) (Eq.trans (s_getfr r175_163 (j_al1 h0 rfl) rfl) (Eq.trans (s_aload_n r175_166 rfl (j_isr_vc h0 rfl)) (Eq.trans (s_iload_n r175_167 rfl) (Eq.trans (s_iconst r175_168) (j_cll (as := [x0, .int x3, .int (Int32.ofInt 1)]) (es := [x0, .int x3, .int (Int32.ofInt 1)]) (s_c2 r175_169 rfl h0 rfl rfl (j_dok (s := [.int (Int32.ofInt 1), .int x3, x0, va_rf (j_R H (j_pa x0) 33)]) (as := [x0, .int x3, .int (Int32.ofInt 1)]) (rest := [va_rf (j_R H (j_pa x0) 33)]) (es := [x0, .int x3, .int (Int32.ofInt 1)]) rfl rfl rfl rfl (j_slc (j_c1r (j_isr_vc h0 rfl)) rfl) rfl)) (j_slc (j_c1r (j_isr_vc h0 rfl)) rfl) rfl)))))
theorem b175_172 {b : Nat} {x0 : Value} {x1 : Int32} {x2 : Int32} {x3 : Int32} {x4 : Int32} {y0 : Int32} {y1 : Value} {H : j_H} {Q : Option Value → j_H → Prop} (h0 : j_vt H y1 = 1) (h1 : 0 ≤ y0.toInt) (h2 : y0.toInt < ((j_vl H y1 : Nat) : Int)) (h3 : j_vc H x0 = 12) (h4 : j_vt H (va_rf (j_R H (j_pa x0) 32)) = 1) (h5 : 0 ≤ x3.toInt) (h6 : x3.toInt < ((j_vl H (va_rf (j_R H (j_pa x0) 32)) : Nat) : Int)) : j_wp b 175 172 [x0, .int x1, .int x2, .int x3, .int x4] [.int y0, y1] H Q = j_wp b 175 189 [x0, .int x1, .int x2, .int x3, .int x4] [] (j_sL H (j_pa y1) (j_ix y0) ((j_L H (j_pa y1) (j_ix y0)) + ((((Int32.ofInt 10) - x4).toInt64) * (j_L H (j_pa (va_rf (j_R H (j_pa x0) 32))) (j_ix x3))))) Q := Eq.trans (s_dup2 r175_172 (j_vt_lt h0 rfl)) (Eq.trans (s_lald r175_173 h0 (j_ib_of (z := y0.toInt) rfl h1 h2)) (Eq.trans (s_bipush r175_174) (Eq.trans (s_iload r175_176 rfl) (Eq.trans (s_isub r175_178) (Eq.trans (s_i2l r175_179) (Eq.trans (s_aload_n r175_180 rfl (j_isr_vc h3 rfl)) (Eq.trans (s_getfr r175_181 (j_al1 h3 rfl) rfl) (Eq.trans (s_iload_n r175_184 rfl) (Eq.trans (s_lald r175_185 h4 (j_ib_of (z := x3.toInt) rfl h5 h6)) (Eq.trans (s_lmul r175_186) (Eq.trans (s_ladd r175_187) (s_last r175_188 h0 (j_ib_of (z := y0.toInt) rfl h1 h2)))))))))))))
theorem b175_189 {b : Nat} {x0 : Value} {x1 : Int32} {x2 : Int32} {x3 : Int32} {x4 : Int32} {H : j_H} {Q : Option Value → j_H → Prop}  : j_wp b 175 189 [x0, .int x1, .int x2, .int x3, .int x4] [] H Q = j_wp b 175 117 [x0, .int x1, .int x2, .int (x3 + Int32.ofInt 1), .int x4] [] H Q := Eq.trans (s_iinc r175_189 rfl rfl) (s_goto r175_192 rfl)
theorem b175_195 {b : Nat} {x0 : Value} {x1 : Int32} {x2 : Int32} {x3 : Int32} {u4 : Value} {H : j_H} {Q : Option Value → j_H → Prop}  : j_wp b 175 195 [x0, .int x1, .int x2, .int x3, u4] [] H Q = j_wp b 175 197 [x0, .int x1, .int x2, .int (Int32.ofInt 0), u4] [] H Q := Eq.trans (s_iconst r175_195) (s_istore_n r175_196 (Nat.le_of_ble_eq_true rfl) rfl)
theorem b175_197 {b : Nat} {x0 : Value} {x1 : Int32} {x2 : Int32} {x3 : Int32} {u4 : Value} {H : j_H} {Q : Option Value → j_H → Prop}  : j_wp b 175 197 [x0, .int x1, .int x2, .int x3, u4] [] H Q = (if 7 ≤ x3.toInt then j_wp b 175 221 [x0, .int x1, .int x2, .int x3, u4] [] H Q else j_wp b 175 203 [x0, .int x1, .int x2, .int x3, u4] [] H Q) := Eq.trans (s_iload_n r175_197 rfl) (Eq.trans (s_bipush r175_198) (s_icge r175_200 rfl rfl rfl))
theorem b175_203 {b : Nat} {x0 : Value} {x1 : Int32} {x2 : Int32} {x3 : Int32} {u4 : Value} {H : j_H} {Q : Option Value → j_H → Prop} (h0 : j_vc H x0 = 12) (h1 : j_vt H (va_rf (j_R H (j_pa x0) 33)) = 1) (h2 : 0 ≤ x3.toInt) (h3 : x3.toInt < ((j_vl H (va_rf (j_R H (j_pa x0) 33)) : Nat) : Int)) (h4 : j_vt H (va_rf (j_R H (j_pa x0) 32)) = 1) (h5 : x3.toInt < ((j_vl H (va_rf (j_R H (j_pa x0) 32)) : Nat) : Int)) : j_wp b 175 203 [x0, .int x1, .int x2, .int x3, u4] [] H Q = j_wp b 175 215 [x0, .int x1, .int x2, .int x3, u4] [] (j_sL H (j_pa (va_rf (j_R H (j_pa x0) 32))) (j_ix x3) (j_L H (j_pa (va_rf (j_R H (j_pa x0) 33))) (j_ix x3))) Q := Eq.trans (s_aload_n r175_203 rfl (j_isr_vc h0 rfl)) (Eq.trans (s_getfr r175_204 (j_al1 h0 rfl) rfl) (Eq.trans (s_iload_n r175_207 rfl) (Eq.trans (s_aload_n r175_208 rfl (j_isr_vc h0 rfl)) (Eq.trans (s_getfr r175_209 (j_al1 h0 rfl) rfl) (Eq.trans (s_iload_n r175_212 rfl) (Eq.trans (s_lald r175_213 h1 (j_ib_of (z := x3.toInt) rfl h2 h3)) (s_last r175_214 h4 (j_ib_of (z := x3.toInt) rfl h2 h5))))))))
theorem b175_215 {b : Nat} {x0 : Value} {x1 : Int32} {x2 : Int32} {x3 : Int32} {u4 : Value} {H : j_H} {Q : Option Value → j_H → Prop}  : j_wp b 175 215 [x0, .int x1, .int x2, .int x3, u4] [] H Q = j_wp b 175 197 [x0, .int x1, .int x2, .int (x3 + Int32.ofInt 1), u4] [] H Q := Eq.trans (s_iinc r175_215 rfl rfl) (s_goto r175_218 rfl)
theorem b175_221 {b : Nat} {x0 : Value} {x1 : Int32} {x2 : Int32} {x3 : Int32} {u4 : Value} {H : j_H} {Q : Option Value → j_H → Prop} (h0 : j_vc H x0 = 12) : j_wp b 175 221 [x0, .int x1, .int x2, .int x3, u4] [] H Q = j_wp b 175 233 [x0, .int x1, .int x2, .int x3, u4] [] (j_sL H (j_pa x0) 34 ((j_L H (j_pa x0) 34) * (Int64.ofInt 10))) Q := Eq.trans (s_aload_n r175_221 rfl (j_isr_vc h0 rfl)) (Eq.trans (s_dup r175_222 (j_vc_lt h0 rfl)) (Eq.trans (s_getfl r175_223 (j_al1 h0 rfl) rfl) (Eq.trans (s_ldc2 r175_226 rfl) (Eq.trans (s_lmul r175_229) (s_put r175_230 (j_al1 h0 rfl) rfl j_putL)))))
theorem b175_233 {b : Nat} {x0 : Value} {x1 : Int32} {x2 : Int32} {x3 : Int32} {u4 : Value} {H : j_H} {Q : Option Value → j_H → Prop} (h0 : j_vc H x0 = 12) : j_wp b 175 233 [x0, .int x1, .int x2, .int x3, u4] [] H Q = j_wp b 175 245 [x0, .int x1, .int x2, .int x3, u4] [] (j_sL H (j_pa x0) 35 ((j_L H (j_pa x0) 35) * (Int64.ofInt 10))) Q := Eq.trans (s_aload_n r175_233 rfl (j_isr_vc h0 rfl)) (Eq.trans (s_dup r175_234 (j_vc_lt h0 rfl)) (Eq.trans (s_getfl r175_235 (j_al1 h0 rfl) rfl) (Eq.trans (s_ldc2 r175_238 rfl) (Eq.trans (s_lmul r175_241) (s_put r175_242 (j_al1 h0 rfl) rfl j_putL)))))
theorem b175_245 {b : Nat} {x0 : Value} {x1 : Int32} {x2 : Int32} {x3 : Int32} {u4 : Value} {H : j_H} {Q : Option Value → j_H → Prop}  : j_wp b 175 245 [x0, .int x1, .int x2, .int x3, u4] [] H Q = j_wp b 175 45 [x0, .int x1, .int (x2 + Int32.ofInt 1), .int x3, u4] [] H Q := Eq.trans (s_iinc r175_245 rfl rfl) (s_goto r175_248 rfl)
theorem b175_251 {b : Nat} {x0 : Value} {x1 : Int32} {x2 : Int32} {u3 : Value} {u4 : Value} {H : j_H} {Q : Option Value → j_H → Prop}  : j_wp b 175 251 [x0, .int x1, .int x2, u3, u4] [] H Q = Q none H := s_return r175_251 rfl
-- X12_odds
theorem r176_0 : j_at 176 0 = some (0, .aload_n 0, 1, []) := by decide +kernel
theorem r176_1 : j_at 176 1 = some (1, .iload_n 1, 1, []) := by decide +kernel
theorem r176_2 : j_at 176 2 = some (2, .invokevirtual 193, 3, [2, 2, 124, 833, 834, 27, 77, 0, 12]) := by decide +kernel
theorem r176_5 : j_at 176 5 = some (5, .ifCond .eq 24, 3, []) := by decide +kernel
theorem r176_8 : j_at 176 8 = some (8, .aload_n 0, 1, []) := by decide +kernel
theorem r176_9 : j_at 176 9 = some (9, .iload_n 2, 1, []) := by decide +kernel
theorem r176_10 : j_at 176 10 = some (10, .iconst 0, 1, []) := by decide +kernel
theorem r176_11 : j_at 176 11 = some (11, .bipush 12, 2, []) := by decide +kernel
theorem r176_13 : j_at 176 13 = some (13, .invokevirtual 189, 3, [2, 4, 121, 825, 826, 26, 77, 0, 12]) := by decide +kernel
theorem r176_16 : j_at 176 16 = some (16, .ifCond .eq 13, 3, []) := by decide +kernel
theorem r176_19 : j_at 176 19 = some (19, .aload_n 0, 1, []) := by decide +kernel
theorem r176_20 : j_at 176 20 = some (20, .iload_n 3, 1, []) := by decide +kernel
theorem r176_21 : j_at 176 21 = some (21, .iconst 0, 1, []) := by decide +kernel
theorem r176_22 : j_at 176 22 = some (22, .iconst 1, 1, []) := by decide +kernel
theorem r176_23 : j_at 176 23 = some (23, .invokevirtual 189, 3, [2, 4, 121, 825, 826, 26, 77, 0, 12]) := by decide +kernel
theorem r176_26 : j_at 176 26 = some (26, .ifCond .ne 7, 3, []) := by decide +kernel
theorem r176_29 : j_at 176 29 = some (29, .ldc2_w 306, 3, [951, 1, 9223372036854775808]) := by decide +kernel
theorem r176_32 : j_at 176 32 = some (32, .lreturn, 1, []) := by decide +kernel
theorem r176_33 : j_at 176 33 = some (33, .aload_n 0, 1, []) := by decide +kernel
theorem r176_34 : j_at 176 34 = some (34, .iload_n 2, 1, []) := by decide +kernel
theorem r176_35 : j_at 176 35 = some (35, .invokevirtual 308, 3, [2, 2, 175, 952, 953, 59, 77, 0, 12]) := by decide +kernel
theorem r176_38 : j_at 176 38 = some (38, .aload_n 0, 1, []) := by decide +kernel
theorem r176_39 : j_at 176 39 = some (39, .aload_n 0, 1, []) := by decide +kernel
theorem r176_40 : j_at 176 40 = some (40, .getfield 108, 3, [736, 12, 2, 32, 0, 12]) := by decide +kernel
theorem r176_43 : j_at 176 43 = some (43, .iload_n 1, 1, []) := by decide +kernel
theorem r176_44 : j_at 176 44 = some (44, .laload, 1, []) := by decide +kernel
theorem r176_45 : j_at 176 45 = some (45, .aload_n 0, 1, []) := by decide +kernel
theorem r176_46 : j_at 176 46 = some (46, .getfield 119, 3, [739, 12, 1, 35, 0, 12]) := by decide +kernel
theorem r176_49 : j_at 176 49 = some (49, .iload_n 3, 1, []) := by decide +kernel
theorem r176_50 : j_at 176 50 = some (50, .invokevirtual 311, 3, [2, 4, 174, 955, 956, 60, 77, 0, 12]) := by decide +kernel
theorem r176_53 : j_at 176 53 = some (53, .lreturn, 1, []) := by decide +kernel
theorem b176_0 {b : Nat} {x0 : Value} {x1 : Int32} {x2 : Int32} {x3 : Int32} {H : j_H} {Q : Option Value → j_H → Prop} (h0 : j_vc H x0 = 12) : j_wp (b + 1) 176 0 [x0, .int x1, .int x2, .int x3] [] H Q = j_wp b 124 0 [x0, .int x1] [] H (j_k (b + 1) 176 5 [x0, .int x1, .int x2, .int x3] [] Q) := Eq.trans (s_aload_n r176_0 rfl (j_isr_vc h0 rfl)) (Eq.trans (s_iload_n r176_1 rfl) (j_cll (as := [x0, .int x1]) (es := [x0, .int x1]) (s_c2 r176_2 rfl h0 rfl rfl (j_dok (s := [.int x1, x0]) (as := [x0, .int x1]) (rest := []) (es := [x0, .int x1]) rfl rfl rfl rfl (j_slc (j_c1r (j_isr_vc h0 rfl)) rfl) rfl)) (j_slc (j_c1r (j_isr_vc h0 rfl)) rfl) rfl))
theorem b176_5 {b : Nat} {x0 : Value} {x1 : Int32} {x2 : Int32} {x3 : Int32} {y0 : Int32} {H : j_H} {Q : Option Value → j_H → Prop}  : j_wp b 176 5 [x0, .int x1, .int x2, .int x3] [.int y0] H Q = (if y0.toInt = 0 then j_wp b 176 29 [x0, .int x1, .int x2, .int x3] [] H Q else j_wp b 176 8 [x0, .int x1, .int x2, .int x3] [] H Q) := s_ifeq r176_5 rfl rfl
theorem b176_8 {b : Nat} {x0 : Value} {x1 : Int32} {x2 : Int32} {x3 : Int32} {H : j_H} {Q : Option Value → j_H → Prop} (h0 : j_vc H x0 = 12) : j_wp (b + 1) 176 8 [x0, .int x1, .int x2, .int x3] [] H Q = j_wp b 121 0 [x0, .int x2, .int (Int32.ofInt 0), .int (Int32.ofInt 12)] [] H (j_k (b + 1) 176 16 [x0, .int x1, .int x2, .int x3] [] Q) := Eq.trans (s_aload_n r176_8 rfl (j_isr_vc h0 rfl)) (Eq.trans (s_iload_n r176_9 rfl) (Eq.trans (s_iconst r176_10) (Eq.trans (s_bipush r176_11) (j_cll (as := [x0, .int x2, .int (Int32.ofInt 0), .int (Int32.ofInt 12)]) (es := [x0, .int x2, .int (Int32.ofInt 0), .int (Int32.ofInt 12)]) (s_c2 r176_13 rfl h0 rfl rfl (j_dok (s := [.int (Int32.ofInt 12), .int (Int32.ofInt 0), .int x2, x0]) (as := [x0, .int x2, .int (Int32.ofInt 0), .int (Int32.ofInt 12)]) (rest := []) (es := [x0, .int x2, .int (Int32.ofInt 0), .int (Int32.ofInt 12)]) rfl rfl rfl rfl (j_slc (j_c1r (j_isr_vc h0 rfl)) rfl) rfl)) (j_slc (j_c1r (j_isr_vc h0 rfl)) rfl) rfl))))
theorem b176_16 {b : Nat} {x0 : Value} {x1 : Int32} {x2 : Int32} {x3 : Int32} {y0 : Int32} {H : j_H} {Q : Option Value → j_H → Prop}  : j_wp b 176 16 [x0, .int x1, .int x2, .int x3] [.int y0] H Q = (if y0.toInt = 0 then j_wp b 176 29 [x0, .int x1, .int x2, .int x3] [] H Q else j_wp b 176 19 [x0, .int x1, .int x2, .int x3] [] H Q) := s_ifeq r176_16 rfl rfl
theorem b176_19 {b : Nat} {x0 : Value} {x1 : Int32} {x2 : Int32} {x3 : Int32} {H : j_H} {Q : Option Value → j_H → Prop} (h0 : j_vc H x0 = 12) : j_wp (b + 1) 176 19 [x0, .int x1, .int x2, .int x3] [] H Q = j_wp b 121 0 [x0, .int x3, .int (Int32.ofInt 0), .int (Int32.ofInt 1)] [] H (j_k (b + 1) 176 26 [x0, .int x1, .int x2, .int x3] [] Q) := Eq.trans (s_aload_n r176_19 rfl (j_isr_vc h0 rfl)) (Eq.trans (s_iload_n r176_20 rfl) (Eq.trans (s_iconst r176_21) (Eq.trans (s_iconst r176_22) (j_cll (as := [x0, .int x3, .int (Int32.ofInt 0), .int (Int32.ofInt 1)]) (es := [x0, .int x3, .int (Int32.ofInt 0), .int (Int32.ofInt 1)]) (s_c2 r176_23 rfl h0 rfl rfl (j_dok (s := [.int (Int32.ofInt 1), .int (Int32.ofInt 0), .int x3, x0]) (as := [x0, .int x3, .int (Int32.ofInt 0), .int (Int32.ofInt 1)]) (rest := []) (es := [x0, .int x3, .int (Int32.ofInt 0), .int (Int32.ofInt 1)]) rfl rfl rfl rfl (j_slc (j_c1r (j_isr_vc h0 rfl)) rfl) rfl)) (j_slc (j_c1r (j_isr_vc h0 rfl)) rfl) rfl))))
theorem b176_26 {b : Nat} {x0 : Value} {x1 : Int32} {x2 : Int32} {x3 : Int32} {y0 : Int32} {H : j_H} {Q : Option Value → j_H → Prop}  : j_wp b 176 26 [x0, .int x1, .int x2, .int x3] [.int y0] H Q = (if ¬ y0.toInt = 0 then j_wp b 176 33 [x0, .int x1, .int x2, .int x3] [] H Q else j_wp b 176 29 [x0, .int x1, .int x2, .int x3] [] H Q) := s_ifne r176_26 rfl rfl
theorem b176_29 {b : Nat} {x0 : Value} {x1 : Int32} {x2 : Int32} {x3 : Int32} {H : j_H} {Q : Option Value → j_H → Prop}  : j_wp b 176 29 [x0, .int x1, .int x2, .int x3] [] H Q = Q (some (.long (Int64.ofInt (-9223372036854775808)))) H := Eq.trans (s_ldc2 r176_29 rfl) (s_lreturn r176_32 rfl)
theorem b176_33 {b : Nat} {x0 : Value} {x1 : Int32} {x2 : Int32} {x3 : Int32} {H : j_H} {Q : Option Value → j_H → Prop} (h0 : j_vc H x0 = 12) : j_wp (b + 1) 176 33 [x0, .int x1, .int x2, .int x3] [] H Q = j_wp b 175 0 [x0, .int x2, j_u, j_u, j_u] [] H (j_k (b + 1) 176 38 [x0, .int x1, .int x2, .int x3] [] Q) := Eq.trans (s_aload_n r176_33 rfl (j_isr_vc h0 rfl)) (Eq.trans (s_iload_n r176_34 rfl) (j_cll (as := [x0, .int x2]) (es := [x0, .int x2]) (s_c2 r176_35 rfl h0 rfl rfl (j_dok (s := [.int x2, x0]) (as := [x0, .int x2]) (rest := []) (es := [x0, .int x2]) rfl rfl rfl rfl (j_slc (j_c1r (j_isr_vc h0 rfl)) rfl) rfl)) (j_slc (j_c1r (j_isr_vc h0 rfl)) rfl) rfl))
theorem b176_38 {b : Nat} {x0 : Value} {x1 : Int32} {x2 : Int32} {x3 : Int32} {H : j_H} {Q : Option Value → j_H → Prop} (h0 : j_vc H x0 = 12) (h1 : j_vt H (va_rf (j_R H (j_pa x0) 32)) = 1) (h2 : 0 ≤ x1.toInt) (h3 : x1.toInt < ((j_vl H (va_rf (j_R H (j_pa x0) 32)) : Nat) : Int)) : j_wp (b + 1) 176 38 [x0, .int x1, .int x2, .int x3] [] H Q = j_wp b 174 0 [x0, .long (j_L H (j_pa (va_rf (j_R H (j_pa x0) 32))) (j_ix x1)), j_u, .long (j_L H (j_pa x0) 35), j_u, .int x3, j_u, j_u] [] H (j_k (b + 1) 176 53 [x0, .int x1, .int x2, .int x3] [] Q) := Eq.trans (s_aload_n r176_38 rfl (j_isr_vc h0 rfl)) (Eq.trans (s_aload_n r176_39 rfl (j_isr_vc h0 rfl)) (Eq.trans (s_getfr r176_40 (j_al1 h0 rfl) rfl) (Eq.trans (s_iload_n r176_43 rfl) (Eq.trans (s_lald r176_44 h1 (j_ib_of (z := x1.toInt) rfl h2 h3)) (Eq.trans (s_aload_n r176_45 rfl (j_isr_vc h0 rfl)) (Eq.trans (s_getfl r176_46 (j_al1 h0 rfl) rfl) (Eq.trans (s_iload_n r176_49 rfl) (j_cll (as := [x0, .long (j_L H (j_pa (va_rf (j_R H (j_pa x0) 32))) (j_ix x1)), .long (j_L H (j_pa x0) 35), .int x3]) (es := [x0, .long (j_L H (j_pa (va_rf (j_R H (j_pa x0) 32))) (j_ix x1)), j_u, .long (j_L H (j_pa x0) 35), j_u, .int x3]) (s_c2 r176_50 rfl h0 rfl rfl (j_dok (s := [.int x3, .long (j_L H (j_pa x0) 35), .long (j_L H (j_pa (va_rf (j_R H (j_pa x0) 32))) (j_ix x1)), x0]) (as := [x0, .long (j_L H (j_pa (va_rf (j_R H (j_pa x0) 32))) (j_ix x1)), .long (j_L H (j_pa x0) 35), .int x3]) (rest := []) (es := [x0, .long (j_L H (j_pa (va_rf (j_R H (j_pa x0) 32))) (j_ix x1)), j_u, .long (j_L H (j_pa x0) 35), j_u, .int x3]) rfl rfl rfl rfl (j_slc (j_c1r (j_isr_vc h0 rfl)) rfl) rfl)) (j_slc (j_c1r (j_isr_vc h0 rfl)) rfl) rfl))))))))
theorem b176_53 {b : Nat} {x0 : Value} {x1 : Int32} {x2 : Int32} {x3 : Int32} {y0 : Int64} {H : j_H} {Q : Option Value → j_H → Prop}  : j_wp b 176 53 [x0, .int x1, .int x2, .int x3] [.long y0] H Q = Q (some (.long y0)) H := s_lreturn r176_53 rfl
-- X12_mean
theorem r177_0 : j_at 177 0 = some (0, .aload_n 0, 1, []) := by decide +kernel
theorem r177_1 : j_at 177 1 = some (1, .iload_n 1, 1, []) := by decide +kernel
theorem r177_2 : j_at 177 2 = some (2, .iconst 0, 1, []) := by decide +kernel
theorem r177_3 : j_at 177 3 = some (3, .bipush 12, 2, []) := by decide +kernel
theorem r177_5 : j_at 177 5 = some (5, .invokevirtual 189, 3, [2, 4, 121, 825, 826, 26, 77, 0, 12]) := by decide +kernel
theorem r177_8 : j_at 177 8 = some (8, .ifCond .eq 20, 3, []) := by decide +kernel
theorem r177_11 : j_at 177 11 = some (11, .aload_n 0, 1, []) := by decide +kernel
theorem r177_12 : j_at 177 12 = some (12, .iload_n 2, 1, []) := by decide +kernel
theorem r177_13 : j_at 177 13 = some (13, .iconst 0, 1, []) := by decide +kernel
theorem r177_14 : j_at 177 14 = some (14, .iconst 1, 1, []) := by decide +kernel
theorem r177_15 : j_at 177 15 = some (15, .invokevirtual 189, 3, [2, 4, 121, 825, 826, 26, 77, 0, 12]) := by decide +kernel
theorem r177_18 : j_at 177 18 = some (18, .ifCond .eq 10, 3, []) := by decide +kernel
theorem r177_21 : j_at 177 21 = some (21, .aload_n 0, 1, []) := by decide +kernel
theorem r177_22 : j_at 177 22 = some (22, .getfield 7, 3, [704, 12, 0, 0, 0, 12]) := by decide +kernel
theorem r177_25 : j_at 177 25 = some (25, .ifCond .ne 7, 3, []) := by decide +kernel
theorem r177_28 : j_at 177 28 = some (28, .ldc2_w 306, 3, [951, 1, 9223372036854775808]) := by decide +kernel
theorem r177_31 : j_at 177 31 = some (31, .lreturn, 1, []) := by decide +kernel
theorem r177_32 : j_at 177 32 = some (32, .aload_n 0, 1, []) := by decide +kernel
theorem r177_33 : j_at 177 33 = some (33, .iload_n 1, 1, []) := by decide +kernel
theorem r177_34 : j_at 177 34 = some (34, .invokevirtual 308, 3, [2, 2, 175, 952, 953, 59, 77, 0, 12]) := by decide +kernel
theorem r177_37 : j_at 177 37 = some (37, .aload_n 0, 1, []) := by decide +kernel
theorem r177_38 : j_at 177 38 = some (38, .aload_n 0, 1, []) := by decide +kernel
theorem r177_39 : j_at 177 39 = some (39, .getfield 115, 3, [738, 12, 1, 34, 0, 12]) := by decide +kernel
theorem r177_42 : j_at 177 42 = some (42, .aload_n 0, 1, []) := by decide +kernel
theorem r177_43 : j_at 177 43 = some (43, .getfield 119, 3, [739, 12, 1, 35, 0, 12]) := by decide +kernel
theorem r177_46 : j_at 177 46 = some (46, .iload_n 2, 1, []) := by decide +kernel
theorem r177_47 : j_at 177 47 = some (47, .invokevirtual 311, 3, [2, 4, 174, 955, 956, 60, 77, 0, 12]) := by decide +kernel
theorem r177_50 : j_at 177 50 = some (50, .lreturn, 1, []) := by decide +kernel
theorem b177_0 {b : Nat} {x0 : Value} {x1 : Int32} {x2 : Int32} {H : j_H} {Q : Option Value → j_H → Prop} (h0 : j_vc H x0 = 12) : j_wp (b + 1) 177 0 [x0, .int x1, .int x2] [] H Q = j_wp b 121 0 [x0, .int x1, .int (Int32.ofInt 0), .int (Int32.ofInt 12)] [] H (j_k (b + 1) 177 8 [x0, .int x1, .int x2] [] Q) := Eq.trans (s_aload_n r177_0 rfl (j_isr_vc h0 rfl)) (Eq.trans (s_iload_n r177_1 rfl) (Eq.trans (s_iconst r177_2) (Eq.trans (s_bipush r177_3) (j_cll (as := [x0, .int x1, .int (Int32.ofInt 0), .int (Int32.ofInt 12)]) (es := [x0, .int x1, .int (Int32.ofInt 0), .int (Int32.ofInt 12)]) (s_c2 r177_5 rfl h0 rfl rfl (j_dok (s := [.int (Int32.ofInt 12), .int (Int32.ofInt 0), .int x1, x0]) (as := [x0, .int x1, .int (Int32.ofInt 0), .int (Int32.ofInt 12)]) (rest := []) (es := [x0, .int x1, .int (Int32.ofInt 0), .int (Int32.ofInt 12)]) rfl rfl rfl rfl (j_slc (j_c1r (j_isr_vc h0 rfl)) rfl) rfl)) (j_slc (j_c1r (j_isr_vc h0 rfl)) rfl) rfl))))
theorem b177_8 {b : Nat} {x0 : Value} {x1 : Int32} {x2 : Int32} {y0 : Int32} {H : j_H} {Q : Option Value → j_H → Prop}  : j_wp b 177 8 [x0, .int x1, .int x2] [.int y0] H Q = (if y0.toInt = 0 then j_wp b 177 28 [x0, .int x1, .int x2] [] H Q else j_wp b 177 11 [x0, .int x1, .int x2] [] H Q) := s_ifeq r177_8 rfl rfl
theorem b177_11 {b : Nat} {x0 : Value} {x1 : Int32} {x2 : Int32} {H : j_H} {Q : Option Value → j_H → Prop} (h0 : j_vc H x0 = 12) : j_wp (b + 1) 177 11 [x0, .int x1, .int x2] [] H Q = j_wp b 121 0 [x0, .int x2, .int (Int32.ofInt 0), .int (Int32.ofInt 1)] [] H (j_k (b + 1) 177 18 [x0, .int x1, .int x2] [] Q) := Eq.trans (s_aload_n r177_11 rfl (j_isr_vc h0 rfl)) (Eq.trans (s_iload_n r177_12 rfl) (Eq.trans (s_iconst r177_13) (Eq.trans (s_iconst r177_14) (j_cll (as := [x0, .int x2, .int (Int32.ofInt 0), .int (Int32.ofInt 1)]) (es := [x0, .int x2, .int (Int32.ofInt 0), .int (Int32.ofInt 1)]) (s_c2 r177_15 rfl h0 rfl rfl (j_dok (s := [.int (Int32.ofInt 1), .int (Int32.ofInt 0), .int x2, x0]) (as := [x0, .int x2, .int (Int32.ofInt 0), .int (Int32.ofInt 1)]) (rest := []) (es := [x0, .int x2, .int (Int32.ofInt 0), .int (Int32.ofInt 1)]) rfl rfl rfl rfl (j_slc (j_c1r (j_isr_vc h0 rfl)) rfl) rfl)) (j_slc (j_c1r (j_isr_vc h0 rfl)) rfl) rfl))))
theorem b177_18 {b : Nat} {x0 : Value} {x1 : Int32} {x2 : Int32} {y0 : Int32} {H : j_H} {Q : Option Value → j_H → Prop}  : j_wp b 177 18 [x0, .int x1, .int x2] [.int y0] H Q = (if y0.toInt = 0 then j_wp b 177 28 [x0, .int x1, .int x2] [] H Q else j_wp b 177 21 [x0, .int x1, .int x2] [] H Q) := s_ifeq r177_18 rfl rfl
theorem b177_21 {b : Nat} {x0 : Value} {x1 : Int32} {x2 : Int32} {H : j_H} {Q : Option Value → j_H → Prop} (h0 : j_vc H x0 = 12) : j_wp b 177 21 [x0, .int x1, .int x2] [] H Q = (if ¬ (j_I H (j_pa x0) 0).toInt = 0 then j_wp b 177 32 [x0, .int x1, .int x2] [] H Q else j_wp b 177 28 [x0, .int x1, .int x2] [] H Q) := Eq.trans (s_aload_n r177_21 rfl (j_isr_vc h0 rfl)) (Eq.trans (s_getfi r177_22 (j_al1 h0 rfl) rfl rfl rfl) (s_ifne r177_25 rfl rfl))
theorem b177_28 {b : Nat} {x0 : Value} {x1 : Int32} {x2 : Int32} {H : j_H} {Q : Option Value → j_H → Prop}  : j_wp b 177 28 [x0, .int x1, .int x2] [] H Q = Q (some (.long (Int64.ofInt (-9223372036854775808)))) H := Eq.trans (s_ldc2 r177_28 rfl) (s_lreturn r177_31 rfl)
theorem b177_32 {b : Nat} {x0 : Value} {x1 : Int32} {x2 : Int32} {H : j_H} {Q : Option Value → j_H → Prop} (h0 : j_vc H x0 = 12) : j_wp (b + 1) 177 32 [x0, .int x1, .int x2] [] H Q = j_wp b 175 0 [x0, .int x1, j_u, j_u, j_u] [] H (j_k (b + 1) 177 37 [x0, .int x1, .int x2] [] Q) := Eq.trans (s_aload_n r177_32 rfl (j_isr_vc h0 rfl)) (Eq.trans (s_iload_n r177_33 rfl) (j_cll (as := [x0, .int x1]) (es := [x0, .int x1]) (s_c2 r177_34 rfl h0 rfl rfl (j_dok (s := [.int x1, x0]) (as := [x0, .int x1]) (rest := []) (es := [x0, .int x1]) rfl rfl rfl rfl (j_slc (j_c1r (j_isr_vc h0 rfl)) rfl) rfl)) (j_slc (j_c1r (j_isr_vc h0 rfl)) rfl) rfl))
theorem b177_37 {b : Nat} {x0 : Value} {x1 : Int32} {x2 : Int32} {H : j_H} {Q : Option Value → j_H → Prop} (h0 : j_vc H x0 = 12) : j_wp (b + 1) 177 37 [x0, .int x1, .int x2] [] H Q = j_wp b 174 0 [x0, .long (j_L H (j_pa x0) 34), j_u, .long (j_L H (j_pa x0) 35), j_u, .int x2, j_u, j_u] [] H (j_k (b + 1) 177 50 [x0, .int x1, .int x2] [] Q) := Eq.trans (s_aload_n r177_37 rfl (j_isr_vc h0 rfl)) (Eq.trans (s_aload_n r177_38 rfl (j_isr_vc h0 rfl)) (Eq.trans (s_getfl r177_39 (j_al1 h0 rfl) rfl) (Eq.trans (s_aload_n r177_42 rfl (j_isr_vc h0 rfl)) (Eq.trans (s_getfl r177_43 (j_al1 h0 rfl) rfl) (Eq.trans (s_iload_n r177_46 rfl) (j_cll (as := [x0, .long (j_L H (j_pa x0) 34), .long (j_L H (j_pa x0) 35), .int x2]) (es := [x0, .long (j_L H (j_pa x0) 34), j_u, .long (j_L H (j_pa x0) 35), j_u, .int x2]) (s_c2 r177_47 rfl h0 rfl rfl (j_dok (s := [.int x2, .long (j_L H (j_pa x0) 35), .long (j_L H (j_pa x0) 34), x0]) (as := [x0, .long (j_L H (j_pa x0) 34), .long (j_L H (j_pa x0) 35), .int x2]) (rest := []) (es := [x0, .long (j_L H (j_pa x0) 34), j_u, .long (j_L H (j_pa x0) 35), j_u, .int x2]) rfl rfl rfl rfl (j_slc (j_c1r (j_isr_vc h0 rfl)) rfl) rfl)) (j_slc (j_c1r (j_isr_vc h0 rfl)) rfl) rfl))))))
theorem b177_50 {b : Nat} {x0 : Value} {x1 : Int32} {x2 : Int32} {y0 : Int64} {H : j_H} {Q : Option Value → j_H → Prop}  : j_wp b 177 50 [x0, .int x1, .int x2] [.long y0] H Q = Q (some (.long y0)) H := s_lreturn r177_50 rfl
-- X12_book
theorem r178_0 : j_at 178 0 = some (0, .iload_n 1, 1, []) := by decide +kernel
theorem r178_1 : j_at 178 1 = some (1, .iconst (-1), 1, []) := by decide +kernel
theorem r178_2 : j_at 178 2 = some (2, .if_icmp .ne 10, 3, []) := by decide +kernel
theorem r178_5 : j_at 178 5 = some (5, .aload_n 0, 1, []) := by decide +kernel
theorem r178_6 : j_at 178 6 = some (6, .iconst 0, 1, []) := by decide +kernel
theorem r178_7 : j_at 178 7 = some (7, .putfield 122, 3, [740, 12, 0, 36, 0, 0, 12]) := by decide +kernel
theorem r178_10 : j_at 178 10 = some (10, .iconst 0, 1, []) := by decide +kernel
theorem r178_11 : j_at 178 11 = some (11, .ireturn, 1, []) := by decide +kernel
theorem r178_12 : j_at 178 12 = some (12, .aload_n 0, 1, []) := by decide +kernel
theorem r178_13 : j_at 178 13 = some (13, .iload_n 1, 1, []) := by decide +kernel
theorem r178_14 : j_at 178 14 = some (14, .iconst 0, 1, []) := by decide +kernel
theorem r178_15 : j_at 178 15 = some (15, .iconst 1, 1, []) := by decide +kernel
theorem r178_16 : j_at 178 16 = some (16, .invokevirtual 189, 3, [2, 4, 121, 825, 826, 26, 77, 0, 12]) := by decide +kernel
theorem r178_19 : j_at 178 19 = some (19, .ifCond .ne 6, 3, []) := by decide +kernel
theorem r178_22 : j_at 178 22 = some (22, .bipush (-2), 2, []) := by decide +kernel
theorem r178_24 : j_at 178 24 = some (24, .ireturn, 1, []) := by decide +kernel
theorem r178_25 : j_at 178 25 = some (25, .aload_n 0, 1, []) := by decide +kernel
theorem r178_26 : j_at 178 26 = some (26, .getfield 122, 3, [740, 12, 0, 36, 0, 12]) := by decide +kernel
theorem r178_29 : j_at 178 29 = some (29, .bipush 12, 2, []) := by decide +kernel
theorem r178_31 : j_at 178 31 = some (31, .if_icmp .ne 6, 3, []) := by decide +kernel
theorem r178_34 : j_at 178 34 = some (34, .bipush (-4), 2, []) := by decide +kernel
theorem r178_36 : j_at 178 36 = some (36, .ireturn, 1, []) := by decide +kernel
theorem r178_37 : j_at 178 37 = some (37, .aload_n 0, 1, []) := by decide +kernel
theorem r178_38 : j_at 178 38 = some (38, .getfield 125, 3, [741, 12, 2, 37, 0, 12]) := by decide +kernel
theorem r178_41 : j_at 178 41 = some (41, .aload_n 0, 1, []) := by decide +kernel
theorem r178_42 : j_at 178 42 = some (42, .getfield 122, 3, [740, 12, 0, 36, 0, 12]) := by decide +kernel
theorem r178_45 : j_at 178 45 = some (45, .iload_n 1, 1, []) := by decide +kernel
theorem r178_46 : j_at 178 46 = some (46, .iastore, 1, []) := by decide +kernel
theorem r178_47 : j_at 178 47 = some (47, .aload_n 0, 1, []) := by decide +kernel
theorem r178_48 : j_at 178 48 = some (48, .dup, 1, []) := by decide +kernel
theorem r178_49 : j_at 178 49 = some (49, .getfield 122, 3, [740, 12, 0, 36, 0, 12]) := by decide +kernel
theorem r178_52 : j_at 178 52 = some (52, .iconst 1, 1, []) := by decide +kernel
theorem r178_53 : j_at 178 53 = some (53, .iadd, 1, []) := by decide +kernel
theorem r178_54 : j_at 178 54 = some (54, .putfield 122, 3, [740, 12, 0, 36, 0, 0, 12]) := by decide +kernel
theorem r178_57 : j_at 178 57 = some (57, .aload_n 0, 1, []) := by decide +kernel
theorem r178_58 : j_at 178 58 = some (58, .getfield 122, 3, [740, 12, 0, 36, 0, 12]) := by decide +kernel
theorem r178_61 : j_at 178 61 = some (61, .ireturn, 1, []) := by decide +kernel
theorem b178_0 {b : Nat} {x0 : Value} {x1 : Int32} {H : j_H} {Q : Option Value → j_H → Prop}  : j_wp b 178 0 [x0, .int x1] [] H Q = (if ¬ x1.toInt = (-1) then j_wp b 178 12 [x0, .int x1] [] H Q else j_wp b 178 5 [x0, .int x1] [] H Q) := Eq.trans (s_iload_n r178_0 rfl) (Eq.trans (s_iconst r178_1) (s_icne r178_2 rfl rfl rfl))
theorem b178_5 {b : Nat} {x0 : Value} {x1 : Int32} {H : j_H} {Q : Option Value → j_H → Prop} (h0 : j_vc H x0 = 12) : j_wp b 178 5 [x0, .int x1] [] H Q = j_wp b 178 10 [x0, .int x1] [] (j_sI H (j_pa x0) 36 (Int32.ofInt 0)) Q := Eq.trans (s_aload_n r178_5 rfl (j_isr_vc h0 rfl)) (Eq.trans (s_iconst r178_6) (s_put r178_7 (j_al1 h0 rfl) rfl j_putI))
theorem b178_10 {b : Nat} {x0 : Value} {x1 : Int32} {H : j_H} {Q : Option Value → j_H → Prop}  : j_wp b 178 10 [x0, .int x1] [] H Q = Q (some (.int (Int32.ofInt 0))) H := Eq.trans (s_iconst r178_10) (s_ireturn r178_11 (j_rok1 rfl))
theorem b178_12 {b : Nat} {x0 : Value} {x1 : Int32} {H : j_H} {Q : Option Value → j_H → Prop} (h0 : j_vc H x0 = 12) : j_wp (b + 1) 178 12 [x0, .int x1] [] H Q = j_wp b 121 0 [x0, .int x1, .int (Int32.ofInt 0), .int (Int32.ofInt 1)] [] H (j_k (b + 1) 178 19 [x0, .int x1] [] Q) := Eq.trans (s_aload_n r178_12 rfl (j_isr_vc h0 rfl)) (Eq.trans (s_iload_n r178_13 rfl) (Eq.trans (s_iconst r178_14) (Eq.trans (s_iconst r178_15) (j_cll (as := [x0, .int x1, .int (Int32.ofInt 0), .int (Int32.ofInt 1)]) (es := [x0, .int x1, .int (Int32.ofInt 0), .int (Int32.ofInt 1)]) (s_c2 r178_16 rfl h0 rfl rfl (j_dok (s := [.int (Int32.ofInt 1), .int (Int32.ofInt 0), .int x1, x0]) (as := [x0, .int x1, .int (Int32.ofInt 0), .int (Int32.ofInt 1)]) (rest := []) (es := [x0, .int x1, .int (Int32.ofInt 0), .int (Int32.ofInt 1)]) rfl rfl rfl rfl (j_slc (j_c1r (j_isr_vc h0 rfl)) rfl) rfl)) (j_slc (j_c1r (j_isr_vc h0 rfl)) rfl) rfl))))
theorem b178_19 {b : Nat} {x0 : Value} {x1 : Int32} {y0 : Int32} {H : j_H} {Q : Option Value → j_H → Prop}  : j_wp b 178 19 [x0, .int x1] [.int y0] H Q = (if ¬ y0.toInt = 0 then j_wp b 178 25 [x0, .int x1] [] H Q else j_wp b 178 22 [x0, .int x1] [] H Q) := s_ifne r178_19 rfl rfl
theorem b178_22 {b : Nat} {x0 : Value} {x1 : Int32} {H : j_H} {Q : Option Value → j_H → Prop}  : j_wp b 178 22 [x0, .int x1] [] H Q = Q (some (.int (Int32.ofInt (-2)))) H := Eq.trans (s_bipush r178_22) (s_ireturn r178_24 (j_rok1 rfl))
theorem b178_25 {b : Nat} {x0 : Value} {x1 : Int32} {H : j_H} {Q : Option Value → j_H → Prop} (h0 : j_vc H x0 = 12) : j_wp b 178 25 [x0, .int x1] [] H Q = (if ¬ (j_I H (j_pa x0) 36).toInt = 12 then j_wp b 178 37 [x0, .int x1] [] H Q else j_wp b 178 34 [x0, .int x1] [] H Q) := Eq.trans (s_aload_n r178_25 rfl (j_isr_vc h0 rfl)) (Eq.trans (s_getfi r178_26 (j_al1 h0 rfl) rfl rfl rfl) (Eq.trans (s_bipush r178_29) (s_icne r178_31 rfl rfl rfl)))
theorem b178_34 {b : Nat} {x0 : Value} {x1 : Int32} {H : j_H} {Q : Option Value → j_H → Prop}  : j_wp b 178 34 [x0, .int x1] [] H Q = Q (some (.int (Int32.ofInt (-4)))) H := Eq.trans (s_bipush r178_34) (s_ireturn r178_36 (j_rok1 rfl))
theorem b178_37 {b : Nat} {x0 : Value} {x1 : Int32} {H : j_H} {Q : Option Value → j_H → Prop} (h0 : j_vc H x0 = 12) (h1 : j_vt H (va_rf (j_R H (j_pa x0) 37)) = 0) (h2 : 0 ≤ (j_I H (j_pa x0) 36).toInt) (h3 : (j_I H (j_pa x0) 36).toInt < ((j_vl H (va_rf (j_R H (j_pa x0) 37)) : Nat) : Int)) : j_wp b 178 37 [x0, .int x1] [] H Q = j_wp b 178 47 [x0, .int x1] [] (j_sI H (j_pa (va_rf (j_R H (j_pa x0) 37))) (j_ix (j_I H (j_pa x0) 36)) x1) Q := Eq.trans (s_aload_n r178_37 rfl (j_isr_vc h0 rfl)) (Eq.trans (s_getfr r178_38 (j_al1 h0 rfl) rfl) (Eq.trans (s_aload_n r178_41 rfl (j_isr_vc h0 rfl)) (Eq.trans (s_getfi r178_42 (j_al1 h0 rfl) rfl rfl rfl) (Eq.trans (s_iload_n r178_45 rfl) (s_iast r178_46 h1 (j_ib_of (z := (j_I H (j_pa x0) 36).toInt) rfl h2 h3))))))
theorem b178_47 {b : Nat} {x0 : Value} {x1 : Int32} {H : j_H} {Q : Option Value → j_H → Prop} (h0 : j_vc H x0 = 12) : j_wp b 178 47 [x0, .int x1] [] H Q = j_wp b 178 57 [x0, .int x1] [] (j_sI H (j_pa x0) 36 ((j_I H (j_pa x0) 36) + (Int32.ofInt 1))) Q := Eq.trans (s_aload_n r178_47 rfl (j_isr_vc h0 rfl)) (Eq.trans (s_dup r178_48 (j_vc_lt h0 rfl)) (Eq.trans (s_getfi r178_49 (j_al1 h0 rfl) rfl rfl rfl) (Eq.trans (s_iconst r178_52) (Eq.trans (s_iadd r178_53) (s_put r178_54 (j_al1 h0 rfl) rfl j_putI)))))
theorem b178_57 {b : Nat} {x0 : Value} {x1 : Int32} {H : j_H} {Q : Option Value → j_H → Prop} (h0 : j_vc H x0 = 12) : j_wp b 178 57 [x0, .int x1] [] H Q = Q (some (.int (j_I H (j_pa x0) 36))) H := Eq.trans (s_aload_n r178_57 rfl (j_isr_vc h0 rfl)) (Eq.trans (s_getfi r178_58 (j_al1 h0 rfl) rfl rfl rfl) (s_ireturn r178_61 (j_rok1 rfl)))
-- X12_looked
theorem r179_0 : j_at 179 0 = some (0, .aload_n 0, 1, []) := by decide +kernel
theorem r179_1 : j_at 179 1 = some (1, .getfield 7, 3, [704, 12, 0, 0, 0, 12]) := by decide +kernel
theorem r179_4 : j_at 179 4 = some (4, .ifCond .ne 6, 3, []) := by decide +kernel
theorem r179_7 : j_at 179 7 = some (7, .bipush (-3), 2, []) := by decide +kernel
theorem r179_9 : j_at 179 9 = some (9, .ireturn, 1, []) := by decide +kernel
theorem r179_10 : j_at 179 10 = some (10, .aload_n 0, 1, []) := by decide +kernel
theorem r179_11 : j_at 179 11 = some (11, .getfield 16, 3, [706, 12, 0, 2, 0, 12]) := by decide +kernel
theorem r179_14 : j_at 179 14 = some (14, .istore_n 1, 1, []) := by decide +kernel
theorem r179_15 : j_at 179 15 = some (15, .iconst 0, 1, []) := by decide +kernel
theorem r179_16 : j_at 179 16 = some (16, .istore_n 2, 1, []) := by decide +kernel
theorem r179_17 : j_at 179 17 = some (17, .iload_n 2, 1, []) := by decide +kernel
theorem r179_18 : j_at 179 18 = some (18, .aload_n 0, 1, []) := by decide +kernel
theorem r179_19 : j_at 179 19 = some (19, .getfield 122, 3, [740, 12, 0, 36, 0, 12]) := by decide +kernel
theorem r179_22 : j_at 179 22 = some (22, .if_icmp .ge 43, 3, []) := by decide +kernel
theorem r179_25 : j_at 179 25 = some (25, .aload_n 0, 1, []) := by decide +kernel
theorem r179_26 : j_at 179 26 = some (26, .iload_n 1, 1, []) := by decide +kernel
theorem r179_27 : j_at 179 27 = some (27, .aload_n 0, 1, []) := by decide +kernel
theorem r179_28 : j_at 179 28 = some (28, .getfield 19, 3, [707, 12, 0, 3, 0, 12]) := by decide +kernel
theorem r179_31 : j_at 179 31 = some (31, .iload_n 2, 1, []) := by decide +kernel
theorem r179_32 : j_at 179 32 = some (32, .iadd, 1, []) := by decide +kernel
theorem r179_33 : j_at 179 33 = some (33, .invokevirtual 280, 3, [2, 3, 155, 891, 892, 50, 77, 0, 12]) := by decide +kernel
theorem r179_36 : j_at 179 36 = some (36, .aload_n 0, 1, []) := by decide +kernel
theorem r179_37 : j_at 179 37 = some (37, .getfield 125, 3, [741, 12, 2, 37, 0, 12]) := by decide +kernel
theorem r179_40 : j_at 179 40 = some (40, .iload_n 2, 1, []) := by decide +kernel
theorem r179_41 : j_at 179 41 = some (41, .iaload, 1, []) := by decide +kernel
theorem r179_42 : j_at 179 42 = some (42, .if_icmp .eq 5, 3, []) := by decide +kernel
theorem r179_45 : j_at 179 45 = some (45, .iload_n 2, 1, []) := by decide +kernel
theorem r179_46 : j_at 179 46 = some (46, .ireturn, 1, []) := by decide +kernel
theorem r179_47 : j_at 179 47 = some (47, .aload_n 0, 1, []) := by decide +kernel
theorem r179_48 : j_at 179 48 = some (48, .iload_n 1, 1, []) := by decide +kernel
theorem r179_49 : j_at 179 49 = some (49, .aload_n 0, 1, []) := by decide +kernel
theorem r179_50 : j_at 179 50 = some (50, .getfield 19, 3, [707, 12, 0, 3, 0, 12]) := by decide +kernel
theorem r179_53 : j_at 179 53 = some (53, .iload_n 2, 1, []) := by decide +kernel
theorem r179_54 : j_at 179 54 = some (54, .iadd, 1, []) := by decide +kernel
theorem r179_55 : j_at 179 55 = some (55, .invokevirtual 289, 3, [2, 3, 157, 918, 919, 56, 77, 0, 12]) := by decide +kernel
theorem r179_58 : j_at 179 58 = some (58, .istore_n 1, 1, []) := by decide +kernel
theorem r179_59 : j_at 179 59 = some (59, .iinc 2 1, 3, []) := by decide +kernel
theorem r179_62 : j_at 179 62 = some (62, .goto (-45), 3, []) := by decide +kernel
theorem r179_65 : j_at 179 65 = some (65, .bipush (-5), 2, []) := by decide +kernel
theorem r179_67 : j_at 179 67 = some (67, .ireturn, 1, []) := by decide +kernel
theorem b179_0 {b : Nat} {x0 : Value} {u1 : Value} {u2 : Value} {H : j_H} {Q : Option Value → j_H → Prop} (h0 : j_vc H x0 = 12) : j_wp b 179 0 [x0, u1, u2] [] H Q = (if ¬ (j_I H (j_pa x0) 0).toInt = 0 then j_wp b 179 10 [x0, u1, u2] [] H Q else j_wp b 179 7 [x0, u1, u2] [] H Q) := Eq.trans (s_aload_n r179_0 rfl (j_isr_vc h0 rfl)) (Eq.trans (s_getfi r179_1 (j_al1 h0 rfl) rfl rfl rfl) (s_ifne r179_4 rfl rfl))
theorem b179_7 {b : Nat} {x0 : Value} {u1 : Value} {u2 : Value} {H : j_H} {Q : Option Value → j_H → Prop}  : j_wp b 179 7 [x0, u1, u2] [] H Q = Q (some (.int (Int32.ofInt (-3)))) H := Eq.trans (s_bipush r179_7) (s_ireturn r179_9 (j_rok1 rfl))
theorem b179_10 {b : Nat} {x0 : Value} {u1 : Value} {u2 : Value} {H : j_H} {Q : Option Value → j_H → Prop} (h0 : j_vc H x0 = 12) : j_wp b 179 10 [x0, u1, u2] [] H Q = j_wp b 179 17 [x0, .int (j_I H (j_pa x0) 2), .int (Int32.ofInt 0)] [] H Q := Eq.trans (s_aload_n r179_10 rfl (j_isr_vc h0 rfl)) (Eq.trans (s_getfi r179_11 (j_al1 h0 rfl) rfl rfl rfl) (Eq.trans (s_istore_n r179_14 (Nat.le_of_ble_eq_true rfl) (j_stc (j_c1r (j_isr_vc h0 rfl)) rfl)) (Eq.trans (s_iconst r179_15) (s_istore_n r179_16 (Nat.le_of_ble_eq_true rfl) rfl))))
theorem b179_17 {b : Nat} {x0 : Value} {x1 : Int32} {x2 : Int32} {H : j_H} {Q : Option Value → j_H → Prop} (h0 : j_vc H x0 = 12) : j_wp b 179 17 [x0, .int x1, .int x2] [] H Q = (if (j_I H (j_pa x0) 36).toInt ≤ x2.toInt then j_wp b 179 65 [x0, .int x1, .int x2] [] H Q else j_wp b 179 25 [x0, .int x1, .int x2] [] H Q) := Eq.trans (s_iload_n r179_17 rfl) (Eq.trans (s_aload_n r179_18 rfl (j_isr_vc h0 rfl)) (Eq.trans (s_getfi r179_19 (j_al1 h0 rfl) rfl rfl rfl) (s_icge r179_22 rfl rfl rfl)))
theorem b179_25 {b : Nat} {x0 : Value} {x1 : Int32} {x2 : Int32} {H : j_H} {Q : Option Value → j_H → Prop} (h0 : j_vc H x0 = 12) : j_wp (b + 1) 179 25 [x0, .int x1, .int x2] [] H Q = j_wp b 155 0 [x0, .int x1, .int ((j_I H (j_pa x0) 3) + x2)] [] H (j_k (b + 1) 179 36 [x0, .int x1, .int x2] [] Q) := Eq.trans (s_aload_n r179_25 rfl (j_isr_vc h0 rfl)) (Eq.trans (s_iload_n r179_26 rfl) (Eq.trans (s_aload_n r179_27 rfl (j_isr_vc h0 rfl)) (Eq.trans (s_getfi r179_28 (j_al1 h0 rfl) rfl rfl rfl) (Eq.trans (s_iload_n r179_31 rfl) (Eq.trans (s_iadd r179_32) (j_cll (as := [x0, .int x1, .int ((j_I H (j_pa x0) 3) + x2)]) (es := [x0, .int x1, .int ((j_I H (j_pa x0) 3) + x2)]) (s_c2 r179_33 rfl h0 rfl rfl (j_dok (s := [.int ((j_I H (j_pa x0) 3) + x2), .int x1, x0]) (as := [x0, .int x1, .int ((j_I H (j_pa x0) 3) + x2)]) (rest := []) (es := [x0, .int x1, .int ((j_I H (j_pa x0) 3) + x2)]) rfl rfl rfl rfl (j_slc (j_c1r (j_isr_vc h0 rfl)) rfl) rfl)) (j_slc (j_c1r (j_isr_vc h0 rfl)) rfl) rfl))))))
theorem b179_36 {b : Nat} {x0 : Value} {x1 : Int32} {x2 : Int32} {y0 : Int32} {H : j_H} {Q : Option Value → j_H → Prop} (h0 : j_vc H x0 = 12) (h1 : j_vt H (va_rf (j_R H (j_pa x0) 37)) = 0) (h2 : 0 ≤ x2.toInt) (h3 : x2.toInt < ((j_vl H (va_rf (j_R H (j_pa x0) 37)) : Nat) : Int)) : j_wp b 179 36 [x0, .int x1, .int x2] [.int y0] H Q = (if y0.toInt = (j_I H (j_pa (va_rf (j_R H (j_pa x0) 37))) (j_ix x2)).toInt then j_wp b 179 47 [x0, .int x1, .int x2] [] H Q else j_wp b 179 45 [x0, .int x1, .int x2] [] H Q) := Eq.trans (s_aload_n r179_36 rfl (j_isr_vc h0 rfl)) (Eq.trans (s_getfr r179_37 (j_al1 h0 rfl) rfl) (Eq.trans (s_iload_n r179_40 rfl) (Eq.trans (s_iald r179_41 h1 (by decide) (j_ib_of (z := x2.toInt) rfl h2 h3)) (s_iceq r179_42 rfl rfl rfl))))
theorem b179_45 {b : Nat} {x0 : Value} {x1 : Int32} {x2 : Int32} {H : j_H} {Q : Option Value → j_H → Prop}  : j_wp b 179 45 [x0, .int x1, .int x2] [] H Q = Q (some (.int x2)) H := Eq.trans (s_iload_n r179_45 rfl) (s_ireturn r179_46 (j_rok1 rfl))
theorem b179_47 {b : Nat} {x0 : Value} {x1 : Int32} {x2 : Int32} {H : j_H} {Q : Option Value → j_H → Prop} (h0 : j_vc H x0 = 12) : j_wp (b + 1) 179 47 [x0, .int x1, .int x2] [] H Q = j_wp b 157 0 [x0, .int x1, .int ((j_I H (j_pa x0) 3) + x2)] [] H (j_k (b + 1) 179 58 [x0, .int x1, .int x2] [] Q) := Eq.trans (s_aload_n r179_47 rfl (j_isr_vc h0 rfl)) (Eq.trans (s_iload_n r179_48 rfl) (Eq.trans (s_aload_n r179_49 rfl (j_isr_vc h0 rfl)) (Eq.trans (s_getfi r179_50 (j_al1 h0 rfl) rfl rfl rfl) (Eq.trans (s_iload_n r179_53 rfl) (Eq.trans (s_iadd r179_54) (j_cll (as := [x0, .int x1, .int ((j_I H (j_pa x0) 3) + x2)]) (es := [x0, .int x1, .int ((j_I H (j_pa x0) 3) + x2)]) (s_c2 r179_55 rfl h0 rfl rfl (j_dok (s := [.int ((j_I H (j_pa x0) 3) + x2), .int x1, x0]) (as := [x0, .int x1, .int ((j_I H (j_pa x0) 3) + x2)]) (rest := []) (es := [x0, .int x1, .int ((j_I H (j_pa x0) 3) + x2)]) rfl rfl rfl rfl (j_slc (j_c1r (j_isr_vc h0 rfl)) rfl) rfl)) (j_slc (j_c1r (j_isr_vc h0 rfl)) rfl) rfl))))))
theorem b179_58 {b : Nat} {x0 : Value} {x1 : Int32} {x2 : Int32} {y0 : Int32} {H : j_H} {Q : Option Value → j_H → Prop} (h0 : j_isr x0 = true) : j_wp b 179 58 [x0, .int x1, .int x2] [.int y0] H Q = j_wp b 179 17 [x0, .int y0, .int (x2 + Int32.ofInt 1)] [] H Q := Eq.trans (s_istore_n r179_58 (Nat.le_of_ble_eq_true rfl) (j_stc (j_c1r h0) rfl)) (Eq.trans (s_iinc r179_59 rfl rfl) (s_goto r179_62 rfl))
theorem b179_65 {b : Nat} {x0 : Value} {x1 : Int32} {x2 : Int32} {H : j_H} {Q : Option Value → j_H → Prop}  : j_wp b 179 65 [x0, .int x1, .int x2] [] H Q = Q (some (.int (Int32.ofInt (-5)))) H := Eq.trans (s_bipush r179_65) (s_ireturn r179_67 (j_rok1 rfl))
-- X12_judge
theorem r180_0 : j_at 180 0 = some (0, .aload_n 0, 1, []) := by decide +kernel
theorem r180_1 : j_at 180 1 = some (1, .iload_n 1, 1, []) := by decide +kernel
theorem r180_2 : j_at 180 2 = some (2, .invokevirtual 315, 3, [2, 2, 195, 971, 972, 62, 77, 0, 12]) := by decide +kernel
theorem r180_5 : j_at 180 5 = some (5, .ifCond .ne 5, 3, []) := by decide +kernel
theorem r180_8 : j_at 180 8 = some (8, .iconst (-1), 1, []) := by decide +kernel
theorem r180_9 : j_at 180 9 = some (9, .ireturn, 1, []) := by decide +kernel
theorem r180_10 : j_at 180 10 = some (10, .aload_n 0, 1, []) := by decide +kernel
theorem r180_11 : j_at 180 11 = some (11, .getfield 177, 3, [758, 12, 2, 54, 0, 12]) := by decide +kernel
theorem r180_14 : j_at 180 14 = some (14, .iload_n 1, 1, []) := by decide +kernel
theorem r180_15 : j_at 180 15 = some (15, .iaload, 1, []) := by decide +kernel
theorem r180_16 : j_at 180 16 = some (16, .ifCond .lt 16, 3, []) := by decide +kernel
theorem r180_19 : j_at 180 19 = some (19, .aload_n 0, 1, []) := by decide +kernel
theorem r180_20 : j_at 180 20 = some (20, .getfield 177, 3, [758, 12, 2, 54, 0, 12]) := by decide +kernel
theorem r180_23 : j_at 180 23 = some (23, .iload_n 1, 1, []) := by decide +kernel
theorem r180_24 : j_at 180 24 = some (24, .iaload, 1, []) := by decide +kernel
theorem r180_25 : j_at 180 25 = some (25, .iconst 4, 1, []) := by decide +kernel
theorem r180_26 : j_at 180 26 = some (26, .if_icmp .eq 6, 3, []) := by decide +kernel
theorem r180_29 : j_at 180 29 = some (29, .bipush (-12), 2, []) := by decide +kernel
theorem r180_31 : j_at 180 31 = some (31, .ireturn, 1, []) := by decide +kernel
theorem r180_32 : j_at 180 32 = some (32, .iconst 0, 1, []) := by decide +kernel
theorem r180_33 : j_at 180 33 = some (33, .istore_n 3, 1, []) := by decide +kernel
theorem r180_34 : j_at 180 34 = some (34, .iload_n 3, 1, []) := by decide +kernel
theorem r180_35 : j_at 180 35 = some (35, .bipush 8, 2, []) := by decide +kernel
theorem r180_37 : j_at 180 37 = some (37, .if_icmp .ge 69, 3, []) := by decide +kernel
theorem r180_40 : j_at 180 40 = some (40, .aload_n 0, 1, []) := by decide +kernel
theorem r180_41 : j_at 180 41 = some (41, .getfield 177, 3, [758, 12, 2, 54, 0, 12]) := by decide +kernel
theorem r180_44 : j_at 180 44 = some (44, .iload_n 1, 1, []) := by decide +kernel
theorem r180_45 : j_at 180 45 = some (45, .iaload, 1, []) := by decide +kernel
theorem r180_46 : j_at 180 46 = some (46, .ifCond .lt 21, 3, []) := by decide +kernel
theorem r180_49 : j_at 180 49 = some (49, .iload_n 2, 1, []) := by decide +kernel
theorem r180_50 : j_at 180 50 = some (50, .ifCond .lt 17, 3, []) := by decide +kernel
theorem r180_53 : j_at 180 53 = some (53, .iload_n 2, 1, []) := by decide +kernel
theorem r180_54 : j_at 180 54 = some (54, .aload_n 0, 1, []) := by decide +kernel
theorem r180_55 : j_at 180 55 = some (55, .getfield 180, 3, [759, 12, 2, 55, 0, 12]) := by decide +kernel
theorem r180_58 : j_at 180 58 = some (58, .iload_n 1, 1, []) := by decide +kernel
theorem r180_59 : j_at 180 59 = some (59, .iaload, 1, []) := by decide +kernel
theorem r180_60 : j_at 180 60 = some (60, .iload_n 3, 1, []) := by decide +kernel
theorem r180_61 : j_at 180 61 = some (61, .isub, 1, []) := by decide +kernel
theorem r180_62 : j_at 180 62 = some (62, .iconst 1, 1, []) := by decide +kernel
theorem r180_63 : j_at 180 63 = some (63, .isub, 1, []) := by decide +kernel
theorem r180_64 : j_at 180 64 = some (64, .if_icmp .le 8, 3, []) := by decide +kernel
theorem r180_67 : j_at 180 67 = some (67, .bipush 100, 2, []) := by decide +kernel
theorem r180_69 : j_at 180 69 = some (69, .iload_n 3, 1, []) := by decide +kernel
theorem r180_70 : j_at 180 70 = some (70, .iadd, 1, []) := by decide +kernel
theorem r180_71 : j_at 180 71 = some (71, .ireturn, 1, []) := by decide +kernel
theorem r180_72 : j_at 180 72 = some (72, .aload_n 0, 1, []) := by decide +kernel
theorem r180_73 : j_at 180 73 = some (73, .getfield 183, 3, [760, 12, 2, 56, 0, 12]) := by decide +kernel
theorem r180_76 : j_at 180 76 = some (76, .bipush 60, 2, []) := by decide +kernel
theorem r180_78 : j_at 180 78 = some (78, .iload_n 1, 1, []) := by decide +kernel
theorem r180_79 : j_at 180 79 = some (79, .imul, 1, []) := by decide +kernel
theorem r180_80 : j_at 180 80 = some (80, .iload_n 2, 1, []) := by decide +kernel
theorem r180_81 : j_at 180 81 = some (81, .iadd, 1, []) := by decide +kernel
theorem r180_82 : j_at 180 82 = some (82, .iload_n 3, 1, []) := by decide +kernel
theorem r180_83 : j_at 180 83 = some (83, .iadd, 1, []) := by decide +kernel
theorem r180_84 : j_at 180 84 = some (84, .laload, 1, []) := by decide +kernel
theorem r180_85 : j_at 180 85 = some (85, .aload_n 0, 1, []) := by decide +kernel
theorem r180_86 : j_at 180 86 = some (86, .getfield 13, 3, [705, 12, 0, 1, 0, 12]) := by decide +kernel
theorem r180_89 : j_at 180 89 = some (89, .iload_n 3, 1, []) := by decide +kernel
theorem r180_90 : j_at 180 90 = some (90, .ishr, 1, []) := by decide +kernel
theorem r180_91 : j_at 180 91 = some (91, .iconst 1, 1, []) := by decide +kernel
theorem r180_92 : j_at 180 92 = some (92, .iand, 1, []) := by decide +kernel
theorem r180_93 : j_at 180 93 = some (93, .i2l, 1, []) := by decide +kernel
theorem r180_94 : j_at 180 94 = some (94, .lcmp, 1, []) := by decide +kernel
theorem r180_95 : j_at 180 95 = some (95, .ifCond .eq 5, 3, []) := by decide +kernel
theorem r180_98 : j_at 180 98 = some (98, .iload_n 3, 1, []) := by decide +kernel
theorem r180_99 : j_at 180 99 = some (99, .ireturn, 1, []) := by decide +kernel
theorem r180_100 : j_at 180 100 = some (100, .iinc 3 1, 3, []) := by decide +kernel
theorem r180_103 : j_at 180 103 = some (103, .goto (-69), 3, []) := by decide +kernel
theorem r180_106 : j_at 180 106 = some (106, .bipush (-5), 2, []) := by decide +kernel
theorem r180_108 : j_at 180 108 = some (108, .ireturn, 1, []) := by decide +kernel
theorem b180_0 {b : Nat} {x0 : Value} {x1 : Int32} {x2 : Int32} {u3 : Value} {H : j_H} {Q : Option Value → j_H → Prop} (h0 : j_vc H x0 = 12) : j_wp (b + 1) 180 0 [x0, .int x1, .int x2, u3] [] H Q = j_wp b 195 0 [x0, .int x1] [] H (j_k (b + 1) 180 5 [x0, .int x1, .int x2, u3] [] Q) := Eq.trans (s_aload_n r180_0 rfl (j_isr_vc h0 rfl)) (Eq.trans (s_iload_n r180_1 rfl) (j_cll (as := [x0, .int x1]) (es := [x0, .int x1]) (s_c2 r180_2 rfl h0 rfl rfl (j_dok (s := [.int x1, x0]) (as := [x0, .int x1]) (rest := []) (es := [x0, .int x1]) rfl rfl rfl rfl (j_slc (j_c1r (j_isr_vc h0 rfl)) rfl) rfl)) (j_slc (j_c1r (j_isr_vc h0 rfl)) rfl) rfl))
theorem b180_5 {b : Nat} {x0 : Value} {x1 : Int32} {x2 : Int32} {u3 : Value} {y0 : Int32} {H : j_H} {Q : Option Value → j_H → Prop}  : j_wp b 180 5 [x0, .int x1, .int x2, u3] [.int y0] H Q = (if ¬ y0.toInt = 0 then j_wp b 180 10 [x0, .int x1, .int x2, u3] [] H Q else j_wp b 180 8 [x0, .int x1, .int x2, u3] [] H Q) := s_ifne r180_5 rfl rfl
theorem b180_8 {b : Nat} {x0 : Value} {x1 : Int32} {x2 : Int32} {u3 : Value} {H : j_H} {Q : Option Value → j_H → Prop}  : j_wp b 180 8 [x0, .int x1, .int x2, u3] [] H Q = Q (some (.int (Int32.ofInt (-1)))) H := Eq.trans (s_iconst r180_8) (s_ireturn r180_9 (j_rok1 rfl))
theorem b180_10 {b : Nat} {x0 : Value} {x1 : Int32} {x2 : Int32} {u3 : Value} {H : j_H} {Q : Option Value → j_H → Prop} (h0 : j_vc H x0 = 12) (h1 : j_vt H (va_rf (j_R H (j_pa x0) 54)) = 0) (h2 : 0 ≤ x1.toInt) (h3 : x1.toInt < ((j_vl H (va_rf (j_R H (j_pa x0) 54)) : Nat) : Int)) : j_wp b 180 10 [x0, .int x1, .int x2, u3] [] H Q = (if (j_I H (j_pa (va_rf (j_R H (j_pa x0) 54))) (j_ix x1)).toInt < 0 then j_wp b 180 32 [x0, .int x1, .int x2, u3] [] H Q else j_wp b 180 19 [x0, .int x1, .int x2, u3] [] H Q) := Eq.trans (s_aload_n r180_10 rfl (j_isr_vc h0 rfl)) (Eq.trans (s_getfr r180_11 (j_al1 h0 rfl) rfl) (Eq.trans (s_iload_n r180_14 rfl) (Eq.trans (s_iald r180_15 h1 (by decide) (j_ib_of (z := x1.toInt) rfl h2 h3)) (s_iflt r180_16 rfl rfl))))
theorem b180_19 {b : Nat} {x0 : Value} {x1 : Int32} {x2 : Int32} {u3 : Value} {H : j_H} {Q : Option Value → j_H → Prop} (h0 : j_vc H x0 = 12) (h1 : j_vt H (va_rf (j_R H (j_pa x0) 54)) = 0) (h2 : 0 ≤ x1.toInt) (h3 : x1.toInt < ((j_vl H (va_rf (j_R H (j_pa x0) 54)) : Nat) : Int)) : j_wp b 180 19 [x0, .int x1, .int x2, u3] [] H Q = (if (j_I H (j_pa (va_rf (j_R H (j_pa x0) 54))) (j_ix x1)).toInt = 4 then j_wp b 180 32 [x0, .int x1, .int x2, u3] [] H Q else j_wp b 180 29 [x0, .int x1, .int x2, u3] [] H Q) := Eq.trans (s_aload_n r180_19 rfl (j_isr_vc h0 rfl)) (Eq.trans (s_getfr r180_20 (j_al1 h0 rfl) rfl) (Eq.trans (s_iload_n r180_23 rfl) (Eq.trans (s_iald r180_24 h1 (by decide) (j_ib_of (z := x1.toInt) rfl h2 h3)) (Eq.trans (s_iconst r180_25) (s_iceq r180_26 rfl rfl rfl)))))
theorem b180_29 {b : Nat} {x0 : Value} {x1 : Int32} {x2 : Int32} {u3 : Value} {H : j_H} {Q : Option Value → j_H → Prop}  : j_wp b 180 29 [x0, .int x1, .int x2, u3] [] H Q = Q (some (.int (Int32.ofInt (-12)))) H := Eq.trans (s_bipush r180_29) (s_ireturn r180_31 (j_rok1 rfl))
theorem b180_32 {b : Nat} {x0 : Value} {x1 : Int32} {x2 : Int32} {u3 : Value} {H : j_H} {Q : Option Value → j_H → Prop}  : j_wp b 180 32 [x0, .int x1, .int x2, u3] [] H Q = j_wp b 180 34 [x0, .int x1, .int x2, .int (Int32.ofInt 0)] [] H Q := Eq.trans (s_iconst r180_32) (s_istore_n r180_33 (Nat.le_of_ble_eq_true rfl) rfl)
theorem b180_34 {b : Nat} {x0 : Value} {x1 : Int32} {x2 : Int32} {x3 : Int32} {H : j_H} {Q : Option Value → j_H → Prop}  : j_wp b 180 34 [x0, .int x1, .int x2, .int x3] [] H Q = (if 8 ≤ x3.toInt then j_wp b 180 106 [x0, .int x1, .int x2, .int x3] [] H Q else j_wp b 180 40 [x0, .int x1, .int x2, .int x3] [] H Q) := Eq.trans (s_iload_n r180_34 rfl) (Eq.trans (s_bipush r180_35) (s_icge r180_37 rfl rfl rfl))
theorem b180_40 {b : Nat} {x0 : Value} {x1 : Int32} {x2 : Int32} {x3 : Int32} {H : j_H} {Q : Option Value → j_H → Prop} (h0 : j_vc H x0 = 12) (h1 : j_vt H (va_rf (j_R H (j_pa x0) 54)) = 0) (h2 : 0 ≤ x1.toInt) (h3 : x1.toInt < ((j_vl H (va_rf (j_R H (j_pa x0) 54)) : Nat) : Int)) : j_wp b 180 40 [x0, .int x1, .int x2, .int x3] [] H Q = (if (j_I H (j_pa (va_rf (j_R H (j_pa x0) 54))) (j_ix x1)).toInt < 0 then j_wp b 180 67 [x0, .int x1, .int x2, .int x3] [] H Q else j_wp b 180 49 [x0, .int x1, .int x2, .int x3] [] H Q) := Eq.trans (s_aload_n r180_40 rfl (j_isr_vc h0 rfl)) (Eq.trans (s_getfr r180_41 (j_al1 h0 rfl) rfl) (Eq.trans (s_iload_n r180_44 rfl) (Eq.trans (s_iald r180_45 h1 (by decide) (j_ib_of (z := x1.toInt) rfl h2 h3)) (s_iflt r180_46 rfl rfl))))
theorem b180_49 {b : Nat} {x0 : Value} {x1 : Int32} {x2 : Int32} {x3 : Int32} {H : j_H} {Q : Option Value → j_H → Prop}  : j_wp b 180 49 [x0, .int x1, .int x2, .int x3] [] H Q = (if x2.toInt < 0 then j_wp b 180 67 [x0, .int x1, .int x2, .int x3] [] H Q else j_wp b 180 53 [x0, .int x1, .int x2, .int x3] [] H Q) := Eq.trans (s_iload_n r180_49 rfl) (s_iflt r180_50 rfl rfl)
theorem b180_53 {b : Nat} {x0 : Value} {x1 : Int32} {x2 : Int32} {x3 : Int32} {H : j_H} {Q : Option Value → j_H → Prop} (h0 : j_vc H x0 = 12) (h1 : j_vt H (va_rf (j_R H (j_pa x0) 55)) = 0) (h2 : 0 ≤ x1.toInt) (h3 : x1.toInt < ((j_vl H (va_rf (j_R H (j_pa x0) 55)) : Nat) : Int)) : j_wp b 180 53 [x0, .int x1, .int x2, .int x3] [] H Q = (if x2.toInt ≤ (((j_I H (j_pa (va_rf (j_R H (j_pa x0) 55))) (j_ix x1)) - x3) - (Int32.ofInt 1)).toInt then j_wp b 180 72 [x0, .int x1, .int x2, .int x3] [] H Q else j_wp b 180 67 [x0, .int x1, .int x2, .int x3] [] H Q) := Eq.trans (s_iload_n r180_53 rfl) (Eq.trans (s_aload_n r180_54 rfl (j_isr_vc h0 rfl)) (Eq.trans (s_getfr r180_55 (j_al1 h0 rfl) rfl) (Eq.trans (s_iload_n r180_58 rfl) (Eq.trans (s_iald r180_59 h1 (by decide) (j_ib_of (z := x1.toInt) rfl h2 h3)) (Eq.trans (s_iload_n r180_60 rfl) (Eq.trans (s_isub r180_61) (Eq.trans (s_iconst r180_62) (Eq.trans (s_isub r180_63) (s_icle r180_64 rfl rfl rfl)))))))))
theorem b180_67 {b : Nat} {x0 : Value} {x1 : Int32} {x2 : Int32} {x3 : Int32} {H : j_H} {Q : Option Value → j_H → Prop}  : j_wp b 180 67 [x0, .int x1, .int x2, .int x3] [] H Q = Q (some (.int ((Int32.ofInt 100) + x3))) H := Eq.trans (s_bipush r180_67) (Eq.trans (s_iload_n r180_69 rfl) (Eq.trans (s_iadd r180_70) (s_ireturn r180_71 (j_rok1 rfl))))
theorem b180_72 {b : Nat} {x0 : Value} {x1 : Int32} {x2 : Int32} {x3 : Int32} {H : j_H} {Q : Option Value → j_H → Prop} (h0 : j_vc H x0 = 12) (h1 : j_vt H (va_rf (j_R H (j_pa x0) 56)) = 1) (h2 : 0 ≤ ((((Int32.ofInt 60) * x1) + x2) + x3).toInt) (h3 : ((((Int32.ofInt 60) * x1) + x2) + x3).toInt < ((j_vl H (va_rf (j_R H (j_pa x0) 56)) : Nat) : Int)) : j_wp b 180 72 [x0, .int x1, .int x2, .int x3] [] H Q = (if (lg_cmp (j_L H (j_pa (va_rf (j_R H (j_pa x0) 56))) (j_ix ((((Int32.ofInt 60) * x1) + x2) + x3))) (((j_shr (j_I H (j_pa x0) 1) x3) &&& (Int32.ofInt 1)).toInt64)).toInt = 0 then j_wp b 180 100 [x0, .int x1, .int x2, .int x3] [] H Q else j_wp b 180 98 [x0, .int x1, .int x2, .int x3] [] H Q) := Eq.trans (s_aload_n r180_72 rfl (j_isr_vc h0 rfl)) (Eq.trans (s_getfr r180_73 (j_al1 h0 rfl) rfl) (Eq.trans (s_bipush r180_76) (Eq.trans (s_iload_n r180_78 rfl) (Eq.trans (s_imul r180_79) (Eq.trans (s_iload_n r180_80 rfl) (Eq.trans (s_iadd r180_81) (Eq.trans (s_iload_n r180_82 rfl) (Eq.trans (s_iadd r180_83) (Eq.trans (s_lald r180_84 h1 (j_ib_of (z := ((((Int32.ofInt 60) * x1) + x2) + x3).toInt) rfl h2 h3)) (Eq.trans (s_aload_n r180_85 rfl (j_isr_vc h0 rfl)) (Eq.trans (s_getfi r180_86 (j_al1 h0 rfl) rfl rfl rfl) (Eq.trans (s_iload_n r180_89 rfl) (Eq.trans (s_ishr r180_90) (Eq.trans (s_iconst r180_91) (Eq.trans (s_iand r180_92) (Eq.trans (s_i2l r180_93) (Eq.trans (s_lcmp r180_94) (s_ifeq r180_95 rfl rfl))))))))))))))))))
theorem b180_98 {b : Nat} {x0 : Value} {x1 : Int32} {x2 : Int32} {x3 : Int32} {H : j_H} {Q : Option Value → j_H → Prop}  : j_wp b 180 98 [x0, .int x1, .int x2, .int x3] [] H Q = Q (some (.int x3)) H := Eq.trans (s_iload_n r180_98 rfl) (s_ireturn r180_99 (j_rok1 rfl))
theorem b180_100 {b : Nat} {x0 : Value} {x1 : Int32} {x2 : Int32} {x3 : Int32} {H : j_H} {Q : Option Value → j_H → Prop}  : j_wp b 180 100 [x0, .int x1, .int x2, .int x3] [] H Q = j_wp b 180 34 [x0, .int x1, .int x2, .int (x3 + Int32.ofInt 1)] [] H Q := Eq.trans (s_iinc r180_100 rfl rfl) (s_goto r180_103 rfl)
theorem b180_106 {b : Nat} {x0 : Value} {x1 : Int32} {x2 : Int32} {x3 : Int32} {H : j_H} {Q : Option Value → j_H → Prop}  : j_wp b 180 106 [x0, .int x1, .int x2, .int x3] [] H Q = Q (some (.int (Int32.ofInt (-5)))) H := Eq.trans (s_bipush r180_106) (s_ireturn r180_108 (j_rok1 rfl))
-- X12_image
theorem r181_0 : j_at 181 0 = some (0, .aload_n 0, 1, []) := by decide +kernel
theorem r181_1 : j_at 181 1 = some (1, .iconst 1, 1, []) := by decide +kernel
theorem r181_2 : j_at 181 2 = some (2, .putfield 128, 3, [742, 12, 3, 38, 0, 0, 12]) := by decide +kernel
theorem r181_5 : j_at 181 5 = some (5, .aload_n 0, 1, []) := by decide +kernel
theorem r181_6 : j_at 181 6 = some (6, .aload_n 0, 1, []) := by decide +kernel
theorem r181_7 : j_at 181 7 = some (7, .getfield 38, 3, [713, 12, 0, 9, 0, 12]) := by decide +kernel
theorem r181_10 : j_at 181 10 = some (10, .putfield 132, 3, [743, 12, 0, 39, 0, 0, 12]) := by decide +kernel
theorem r181_13 : j_at 181 13 = some (13, .aload_n 0, 1, []) := by decide +kernel
theorem r181_14 : j_at 181 14 = some (14, .aload_n 0, 1, []) := by decide +kernel
theorem r181_15 : j_at 181 15 = some (15, .getfield 7, 3, [704, 12, 0, 0, 0, 12]) := by decide +kernel
theorem r181_18 : j_at 181 18 = some (18, .putfield 135, 3, [744, 12, 0, 40, 0, 0, 12]) := by decide +kernel
theorem r181_21 : j_at 181 21 = some (21, .aload_n 0, 1, []) := by decide +kernel
theorem r181_22 : j_at 181 22 = some (22, .aload_n 0, 1, []) := by decide +kernel
theorem r181_23 : j_at 181 23 = some (23, .getfield 13, 3, [705, 12, 0, 1, 0, 12]) := by decide +kernel
theorem r181_26 : j_at 181 26 = some (26, .putfield 138, 3, [745, 12, 0, 41, 0, 0, 12]) := by decide +kernel
theorem r181_29 : j_at 181 29 = some (29, .aload_n 0, 1, []) := by decide +kernel
theorem r181_30 : j_at 181 30 = some (30, .aload_n 0, 1, []) := by decide +kernel
theorem r181_31 : j_at 181 31 = some (31, .getfield 16, 3, [706, 12, 0, 2, 0, 12]) := by decide +kernel
theorem r181_34 : j_at 181 34 = some (34, .putfield 141, 3, [746, 12, 0, 42, 0, 0, 12]) := by decide +kernel
theorem r181_37 : j_at 181 37 = some (37, .aload_n 0, 1, []) := by decide +kernel
theorem r181_38 : j_at 181 38 = some (38, .aload_n 0, 1, []) := by decide +kernel
theorem r181_39 : j_at 181 39 = some (39, .getfield 19, 3, [707, 12, 0, 3, 0, 12]) := by decide +kernel
theorem r181_42 : j_at 181 42 = some (42, .putfield 144, 3, [747, 12, 0, 43, 0, 0, 12]) := by decide +kernel
theorem r181_45 : j_at 181 45 = some (45, .aload_n 0, 1, []) := by decide +kernel
theorem r181_46 : j_at 181 46 = some (46, .aload_n 0, 1, []) := by decide +kernel
theorem r181_47 : j_at 181 47 = some (47, .getfield 93, 3, [731, 12, 0, 27, 0, 12]) := by decide +kernel
theorem r181_50 : j_at 181 50 = some (50, .putfield 147, 3, [748, 12, 0, 44, 0, 0, 12]) := by decide +kernel
theorem r181_53 : j_at 181 53 = some (53, .aload_n 0, 1, []) := by decide +kernel
theorem r181_54 : j_at 181 54 = some (54, .aload_n 0, 1, []) := by decide +kernel
theorem r181_55 : j_at 181 55 = some (55, .getfield 122, 3, [740, 12, 0, 36, 0, 12]) := by decide +kernel
theorem r181_58 : j_at 181 58 = some (58, .putfield 150, 3, [749, 12, 0, 45, 0, 0, 12]) := by decide +kernel
theorem r181_61 : j_at 181 61 = some (61, .iconst 0, 1, []) := by decide +kernel
theorem r181_62 : j_at 181 62 = some (62, .istore_n 1, 1, []) := by decide +kernel
theorem r181_63 : j_at 181 63 = some (63, .iload_n 1, 1, []) := by decide +kernel
theorem r181_64 : j_at 181 64 = some (64, .bipush 7, 2, []) := by decide +kernel
theorem r181_66 : j_at 181 66 = some (66, .if_icmp .ge 45, 3, []) := by decide +kernel
theorem r181_69 : j_at 181 69 = some (69, .aload_n 0, 1, []) := by decide +kernel
theorem r181_70 : j_at 181 70 = some (70, .getfield 153, 3, [750, 12, 2, 46, 0, 12]) := by decide +kernel
theorem r181_73 : j_at 181 73 = some (73, .iload_n 1, 1, []) := by decide +kernel
theorem r181_74 : j_at 181 74 = some (74, .aload_n 0, 1, []) := by decide +kernel
theorem r181_75 : j_at 181 75 = some (75, .getfield 22, 3, [708, 12, 2, 4, 0, 12]) := by decide +kernel
theorem r181_78 : j_at 181 78 = some (78, .iload_n 1, 1, []) := by decide +kernel
theorem r181_79 : j_at 181 79 = some (79, .iaload, 1, []) := by decide +kernel
theorem r181_80 : j_at 181 80 = some (80, .iastore, 1, []) := by decide +kernel
theorem r181_81 : j_at 181 81 = some (81, .aload_n 0, 1, []) := by decide +kernel
theorem r181_82 : j_at 181 82 = some (82, .getfield 156, 3, [751, 12, 2, 47, 0, 12]) := by decide +kernel
theorem r181_85 : j_at 181 85 = some (85, .iload_n 1, 1, []) := by decide +kernel
theorem r181_86 : j_at 181 86 = some (86, .aload_n 0, 1, []) := by decide +kernel
theorem r181_87 : j_at 181 87 = some (87, .getfield 26, 3, [709, 12, 2, 5, 0, 12]) := by decide +kernel
theorem r181_90 : j_at 181 90 = some (90, .iload_n 1, 1, []) := by decide +kernel
theorem r181_91 : j_at 181 91 = some (91, .iaload, 1, []) := by decide +kernel
theorem r181_92 : j_at 181 92 = some (92, .iastore, 1, []) := by decide +kernel
theorem r181_93 : j_at 181 93 = some (93, .aload_n 0, 1, []) := by decide +kernel
theorem r181_94 : j_at 181 94 = some (94, .getfield 159, 3, [752, 12, 2, 48, 0, 12]) := by decide +kernel
theorem r181_97 : j_at 181 97 = some (97, .iload_n 1, 1, []) := by decide +kernel
theorem r181_98 : j_at 181 98 = some (98, .aload_n 0, 1, []) := by decide +kernel
theorem r181_99 : j_at 181 99 = some (99, .getfield 29, 3, [710, 12, 2, 6, 0, 12]) := by decide +kernel
theorem r181_102 : j_at 181 102 = some (102, .iload_n 1, 1, []) := by decide +kernel
theorem r181_103 : j_at 181 103 = some (103, .iaload, 1, []) := by decide +kernel
theorem r181_104 : j_at 181 104 = some (104, .iastore, 1, []) := by decide +kernel
theorem r181_105 : j_at 181 105 = some (105, .iinc 1 1, 3, []) := by decide +kernel
theorem r181_108 : j_at 181 108 = some (108, .goto (-45), 3, []) := by decide +kernel
theorem r181_111 : j_at 181 111 = some (111, .iconst 0, 1, []) := by decide +kernel
theorem r181_112 : j_at 181 112 = some (112, .istore_n 1, 1, []) := by decide +kernel
theorem r181_113 : j_at 181 113 = some (113, .iload_n 1, 1, []) := by decide +kernel
theorem r181_114 : j_at 181 114 = some (114, .bipush 56, 2, []) := by decide +kernel
theorem r181_116 : j_at 181 116 = some (116, .if_icmp .ge 21, 3, []) := by decide +kernel
theorem r181_119 : j_at 181 119 = some (119, .aload_n 0, 1, []) := by decide +kernel
theorem r181_120 : j_at 181 120 = some (120, .getfield 162, 3, [753, 12, 2, 49, 0, 12]) := by decide +kernel
theorem r181_123 : j_at 181 123 = some (123, .iload_n 1, 1, []) := by decide +kernel
theorem r181_124 : j_at 181 124 = some (124, .aload_n 0, 1, []) := by decide +kernel
theorem r181_125 : j_at 181 125 = some (125, .getfield 32, 3, [711, 12, 2, 7, 0, 12]) := by decide +kernel
theorem r181_128 : j_at 181 128 = some (128, .iload_n 1, 1, []) := by decide +kernel
theorem r181_129 : j_at 181 129 = some (129, .iaload, 1, []) := by decide +kernel
theorem r181_130 : j_at 181 130 = some (130, .iastore, 1, []) := by decide +kernel
theorem r181_131 : j_at 181 131 = some (131, .iinc 1 1, 3, []) := by decide +kernel
theorem r181_134 : j_at 181 134 = some (134, .goto (-21), 3, []) := by decide +kernel
theorem r181_137 : j_at 181 137 = some (137, .iconst 0, 1, []) := by decide +kernel
theorem r181_138 : j_at 181 138 = some (138, .istore_n 1, 1, []) := by decide +kernel
theorem r181_139 : j_at 181 139 = some (139, .iload_n 1, 1, []) := by decide +kernel
theorem r181_140 : j_at 181 140 = some (140, .bipush 12, 2, []) := by decide +kernel
theorem r181_142 : j_at 181 142 = some (142, .if_icmp .ge 33, 3, []) := by decide +kernel
theorem r181_145 : j_at 181 145 = some (145, .aload_n 0, 1, []) := by decide +kernel
theorem r181_146 : j_at 181 146 = some (146, .getfield 165, 3, [754, 12, 2, 50, 0, 12]) := by decide +kernel
theorem r181_149 : j_at 181 149 = some (149, .iload_n 1, 1, []) := by decide +kernel
theorem r181_150 : j_at 181 150 = some (150, .aload_n 0, 1, []) := by decide +kernel
theorem r181_151 : j_at 181 151 = some (151, .getfield 96, 3, [732, 12, 2, 28, 0, 12]) := by decide +kernel
theorem r181_154 : j_at 181 154 = some (154, .iload_n 1, 1, []) := by decide +kernel
theorem r181_155 : j_at 181 155 = some (155, .iaload, 1, []) := by decide +kernel
theorem r181_156 : j_at 181 156 = some (156, .iastore, 1, []) := by decide +kernel
theorem r181_157 : j_at 181 157 = some (157, .aload_n 0, 1, []) := by decide +kernel
theorem r181_158 : j_at 181 158 = some (158, .getfield 168, 3, [755, 12, 2, 51, 0, 12]) := by decide +kernel
theorem r181_161 : j_at 181 161 = some (161, .iload_n 1, 1, []) := by decide +kernel
theorem r181_162 : j_at 181 162 = some (162, .aload_n 0, 1, []) := by decide +kernel
theorem r181_163 : j_at 181 163 = some (163, .getfield 125, 3, [741, 12, 2, 37, 0, 12]) := by decide +kernel
theorem r181_166 : j_at 181 166 = some (166, .iload_n 1, 1, []) := by decide +kernel
theorem r181_167 : j_at 181 167 = some (167, .iaload, 1, []) := by decide +kernel
theorem r181_168 : j_at 181 168 = some (168, .iastore, 1, []) := by decide +kernel
theorem r181_169 : j_at 181 169 = some (169, .iinc 1 1, 3, []) := by decide +kernel
theorem r181_172 : j_at 181 172 = some (172, .goto (-33), 3, []) := by decide +kernel
theorem r181_175 : j_at 181 175 = some (175, .aload_n 0, 1, []) := by decide +kernel
theorem r181_176 : j_at 181 176 = some (176, .getfield 7, 3, [704, 12, 0, 0, 0, 12]) := by decide +kernel
theorem r181_179 : j_at 181 179 = some (179, .ireturn, 1, []) := by decide +kernel
theorem b181_0 {b : Nat} {x0 : Value} {u1 : Value} {H : j_H} {Q : Option Value → j_H → Prop} (h0 : j_vc H x0 = 12) : j_wp b 181 0 [x0, u1] [] H Q = j_wp b 181 5 [x0, u1] [] (j_sI H (j_pa x0) 38 (Int32.ofInt 1)) Q := Eq.trans (s_aload_n r181_0 rfl (j_isr_vc h0 rfl)) (Eq.trans (s_iconst r181_1) (s_put r181_2 (j_al1 h0 rfl) rfl (j_putZ (j_b01 (z := 1) rfl (by decide)))))
theorem b181_5 {b : Nat} {x0 : Value} {u1 : Value} {H : j_H} {Q : Option Value → j_H → Prop} (h0 : j_vc H x0 = 12) : j_wp b 181 5 [x0, u1] [] H Q = j_wp b 181 13 [x0, u1] [] (j_sI H (j_pa x0) 39 (j_I H (j_pa x0) 9)) Q := Eq.trans (s_aload_n r181_5 rfl (j_isr_vc h0 rfl)) (Eq.trans (s_aload_n r181_6 rfl (j_isr_vc h0 rfl)) (Eq.trans (s_getfi r181_7 (j_al1 h0 rfl) rfl rfl rfl) (s_put r181_10 (j_al1 h0 rfl) rfl j_putI)))
theorem b181_13 {b : Nat} {x0 : Value} {u1 : Value} {H : j_H} {Q : Option Value → j_H → Prop} (h0 : j_vc H x0 = 12) : j_wp b 181 13 [x0, u1] [] H Q = j_wp b 181 21 [x0, u1] [] (j_sI H (j_pa x0) 40 (j_I H (j_pa x0) 0)) Q := Eq.trans (s_aload_n r181_13 rfl (j_isr_vc h0 rfl)) (Eq.trans (s_aload_n r181_14 rfl (j_isr_vc h0 rfl)) (Eq.trans (s_getfi r181_15 (j_al1 h0 rfl) rfl rfl rfl) (s_put r181_18 (j_al1 h0 rfl) rfl j_putI)))
theorem b181_21 {b : Nat} {x0 : Value} {u1 : Value} {H : j_H} {Q : Option Value → j_H → Prop} (h0 : j_vc H x0 = 12) : j_wp b 181 21 [x0, u1] [] H Q = j_wp b 181 29 [x0, u1] [] (j_sI H (j_pa x0) 41 (j_I H (j_pa x0) 1)) Q := Eq.trans (s_aload_n r181_21 rfl (j_isr_vc h0 rfl)) (Eq.trans (s_aload_n r181_22 rfl (j_isr_vc h0 rfl)) (Eq.trans (s_getfi r181_23 (j_al1 h0 rfl) rfl rfl rfl) (s_put r181_26 (j_al1 h0 rfl) rfl j_putI)))
theorem b181_29 {b : Nat} {x0 : Value} {u1 : Value} {H : j_H} {Q : Option Value → j_H → Prop} (h0 : j_vc H x0 = 12) : j_wp b 181 29 [x0, u1] [] H Q = j_wp b 181 37 [x0, u1] [] (j_sI H (j_pa x0) 42 (j_I H (j_pa x0) 2)) Q := Eq.trans (s_aload_n r181_29 rfl (j_isr_vc h0 rfl)) (Eq.trans (s_aload_n r181_30 rfl (j_isr_vc h0 rfl)) (Eq.trans (s_getfi r181_31 (j_al1 h0 rfl) rfl rfl rfl) (s_put r181_34 (j_al1 h0 rfl) rfl j_putI)))
theorem b181_37 {b : Nat} {x0 : Value} {u1 : Value} {H : j_H} {Q : Option Value → j_H → Prop} (h0 : j_vc H x0 = 12) : j_wp b 181 37 [x0, u1] [] H Q = j_wp b 181 45 [x0, u1] [] (j_sI H (j_pa x0) 43 (j_I H (j_pa x0) 3)) Q := Eq.trans (s_aload_n r181_37 rfl (j_isr_vc h0 rfl)) (Eq.trans (s_aload_n r181_38 rfl (j_isr_vc h0 rfl)) (Eq.trans (s_getfi r181_39 (j_al1 h0 rfl) rfl rfl rfl) (s_put r181_42 (j_al1 h0 rfl) rfl j_putI)))
theorem b181_45 {b : Nat} {x0 : Value} {u1 : Value} {H : j_H} {Q : Option Value → j_H → Prop} (h0 : j_vc H x0 = 12) : j_wp b 181 45 [x0, u1] [] H Q = j_wp b 181 53 [x0, u1] [] (j_sI H (j_pa x0) 44 (j_I H (j_pa x0) 27)) Q := Eq.trans (s_aload_n r181_45 rfl (j_isr_vc h0 rfl)) (Eq.trans (s_aload_n r181_46 rfl (j_isr_vc h0 rfl)) (Eq.trans (s_getfi r181_47 (j_al1 h0 rfl) rfl rfl rfl) (s_put r181_50 (j_al1 h0 rfl) rfl j_putI)))
theorem b181_53 {b : Nat} {x0 : Value} {u1 : Value} {H : j_H} {Q : Option Value → j_H → Prop} (h0 : j_vc H x0 = 12) : j_wp b 181 53 [x0, u1] [] H Q = j_wp b 181 61 [x0, u1] [] (j_sI H (j_pa x0) 45 (j_I H (j_pa x0) 36)) Q := Eq.trans (s_aload_n r181_53 rfl (j_isr_vc h0 rfl)) (Eq.trans (s_aload_n r181_54 rfl (j_isr_vc h0 rfl)) (Eq.trans (s_getfi r181_55 (j_al1 h0 rfl) rfl rfl rfl) (s_put r181_58 (j_al1 h0 rfl) rfl j_putI)))
theorem b181_61 {b : Nat} {x0 : Value} {u1 : Value} {H : j_H} {Q : Option Value → j_H → Prop} (h0 : j_isr x0 = true) : j_wp b 181 61 [x0, u1] [] H Q = j_wp b 181 63 [x0, .int (Int32.ofInt 0)] [] H Q := Eq.trans (s_iconst r181_61) (s_istore_n r181_62 (Nat.le_of_ble_eq_true rfl) (j_stc (j_c1r h0) rfl))
theorem b181_63 {b : Nat} {x0 : Value} {x1 : Int32} {H : j_H} {Q : Option Value → j_H → Prop}  : j_wp b 181 63 [x0, .int x1] [] H Q = (if 7 ≤ x1.toInt then j_wp b 181 111 [x0, .int x1] [] H Q else j_wp b 181 69 [x0, .int x1] [] H Q) := Eq.trans (s_iload_n r181_63 rfl) (Eq.trans (s_bipush r181_64) (s_icge r181_66 rfl rfl rfl))
theorem b181_69 {b : Nat} {x0 : Value} {x1 : Int32} {H : j_H} {Q : Option Value → j_H → Prop} (h0 : j_vc H x0 = 12) (h1 : j_vt H (va_rf (j_R H (j_pa x0) 4)) = 0) (h2 : 0 ≤ x1.toInt) (h3 : x1.toInt < ((j_vl H (va_rf (j_R H (j_pa x0) 4)) : Nat) : Int)) (h4 : j_vt H (va_rf (j_R H (j_pa x0) 46)) = 0) (h5 : x1.toInt < ((j_vl H (va_rf (j_R H (j_pa x0) 46)) : Nat) : Int)) : j_wp b 181 69 [x0, .int x1] [] H Q = j_wp b 181 81 [x0, .int x1] [] (j_sI H (j_pa (va_rf (j_R H (j_pa x0) 46))) (j_ix x1) (j_I H (j_pa (va_rf (j_R H (j_pa x0) 4))) (j_ix x1))) Q := Eq.trans (s_aload_n r181_69 rfl (j_isr_vc h0 rfl)) (Eq.trans (s_getfr r181_70 (j_al1 h0 rfl) rfl) (Eq.trans (s_iload_n r181_73 rfl) (Eq.trans (s_aload_n r181_74 rfl (j_isr_vc h0 rfl)) (Eq.trans (s_getfr r181_75 (j_al1 h0 rfl) rfl) (Eq.trans (s_iload_n r181_78 rfl) (Eq.trans (s_iald r181_79 h1 (by decide) (j_ib_of (z := x1.toInt) rfl h2 h3)) (s_iast r181_80 h4 (j_ib_of (z := x1.toInt) rfl h2 h5))))))))
theorem b181_81 {b : Nat} {x0 : Value} {x1 : Int32} {H : j_H} {Q : Option Value → j_H → Prop} (h0 : j_vc H x0 = 12) (h1 : j_vt H (va_rf (j_R H (j_pa x0) 5)) = 0) (h2 : 0 ≤ x1.toInt) (h3 : x1.toInt < ((j_vl H (va_rf (j_R H (j_pa x0) 5)) : Nat) : Int)) (h4 : j_vt H (va_rf (j_R H (j_pa x0) 47)) = 0) (h5 : x1.toInt < ((j_vl H (va_rf (j_R H (j_pa x0) 47)) : Nat) : Int)) : j_wp b 181 81 [x0, .int x1] [] H Q = j_wp b 181 93 [x0, .int x1] [] (j_sI H (j_pa (va_rf (j_R H (j_pa x0) 47))) (j_ix x1) (j_I H (j_pa (va_rf (j_R H (j_pa x0) 5))) (j_ix x1))) Q := Eq.trans (s_aload_n r181_81 rfl (j_isr_vc h0 rfl)) (Eq.trans (s_getfr r181_82 (j_al1 h0 rfl) rfl) (Eq.trans (s_iload_n r181_85 rfl) (Eq.trans (s_aload_n r181_86 rfl (j_isr_vc h0 rfl)) (Eq.trans (s_getfr r181_87 (j_al1 h0 rfl) rfl) (Eq.trans (s_iload_n r181_90 rfl) (Eq.trans (s_iald r181_91 h1 (by decide) (j_ib_of (z := x1.toInt) rfl h2 h3)) (s_iast r181_92 h4 (j_ib_of (z := x1.toInt) rfl h2 h5))))))))
theorem b181_93 {b : Nat} {x0 : Value} {x1 : Int32} {H : j_H} {Q : Option Value → j_H → Prop} (h0 : j_vc H x0 = 12) (h1 : j_vt H (va_rf (j_R H (j_pa x0) 6)) = 0) (h2 : 0 ≤ x1.toInt) (h3 : x1.toInt < ((j_vl H (va_rf (j_R H (j_pa x0) 6)) : Nat) : Int)) (h4 : j_vt H (va_rf (j_R H (j_pa x0) 48)) = 0) (h5 : x1.toInt < ((j_vl H (va_rf (j_R H (j_pa x0) 48)) : Nat) : Int)) : j_wp b 181 93 [x0, .int x1] [] H Q = j_wp b 181 105 [x0, .int x1] [] (j_sI H (j_pa (va_rf (j_R H (j_pa x0) 48))) (j_ix x1) (j_I H (j_pa (va_rf (j_R H (j_pa x0) 6))) (j_ix x1))) Q := Eq.trans (s_aload_n r181_93 rfl (j_isr_vc h0 rfl)) (Eq.trans (s_getfr r181_94 (j_al1 h0 rfl) rfl) (Eq.trans (s_iload_n r181_97 rfl) (Eq.trans (s_aload_n r181_98 rfl (j_isr_vc h0 rfl)) (Eq.trans (s_getfr r181_99 (j_al1 h0 rfl) rfl) (Eq.trans (s_iload_n r181_102 rfl) (Eq.trans (s_iald r181_103 h1 (by decide) (j_ib_of (z := x1.toInt) rfl h2 h3)) (s_iast r181_104 h4 (j_ib_of (z := x1.toInt) rfl h2 h5))))))))
theorem b181_105 {b : Nat} {x0 : Value} {x1 : Int32} {H : j_H} {Q : Option Value → j_H → Prop}  : j_wp b 181 105 [x0, .int x1] [] H Q = j_wp b 181 63 [x0, .int (x1 + Int32.ofInt 1)] [] H Q := Eq.trans (s_iinc r181_105 rfl rfl) (s_goto r181_108 rfl)
theorem b181_111 {b : Nat} {x0 : Value} {x1 : Int32} {H : j_H} {Q : Option Value → j_H → Prop} (h0 : j_isr x0 = true) : j_wp b 181 111 [x0, .int x1] [] H Q = j_wp b 181 113 [x0, .int (Int32.ofInt 0)] [] H Q := Eq.trans (s_iconst r181_111) (s_istore_n r181_112 (Nat.le_of_ble_eq_true rfl) (j_stc (j_c1r h0) rfl))
theorem b181_113 {b : Nat} {x0 : Value} {x1 : Int32} {H : j_H} {Q : Option Value → j_H → Prop}  : j_wp b 181 113 [x0, .int x1] [] H Q = (if 56 ≤ x1.toInt then j_wp b 181 137 [x0, .int x1] [] H Q else j_wp b 181 119 [x0, .int x1] [] H Q) := Eq.trans (s_iload_n r181_113 rfl) (Eq.trans (s_bipush r181_114) (s_icge r181_116 rfl rfl rfl))
theorem b181_119 {b : Nat} {x0 : Value} {x1 : Int32} {H : j_H} {Q : Option Value → j_H → Prop} (h0 : j_vc H x0 = 12) (h1 : j_vt H (va_rf (j_R H (j_pa x0) 7)) = 0) (h2 : 0 ≤ x1.toInt) (h3 : x1.toInt < ((j_vl H (va_rf (j_R H (j_pa x0) 7)) : Nat) : Int)) (h4 : j_vt H (va_rf (j_R H (j_pa x0) 49)) = 0) (h5 : x1.toInt < ((j_vl H (va_rf (j_R H (j_pa x0) 49)) : Nat) : Int)) : j_wp b 181 119 [x0, .int x1] [] H Q = j_wp b 181 131 [x0, .int x1] [] (j_sI H (j_pa (va_rf (j_R H (j_pa x0) 49))) (j_ix x1) (j_I H (j_pa (va_rf (j_R H (j_pa x0) 7))) (j_ix x1))) Q := Eq.trans (s_aload_n r181_119 rfl (j_isr_vc h0 rfl)) (Eq.trans (s_getfr r181_120 (j_al1 h0 rfl) rfl) (Eq.trans (s_iload_n r181_123 rfl) (Eq.trans (s_aload_n r181_124 rfl (j_isr_vc h0 rfl)) (Eq.trans (s_getfr r181_125 (j_al1 h0 rfl) rfl) (Eq.trans (s_iload_n r181_128 rfl) (Eq.trans (s_iald r181_129 h1 (by decide) (j_ib_of (z := x1.toInt) rfl h2 h3)) (s_iast r181_130 h4 (j_ib_of (z := x1.toInt) rfl h2 h5))))))))
theorem b181_131 {b : Nat} {x0 : Value} {x1 : Int32} {H : j_H} {Q : Option Value → j_H → Prop}  : j_wp b 181 131 [x0, .int x1] [] H Q = j_wp b 181 113 [x0, .int (x1 + Int32.ofInt 1)] [] H Q := Eq.trans (s_iinc r181_131 rfl rfl) (s_goto r181_134 rfl)
theorem b181_137 {b : Nat} {x0 : Value} {x1 : Int32} {H : j_H} {Q : Option Value → j_H → Prop} (h0 : j_isr x0 = true) : j_wp b 181 137 [x0, .int x1] [] H Q = j_wp b 181 139 [x0, .int (Int32.ofInt 0)] [] H Q := Eq.trans (s_iconst r181_137) (s_istore_n r181_138 (Nat.le_of_ble_eq_true rfl) (j_stc (j_c1r h0) rfl))
theorem b181_139 {b : Nat} {x0 : Value} {x1 : Int32} {H : j_H} {Q : Option Value → j_H → Prop}  : j_wp b 181 139 [x0, .int x1] [] H Q = (if 12 ≤ x1.toInt then j_wp b 181 175 [x0, .int x1] [] H Q else j_wp b 181 145 [x0, .int x1] [] H Q) := Eq.trans (s_iload_n r181_139 rfl) (Eq.trans (s_bipush r181_140) (s_icge r181_142 rfl rfl rfl))
theorem b181_145 {b : Nat} {x0 : Value} {x1 : Int32} {H : j_H} {Q : Option Value → j_H → Prop} (h0 : j_vc H x0 = 12) (h1 : j_vt H (va_rf (j_R H (j_pa x0) 28)) = 0) (h2 : 0 ≤ x1.toInt) (h3 : x1.toInt < ((j_vl H (va_rf (j_R H (j_pa x0) 28)) : Nat) : Int)) (h4 : j_vt H (va_rf (j_R H (j_pa x0) 50)) = 0) (h5 : x1.toInt < ((j_vl H (va_rf (j_R H (j_pa x0) 50)) : Nat) : Int)) : j_wp b 181 145 [x0, .int x1] [] H Q = j_wp b 181 157 [x0, .int x1] [] (j_sI H (j_pa (va_rf (j_R H (j_pa x0) 50))) (j_ix x1) (j_I H (j_pa (va_rf (j_R H (j_pa x0) 28))) (j_ix x1))) Q := Eq.trans (s_aload_n r181_145 rfl (j_isr_vc h0 rfl)) (Eq.trans (s_getfr r181_146 (j_al1 h0 rfl) rfl) (Eq.trans (s_iload_n r181_149 rfl) (Eq.trans (s_aload_n r181_150 rfl (j_isr_vc h0 rfl)) (Eq.trans (s_getfr r181_151 (j_al1 h0 rfl) rfl) (Eq.trans (s_iload_n r181_154 rfl) (Eq.trans (s_iald r181_155 h1 (by decide) (j_ib_of (z := x1.toInt) rfl h2 h3)) (s_iast r181_156 h4 (j_ib_of (z := x1.toInt) rfl h2 h5))))))))
theorem b181_157 {b : Nat} {x0 : Value} {x1 : Int32} {H : j_H} {Q : Option Value → j_H → Prop} (h0 : j_vc H x0 = 12) (h1 : j_vt H (va_rf (j_R H (j_pa x0) 37)) = 0) (h2 : 0 ≤ x1.toInt) (h3 : x1.toInt < ((j_vl H (va_rf (j_R H (j_pa x0) 37)) : Nat) : Int)) (h4 : j_vt H (va_rf (j_R H (j_pa x0) 51)) = 0) (h5 : x1.toInt < ((j_vl H (va_rf (j_R H (j_pa x0) 51)) : Nat) : Int)) : j_wp b 181 157 [x0, .int x1] [] H Q = j_wp b 181 169 [x0, .int x1] [] (j_sI H (j_pa (va_rf (j_R H (j_pa x0) 51))) (j_ix x1) (j_I H (j_pa (va_rf (j_R H (j_pa x0) 37))) (j_ix x1))) Q := Eq.trans (s_aload_n r181_157 rfl (j_isr_vc h0 rfl)) (Eq.trans (s_getfr r181_158 (j_al1 h0 rfl) rfl) (Eq.trans (s_iload_n r181_161 rfl) (Eq.trans (s_aload_n r181_162 rfl (j_isr_vc h0 rfl)) (Eq.trans (s_getfr r181_163 (j_al1 h0 rfl) rfl) (Eq.trans (s_iload_n r181_166 rfl) (Eq.trans (s_iald r181_167 h1 (by decide) (j_ib_of (z := x1.toInt) rfl h2 h3)) (s_iast r181_168 h4 (j_ib_of (z := x1.toInt) rfl h2 h5))))))))
theorem b181_169 {b : Nat} {x0 : Value} {x1 : Int32} {H : j_H} {Q : Option Value → j_H → Prop}  : j_wp b 181 169 [x0, .int x1] [] H Q = j_wp b 181 139 [x0, .int (x1 + Int32.ofInt 1)] [] H Q := Eq.trans (s_iinc r181_169 rfl rfl) (s_goto r181_172 rfl)
theorem b181_175 {b : Nat} {x0 : Value} {x1 : Int32} {H : j_H} {Q : Option Value → j_H → Prop} (h0 : j_vc H x0 = 12) : j_wp b 181 175 [x0, .int x1] [] H Q = Q (some (.int (j_I H (j_pa x0) 0))) H := Eq.trans (s_aload_n r181_175 rfl (j_isr_vc h0 rfl)) (Eq.trans (s_getfi r181_176 (j_al1 h0 rfl) rfl rfl rfl) (s_ireturn r181_179 (j_rok1 rfl)))
-- X12_undo
theorem r182_0 : j_at 182 0 = some (0, .aload_n 0, 1, []) := by decide +kernel
theorem r182_1 : j_at 182 1 = some (1, .getfield 128, 3, [742, 12, 0, 38, 0, 12]) := by decide +kernel
theorem r182_4 : j_at 182 4 = some (4, .ifCond .ne 6, 3, []) := by decide +kernel
theorem r182_7 : j_at 182 7 = some (7, .bipush (-3), 2, []) := by decide +kernel
theorem r182_9 : j_at 182 9 = some (9, .ireturn, 1, []) := by decide +kernel
theorem r182_10 : j_at 182 10 = some (10, .aload_n 0, 1, []) := by decide +kernel
theorem r182_11 : j_at 182 11 = some (11, .aload_n 0, 1, []) := by decide +kernel
theorem r182_12 : j_at 182 12 = some (12, .getfield 132, 3, [743, 12, 0, 39, 0, 12]) := by decide +kernel
theorem r182_15 : j_at 182 15 = some (15, .putfield 38, 3, [713, 12, 0, 9, 0, 0, 12]) := by decide +kernel
theorem r182_18 : j_at 182 18 = some (18, .aload_n 0, 1, []) := by decide +kernel
theorem r182_19 : j_at 182 19 = some (19, .aload_n 0, 1, []) := by decide +kernel
theorem r182_20 : j_at 182 20 = some (20, .getfield 135, 3, [744, 12, 0, 40, 0, 12]) := by decide +kernel
theorem r182_23 : j_at 182 23 = some (23, .putfield 7, 3, [704, 12, 0, 0, 0, 0, 12]) := by decide +kernel
theorem r182_26 : j_at 182 26 = some (26, .aload_n 0, 1, []) := by decide +kernel
theorem r182_27 : j_at 182 27 = some (27, .aload_n 0, 1, []) := by decide +kernel
theorem r182_28 : j_at 182 28 = some (28, .getfield 138, 3, [745, 12, 0, 41, 0, 12]) := by decide +kernel
theorem r182_31 : j_at 182 31 = some (31, .putfield 13, 3, [705, 12, 0, 1, 0, 0, 12]) := by decide +kernel
theorem r182_34 : j_at 182 34 = some (34, .aload_n 0, 1, []) := by decide +kernel
theorem r182_35 : j_at 182 35 = some (35, .aload_n 0, 1, []) := by decide +kernel
theorem r182_36 : j_at 182 36 = some (36, .getfield 141, 3, [746, 12, 0, 42, 0, 12]) := by decide +kernel
theorem r182_39 : j_at 182 39 = some (39, .putfield 16, 3, [706, 12, 0, 2, 0, 0, 12]) := by decide +kernel
theorem r182_42 : j_at 182 42 = some (42, .aload_n 0, 1, []) := by decide +kernel
theorem r182_43 : j_at 182 43 = some (43, .aload_n 0, 1, []) := by decide +kernel
theorem r182_44 : j_at 182 44 = some (44, .getfield 144, 3, [747, 12, 0, 43, 0, 12]) := by decide +kernel
theorem r182_47 : j_at 182 47 = some (47, .putfield 19, 3, [707, 12, 0, 3, 0, 0, 12]) := by decide +kernel
theorem r182_50 : j_at 182 50 = some (50, .aload_n 0, 1, []) := by decide +kernel
theorem r182_51 : j_at 182 51 = some (51, .aload_n 0, 1, []) := by decide +kernel
theorem r182_52 : j_at 182 52 = some (52, .getfield 147, 3, [748, 12, 0, 44, 0, 12]) := by decide +kernel
theorem r182_55 : j_at 182 55 = some (55, .putfield 93, 3, [731, 12, 0, 27, 0, 0, 12]) := by decide +kernel
theorem r182_58 : j_at 182 58 = some (58, .aload_n 0, 1, []) := by decide +kernel
theorem r182_59 : j_at 182 59 = some (59, .aload_n 0, 1, []) := by decide +kernel
theorem r182_60 : j_at 182 60 = some (60, .getfield 150, 3, [749, 12, 0, 45, 0, 12]) := by decide +kernel
theorem r182_63 : j_at 182 63 = some (63, .putfield 122, 3, [740, 12, 0, 36, 0, 0, 12]) := by decide +kernel
theorem r182_66 : j_at 182 66 = some (66, .iconst 0, 1, []) := by decide +kernel
theorem r182_67 : j_at 182 67 = some (67, .istore_n 1, 1, []) := by decide +kernel
theorem r182_68 : j_at 182 68 = some (68, .iload_n 1, 1, []) := by decide +kernel
theorem r182_69 : j_at 182 69 = some (69, .bipush 7, 2, []) := by decide +kernel
theorem r182_71 : j_at 182 71 = some (71, .if_icmp .ge 45, 3, []) := by decide +kernel
theorem r182_74 : j_at 182 74 = some (74, .aload_n 0, 1, []) := by decide +kernel
theorem r182_75 : j_at 182 75 = some (75, .getfield 22, 3, [708, 12, 2, 4, 0, 12]) := by decide +kernel
theorem r182_78 : j_at 182 78 = some (78, .iload_n 1, 1, []) := by decide +kernel
theorem r182_79 : j_at 182 79 = some (79, .aload_n 0, 1, []) := by decide +kernel
theorem r182_80 : j_at 182 80 = some (80, .getfield 153, 3, [750, 12, 2, 46, 0, 12]) := by decide +kernel
theorem r182_83 : j_at 182 83 = some (83, .iload_n 1, 1, []) := by decide +kernel
theorem r182_84 : j_at 182 84 = some (84, .iaload, 1, []) := by decide +kernel
theorem r182_85 : j_at 182 85 = some (85, .iastore, 1, []) := by decide +kernel
theorem r182_86 : j_at 182 86 = some (86, .aload_n 0, 1, []) := by decide +kernel
theorem r182_87 : j_at 182 87 = some (87, .getfield 26, 3, [709, 12, 2, 5, 0, 12]) := by decide +kernel
theorem r182_90 : j_at 182 90 = some (90, .iload_n 1, 1, []) := by decide +kernel
theorem r182_91 : j_at 182 91 = some (91, .aload_n 0, 1, []) := by decide +kernel
theorem r182_92 : j_at 182 92 = some (92, .getfield 156, 3, [751, 12, 2, 47, 0, 12]) := by decide +kernel
theorem r182_95 : j_at 182 95 = some (95, .iload_n 1, 1, []) := by decide +kernel
theorem r182_96 : j_at 182 96 = some (96, .iaload, 1, []) := by decide +kernel
theorem r182_97 : j_at 182 97 = some (97, .iastore, 1, []) := by decide +kernel
theorem r182_98 : j_at 182 98 = some (98, .aload_n 0, 1, []) := by decide +kernel
theorem r182_99 : j_at 182 99 = some (99, .getfield 29, 3, [710, 12, 2, 6, 0, 12]) := by decide +kernel
theorem r182_102 : j_at 182 102 = some (102, .iload_n 1, 1, []) := by decide +kernel
theorem r182_103 : j_at 182 103 = some (103, .aload_n 0, 1, []) := by decide +kernel
theorem r182_104 : j_at 182 104 = some (104, .getfield 159, 3, [752, 12, 2, 48, 0, 12]) := by decide +kernel
theorem r182_107 : j_at 182 107 = some (107, .iload_n 1, 1, []) := by decide +kernel
theorem r182_108 : j_at 182 108 = some (108, .iaload, 1, []) := by decide +kernel
theorem r182_109 : j_at 182 109 = some (109, .iastore, 1, []) := by decide +kernel
theorem r182_110 : j_at 182 110 = some (110, .iinc 1 1, 3, []) := by decide +kernel
theorem r182_113 : j_at 182 113 = some (113, .goto (-45), 3, []) := by decide +kernel
theorem r182_116 : j_at 182 116 = some (116, .iconst 0, 1, []) := by decide +kernel
theorem r182_117 : j_at 182 117 = some (117, .istore_n 1, 1, []) := by decide +kernel
theorem r182_118 : j_at 182 118 = some (118, .iload_n 1, 1, []) := by decide +kernel
theorem r182_119 : j_at 182 119 = some (119, .bipush 56, 2, []) := by decide +kernel
theorem r182_121 : j_at 182 121 = some (121, .if_icmp .ge 21, 3, []) := by decide +kernel
theorem r182_124 : j_at 182 124 = some (124, .aload_n 0, 1, []) := by decide +kernel
theorem r182_125 : j_at 182 125 = some (125, .getfield 32, 3, [711, 12, 2, 7, 0, 12]) := by decide +kernel
theorem r182_128 : j_at 182 128 = some (128, .iload_n 1, 1, []) := by decide +kernel
theorem r182_129 : j_at 182 129 = some (129, .aload_n 0, 1, []) := by decide +kernel
theorem r182_130 : j_at 182 130 = some (130, .getfield 162, 3, [753, 12, 2, 49, 0, 12]) := by decide +kernel
theorem r182_133 : j_at 182 133 = some (133, .iload_n 1, 1, []) := by decide +kernel
theorem r182_134 : j_at 182 134 = some (134, .iaload, 1, []) := by decide +kernel
theorem r182_135 : j_at 182 135 = some (135, .iastore, 1, []) := by decide +kernel
theorem r182_136 : j_at 182 136 = some (136, .iinc 1 1, 3, []) := by decide +kernel
theorem r182_139 : j_at 182 139 = some (139, .goto (-21), 3, []) := by decide +kernel
theorem r182_142 : j_at 182 142 = some (142, .iconst 0, 1, []) := by decide +kernel
theorem r182_143 : j_at 182 143 = some (143, .istore_n 1, 1, []) := by decide +kernel
theorem r182_144 : j_at 182 144 = some (144, .iload_n 1, 1, []) := by decide +kernel
theorem r182_145 : j_at 182 145 = some (145, .bipush 12, 2, []) := by decide +kernel
theorem r182_147 : j_at 182 147 = some (147, .if_icmp .ge 33, 3, []) := by decide +kernel
theorem r182_150 : j_at 182 150 = some (150, .aload_n 0, 1, []) := by decide +kernel
theorem r182_151 : j_at 182 151 = some (151, .getfield 96, 3, [732, 12, 2, 28, 0, 12]) := by decide +kernel
theorem r182_154 : j_at 182 154 = some (154, .iload_n 1, 1, []) := by decide +kernel
theorem r182_155 : j_at 182 155 = some (155, .aload_n 0, 1, []) := by decide +kernel
theorem r182_156 : j_at 182 156 = some (156, .getfield 165, 3, [754, 12, 2, 50, 0, 12]) := by decide +kernel
theorem r182_159 : j_at 182 159 = some (159, .iload_n 1, 1, []) := by decide +kernel
theorem r182_160 : j_at 182 160 = some (160, .iaload, 1, []) := by decide +kernel
theorem r182_161 : j_at 182 161 = some (161, .iastore, 1, []) := by decide +kernel
theorem r182_162 : j_at 182 162 = some (162, .aload_n 0, 1, []) := by decide +kernel
theorem r182_163 : j_at 182 163 = some (163, .getfield 125, 3, [741, 12, 2, 37, 0, 12]) := by decide +kernel
theorem r182_166 : j_at 182 166 = some (166, .iload_n 1, 1, []) := by decide +kernel
theorem r182_167 : j_at 182 167 = some (167, .aload_n 0, 1, []) := by decide +kernel
theorem r182_168 : j_at 182 168 = some (168, .getfield 168, 3, [755, 12, 2, 51, 0, 12]) := by decide +kernel
theorem r182_171 : j_at 182 171 = some (171, .iload_n 1, 1, []) := by decide +kernel
theorem r182_172 : j_at 182 172 = some (172, .iaload, 1, []) := by decide +kernel
theorem r182_173 : j_at 182 173 = some (173, .iastore, 1, []) := by decide +kernel
theorem r182_174 : j_at 182 174 = some (174, .iinc 1 1, 3, []) := by decide +kernel
theorem r182_177 : j_at 182 177 = some (177, .goto (-33), 3, []) := by decide +kernel
theorem r182_180 : j_at 182 180 = some (180, .aload_n 0, 1, []) := by decide +kernel
theorem r182_181 : j_at 182 181 = some (181, .getfield 7, 3, [704, 12, 0, 0, 0, 12]) := by decide +kernel
theorem r182_184 : j_at 182 184 = some (184, .ireturn, 1, []) := by decide +kernel
theorem b182_0 {b : Nat} {x0 : Value} {u1 : Value} {H : j_H} {Q : Option Value → j_H → Prop} (h0 : j_vc H x0 = 12) : j_wp b 182 0 [x0, u1] [] H Q = (if ¬ (j_I H (j_pa x0) 38).toInt = 0 then j_wp b 182 10 [x0, u1] [] H Q else j_wp b 182 7 [x0, u1] [] H Q) := Eq.trans (s_aload_n r182_0 rfl (j_isr_vc h0 rfl)) (Eq.trans (s_getfi r182_1 (j_al1 h0 rfl) rfl rfl rfl) (s_ifne r182_4 rfl rfl))
theorem b182_7 {b : Nat} {x0 : Value} {u1 : Value} {H : j_H} {Q : Option Value → j_H → Prop}  : j_wp b 182 7 [x0, u1] [] H Q = Q (some (.int (Int32.ofInt (-3)))) H := Eq.trans (s_bipush r182_7) (s_ireturn r182_9 (j_rok1 rfl))
theorem b182_10 {b : Nat} {x0 : Value} {u1 : Value} {H : j_H} {Q : Option Value → j_H → Prop} (h0 : j_vc H x0 = 12) : j_wp b 182 10 [x0, u1] [] H Q = j_wp b 182 18 [x0, u1] [] (j_sI H (j_pa x0) 9 (j_I H (j_pa x0) 39)) Q := Eq.trans (s_aload_n r182_10 rfl (j_isr_vc h0 rfl)) (Eq.trans (s_aload_n r182_11 rfl (j_isr_vc h0 rfl)) (Eq.trans (s_getfi r182_12 (j_al1 h0 rfl) rfl rfl rfl) (s_put r182_15 (j_al1 h0 rfl) rfl j_putI)))
theorem b182_18 {b : Nat} {x0 : Value} {u1 : Value} {H : j_H} {Q : Option Value → j_H → Prop} (h0 : j_vc H x0 = 12) : j_wp b 182 18 [x0, u1] [] H Q = j_wp b 182 26 [x0, u1] [] (j_sI H (j_pa x0) 0 (j_I H (j_pa x0) 40)) Q := Eq.trans (s_aload_n r182_18 rfl (j_isr_vc h0 rfl)) (Eq.trans (s_aload_n r182_19 rfl (j_isr_vc h0 rfl)) (Eq.trans (s_getfi r182_20 (j_al1 h0 rfl) rfl rfl rfl) (s_put r182_23 (j_al1 h0 rfl) rfl j_putI)))
theorem b182_26 {b : Nat} {x0 : Value} {u1 : Value} {H : j_H} {Q : Option Value → j_H → Prop} (h0 : j_vc H x0 = 12) : j_wp b 182 26 [x0, u1] [] H Q = j_wp b 182 34 [x0, u1] [] (j_sI H (j_pa x0) 1 (j_I H (j_pa x0) 41)) Q := Eq.trans (s_aload_n r182_26 rfl (j_isr_vc h0 rfl)) (Eq.trans (s_aload_n r182_27 rfl (j_isr_vc h0 rfl)) (Eq.trans (s_getfi r182_28 (j_al1 h0 rfl) rfl rfl rfl) (s_put r182_31 (j_al1 h0 rfl) rfl j_putI)))
theorem b182_34 {b : Nat} {x0 : Value} {u1 : Value} {H : j_H} {Q : Option Value → j_H → Prop} (h0 : j_vc H x0 = 12) : j_wp b 182 34 [x0, u1] [] H Q = j_wp b 182 42 [x0, u1] [] (j_sI H (j_pa x0) 2 (j_I H (j_pa x0) 42)) Q := Eq.trans (s_aload_n r182_34 rfl (j_isr_vc h0 rfl)) (Eq.trans (s_aload_n r182_35 rfl (j_isr_vc h0 rfl)) (Eq.trans (s_getfi r182_36 (j_al1 h0 rfl) rfl rfl rfl) (s_put r182_39 (j_al1 h0 rfl) rfl j_putI)))
theorem b182_42 {b : Nat} {x0 : Value} {u1 : Value} {H : j_H} {Q : Option Value → j_H → Prop} (h0 : j_vc H x0 = 12) : j_wp b 182 42 [x0, u1] [] H Q = j_wp b 182 50 [x0, u1] [] (j_sI H (j_pa x0) 3 (j_I H (j_pa x0) 43)) Q := Eq.trans (s_aload_n r182_42 rfl (j_isr_vc h0 rfl)) (Eq.trans (s_aload_n r182_43 rfl (j_isr_vc h0 rfl)) (Eq.trans (s_getfi r182_44 (j_al1 h0 rfl) rfl rfl rfl) (s_put r182_47 (j_al1 h0 rfl) rfl j_putI)))
theorem b182_50 {b : Nat} {x0 : Value} {u1 : Value} {H : j_H} {Q : Option Value → j_H → Prop} (h0 : j_vc H x0 = 12) : j_wp b 182 50 [x0, u1] [] H Q = j_wp b 182 58 [x0, u1] [] (j_sI H (j_pa x0) 27 (j_I H (j_pa x0) 44)) Q := Eq.trans (s_aload_n r182_50 rfl (j_isr_vc h0 rfl)) (Eq.trans (s_aload_n r182_51 rfl (j_isr_vc h0 rfl)) (Eq.trans (s_getfi r182_52 (j_al1 h0 rfl) rfl rfl rfl) (s_put r182_55 (j_al1 h0 rfl) rfl j_putI)))
theorem b182_58 {b : Nat} {x0 : Value} {u1 : Value} {H : j_H} {Q : Option Value → j_H → Prop} (h0 : j_vc H x0 = 12) : j_wp b 182 58 [x0, u1] [] H Q = j_wp b 182 66 [x0, u1] [] (j_sI H (j_pa x0) 36 (j_I H (j_pa x0) 45)) Q := Eq.trans (s_aload_n r182_58 rfl (j_isr_vc h0 rfl)) (Eq.trans (s_aload_n r182_59 rfl (j_isr_vc h0 rfl)) (Eq.trans (s_getfi r182_60 (j_al1 h0 rfl) rfl rfl rfl) (s_put r182_63 (j_al1 h0 rfl) rfl j_putI)))
theorem b182_66 {b : Nat} {x0 : Value} {u1 : Value} {H : j_H} {Q : Option Value → j_H → Prop} (h0 : j_isr x0 = true) : j_wp b 182 66 [x0, u1] [] H Q = j_wp b 182 68 [x0, .int (Int32.ofInt 0)] [] H Q := Eq.trans (s_iconst r182_66) (s_istore_n r182_67 (Nat.le_of_ble_eq_true rfl) (j_stc (j_c1r h0) rfl))
theorem b182_68 {b : Nat} {x0 : Value} {x1 : Int32} {H : j_H} {Q : Option Value → j_H → Prop}  : j_wp b 182 68 [x0, .int x1] [] H Q = (if 7 ≤ x1.toInt then j_wp b 182 116 [x0, .int x1] [] H Q else j_wp b 182 74 [x0, .int x1] [] H Q) := Eq.trans (s_iload_n r182_68 rfl) (Eq.trans (s_bipush r182_69) (s_icge r182_71 rfl rfl rfl))
theorem b182_74 {b : Nat} {x0 : Value} {x1 : Int32} {H : j_H} {Q : Option Value → j_H → Prop} (h0 : j_vc H x0 = 12) (h1 : j_vt H (va_rf (j_R H (j_pa x0) 46)) = 0) (h2 : 0 ≤ x1.toInt) (h3 : x1.toInt < ((j_vl H (va_rf (j_R H (j_pa x0) 46)) : Nat) : Int)) (h4 : j_vt H (va_rf (j_R H (j_pa x0) 4)) = 0) (h5 : x1.toInt < ((j_vl H (va_rf (j_R H (j_pa x0) 4)) : Nat) : Int)) : j_wp b 182 74 [x0, .int x1] [] H Q = j_wp b 182 86 [x0, .int x1] [] (j_sI H (j_pa (va_rf (j_R H (j_pa x0) 4))) (j_ix x1) (j_I H (j_pa (va_rf (j_R H (j_pa x0) 46))) (j_ix x1))) Q := Eq.trans (s_aload_n r182_74 rfl (j_isr_vc h0 rfl)) (Eq.trans (s_getfr r182_75 (j_al1 h0 rfl) rfl) (Eq.trans (s_iload_n r182_78 rfl) (Eq.trans (s_aload_n r182_79 rfl (j_isr_vc h0 rfl)) (Eq.trans (s_getfr r182_80 (j_al1 h0 rfl) rfl) (Eq.trans (s_iload_n r182_83 rfl) (Eq.trans (s_iald r182_84 h1 (by decide) (j_ib_of (z := x1.toInt) rfl h2 h3)) (s_iast r182_85 h4 (j_ib_of (z := x1.toInt) rfl h2 h5))))))))
theorem b182_86 {b : Nat} {x0 : Value} {x1 : Int32} {H : j_H} {Q : Option Value → j_H → Prop} (h0 : j_vc H x0 = 12) (h1 : j_vt H (va_rf (j_R H (j_pa x0) 47)) = 0) (h2 : 0 ≤ x1.toInt) (h3 : x1.toInt < ((j_vl H (va_rf (j_R H (j_pa x0) 47)) : Nat) : Int)) (h4 : j_vt H (va_rf (j_R H (j_pa x0) 5)) = 0) (h5 : x1.toInt < ((j_vl H (va_rf (j_R H (j_pa x0) 5)) : Nat) : Int)) : j_wp b 182 86 [x0, .int x1] [] H Q = j_wp b 182 98 [x0, .int x1] [] (j_sI H (j_pa (va_rf (j_R H (j_pa x0) 5))) (j_ix x1) (j_I H (j_pa (va_rf (j_R H (j_pa x0) 47))) (j_ix x1))) Q := Eq.trans (s_aload_n r182_86 rfl (j_isr_vc h0 rfl)) (Eq.trans (s_getfr r182_87 (j_al1 h0 rfl) rfl) (Eq.trans (s_iload_n r182_90 rfl) (Eq.trans (s_aload_n r182_91 rfl (j_isr_vc h0 rfl)) (Eq.trans (s_getfr r182_92 (j_al1 h0 rfl) rfl) (Eq.trans (s_iload_n r182_95 rfl) (Eq.trans (s_iald r182_96 h1 (by decide) (j_ib_of (z := x1.toInt) rfl h2 h3)) (s_iast r182_97 h4 (j_ib_of (z := x1.toInt) rfl h2 h5))))))))
theorem b182_98 {b : Nat} {x0 : Value} {x1 : Int32} {H : j_H} {Q : Option Value → j_H → Prop} (h0 : j_vc H x0 = 12) (h1 : j_vt H (va_rf (j_R H (j_pa x0) 48)) = 0) (h2 : 0 ≤ x1.toInt) (h3 : x1.toInt < ((j_vl H (va_rf (j_R H (j_pa x0) 48)) : Nat) : Int)) (h4 : j_vt H (va_rf (j_R H (j_pa x0) 6)) = 0) (h5 : x1.toInt < ((j_vl H (va_rf (j_R H (j_pa x0) 6)) : Nat) : Int)) : j_wp b 182 98 [x0, .int x1] [] H Q = j_wp b 182 110 [x0, .int x1] [] (j_sI H (j_pa (va_rf (j_R H (j_pa x0) 6))) (j_ix x1) (j_I H (j_pa (va_rf (j_R H (j_pa x0) 48))) (j_ix x1))) Q := Eq.trans (s_aload_n r182_98 rfl (j_isr_vc h0 rfl)) (Eq.trans (s_getfr r182_99 (j_al1 h0 rfl) rfl) (Eq.trans (s_iload_n r182_102 rfl) (Eq.trans (s_aload_n r182_103 rfl (j_isr_vc h0 rfl)) (Eq.trans (s_getfr r182_104 (j_al1 h0 rfl) rfl) (Eq.trans (s_iload_n r182_107 rfl) (Eq.trans (s_iald r182_108 h1 (by decide) (j_ib_of (z := x1.toInt) rfl h2 h3)) (s_iast r182_109 h4 (j_ib_of (z := x1.toInt) rfl h2 h5))))))))
theorem b182_110 {b : Nat} {x0 : Value} {x1 : Int32} {H : j_H} {Q : Option Value → j_H → Prop}  : j_wp b 182 110 [x0, .int x1] [] H Q = j_wp b 182 68 [x0, .int (x1 + Int32.ofInt 1)] [] H Q := Eq.trans (s_iinc r182_110 rfl rfl) (s_goto r182_113 rfl)
theorem b182_116 {b : Nat} {x0 : Value} {x1 : Int32} {H : j_H} {Q : Option Value → j_H → Prop} (h0 : j_isr x0 = true) : j_wp b 182 116 [x0, .int x1] [] H Q = j_wp b 182 118 [x0, .int (Int32.ofInt 0)] [] H Q := Eq.trans (s_iconst r182_116) (s_istore_n r182_117 (Nat.le_of_ble_eq_true rfl) (j_stc (j_c1r h0) rfl))
theorem b182_118 {b : Nat} {x0 : Value} {x1 : Int32} {H : j_H} {Q : Option Value → j_H → Prop}  : j_wp b 182 118 [x0, .int x1] [] H Q = (if 56 ≤ x1.toInt then j_wp b 182 142 [x0, .int x1] [] H Q else j_wp b 182 124 [x0, .int x1] [] H Q) := Eq.trans (s_iload_n r182_118 rfl) (Eq.trans (s_bipush r182_119) (s_icge r182_121 rfl rfl rfl))
theorem b182_124 {b : Nat} {x0 : Value} {x1 : Int32} {H : j_H} {Q : Option Value → j_H → Prop} (h0 : j_vc H x0 = 12) (h1 : j_vt H (va_rf (j_R H (j_pa x0) 49)) = 0) (h2 : 0 ≤ x1.toInt) (h3 : x1.toInt < ((j_vl H (va_rf (j_R H (j_pa x0) 49)) : Nat) : Int)) (h4 : j_vt H (va_rf (j_R H (j_pa x0) 7)) = 0) (h5 : x1.toInt < ((j_vl H (va_rf (j_R H (j_pa x0) 7)) : Nat) : Int)) : j_wp b 182 124 [x0, .int x1] [] H Q = j_wp b 182 136 [x0, .int x1] [] (j_sI H (j_pa (va_rf (j_R H (j_pa x0) 7))) (j_ix x1) (j_I H (j_pa (va_rf (j_R H (j_pa x0) 49))) (j_ix x1))) Q := Eq.trans (s_aload_n r182_124 rfl (j_isr_vc h0 rfl)) (Eq.trans (s_getfr r182_125 (j_al1 h0 rfl) rfl) (Eq.trans (s_iload_n r182_128 rfl) (Eq.trans (s_aload_n r182_129 rfl (j_isr_vc h0 rfl)) (Eq.trans (s_getfr r182_130 (j_al1 h0 rfl) rfl) (Eq.trans (s_iload_n r182_133 rfl) (Eq.trans (s_iald r182_134 h1 (by decide) (j_ib_of (z := x1.toInt) rfl h2 h3)) (s_iast r182_135 h4 (j_ib_of (z := x1.toInt) rfl h2 h5))))))))
theorem b182_136 {b : Nat} {x0 : Value} {x1 : Int32} {H : j_H} {Q : Option Value → j_H → Prop}  : j_wp b 182 136 [x0, .int x1] [] H Q = j_wp b 182 118 [x0, .int (x1 + Int32.ofInt 1)] [] H Q := Eq.trans (s_iinc r182_136 rfl rfl) (s_goto r182_139 rfl)
theorem b182_142 {b : Nat} {x0 : Value} {x1 : Int32} {H : j_H} {Q : Option Value → j_H → Prop} (h0 : j_isr x0 = true) : j_wp b 182 142 [x0, .int x1] [] H Q = j_wp b 182 144 [x0, .int (Int32.ofInt 0)] [] H Q := Eq.trans (s_iconst r182_142) (s_istore_n r182_143 (Nat.le_of_ble_eq_true rfl) (j_stc (j_c1r h0) rfl))
theorem b182_144 {b : Nat} {x0 : Value} {x1 : Int32} {H : j_H} {Q : Option Value → j_H → Prop}  : j_wp b 182 144 [x0, .int x1] [] H Q = (if 12 ≤ x1.toInt then j_wp b 182 180 [x0, .int x1] [] H Q else j_wp b 182 150 [x0, .int x1] [] H Q) := Eq.trans (s_iload_n r182_144 rfl) (Eq.trans (s_bipush r182_145) (s_icge r182_147 rfl rfl rfl))
theorem b182_150 {b : Nat} {x0 : Value} {x1 : Int32} {H : j_H} {Q : Option Value → j_H → Prop} (h0 : j_vc H x0 = 12) (h1 : j_vt H (va_rf (j_R H (j_pa x0) 50)) = 0) (h2 : 0 ≤ x1.toInt) (h3 : x1.toInt < ((j_vl H (va_rf (j_R H (j_pa x0) 50)) : Nat) : Int)) (h4 : j_vt H (va_rf (j_R H (j_pa x0) 28)) = 0) (h5 : x1.toInt < ((j_vl H (va_rf (j_R H (j_pa x0) 28)) : Nat) : Int)) : j_wp b 182 150 [x0, .int x1] [] H Q = j_wp b 182 162 [x0, .int x1] [] (j_sI H (j_pa (va_rf (j_R H (j_pa x0) 28))) (j_ix x1) (j_I H (j_pa (va_rf (j_R H (j_pa x0) 50))) (j_ix x1))) Q := Eq.trans (s_aload_n r182_150 rfl (j_isr_vc h0 rfl)) (Eq.trans (s_getfr r182_151 (j_al1 h0 rfl) rfl) (Eq.trans (s_iload_n r182_154 rfl) (Eq.trans (s_aload_n r182_155 rfl (j_isr_vc h0 rfl)) (Eq.trans (s_getfr r182_156 (j_al1 h0 rfl) rfl) (Eq.trans (s_iload_n r182_159 rfl) (Eq.trans (s_iald r182_160 h1 (by decide) (j_ib_of (z := x1.toInt) rfl h2 h3)) (s_iast r182_161 h4 (j_ib_of (z := x1.toInt) rfl h2 h5))))))))
theorem b182_162 {b : Nat} {x0 : Value} {x1 : Int32} {H : j_H} {Q : Option Value → j_H → Prop} (h0 : j_vc H x0 = 12) (h1 : j_vt H (va_rf (j_R H (j_pa x0) 51)) = 0) (h2 : 0 ≤ x1.toInt) (h3 : x1.toInt < ((j_vl H (va_rf (j_R H (j_pa x0) 51)) : Nat) : Int)) (h4 : j_vt H (va_rf (j_R H (j_pa x0) 37)) = 0) (h5 : x1.toInt < ((j_vl H (va_rf (j_R H (j_pa x0) 37)) : Nat) : Int)) : j_wp b 182 162 [x0, .int x1] [] H Q = j_wp b 182 174 [x0, .int x1] [] (j_sI H (j_pa (va_rf (j_R H (j_pa x0) 37))) (j_ix x1) (j_I H (j_pa (va_rf (j_R H (j_pa x0) 51))) (j_ix x1))) Q := Eq.trans (s_aload_n r182_162 rfl (j_isr_vc h0 rfl)) (Eq.trans (s_getfr r182_163 (j_al1 h0 rfl) rfl) (Eq.trans (s_iload_n r182_166 rfl) (Eq.trans (s_aload_n r182_167 rfl (j_isr_vc h0 rfl)) (Eq.trans (s_getfr r182_168 (j_al1 h0 rfl) rfl) (Eq.trans (s_iload_n r182_171 rfl) (Eq.trans (s_iald r182_172 h1 (by decide) (j_ib_of (z := x1.toInt) rfl h2 h3)) (s_iast r182_173 h4 (j_ib_of (z := x1.toInt) rfl h2 h5))))))))
theorem b182_174 {b : Nat} {x0 : Value} {x1 : Int32} {H : j_H} {Q : Option Value → j_H → Prop}  : j_wp b 182 174 [x0, .int x1] [] H Q = j_wp b 182 144 [x0, .int (x1 + Int32.ofInt 1)] [] H Q := Eq.trans (s_iinc r182_174 rfl rfl) (s_goto r182_177 rfl)
theorem b182_180 {b : Nat} {x0 : Value} {x1 : Int32} {H : j_H} {Q : Option Value → j_H → Prop} (h0 : j_vc H x0 = 12) : j_wp b 182 180 [x0, .int x1] [] H Q = Q (some (.int (j_I H (j_pa x0) 0))) H := Eq.trans (s_aload_n r182_180 rfl (j_isr_vc h0 rfl)) (Eq.trans (s_getfi r182_181 (j_al1 h0 rfl) rfl rfl rfl) (s_ireturn r182_184 (j_rok1 rfl)))
-- X12_body
theorem r183_0 : j_at 183 0 = some (0, .aload_n 0, 1, []) := by decide +kernel
theorem r183_1 : j_at 183 1 = some (1, .getfield 171, 3, [756, 12, 0, 52, 0, 12]) := by decide +kernel
theorem r183_4 : j_at 183 4 = some (4, .bipush 20, 2, []) := by decide +kernel
theorem r183_6 : j_at 183 6 = some (6, .if_icmp .ge 13, 3, []) := by decide +kernel
theorem r183_9 : j_at 183 9 = some (9, .aload_n 0, 1, []) := by decide +kernel
theorem r183_10 : j_at 183 10 = some (10, .getfield 174, 3, [757, 12, 2, 53, 0, 12]) := by decide +kernel
theorem r183_13 : j_at 183 13 = some (13, .aload_n 0, 1, []) := by decide +kernel
theorem r183_14 : j_at 183 14 = some (14, .getfield 171, 3, [756, 12, 0, 52, 0, 12]) := by decide +kernel
theorem r183_17 : j_at 183 17 = some (17, .iload_n 1, 1, []) := by decide +kernel
theorem r183_18 : j_at 183 18 = some (18, .iastore, 1, []) := by decide +kernel
theorem r183_19 : j_at 183 19 = some (19, .aload_n 0, 1, []) := by decide +kernel
theorem r183_20 : j_at 183 20 = some (20, .dup, 1, []) := by decide +kernel
theorem r183_21 : j_at 183 21 = some (21, .getfield 171, 3, [756, 12, 0, 52, 0, 12]) := by decide +kernel
theorem r183_24 : j_at 183 24 = some (24, .iconst 1, 1, []) := by decide +kernel
theorem r183_25 : j_at 183 25 = some (25, .iadd, 1, []) := by decide +kernel
theorem r183_26 : j_at 183 26 = some (26, .putfield 171, 3, [756, 12, 0, 52, 0, 0, 12]) := by decide +kernel
theorem r183_29 : j_at 183 29 = some (29, .return_, 1, []) := by decide +kernel
theorem b183_0 {b : Nat} {x0 : Value} {x1 : Int32} {H : j_H} {Q : Option Value → j_H → Prop} (h0 : j_vc H x0 = 12) : j_wp b 183 0 [x0, .int x1] [] H Q = (if 20 ≤ (j_I H (j_pa x0) 52).toInt then j_wp b 183 19 [x0, .int x1] [] H Q else j_wp b 183 9 [x0, .int x1] [] H Q) := Eq.trans (s_aload_n r183_0 rfl (j_isr_vc h0 rfl)) (Eq.trans (s_getfi r183_1 (j_al1 h0 rfl) rfl rfl rfl) (Eq.trans (s_bipush r183_4) (s_icge r183_6 rfl rfl rfl)))
theorem b183_9 {b : Nat} {x0 : Value} {x1 : Int32} {H : j_H} {Q : Option Value → j_H → Prop} (h0 : j_vc H x0 = 12) (h1 : j_vt H (va_rf (j_R H (j_pa x0) 53)) = 0) (h2 : 0 ≤ (j_I H (j_pa x0) 52).toInt) (h3 : (j_I H (j_pa x0) 52).toInt < ((j_vl H (va_rf (j_R H (j_pa x0) 53)) : Nat) : Int)) : j_wp b 183 9 [x0, .int x1] [] H Q = j_wp b 183 19 [x0, .int x1] [] (j_sI H (j_pa (va_rf (j_R H (j_pa x0) 53))) (j_ix (j_I H (j_pa x0) 52)) x1) Q := Eq.trans (s_aload_n r183_9 rfl (j_isr_vc h0 rfl)) (Eq.trans (s_getfr r183_10 (j_al1 h0 rfl) rfl) (Eq.trans (s_aload_n r183_13 rfl (j_isr_vc h0 rfl)) (Eq.trans (s_getfi r183_14 (j_al1 h0 rfl) rfl rfl rfl) (Eq.trans (s_iload_n r183_17 rfl) (s_iast r183_18 h1 (j_ib_of (z := (j_I H (j_pa x0) 52).toInt) rfl h2 h3))))))
theorem b183_19 {b : Nat} {x0 : Value} {x1 : Int32} {H : j_H} {Q : Option Value → j_H → Prop} (h0 : j_vc H x0 = 12) : j_wp b 183 19 [x0, .int x1] [] H Q = j_wp b 183 29 [x0, .int x1] [] (j_sI H (j_pa x0) 52 ((j_I H (j_pa x0) 52) + (Int32.ofInt 1))) Q := Eq.trans (s_aload_n r183_19 rfl (j_isr_vc h0 rfl)) (Eq.trans (s_dup r183_20 (j_vc_lt h0 rfl)) (Eq.trans (s_getfi r183_21 (j_al1 h0 rfl) rfl rfl rfl) (Eq.trans (s_iconst r183_24) (Eq.trans (s_iadd r183_25) (s_put r183_26 (j_al1 h0 rfl) rfl j_putI)))))
theorem b183_29 {b : Nat} {x0 : Value} {x1 : Int32} {H : j_H} {Q : Option Value → j_H → Prop}  : j_wp b 183 29 [x0, .int x1] [] H Q = Q none H := s_return r183_29 rfl
-- X12_guestSpeaks
theorem r184_0 : j_at 184 0 = some (0, .aload_n 0, 1, []) := by decide +kernel
theorem r184_1 : j_at 184 1 = some (1, .bipush 10, 2, []) := by decide +kernel
theorem r184_3 : j_at 184 3 = some (3, .invokevirtual 318, 3, [2, 2, 183, 984, 985, 64, 77, 0, 12]) := by decide +kernel
theorem r184_6 : j_at 184 6 = some (6, .iload_n 2, 1, []) := by decide +kernel
theorem r184_7 : j_at 184 7 = some (7, .iload_n 1, 1, []) := by decide +kernel
theorem r184_8 : j_at 184 8 = some (8, .iadd, 1, []) := by decide +kernel
theorem r184_9 : j_at 184 9 = some (9, .ireturn, 1, []) := by decide +kernel
theorem b184_0 {b : Nat} {x0 : Value} {x1 : Int32} {x2 : Int32} {H : j_H} {Q : Option Value → j_H → Prop} (h0 : j_vc H x0 = 12) : j_wp (b + 1) 184 0 [x0, .int x1, .int x2] [] H Q = j_wp b 183 0 [x0, .int (Int32.ofInt 10)] [] H (j_k (b + 1) 184 6 [x0, .int x1, .int x2] [] Q) := Eq.trans (s_aload_n r184_0 rfl (j_isr_vc h0 rfl)) (Eq.trans (s_bipush r184_1) (j_cll (as := [x0, .int (Int32.ofInt 10)]) (es := [x0, .int (Int32.ofInt 10)]) (s_c2 r184_3 rfl h0 rfl rfl (j_dok (s := [.int (Int32.ofInt 10), x0]) (as := [x0, .int (Int32.ofInt 10)]) (rest := []) (es := [x0, .int (Int32.ofInt 10)]) rfl rfl rfl rfl (j_slc (j_c1r (j_isr_vc h0 rfl)) rfl) rfl)) (j_slc (j_c1r (j_isr_vc h0 rfl)) rfl) rfl))
theorem b184_6 {b : Nat} {x0 : Value} {x1 : Int32} {x2 : Int32} {H : j_H} {Q : Option Value → j_H → Prop}  : j_wp b 184 6 [x0, .int x1, .int x2] [] H Q = Q (some (.int (x2 + x1))) H := Eq.trans (s_iload_n r184_6 rfl) (Eq.trans (s_iload_n r184_7 rfl) (Eq.trans (s_iadd r184_8) (s_ireturn r184_9 (j_rok1 rfl))))
-- X12_speaksAct
theorem r185_0 : j_at 185 0 = some (0, .aload_n 0, 1, []) := by decide +kernel
theorem r185_1 : j_at 185 1 = some (1, .getfield 22, 3, [708, 12, 2, 4, 0, 12]) := by decide +kernel
theorem r185_4 : j_at 185 4 = some (4, .iload_n 1, 1, []) := by decide +kernel
theorem r185_5 : j_at 185 5 = some (5, .iaload, 1, []) := by decide +kernel
theorem r185_6 : j_at 185 6 = some (6, .tableswitch 83 2 6 #[34, 83, 49, 34, 63], 34, []) := by decide +kernel
theorem r185_40 : j_at 185 40 = some (40, .aload_n 0, 1, []) := by decide +kernel
theorem r185_41 : j_at 185 41 = some (41, .bipush 30, 2, []) := by decide +kernel
theorem r185_43 : j_at 185 43 = some (43, .invokevirtual 318, 3, [2, 2, 183, 984, 985, 64, 77, 0, 12]) := by decide +kernel
theorem r185_46 : j_at 185 46 = some (46, .aload_n 0, 1, []) := by decide +kernel
theorem r185_47 : j_at 185 47 = some (47, .iload_n 1, 1, []) := by decide +kernel
theorem r185_48 : j_at 185 48 = some (48, .iload_n 2, 1, []) := by decide +kernel
theorem r185_49 : j_at 185 49 = some (49, .iconst 3, 1, []) := by decide +kernel
theorem r185_50 : j_at 185 50 = some (50, .imul, 1, []) := by decide +kernel
theorem r185_51 : j_at 185 51 = some (51, .invokevirtual 321, 3, [2, 3, 184, 986, 987, 65, 77, 0, 12]) := by decide +kernel
theorem r185_54 : j_at 185 54 = some (54, .ireturn, 1, []) := by decide +kernel
theorem r185_55 : j_at 185 55 = some (55, .aload_n 0, 1, []) := by decide +kernel
theorem r185_56 : j_at 185 56 = some (56, .bipush 50, 2, []) := by decide +kernel
theorem r185_58 : j_at 185 58 = some (58, .invokevirtual 318, 3, [2, 2, 183, 984, 985, 64, 77, 0, 12]) := by decide +kernel
theorem r185_61 : j_at 185 61 = some (61, .aload_n 0, 1, []) := by decide +kernel
theorem r185_62 : j_at 185 62 = some (62, .iload_n 1, 1, []) := by decide +kernel
theorem r185_63 : j_at 185 63 = some (63, .iload_n 2, 1, []) := by decide +kernel
theorem r185_64 : j_at 185 64 = some (64, .invokevirtual 321, 3, [2, 3, 184, 986, 987, 65, 77, 0, 12]) := by decide +kernel
theorem r185_67 : j_at 185 67 = some (67, .ineg, 1, []) := by decide +kernel
theorem r185_68 : j_at 185 68 = some (68, .ireturn, 1, []) := by decide +kernel
theorem r185_69 : j_at 185 69 = some (69, .aload_n 0, 1, []) := by decide +kernel
theorem r185_70 : j_at 185 70 = some (70, .bipush 71, 2, []) := by decide +kernel
theorem r185_72 : j_at 185 72 = some (72, .invokevirtual 318, 3, [2, 2, 183, 984, 985, 64, 77, 0, 12]) := by decide +kernel
theorem r185_75 : j_at 185 75 = some (75, .aload_n 0, 1, []) := by decide +kernel
theorem r185_76 : j_at 185 76 = some (76, .iload_n 1, 1, []) := by decide +kernel
theorem r185_77 : j_at 185 77 = some (77, .iload_n 2, 1, []) := by decide +kernel
theorem r185_78 : j_at 185 78 = some (78, .invokevirtual 321, 3, [2, 3, 184, 986, 987, 65, 77, 0, 12]) := by decide +kernel
theorem r185_81 : j_at 185 81 = some (81, .aload_n 0, 1, []) := by decide +kernel
theorem r185_82 : j_at 185 82 = some (82, .getfield 26, 3, [709, 12, 2, 5, 0, 12]) := by decide +kernel
theorem r185_85 : j_at 185 85 = some (85, .iload_n 1, 1, []) := by decide +kernel
theorem r185_86 : j_at 185 86 = some (86, .iaload, 1, []) := by decide +kernel
theorem r185_87 : j_at 185 87 = some (87, .ixor, 1, []) := by decide +kernel
theorem r185_88 : j_at 185 88 = some (88, .ireturn, 1, []) := by decide +kernel
theorem r185_89 : j_at 185 89 = some (89, .aload_n 0, 1, []) := by decide +kernel
theorem r185_90 : j_at 185 90 = some (90, .iload_n 1, 1, []) := by decide +kernel
theorem r185_91 : j_at 185 91 = some (91, .iload_n 2, 1, []) := by decide +kernel
theorem r185_92 : j_at 185 92 = some (92, .invokevirtual 321, 3, [2, 3, 184, 986, 987, 65, 77, 0, 12]) := by decide +kernel
theorem r185_95 : j_at 185 95 = some (95, .ireturn, 1, []) := by decide +kernel
theorem b185_0 {b : Nat} {x0 : Value} {x1 : Int32} {x2 : Int32} {H : j_H} {Q : Option Value → j_H → Prop} (h0 : j_vc H x0 = 12) (h1 : j_vt H (va_rf (j_R H (j_pa x0) 4)) = 0) (h2 : 0 ≤ x1.toInt) (h3 : x1.toInt < ((j_vl H (va_rf (j_R H (j_pa x0) 4)) : Nat) : Int)) : j_wp b 185 0 [x0, .int x1, .int x2] [] H Q = (if (j_I H (j_pa (va_rf (j_R H (j_pa x0) 4))) (j_ix x1)).toInt = 2 then j_wp b 185 40 [x0, .int x1, .int x2] [] H Q else if (j_I H (j_pa (va_rf (j_R H (j_pa x0) 4))) (j_ix x1)).toInt = 4 then j_wp b 185 55 [x0, .int x1, .int x2] [] H Q else if (j_I H (j_pa (va_rf (j_R H (j_pa x0) 4))) (j_ix x1)).toInt = 5 then j_wp b 185 40 [x0, .int x1, .int x2] [] H Q else if (j_I H (j_pa (va_rf (j_R H (j_pa x0) 4))) (j_ix x1)).toInt = 6 then j_wp b 185 69 [x0, .int x1, .int x2] [] H Q else j_wp b 185 89 [x0, .int x1, .int x2] [] H Q) := Eq.trans (s_aload_n r185_0 rfl (j_isr_vc h0 rfl)) (Eq.trans (s_getfr r185_1 (j_al1 h0 rfl) rfl) (Eq.trans (s_iload_n r185_4 rfl) (Eq.trans (s_iald r185_5 h1 (by decide) (j_ib_of (z := x1.toInt) rfl h2 h3)) (j_ite (fun h => s_tsw r185_6 (by rw [h]; rfl)) (fun h102 => j_ite (fun h => s_tsw r185_6 (by rw [h]; rfl)) (fun h104 => j_ite (fun h => s_tsw r185_6 (by rw [h]; rfl)) (fun h105 => j_ite (fun h => s_tsw r185_6 (by rw [h]; rfl)) (fun h106 => s_tsw r185_6 (by
    have h : (j_I H (j_pa (va_rf (j_R H (j_pa x0) 4))) (j_ix x1)).toInt < 2 ∨ 6 < (j_I H (j_pa (va_rf (j_R H (j_pa x0) 4))) (j_ix x1)).toInt  ∨ (j_I H (j_pa (va_rf (j_R H (j_pa x0) 4))) (j_ix x1)).toInt = 3 := by omega
    rcases h with h | h | h
    · rw [if_neg (by omega), j_sw, if_pos h]; rfl
    · rw [if_pos h]; rfl
    · rw [h]; rfl)))))))))
theorem b185_40 {b : Nat} {x0 : Value} {x1 : Int32} {x2 : Int32} {H : j_H} {Q : Option Value → j_H → Prop} (h0 : j_vc H x0 = 12) : j_wp (b + 1) 185 40 [x0, .int x1, .int x2] [] H Q = j_wp b 183 0 [x0, .int (Int32.ofInt 30)] [] H (j_k (b + 1) 185 46 [x0, .int x1, .int x2] [] Q) := Eq.trans (s_aload_n r185_40 rfl (j_isr_vc h0 rfl)) (Eq.trans (s_bipush r185_41) (j_cll (as := [x0, .int (Int32.ofInt 30)]) (es := [x0, .int (Int32.ofInt 30)]) (s_c2 r185_43 rfl h0 rfl rfl (j_dok (s := [.int (Int32.ofInt 30), x0]) (as := [x0, .int (Int32.ofInt 30)]) (rest := []) (es := [x0, .int (Int32.ofInt 30)]) rfl rfl rfl rfl (j_slc (j_c1r (j_isr_vc h0 rfl)) rfl) rfl)) (j_slc (j_c1r (j_isr_vc h0 rfl)) rfl) rfl))
theorem b185_46 {b : Nat} {x0 : Value} {x1 : Int32} {x2 : Int32} {H : j_H} {Q : Option Value → j_H → Prop} (h0 : j_vc H x0 = 12) : j_wp (b + 1) 185 46 [x0, .int x1, .int x2] [] H Q = j_wp b 184 0 [x0, .int x1, .int (x2 * (Int32.ofInt 3))] [] H (j_k (b + 1) 185 54 [x0, .int x1, .int x2] [] Q) := Eq.trans (s_aload_n r185_46 rfl (j_isr_vc h0 rfl)) (Eq.trans (s_iload_n r185_47 rfl) (Eq.trans (s_iload_n r185_48 rfl) (Eq.trans (s_iconst r185_49) (Eq.trans (s_imul r185_50) (j_cll (as := [x0, .int x1, .int (x2 * (Int32.ofInt 3))]) (es := [x0, .int x1, .int (x2 * (Int32.ofInt 3))]) (s_c2 r185_51 rfl h0 rfl rfl (j_dok (s := [.int (x2 * (Int32.ofInt 3)), .int x1, x0]) (as := [x0, .int x1, .int (x2 * (Int32.ofInt 3))]) (rest := []) (es := [x0, .int x1, .int (x2 * (Int32.ofInt 3))]) rfl rfl rfl rfl (j_slc (j_c1r (j_isr_vc h0 rfl)) rfl) rfl)) (j_slc (j_c1r (j_isr_vc h0 rfl)) rfl) rfl)))))
theorem b185_54 {b : Nat} {x0 : Value} {x1 : Int32} {x2 : Int32} {y0 : Int32} {H : j_H} {Q : Option Value → j_H → Prop}  : j_wp b 185 54 [x0, .int x1, .int x2] [.int y0] H Q = Q (some (.int y0)) H := s_ireturn r185_54 (j_rok1 rfl)
theorem b185_55 {b : Nat} {x0 : Value} {x1 : Int32} {x2 : Int32} {H : j_H} {Q : Option Value → j_H → Prop} (h0 : j_vc H x0 = 12) : j_wp (b + 1) 185 55 [x0, .int x1, .int x2] [] H Q = j_wp b 183 0 [x0, .int (Int32.ofInt 50)] [] H (j_k (b + 1) 185 61 [x0, .int x1, .int x2] [] Q) := Eq.trans (s_aload_n r185_55 rfl (j_isr_vc h0 rfl)) (Eq.trans (s_bipush r185_56) (j_cll (as := [x0, .int (Int32.ofInt 50)]) (es := [x0, .int (Int32.ofInt 50)]) (s_c2 r185_58 rfl h0 rfl rfl (j_dok (s := [.int (Int32.ofInt 50), x0]) (as := [x0, .int (Int32.ofInt 50)]) (rest := []) (es := [x0, .int (Int32.ofInt 50)]) rfl rfl rfl rfl (j_slc (j_c1r (j_isr_vc h0 rfl)) rfl) rfl)) (j_slc (j_c1r (j_isr_vc h0 rfl)) rfl) rfl))
theorem b185_61 {b : Nat} {x0 : Value} {x1 : Int32} {x2 : Int32} {H : j_H} {Q : Option Value → j_H → Prop} (h0 : j_vc H x0 = 12) : j_wp (b + 1) 185 61 [x0, .int x1, .int x2] [] H Q = j_wp b 184 0 [x0, .int x1, .int x2] [] H (j_k (b + 1) 185 67 [x0, .int x1, .int x2] [] Q) := Eq.trans (s_aload_n r185_61 rfl (j_isr_vc h0 rfl)) (Eq.trans (s_iload_n r185_62 rfl) (Eq.trans (s_iload_n r185_63 rfl) (j_cll (as := [x0, .int x1, .int x2]) (es := [x0, .int x1, .int x2]) (s_c2 r185_64 rfl h0 rfl rfl (j_dok (s := [.int x2, .int x1, x0]) (as := [x0, .int x1, .int x2]) (rest := []) (es := [x0, .int x1, .int x2]) rfl rfl rfl rfl (j_slc (j_c1r (j_isr_vc h0 rfl)) rfl) rfl)) (j_slc (j_c1r (j_isr_vc h0 rfl)) rfl) rfl)))
theorem b185_67 {b : Nat} {x0 : Value} {x1 : Int32} {x2 : Int32} {y0 : Int32} {H : j_H} {Q : Option Value → j_H → Prop}  : j_wp b 185 67 [x0, .int x1, .int x2] [.int y0] H Q = Q (some (.int (-y0))) H := Eq.trans (s_ineg r185_67) (s_ireturn r185_68 (j_rok1 rfl))
theorem b185_69 {b : Nat} {x0 : Value} {x1 : Int32} {x2 : Int32} {H : j_H} {Q : Option Value → j_H → Prop} (h0 : j_vc H x0 = 12) : j_wp (b + 1) 185 69 [x0, .int x1, .int x2] [] H Q = j_wp b 183 0 [x0, .int (Int32.ofInt 71)] [] H (j_k (b + 1) 185 75 [x0, .int x1, .int x2] [] Q) := Eq.trans (s_aload_n r185_69 rfl (j_isr_vc h0 rfl)) (Eq.trans (s_bipush r185_70) (j_cll (as := [x0, .int (Int32.ofInt 71)]) (es := [x0, .int (Int32.ofInt 71)]) (s_c2 r185_72 rfl h0 rfl rfl (j_dok (s := [.int (Int32.ofInt 71), x0]) (as := [x0, .int (Int32.ofInt 71)]) (rest := []) (es := [x0, .int (Int32.ofInt 71)]) rfl rfl rfl rfl (j_slc (j_c1r (j_isr_vc h0 rfl)) rfl) rfl)) (j_slc (j_c1r (j_isr_vc h0 rfl)) rfl) rfl))
theorem b185_75 {b : Nat} {x0 : Value} {x1 : Int32} {x2 : Int32} {H : j_H} {Q : Option Value → j_H → Prop} (h0 : j_vc H x0 = 12) : j_wp (b + 1) 185 75 [x0, .int x1, .int x2] [] H Q = j_wp b 184 0 [x0, .int x1, .int x2] [] H (j_k (b + 1) 185 81 [x0, .int x1, .int x2] [] Q) := Eq.trans (s_aload_n r185_75 rfl (j_isr_vc h0 rfl)) (Eq.trans (s_iload_n r185_76 rfl) (Eq.trans (s_iload_n r185_77 rfl) (j_cll (as := [x0, .int x1, .int x2]) (es := [x0, .int x1, .int x2]) (s_c2 r185_78 rfl h0 rfl rfl (j_dok (s := [.int x2, .int x1, x0]) (as := [x0, .int x1, .int x2]) (rest := []) (es := [x0, .int x1, .int x2]) rfl rfl rfl rfl (j_slc (j_c1r (j_isr_vc h0 rfl)) rfl) rfl)) (j_slc (j_c1r (j_isr_vc h0 rfl)) rfl) rfl)))
theorem b185_81 {b : Nat} {x0 : Value} {x1 : Int32} {x2 : Int32} {y0 : Int32} {H : j_H} {Q : Option Value → j_H → Prop} (h0 : j_vc H x0 = 12) (h1 : j_vt H (va_rf (j_R H (j_pa x0) 5)) = 0) (h2 : 0 ≤ x1.toInt) (h3 : x1.toInt < ((j_vl H (va_rf (j_R H (j_pa x0) 5)) : Nat) : Int)) : j_wp b 185 81 [x0, .int x1, .int x2] [.int y0] H Q = Q (some (.int (y0 ^^^ (j_I H (j_pa (va_rf (j_R H (j_pa x0) 5))) (j_ix x1))))) H := Eq.trans (s_aload_n r185_81 rfl (j_isr_vc h0 rfl)) (Eq.trans (s_getfr r185_82 (j_al1 h0 rfl) rfl) (Eq.trans (s_iload_n r185_85 rfl) (Eq.trans (s_iald r185_86 h1 (by decide) (j_ib_of (z := x1.toInt) rfl h2 h3)) (Eq.trans (s_ixor r185_87) (s_ireturn r185_88 (j_rok1 rfl))))))
theorem b185_89 {b : Nat} {x0 : Value} {x1 : Int32} {x2 : Int32} {H : j_H} {Q : Option Value → j_H → Prop} (h0 : j_vc H x0 = 12) : j_wp (b + 1) 185 89 [x0, .int x1, .int x2] [] H Q = j_wp b 184 0 [x0, .int x1, .int x2] [] H (j_k (b + 1) 185 95 [x0, .int x1, .int x2] [] Q) := Eq.trans (s_aload_n r185_89 rfl (j_isr_vc h0 rfl)) (Eq.trans (s_iload_n r185_90 rfl) (Eq.trans (s_iload_n r185_91 rfl) (j_cll (as := [x0, .int x1, .int x2]) (es := [x0, .int x1, .int x2]) (s_c2 r185_92 rfl h0 rfl rfl (j_dok (s := [.int x2, .int x1, x0]) (as := [x0, .int x1, .int x2]) (rest := []) (es := [x0, .int x1, .int x2]) rfl rfl rfl rfl (j_slc (j_c1r (j_isr_vc h0 rfl)) rfl) rfl)) (j_slc (j_c1r (j_isr_vc h0 rfl)) rfl) rfl)))
theorem b185_95 {b : Nat} {x0 : Value} {x1 : Int32} {x2 : Int32} {y0 : Int32} {H : j_H} {Q : Option Value → j_H → Prop}  : j_wp b 185 95 [x0, .int x1, .int x2] [.int y0] H Q = Q (some (.int y0)) H := s_ireturn r185_95 (j_rok1 rfl)
-- X12_guestPasses
theorem r186_0 : j_at 186 0 = some (0, .aload_n 0, 1, []) := by decide +kernel
theorem r186_1 : j_at 186 1 = some (1, .bipush 11, 2, []) := by decide +kernel
theorem r186_3 : j_at 186 3 = some (3, .invokevirtual 318, 3, [2, 2, 183, 984, 985, 64, 77, 0, 12]) := by decide +kernel
theorem r186_6 : j_at 186 6 = some (6, .aload_n 0, 1, []) := by decide +kernel
theorem r186_7 : j_at 186 7 = some (7, .iload_n 1, 1, []) := by decide +kernel
theorem r186_8 : j_at 186 8 = some (8, .iload_n 2, 1, []) := by decide +kernel
theorem r186_9 : j_at 186 9 = some (9, .invokevirtual 324, 3, [2, 3, 185, 982, 983, 63, 77, 0, 12]) := by decide +kernel
theorem r186_12 : j_at 186 12 = some (12, .aload_n 0, 1, []) := by decide +kernel
theorem r186_13 : j_at 186 13 = some (13, .getfield 26, 3, [709, 12, 2, 5, 0, 12]) := by decide +kernel
theorem r186_16 : j_at 186 16 = some (16, .iload_n 1, 1, []) := by decide +kernel
theorem r186_17 : j_at 186 17 = some (17, .iaload, 1, []) := by decide +kernel
theorem r186_18 : j_at 186 18 = some (18, .isub, 1, []) := by decide +kernel
theorem r186_19 : j_at 186 19 = some (19, .ireturn, 1, []) := by decide +kernel
theorem b186_0 {b : Nat} {x0 : Value} {x1 : Int32} {x2 : Int32} {H : j_H} {Q : Option Value → j_H → Prop} (h0 : j_vc H x0 = 12) : j_wp (b + 1) 186 0 [x0, .int x1, .int x2] [] H Q = j_wp b 183 0 [x0, .int (Int32.ofInt 11)] [] H (j_k (b + 1) 186 6 [x0, .int x1, .int x2] [] Q) := Eq.trans (s_aload_n r186_0 rfl (j_isr_vc h0 rfl)) (Eq.trans (s_bipush r186_1) (j_cll (as := [x0, .int (Int32.ofInt 11)]) (es := [x0, .int (Int32.ofInt 11)]) (s_c2 r186_3 rfl h0 rfl rfl (j_dok (s := [.int (Int32.ofInt 11), x0]) (as := [x0, .int (Int32.ofInt 11)]) (rest := []) (es := [x0, .int (Int32.ofInt 11)]) rfl rfl rfl rfl (j_slc (j_c1r (j_isr_vc h0 rfl)) rfl) rfl)) (j_slc (j_c1r (j_isr_vc h0 rfl)) rfl) rfl))
theorem b186_6 {b : Nat} {x0 : Value} {x1 : Int32} {x2 : Int32} {H : j_H} {Q : Option Value → j_H → Prop} (h0 : j_vc H x0 = 12) : j_wp (b + 1) 186 6 [x0, .int x1, .int x2] [] H Q = j_wp b 185 0 [x0, .int x1, .int x2] [] H (j_k (b + 1) 186 12 [x0, .int x1, .int x2] [] Q) := Eq.trans (s_aload_n r186_6 rfl (j_isr_vc h0 rfl)) (Eq.trans (s_iload_n r186_7 rfl) (Eq.trans (s_iload_n r186_8 rfl) (j_cll (as := [x0, .int x1, .int x2]) (es := [x0, .int x1, .int x2]) (s_c2 r186_9 rfl h0 rfl rfl (j_dok (s := [.int x2, .int x1, x0]) (as := [x0, .int x1, .int x2]) (rest := []) (es := [x0, .int x1, .int x2]) rfl rfl rfl rfl (j_slc (j_c1r (j_isr_vc h0 rfl)) rfl) rfl)) (j_slc (j_c1r (j_isr_vc h0 rfl)) rfl) rfl)))
theorem b186_12 {b : Nat} {x0 : Value} {x1 : Int32} {x2 : Int32} {y0 : Int32} {H : j_H} {Q : Option Value → j_H → Prop} (h0 : j_vc H x0 = 12) (h1 : j_vt H (va_rf (j_R H (j_pa x0) 5)) = 0) (h2 : 0 ≤ x1.toInt) (h3 : x1.toInt < ((j_vl H (va_rf (j_R H (j_pa x0) 5)) : Nat) : Int)) : j_wp b 186 12 [x0, .int x1, .int x2] [.int y0] H Q = Q (some (.int (y0 - (j_I H (j_pa (va_rf (j_R H (j_pa x0) 5))) (j_ix x1))))) H := Eq.trans (s_aload_n r186_12 rfl (j_isr_vc h0 rfl)) (Eq.trans (s_getfr r186_13 (j_al1 h0 rfl) rfl) (Eq.trans (s_iload_n r186_16 rfl) (Eq.trans (s_iald r186_17 h1 (by decide) (j_ib_of (z := x1.toInt) rfl h2 h3)) (Eq.trans (s_isub r186_18) (s_ireturn r186_19 (j_rok1 rfl))))))
-- X12_liarPasses
theorem r187_0 : j_at 187 0 = some (0, .aload_n 0, 1, []) := by decide +kernel
theorem r187_1 : j_at 187 1 = some (1, .bipush 20, 2, []) := by decide +kernel
theorem r187_3 : j_at 187 3 = some (3, .invokevirtual 318, 3, [2, 2, 183, 984, 985, 64, 77, 0, 12]) := by decide +kernel
theorem r187_6 : j_at 187 6 = some (6, .aload_n 0, 1, []) := by decide +kernel
theorem r187_7 : j_at 187 7 = some (7, .iload_n 1, 1, []) := by decide +kernel
theorem r187_8 : j_at 187 8 = some (8, .iload_n 2, 1, []) := by decide +kernel
theorem r187_9 : j_at 187 9 = some (9, .invokevirtual 327, 3, [2, 3, 186, 992, 993, 68, 77, 0, 12]) := by decide +kernel
theorem r187_12 : j_at 187 12 = some (12, .bipush 6, 2, []) := by decide +kernel
theorem r187_14 : j_at 187 14 = some (14, .ixor, 1, []) := by decide +kernel
theorem r187_15 : j_at 187 15 = some (15, .ireturn, 1, []) := by decide +kernel
theorem b187_0 {b : Nat} {x0 : Value} {x1 : Int32} {x2 : Int32} {H : j_H} {Q : Option Value → j_H → Prop} (h0 : j_vc H x0 = 12) : j_wp (b + 1) 187 0 [x0, .int x1, .int x2] [] H Q = j_wp b 183 0 [x0, .int (Int32.ofInt 20)] [] H (j_k (b + 1) 187 6 [x0, .int x1, .int x2] [] Q) := Eq.trans (s_aload_n r187_0 rfl (j_isr_vc h0 rfl)) (Eq.trans (s_bipush r187_1) (j_cll (as := [x0, .int (Int32.ofInt 20)]) (es := [x0, .int (Int32.ofInt 20)]) (s_c2 r187_3 rfl h0 rfl rfl (j_dok (s := [.int (Int32.ofInt 20), x0]) (as := [x0, .int (Int32.ofInt 20)]) (rest := []) (es := [x0, .int (Int32.ofInt 20)]) rfl rfl rfl rfl (j_slc (j_c1r (j_isr_vc h0 rfl)) rfl) rfl)) (j_slc (j_c1r (j_isr_vc h0 rfl)) rfl) rfl))
theorem b187_6 {b : Nat} {x0 : Value} {x1 : Int32} {x2 : Int32} {H : j_H} {Q : Option Value → j_H → Prop} (h0 : j_vc H x0 = 12) : j_wp (b + 1) 187 6 [x0, .int x1, .int x2] [] H Q = j_wp b 186 0 [x0, .int x1, .int x2] [] H (j_k (b + 1) 187 12 [x0, .int x1, .int x2] [] Q) := Eq.trans (s_aload_n r187_6 rfl (j_isr_vc h0 rfl)) (Eq.trans (s_iload_n r187_7 rfl) (Eq.trans (s_iload_n r187_8 rfl) (j_cll (as := [x0, .int x1, .int x2]) (es := [x0, .int x1, .int x2]) (s_c2 r187_9 rfl h0 rfl rfl (j_dok (s := [.int x2, .int x1, x0]) (as := [x0, .int x1, .int x2]) (rest := []) (es := [x0, .int x1, .int x2]) rfl rfl rfl rfl (j_slc (j_c1r (j_isr_vc h0 rfl)) rfl) rfl)) (j_slc (j_c1r (j_isr_vc h0 rfl)) rfl) rfl)))
theorem b187_12 {b : Nat} {x0 : Value} {x1 : Int32} {x2 : Int32} {y0 : Int32} {H : j_H} {Q : Option Value → j_H → Prop}  : j_wp b 187 12 [x0, .int x1, .int x2] [.int y0] H Q = Q (some (.int (y0 ^^^ (Int32.ofInt 6)))) H := Eq.trans (s_bipush r187_12) (Eq.trans (s_ixor r187_14) (s_ireturn r187_15 (j_rok1 rfl)))
-- X12_passesAct
theorem r188_0 : j_at 188 0 = some (0, .aload_n 0, 1, []) := by decide +kernel
theorem r188_1 : j_at 188 1 = some (1, .getfield 22, 3, [708, 12, 2, 4, 0, 12]) := by decide +kernel
theorem r188_4 : j_at 188 4 = some (4, .iload_n 1, 1, []) := by decide +kernel
theorem r188_5 : j_at 188 5 = some (5, .iaload, 1, []) := by decide +kernel
theorem r188_6 : j_at 188 6 = some (6, .lookupswitch 78 #[(1, 34), (4, 41), (6, 56)], 34, []) := by decide +kernel
theorem r188_40 : j_at 188 40 = some (40, .aload_n 0, 1, []) := by decide +kernel
theorem r188_41 : j_at 188 41 = some (41, .iload_n 1, 1, []) := by decide +kernel
theorem r188_42 : j_at 188 42 = some (42, .iload_n 2, 1, []) := by decide +kernel
theorem r188_43 : j_at 188 43 = some (43, .invokevirtual 330, 3, [2, 3, 187, 990, 991, 67, 77, 0, 12]) := by decide +kernel
theorem r188_46 : j_at 188 46 = some (46, .ireturn, 1, []) := by decide +kernel
theorem r188_47 : j_at 188 47 = some (47, .aload_n 0, 1, []) := by decide +kernel
theorem r188_48 : j_at 188 48 = some (48, .bipush 51, 2, []) := by decide +kernel
theorem r188_50 : j_at 188 50 = some (50, .invokevirtual 318, 3, [2, 2, 183, 984, 985, 64, 77, 0, 12]) := by decide +kernel
theorem r188_53 : j_at 188 53 = some (53, .aload_n 0, 1, []) := by decide +kernel
theorem r188_54 : j_at 188 54 = some (54, .iload_n 1, 1, []) := by decide +kernel
theorem r188_55 : j_at 188 55 = some (55, .iload_n 2, 1, []) := by decide +kernel
theorem r188_56 : j_at 188 56 = some (56, .iconst 1, 1, []) := by decide +kernel
theorem r188_57 : j_at 188 57 = some (57, .iadd, 1, []) := by decide +kernel
theorem r188_58 : j_at 188 58 = some (58, .invokevirtual 330, 3, [2, 3, 187, 990, 991, 67, 77, 0, 12]) := by decide +kernel
theorem r188_61 : j_at 188 61 = some (61, .ireturn, 1, []) := by decide +kernel
theorem r188_62 : j_at 188 62 = some (62, .aload_n 0, 1, []) := by decide +kernel
theorem r188_63 : j_at 188 63 = some (63, .bipush 70, 2, []) := by decide +kernel
theorem r188_65 : j_at 188 65 = some (65, .invokevirtual 318, 3, [2, 2, 183, 984, 985, 64, 77, 0, 12]) := by decide +kernel
theorem r188_68 : j_at 188 68 = some (68, .aload_n 0, 1, []) := by decide +kernel
theorem r188_69 : j_at 188 69 = some (69, .iload_n 1, 1, []) := by decide +kernel
theorem r188_70 : j_at 188 70 = some (70, .iload_n 2, 1, []) := by decide +kernel
theorem r188_71 : j_at 188 71 = some (71, .invokevirtual 327, 3, [2, 3, 186, 992, 993, 68, 77, 0, 12]) := by decide +kernel
theorem r188_74 : j_at 188 74 = some (74, .istore_n 3, 1, []) := by decide +kernel
theorem r188_75 : j_at 188 75 = some (75, .iload_n 3, 1, []) := by decide +kernel
theorem r188_76 : j_at 188 76 = some (76, .aload_n 0, 1, []) := by decide +kernel
theorem r188_77 : j_at 188 77 = some (77, .iload_n 1, 1, []) := by decide +kernel
theorem r188_78 : j_at 188 78 = some (78, .iconst 2, 1, []) := by decide +kernel
theorem r188_79 : j_at 188 79 = some (79, .invokevirtual 321, 3, [2, 3, 184, 986, 987, 65, 77, 0, 12]) := by decide +kernel
theorem r188_82 : j_at 188 82 = some (82, .iadd, 1, []) := by decide +kernel
theorem r188_83 : j_at 188 83 = some (83, .ireturn, 1, []) := by decide +kernel
theorem r188_84 : j_at 188 84 = some (84, .aload_n 0, 1, []) := by decide +kernel
theorem r188_85 : j_at 188 85 = some (85, .iload_n 1, 1, []) := by decide +kernel
theorem r188_86 : j_at 188 86 = some (86, .iload_n 2, 1, []) := by decide +kernel
theorem r188_87 : j_at 188 87 = some (87, .invokevirtual 327, 3, [2, 3, 186, 992, 993, 68, 77, 0, 12]) := by decide +kernel
theorem r188_90 : j_at 188 90 = some (90, .ireturn, 1, []) := by decide +kernel
theorem b188_0 {b : Nat} {x0 : Value} {x1 : Int32} {x2 : Int32} {u3 : Value} {H : j_H} {Q : Option Value → j_H → Prop} (h0 : j_vc H x0 = 12) (h1 : j_vt H (va_rf (j_R H (j_pa x0) 4)) = 0) (h2 : 0 ≤ x1.toInt) (h3 : x1.toInt < ((j_vl H (va_rf (j_R H (j_pa x0) 4)) : Nat) : Int)) : j_wp b 188 0 [x0, .int x1, .int x2, u3] [] H Q = (if (j_I H (j_pa (va_rf (j_R H (j_pa x0) 4))) (j_ix x1)).toInt = 1 then j_wp b 188 40 [x0, .int x1, .int x2, u3] [] H Q else if (j_I H (j_pa (va_rf (j_R H (j_pa x0) 4))) (j_ix x1)).toInt = 4 then j_wp b 188 47 [x0, .int x1, .int x2, u3] [] H Q else if (j_I H (j_pa (va_rf (j_R H (j_pa x0) 4))) (j_ix x1)).toInt = 6 then j_wp b 188 62 [x0, .int x1, .int x2, u3] [] H Q else j_wp b 188 84 [x0, .int x1, .int x2, u3] [] H Q) := Eq.trans (s_aload_n r188_0 rfl (j_isr_vc h0 rfl)) (Eq.trans (s_getfr r188_1 (j_al1 h0 rfl) rfl) (Eq.trans (s_iload_n r188_4 rfl) (Eq.trans (s_iald r188_5 h1 (by decide) (j_ib_of (z := x1.toInt) rfl h2 h3)) (j_ite (fun h => s_lsw r188_6 (by rw [h]; rfl)) (fun h101 => j_ite (fun h => s_lsw r188_6 (by rw [h]; rfl)) (fun h104 => j_ite (fun h => s_lsw r188_6 (by rw [h]; rfl)) (fun h106 => s_lsw r188_6 (by simp only [j_lk]; rw [if_neg h101, if_neg h104, if_neg h106]; rfl))))))))
theorem b188_40 {b : Nat} {x0 : Value} {x1 : Int32} {x2 : Int32} {u3 : Value} {H : j_H} {Q : Option Value → j_H → Prop} (h0 : j_vc H x0 = 12) : j_wp (b + 1) 188 40 [x0, .int x1, .int x2, u3] [] H Q = j_wp b 187 0 [x0, .int x1, .int x2] [] H (j_k (b + 1) 188 46 [x0, .int x1, .int x2, u3] [] Q) := Eq.trans (s_aload_n r188_40 rfl (j_isr_vc h0 rfl)) (Eq.trans (s_iload_n r188_41 rfl) (Eq.trans (s_iload_n r188_42 rfl) (j_cll (as := [x0, .int x1, .int x2]) (es := [x0, .int x1, .int x2]) (s_c2 r188_43 rfl h0 rfl rfl (j_dok (s := [.int x2, .int x1, x0]) (as := [x0, .int x1, .int x2]) (rest := []) (es := [x0, .int x1, .int x2]) rfl rfl rfl rfl (j_slc (j_c1r (j_isr_vc h0 rfl)) rfl) rfl)) (j_slc (j_c1r (j_isr_vc h0 rfl)) rfl) rfl)))
theorem b188_46 {b : Nat} {x0 : Value} {x1 : Int32} {x2 : Int32} {u3 : Value} {y0 : Int32} {H : j_H} {Q : Option Value → j_H → Prop}  : j_wp b 188 46 [x0, .int x1, .int x2, u3] [.int y0] H Q = Q (some (.int y0)) H := s_ireturn r188_46 (j_rok1 rfl)
theorem b188_47 {b : Nat} {x0 : Value} {x1 : Int32} {x2 : Int32} {u3 : Value} {H : j_H} {Q : Option Value → j_H → Prop} (h0 : j_vc H x0 = 12) : j_wp (b + 1) 188 47 [x0, .int x1, .int x2, u3] [] H Q = j_wp b 183 0 [x0, .int (Int32.ofInt 51)] [] H (j_k (b + 1) 188 53 [x0, .int x1, .int x2, u3] [] Q) := Eq.trans (s_aload_n r188_47 rfl (j_isr_vc h0 rfl)) (Eq.trans (s_bipush r188_48) (j_cll (as := [x0, .int (Int32.ofInt 51)]) (es := [x0, .int (Int32.ofInt 51)]) (s_c2 r188_50 rfl h0 rfl rfl (j_dok (s := [.int (Int32.ofInt 51), x0]) (as := [x0, .int (Int32.ofInt 51)]) (rest := []) (es := [x0, .int (Int32.ofInt 51)]) rfl rfl rfl rfl (j_slc (j_c1r (j_isr_vc h0 rfl)) rfl) rfl)) (j_slc (j_c1r (j_isr_vc h0 rfl)) rfl) rfl))
theorem b188_53 {b : Nat} {x0 : Value} {x1 : Int32} {x2 : Int32} {u3 : Value} {H : j_H} {Q : Option Value → j_H → Prop} (h0 : j_vc H x0 = 12) : j_wp (b + 1) 188 53 [x0, .int x1, .int x2, u3] [] H Q = j_wp b 187 0 [x0, .int x1, .int (x2 + (Int32.ofInt 1))] [] H (j_k (b + 1) 188 61 [x0, .int x1, .int x2, u3] [] Q) := Eq.trans (s_aload_n r188_53 rfl (j_isr_vc h0 rfl)) (Eq.trans (s_iload_n r188_54 rfl) (Eq.trans (s_iload_n r188_55 rfl) (Eq.trans (s_iconst r188_56) (Eq.trans (s_iadd r188_57) (j_cll (as := [x0, .int x1, .int (x2 + (Int32.ofInt 1))]) (es := [x0, .int x1, .int (x2 + (Int32.ofInt 1))]) (s_c2 r188_58 rfl h0 rfl rfl (j_dok (s := [.int (x2 + (Int32.ofInt 1)), .int x1, x0]) (as := [x0, .int x1, .int (x2 + (Int32.ofInt 1))]) (rest := []) (es := [x0, .int x1, .int (x2 + (Int32.ofInt 1))]) rfl rfl rfl rfl (j_slc (j_c1r (j_isr_vc h0 rfl)) rfl) rfl)) (j_slc (j_c1r (j_isr_vc h0 rfl)) rfl) rfl)))))
theorem b188_61 {b : Nat} {x0 : Value} {x1 : Int32} {x2 : Int32} {u3 : Value} {y0 : Int32} {H : j_H} {Q : Option Value → j_H → Prop}  : j_wp b 188 61 [x0, .int x1, .int x2, u3] [.int y0] H Q = Q (some (.int y0)) H := s_ireturn r188_61 (j_rok1 rfl)
theorem b188_62 {b : Nat} {x0 : Value} {x1 : Int32} {x2 : Int32} {u3 : Value} {H : j_H} {Q : Option Value → j_H → Prop} (h0 : j_vc H x0 = 12) : j_wp (b + 1) 188 62 [x0, .int x1, .int x2, u3] [] H Q = j_wp b 183 0 [x0, .int (Int32.ofInt 70)] [] H (j_k (b + 1) 188 68 [x0, .int x1, .int x2, u3] [] Q) := Eq.trans (s_aload_n r188_62 rfl (j_isr_vc h0 rfl)) (Eq.trans (s_bipush r188_63) (j_cll (as := [x0, .int (Int32.ofInt 70)]) (es := [x0, .int (Int32.ofInt 70)]) (s_c2 r188_65 rfl h0 rfl rfl (j_dok (s := [.int (Int32.ofInt 70), x0]) (as := [x0, .int (Int32.ofInt 70)]) (rest := []) (es := [x0, .int (Int32.ofInt 70)]) rfl rfl rfl rfl (j_slc (j_c1r (j_isr_vc h0 rfl)) rfl) rfl)) (j_slc (j_c1r (j_isr_vc h0 rfl)) rfl) rfl))
theorem b188_68 {b : Nat} {x0 : Value} {x1 : Int32} {x2 : Int32} {u3 : Value} {H : j_H} {Q : Option Value → j_H → Prop} (h0 : j_vc H x0 = 12) : j_wp (b + 1) 188 68 [x0, .int x1, .int x2, u3] [] H Q = j_wp b 186 0 [x0, .int x1, .int x2] [] H (j_k (b + 1) 188 74 [x0, .int x1, .int x2, u3] [] Q) := Eq.trans (s_aload_n r188_68 rfl (j_isr_vc h0 rfl)) (Eq.trans (s_iload_n r188_69 rfl) (Eq.trans (s_iload_n r188_70 rfl) (j_cll (as := [x0, .int x1, .int x2]) (es := [x0, .int x1, .int x2]) (s_c2 r188_71 rfl h0 rfl rfl (j_dok (s := [.int x2, .int x1, x0]) (as := [x0, .int x1, .int x2]) (rest := []) (es := [x0, .int x1, .int x2]) rfl rfl rfl rfl (j_slc (j_c1r (j_isr_vc h0 rfl)) rfl) rfl)) (j_slc (j_c1r (j_isr_vc h0 rfl)) rfl) rfl)))
theorem b188_74 {b : Nat} {x0 : Value} {x1 : Int32} {x2 : Int32} {u3 : Value} {y0 : Int32} {H : j_H} {Q : Option Value → j_H → Prop} (h0 : j_vc H x0 = 12) : j_wp (b + 1) 188 74 [x0, .int x1, .int x2, u3] [.int y0] H Q = j_wp b 184 0 [x0, .int x1, .int (Int32.ofInt 2)] [] H (j_k (b + 1) 188 82 [x0, .int x1, .int x2, .int y0] [.int y0] Q) := Eq.trans (s_istore_n r188_74 (Nat.le_of_ble_eq_true rfl) rfl) (Eq.trans (s_iload_n r188_75 rfl) (Eq.trans (s_aload_n r188_76 rfl (j_isr_vc h0 rfl)) (Eq.trans (s_iload_n r188_77 rfl) (Eq.trans (s_iconst r188_78) (j_cll (as := [x0, .int x1, .int (Int32.ofInt 2)]) (es := [x0, .int x1, .int (Int32.ofInt 2)]) (s_c2 r188_79 rfl h0 rfl rfl (j_dok (s := [.int (Int32.ofInt 2), .int x1, x0, .int y0]) (as := [x0, .int x1, .int (Int32.ofInt 2)]) (rest := [.int y0]) (es := [x0, .int x1, .int (Int32.ofInt 2)]) rfl rfl rfl rfl (j_slc (j_c1r (j_isr_vc h0 rfl)) rfl) rfl)) (j_slc (j_c1r (j_isr_vc h0 rfl)) rfl) rfl)))))
theorem b188_82 {b : Nat} {x0 : Value} {x1 : Int32} {x2 : Int32} {x3 : Int32} {y0 : Int32} {y1 : Int32} {H : j_H} {Q : Option Value → j_H → Prop}  : j_wp b 188 82 [x0, .int x1, .int x2, .int x3] [.int y0, .int y1] H Q = Q (some (.int (y1 + y0))) H := Eq.trans (s_iadd r188_82) (s_ireturn r188_83 (j_rok1 rfl))
theorem b188_84 {b : Nat} {x0 : Value} {x1 : Int32} {x2 : Int32} {u3 : Value} {H : j_H} {Q : Option Value → j_H → Prop} (h0 : j_vc H x0 = 12) : j_wp (b + 1) 188 84 [x0, .int x1, .int x2, u3] [] H Q = j_wp b 186 0 [x0, .int x1, .int x2] [] H (j_k (b + 1) 188 90 [x0, .int x1, .int x2, u3] [] Q) := Eq.trans (s_aload_n r188_84 rfl (j_isr_vc h0 rfl)) (Eq.trans (s_iload_n r188_85 rfl) (Eq.trans (s_iload_n r188_86 rfl) (j_cll (as := [x0, .int x1, .int x2]) (es := [x0, .int x1, .int x2]) (s_c2 r188_87 rfl h0 rfl rfl (j_dok (s := [.int x2, .int x1, x0]) (as := [x0, .int x1, .int x2]) (rest := []) (es := [x0, .int x1, .int x2]) rfl rfl rfl rfl (j_slc (j_c1r (j_isr_vc h0 rfl)) rfl) rfl)) (j_slc (j_c1r (j_isr_vc h0 rfl)) rfl) rfl)))
theorem b188_90 {b : Nat} {x0 : Value} {x1 : Int32} {x2 : Int32} {u3 : Value} {y0 : Int32} {H : j_H} {Q : Option Value → j_H → Prop}  : j_wp b 188 90 [x0, .int x1, .int x2, u3] [.int y0] H Q = Q (some (.int y0)) H := s_ireturn r188_90 (j_rok1 rfl)
-- X12_guestTells
theorem r189_0 : j_at 189 0 = some (0, .aload_n 0, 1, []) := by decide +kernel
theorem r189_1 : j_at 189 1 = some (1, .bipush 12, 2, []) := by decide +kernel
theorem r189_3 : j_at 189 3 = some (3, .invokevirtual 318, 3, [2, 2, 183, 984, 985, 64, 77, 0, 12]) := by decide +kernel
theorem r189_6 : j_at 189 6 = some (6, .aload_n 0, 1, []) := by decide +kernel
theorem r189_7 : j_at 189 7 = some (7, .iload_n 1, 1, []) := by decide +kernel
theorem r189_8 : j_at 189 8 = some (8, .iload_n 2, 1, []) := by decide +kernel
theorem r189_9 : j_at 189 9 = some (9, .invokevirtual 333, 3, [2, 3, 188, 988, 989, 66, 77, 0, 12]) := by decide +kernel
theorem r189_12 : j_at 189 12 = some (12, .iconst 2, 1, []) := by decide +kernel
theorem r189_13 : j_at 189 13 = some (13, .imul, 1, []) := by decide +kernel
theorem r189_14 : j_at 189 14 = some (14, .ireturn, 1, []) := by decide +kernel
theorem b189_0 {b : Nat} {x0 : Value} {x1 : Int32} {x2 : Int32} {H : j_H} {Q : Option Value → j_H → Prop} (h0 : j_vc H x0 = 12) : j_wp (b + 1) 189 0 [x0, .int x1, .int x2] [] H Q = j_wp b 183 0 [x0, .int (Int32.ofInt 12)] [] H (j_k (b + 1) 189 6 [x0, .int x1, .int x2] [] Q) := Eq.trans (s_aload_n r189_0 rfl (j_isr_vc h0 rfl)) (Eq.trans (s_bipush r189_1) (j_cll (as := [x0, .int (Int32.ofInt 12)]) (es := [x0, .int (Int32.ofInt 12)]) (s_c2 r189_3 rfl h0 rfl rfl (j_dok (s := [.int (Int32.ofInt 12), x0]) (as := [x0, .int (Int32.ofInt 12)]) (rest := []) (es := [x0, .int (Int32.ofInt 12)]) rfl rfl rfl rfl (j_slc (j_c1r (j_isr_vc h0 rfl)) rfl) rfl)) (j_slc (j_c1r (j_isr_vc h0 rfl)) rfl) rfl))
theorem b189_6 {b : Nat} {x0 : Value} {x1 : Int32} {x2 : Int32} {H : j_H} {Q : Option Value → j_H → Prop} (h0 : j_vc H x0 = 12) : j_wp (b + 1) 189 6 [x0, .int x1, .int x2] [] H Q = j_wp b 188 0 [x0, .int x1, .int x2, j_u] [] H (j_k (b + 1) 189 12 [x0, .int x1, .int x2] [] Q) := Eq.trans (s_aload_n r189_6 rfl (j_isr_vc h0 rfl)) (Eq.trans (s_iload_n r189_7 rfl) (Eq.trans (s_iload_n r189_8 rfl) (j_cll (as := [x0, .int x1, .int x2]) (es := [x0, .int x1, .int x2]) (s_c2 r189_9 rfl h0 rfl rfl (j_dok (s := [.int x2, .int x1, x0]) (as := [x0, .int x1, .int x2]) (rest := []) (es := [x0, .int x1, .int x2]) rfl rfl rfl rfl (j_slc (j_c1r (j_isr_vc h0 rfl)) rfl) rfl)) (j_slc (j_c1r (j_isr_vc h0 rfl)) rfl) rfl)))
theorem b189_12 {b : Nat} {x0 : Value} {x1 : Int32} {x2 : Int32} {y0 : Int32} {H : j_H} {Q : Option Value → j_H → Prop}  : j_wp b 189 12 [x0, .int x1, .int x2] [.int y0] H Q = Q (some (.int (y0 * (Int32.ofInt 2)))) H := Eq.trans (s_iconst r189_12) (Eq.trans (s_imul r189_13) (s_ireturn r189_14 (j_rok1 rfl)))
-- X12_tellsAct
theorem r190_0 : j_at 190 0 = some (0, .aload_n 0, 1, []) := by decide +kernel
theorem r190_1 : j_at 190 1 = some (1, .getfield 22, 3, [708, 12, 2, 4, 0, 12]) := by decide +kernel
theorem r190_4 : j_at 190 4 = some (4, .iload_n 1, 1, []) := by decide +kernel
theorem r190_5 : j_at 190 5 = some (5, .iaload, 1, []) := by decide +kernel
theorem r190_6 : j_at 190 6 = some (6, .tableswitch 67 3 6 #[30, 67, 52, 30], 30, []) := by decide +kernel
theorem r190_36 : j_at 190 36 = some (36, .aload_n 0, 1, []) := by decide +kernel
theorem r190_37 : j_at 190 37 = some (37, .bipush 40, 2, []) := by decide +kernel
theorem r190_39 : j_at 190 39 = some (39, .invokevirtual 318, 3, [2, 2, 183, 984, 985, 64, 77, 0, 12]) := by decide +kernel
theorem r190_42 : j_at 190 42 = some (42, .aload_n 0, 1, []) := by decide +kernel
theorem r190_43 : j_at 190 43 = some (43, .iload_n 1, 1, []) := by decide +kernel
theorem r190_44 : j_at 190 44 = some (44, .iload_n 2, 1, []) := by decide +kernel
theorem r190_45 : j_at 190 45 = some (45, .invokevirtual 336, 3, [2, 3, 189, 996, 997, 70, 77, 0, 12]) := by decide +kernel
theorem r190_48 : j_at 190 48 = some (48, .istore_n 3, 1, []) := by decide +kernel
theorem r190_49 : j_at 190 49 = some (49, .iload_n 3, 1, []) := by decide +kernel
theorem r190_50 : j_at 190 50 = some (50, .aload_n 0, 1, []) := by decide +kernel
theorem r190_51 : j_at 190 51 = some (51, .iload_n 1, 1, []) := by decide +kernel
theorem r190_52 : j_at 190 52 = some (52, .iconst 1, 1, []) := by decide +kernel
theorem r190_53 : j_at 190 53 = some (53, .invokevirtual 333, 3, [2, 3, 188, 988, 989, 66, 77, 0, 12]) := by decide +kernel
theorem r190_56 : j_at 190 56 = some (56, .iadd, 1, []) := by decide +kernel
theorem r190_57 : j_at 190 57 = some (57, .ireturn, 1, []) := by decide +kernel
theorem r190_58 : j_at 190 58 = some (58, .aload_n 0, 1, []) := by decide +kernel
theorem r190_59 : j_at 190 59 = some (59, .bipush 60, 2, []) := by decide +kernel
theorem r190_61 : j_at 190 61 = some (61, .invokevirtual 318, 3, [2, 2, 183, 984, 985, 64, 77, 0, 12]) := by decide +kernel
theorem r190_64 : j_at 190 64 = some (64, .aload_n 0, 1, []) := by decide +kernel
theorem r190_65 : j_at 190 65 = some (65, .iload_n 1, 1, []) := by decide +kernel
theorem r190_66 : j_at 190 66 = some (66, .iload_n 2, 1, []) := by decide +kernel
theorem r190_67 : j_at 190 67 = some (67, .iload_n 1, 1, []) := by decide +kernel
theorem r190_68 : j_at 190 68 = some (68, .isub, 1, []) := by decide +kernel
theorem r190_69 : j_at 190 69 = some (69, .invokevirtual 336, 3, [2, 3, 189, 996, 997, 70, 77, 0, 12]) := by decide +kernel
theorem r190_72 : j_at 190 72 = some (72, .ireturn, 1, []) := by decide +kernel
theorem r190_73 : j_at 190 73 = some (73, .aload_n 0, 1, []) := by decide +kernel
theorem r190_74 : j_at 190 74 = some (74, .iload_n 1, 1, []) := by decide +kernel
theorem r190_75 : j_at 190 75 = some (75, .iload_n 2, 1, []) := by decide +kernel
theorem r190_76 : j_at 190 76 = some (76, .invokevirtual 336, 3, [2, 3, 189, 996, 997, 70, 77, 0, 12]) := by decide +kernel
theorem r190_79 : j_at 190 79 = some (79, .ireturn, 1, []) := by decide +kernel
theorem b190_0 {b : Nat} {x0 : Value} {x1 : Int32} {x2 : Int32} {u3 : Value} {H : j_H} {Q : Option Value → j_H → Prop} (h0 : j_vc H x0 = 12) (h1 : j_vt H (va_rf (j_R H (j_pa x0) 4)) = 0) (h2 : 0 ≤ x1.toInt) (h3 : x1.toInt < ((j_vl H (va_rf (j_R H (j_pa x0) 4)) : Nat) : Int)) : j_wp b 190 0 [x0, .int x1, .int x2, u3] [] H Q = (if (j_I H (j_pa (va_rf (j_R H (j_pa x0) 4))) (j_ix x1)).toInt = 3 then j_wp b 190 36 [x0, .int x1, .int x2, u3] [] H Q else if (j_I H (j_pa (va_rf (j_R H (j_pa x0) 4))) (j_ix x1)).toInt = 5 then j_wp b 190 58 [x0, .int x1, .int x2, u3] [] H Q else if (j_I H (j_pa (va_rf (j_R H (j_pa x0) 4))) (j_ix x1)).toInt = 6 then j_wp b 190 36 [x0, .int x1, .int x2, u3] [] H Q else j_wp b 190 73 [x0, .int x1, .int x2, u3] [] H Q) := Eq.trans (s_aload_n r190_0 rfl (j_isr_vc h0 rfl)) (Eq.trans (s_getfr r190_1 (j_al1 h0 rfl) rfl) (Eq.trans (s_iload_n r190_4 rfl) (Eq.trans (s_iald r190_5 h1 (by decide) (j_ib_of (z := x1.toInt) rfl h2 h3)) (j_ite (fun h => s_tsw r190_6 (by rw [h]; rfl)) (fun h103 => j_ite (fun h => s_tsw r190_6 (by rw [h]; rfl)) (fun h105 => j_ite (fun h => s_tsw r190_6 (by rw [h]; rfl)) (fun h106 => s_tsw r190_6 (by
    have h : (j_I H (j_pa (va_rf (j_R H (j_pa x0) 4))) (j_ix x1)).toInt < 3 ∨ 6 < (j_I H (j_pa (va_rf (j_R H (j_pa x0) 4))) (j_ix x1)).toInt  ∨ (j_I H (j_pa (va_rf (j_R H (j_pa x0) 4))) (j_ix x1)).toInt = 4 := by omega
    rcases h with h | h | h
    · rw [if_neg (by omega), j_sw, if_pos h]; rfl
    · rw [if_pos h]; rfl
    · rw [h]; rfl))))))))
theorem b190_36 {b : Nat} {x0 : Value} {x1 : Int32} {x2 : Int32} {u3 : Value} {H : j_H} {Q : Option Value → j_H → Prop} (h0 : j_vc H x0 = 12) : j_wp (b + 1) 190 36 [x0, .int x1, .int x2, u3] [] H Q = j_wp b 183 0 [x0, .int (Int32.ofInt 40)] [] H (j_k (b + 1) 190 42 [x0, .int x1, .int x2, u3] [] Q) := Eq.trans (s_aload_n r190_36 rfl (j_isr_vc h0 rfl)) (Eq.trans (s_bipush r190_37) (j_cll (as := [x0, .int (Int32.ofInt 40)]) (es := [x0, .int (Int32.ofInt 40)]) (s_c2 r190_39 rfl h0 rfl rfl (j_dok (s := [.int (Int32.ofInt 40), x0]) (as := [x0, .int (Int32.ofInt 40)]) (rest := []) (es := [x0, .int (Int32.ofInt 40)]) rfl rfl rfl rfl (j_slc (j_c1r (j_isr_vc h0 rfl)) rfl) rfl)) (j_slc (j_c1r (j_isr_vc h0 rfl)) rfl) rfl))
theorem b190_42 {b : Nat} {x0 : Value} {x1 : Int32} {x2 : Int32} {u3 : Value} {H : j_H} {Q : Option Value → j_H → Prop} (h0 : j_vc H x0 = 12) : j_wp (b + 1) 190 42 [x0, .int x1, .int x2, u3] [] H Q = j_wp b 189 0 [x0, .int x1, .int x2] [] H (j_k (b + 1) 190 48 [x0, .int x1, .int x2, u3] [] Q) := Eq.trans (s_aload_n r190_42 rfl (j_isr_vc h0 rfl)) (Eq.trans (s_iload_n r190_43 rfl) (Eq.trans (s_iload_n r190_44 rfl) (j_cll (as := [x0, .int x1, .int x2]) (es := [x0, .int x1, .int x2]) (s_c2 r190_45 rfl h0 rfl rfl (j_dok (s := [.int x2, .int x1, x0]) (as := [x0, .int x1, .int x2]) (rest := []) (es := [x0, .int x1, .int x2]) rfl rfl rfl rfl (j_slc (j_c1r (j_isr_vc h0 rfl)) rfl) rfl)) (j_slc (j_c1r (j_isr_vc h0 rfl)) rfl) rfl)))
theorem b190_48 {b : Nat} {x0 : Value} {x1 : Int32} {x2 : Int32} {u3 : Value} {y0 : Int32} {H : j_H} {Q : Option Value → j_H → Prop} (h0 : j_vc H x0 = 12) : j_wp (b + 1) 190 48 [x0, .int x1, .int x2, u3] [.int y0] H Q = j_wp b 188 0 [x0, .int x1, .int (Int32.ofInt 1), j_u] [] H (j_k (b + 1) 190 56 [x0, .int x1, .int x2, .int y0] [.int y0] Q) := Eq.trans (s_istore_n r190_48 (Nat.le_of_ble_eq_true rfl) rfl) (Eq.trans (s_iload_n r190_49 rfl) (Eq.trans (s_aload_n r190_50 rfl (j_isr_vc h0 rfl)) (Eq.trans (s_iload_n r190_51 rfl) (Eq.trans (s_iconst r190_52) (j_cll (as := [x0, .int x1, .int (Int32.ofInt 1)]) (es := [x0, .int x1, .int (Int32.ofInt 1)]) (s_c2 r190_53 rfl h0 rfl rfl (j_dok (s := [.int (Int32.ofInt 1), .int x1, x0, .int y0]) (as := [x0, .int x1, .int (Int32.ofInt 1)]) (rest := [.int y0]) (es := [x0, .int x1, .int (Int32.ofInt 1)]) rfl rfl rfl rfl (j_slc (j_c1r (j_isr_vc h0 rfl)) rfl) rfl)) (j_slc (j_c1r (j_isr_vc h0 rfl)) rfl) rfl)))))
theorem b190_56 {b : Nat} {x0 : Value} {x1 : Int32} {x2 : Int32} {x3 : Int32} {y0 : Int32} {y1 : Int32} {H : j_H} {Q : Option Value → j_H → Prop}  : j_wp b 190 56 [x0, .int x1, .int x2, .int x3] [.int y0, .int y1] H Q = Q (some (.int (y1 + y0))) H := Eq.trans (s_iadd r190_56) (s_ireturn r190_57 (j_rok1 rfl))
theorem b190_58 {b : Nat} {x0 : Value} {x1 : Int32} {x2 : Int32} {u3 : Value} {H : j_H} {Q : Option Value → j_H → Prop} (h0 : j_vc H x0 = 12) : j_wp (b + 1) 190 58 [x0, .int x1, .int x2, u3] [] H Q = j_wp b 183 0 [x0, .int (Int32.ofInt 60)] [] H (j_k (b + 1) 190 64 [x0, .int x1, .int x2, u3] [] Q) := Eq.trans (s_aload_n r190_58 rfl (j_isr_vc h0 rfl)) (Eq.trans (s_bipush r190_59) (j_cll (as := [x0, .int (Int32.ofInt 60)]) (es := [x0, .int (Int32.ofInt 60)]) (s_c2 r190_61 rfl h0 rfl rfl (j_dok (s := [.int (Int32.ofInt 60), x0]) (as := [x0, .int (Int32.ofInt 60)]) (rest := []) (es := [x0, .int (Int32.ofInt 60)]) rfl rfl rfl rfl (j_slc (j_c1r (j_isr_vc h0 rfl)) rfl) rfl)) (j_slc (j_c1r (j_isr_vc h0 rfl)) rfl) rfl))
theorem b190_64 {b : Nat} {x0 : Value} {x1 : Int32} {x2 : Int32} {u3 : Value} {H : j_H} {Q : Option Value → j_H → Prop} (h0 : j_vc H x0 = 12) : j_wp (b + 1) 190 64 [x0, .int x1, .int x2, u3] [] H Q = j_wp b 189 0 [x0, .int x1, .int (x2 - x1)] [] H (j_k (b + 1) 190 72 [x0, .int x1, .int x2, u3] [] Q) := Eq.trans (s_aload_n r190_64 rfl (j_isr_vc h0 rfl)) (Eq.trans (s_iload_n r190_65 rfl) (Eq.trans (s_iload_n r190_66 rfl) (Eq.trans (s_iload_n r190_67 rfl) (Eq.trans (s_isub r190_68) (j_cll (as := [x0, .int x1, .int (x2 - x1)]) (es := [x0, .int x1, .int (x2 - x1)]) (s_c2 r190_69 rfl h0 rfl rfl (j_dok (s := [.int (x2 - x1), .int x1, x0]) (as := [x0, .int x1, .int (x2 - x1)]) (rest := []) (es := [x0, .int x1, .int (x2 - x1)]) rfl rfl rfl rfl (j_slc (j_c1r (j_isr_vc h0 rfl)) rfl) rfl)) (j_slc (j_c1r (j_isr_vc h0 rfl)) rfl) rfl)))))
theorem b190_72 {b : Nat} {x0 : Value} {x1 : Int32} {x2 : Int32} {u3 : Value} {y0 : Int32} {H : j_H} {Q : Option Value → j_H → Prop}  : j_wp b 190 72 [x0, .int x1, .int x2, u3] [.int y0] H Q = Q (some (.int y0)) H := s_ireturn r190_72 (j_rok1 rfl)
theorem b190_73 {b : Nat} {x0 : Value} {x1 : Int32} {x2 : Int32} {u3 : Value} {H : j_H} {Q : Option Value → j_H → Prop} (h0 : j_vc H x0 = 12) : j_wp (b + 1) 190 73 [x0, .int x1, .int x2, u3] [] H Q = j_wp b 189 0 [x0, .int x1, .int x2] [] H (j_k (b + 1) 190 79 [x0, .int x1, .int x2, u3] [] Q) := Eq.trans (s_aload_n r190_73 rfl (j_isr_vc h0 rfl)) (Eq.trans (s_iload_n r190_74 rfl) (Eq.trans (s_iload_n r190_75 rfl) (j_cll (as := [x0, .int x1, .int x2]) (es := [x0, .int x1, .int x2]) (s_c2 r190_76 rfl h0 rfl rfl (j_dok (s := [.int x2, .int x1, x0]) (as := [x0, .int x1, .int x2]) (rest := []) (es := [x0, .int x1, .int x2]) rfl rfl rfl rfl (j_slc (j_c1r (j_isr_vc h0 rfl)) rfl) rfl)) (j_slc (j_c1r (j_isr_vc h0 rfl)) rfl) rfl)))
theorem b190_79 {b : Nat} {x0 : Value} {x1 : Int32} {x2 : Int32} {u3 : Value} {y0 : Int32} {H : j_H} {Q : Option Value → j_H → Prop}  : j_wp b 190 79 [x0, .int x1, .int x2, u3] [.int y0] H Q = Q (some (.int y0)) H := s_ireturn r190_79 (j_rok1 rfl)
-- X12_act
theorem r191_0 : j_at 191 0 = some (0, .aload_n 0, 1, []) := by decide +kernel
theorem r191_1 : j_at 191 1 = some (1, .iconst 0, 1, []) := by decide +kernel
theorem r191_2 : j_at 191 2 = some (2, .putfield 171, 3, [756, 12, 0, 52, 0, 0, 12]) := by decide +kernel
theorem r191_5 : j_at 191 5 = some (5, .aload_n 0, 1, []) := by decide +kernel
theorem r191_6 : j_at 191 6 = some (6, .iload_n 1, 1, []) := by decide +kernel
theorem r191_7 : j_at 191 7 = some (7, .invokevirtual 193, 3, [2, 2, 124, 833, 834, 27, 77, 0, 12]) := by decide +kernel
theorem r191_10 : j_at 191 10 = some (10, .ifCond .eq 13, 3, []) := by decide +kernel
theorem r191_13 : j_at 191 13 = some (13, .aload_n 0, 1, []) := by decide +kernel
theorem r191_14 : j_at 191 14 = some (14, .iload_n 2, 1, []) := by decide +kernel
theorem r191_15 : j_at 191 15 = some (15, .iconst 0, 1, []) := by decide +kernel
theorem r191_16 : j_at 191 16 = some (16, .iconst 2, 1, []) := by decide +kernel
theorem r191_17 : j_at 191 17 = some (17, .invokevirtual 189, 3, [2, 4, 121, 825, 826, 26, 77, 0, 12]) := by decide +kernel
theorem r191_20 : j_at 191 20 = some (20, .ifCond .ne 5, 3, []) := by decide +kernel
theorem r191_23 : j_at 191 23 = some (23, .iconst 0, 1, []) := by decide +kernel
theorem r191_24 : j_at 191 24 = some (24, .ireturn, 1, []) := by decide +kernel
theorem r191_25 : j_at 191 25 = some (25, .iload_n 2, 1, []) := by decide +kernel
theorem r191_26 : j_at 191 26 = some (26, .ifCond .ne 12, 3, []) := by decide +kernel
theorem r191_29 : j_at 191 29 = some (29, .aload_n 0, 1, []) := by decide +kernel
theorem r191_30 : j_at 191 30 = some (30, .iload_n 1, 1, []) := by decide +kernel
theorem r191_31 : j_at 191 31 = some (31, .iload_n 3, 1, []) := by decide +kernel
theorem r191_32 : j_at 191 32 = some (32, .invokevirtual 324, 3, [2, 3, 185, 982, 983, 63, 77, 0, 12]) := by decide +kernel
theorem r191_35 : j_at 191 35 = some (35, .goto 23, 3, []) := by decide +kernel
theorem r191_38 : j_at 191 38 = some (38, .iload_n 2, 1, []) := by decide +kernel
theorem r191_39 : j_at 191 39 = some (39, .iconst 1, 1, []) := by decide +kernel
theorem r191_40 : j_at 191 40 = some (40, .if_icmp .ne 12, 3, []) := by decide +kernel
theorem r191_43 : j_at 191 43 = some (43, .aload_n 0, 1, []) := by decide +kernel
theorem r191_44 : j_at 191 44 = some (44, .iload_n 1, 1, []) := by decide +kernel
theorem r191_45 : j_at 191 45 = some (45, .iload_n 3, 1, []) := by decide +kernel
theorem r191_46 : j_at 191 46 = some (46, .invokevirtual 333, 3, [2, 3, 188, 988, 989, 66, 77, 0, 12]) := by decide +kernel
theorem r191_49 : j_at 191 49 = some (49, .goto 9, 3, []) := by decide +kernel
theorem r191_52 : j_at 191 52 = some (52, .aload_n 0, 1, []) := by decide +kernel
theorem r191_53 : j_at 191 53 = some (53, .iload_n 1, 1, []) := by decide +kernel
theorem r191_54 : j_at 191 54 = some (54, .iload_n 3, 1, []) := by decide +kernel
theorem r191_55 : j_at 191 55 = some (55, .invokevirtual 339, 3, [2, 3, 190, 994, 995, 69, 77, 0, 12]) := by decide +kernel
theorem r191_58 : j_at 191 58 = some (58, .ireturn, 1, []) := by decide +kernel
theorem b191_0 {b : Nat} {x0 : Value} {x1 : Int32} {x2 : Int32} {x3 : Int32} {H : j_H} {Q : Option Value → j_H → Prop} (h0 : j_vc H x0 = 12) : j_wp b 191 0 [x0, .int x1, .int x2, .int x3] [] H Q = j_wp b 191 5 [x0, .int x1, .int x2, .int x3] [] (j_sI H (j_pa x0) 52 (Int32.ofInt 0)) Q := Eq.trans (s_aload_n r191_0 rfl (j_isr_vc h0 rfl)) (Eq.trans (s_iconst r191_1) (s_put r191_2 (j_al1 h0 rfl) rfl j_putI))
theorem b191_5 {b : Nat} {x0 : Value} {x1 : Int32} {x2 : Int32} {x3 : Int32} {H : j_H} {Q : Option Value → j_H → Prop} (h0 : j_vc H x0 = 12) : j_wp (b + 1) 191 5 [x0, .int x1, .int x2, .int x3] [] H Q = j_wp b 124 0 [x0, .int x1] [] H (j_k (b + 1) 191 10 [x0, .int x1, .int x2, .int x3] [] Q) := Eq.trans (s_aload_n r191_5 rfl (j_isr_vc h0 rfl)) (Eq.trans (s_iload_n r191_6 rfl) (j_cll (as := [x0, .int x1]) (es := [x0, .int x1]) (s_c2 r191_7 rfl h0 rfl rfl (j_dok (s := [.int x1, x0]) (as := [x0, .int x1]) (rest := []) (es := [x0, .int x1]) rfl rfl rfl rfl (j_slc (j_c1r (j_isr_vc h0 rfl)) rfl) rfl)) (j_slc (j_c1r (j_isr_vc h0 rfl)) rfl) rfl))
theorem b191_10 {b : Nat} {x0 : Value} {x1 : Int32} {x2 : Int32} {x3 : Int32} {y0 : Int32} {H : j_H} {Q : Option Value → j_H → Prop}  : j_wp b 191 10 [x0, .int x1, .int x2, .int x3] [.int y0] H Q = (if y0.toInt = 0 then j_wp b 191 23 [x0, .int x1, .int x2, .int x3] [] H Q else j_wp b 191 13 [x0, .int x1, .int x2, .int x3] [] H Q) := s_ifeq r191_10 rfl rfl
theorem b191_13 {b : Nat} {x0 : Value} {x1 : Int32} {x2 : Int32} {x3 : Int32} {H : j_H} {Q : Option Value → j_H → Prop} (h0 : j_vc H x0 = 12) : j_wp (b + 1) 191 13 [x0, .int x1, .int x2, .int x3] [] H Q = j_wp b 121 0 [x0, .int x2, .int (Int32.ofInt 0), .int (Int32.ofInt 2)] [] H (j_k (b + 1) 191 20 [x0, .int x1, .int x2, .int x3] [] Q) := Eq.trans (s_aload_n r191_13 rfl (j_isr_vc h0 rfl)) (Eq.trans (s_iload_n r191_14 rfl) (Eq.trans (s_iconst r191_15) (Eq.trans (s_iconst r191_16) (j_cll (as := [x0, .int x2, .int (Int32.ofInt 0), .int (Int32.ofInt 2)]) (es := [x0, .int x2, .int (Int32.ofInt 0), .int (Int32.ofInt 2)]) (s_c2 r191_17 rfl h0 rfl rfl (j_dok (s := [.int (Int32.ofInt 2), .int (Int32.ofInt 0), .int x2, x0]) (as := [x0, .int x2, .int (Int32.ofInt 0), .int (Int32.ofInt 2)]) (rest := []) (es := [x0, .int x2, .int (Int32.ofInt 0), .int (Int32.ofInt 2)]) rfl rfl rfl rfl (j_slc (j_c1r (j_isr_vc h0 rfl)) rfl) rfl)) (j_slc (j_c1r (j_isr_vc h0 rfl)) rfl) rfl))))
theorem b191_20 {b : Nat} {x0 : Value} {x1 : Int32} {x2 : Int32} {x3 : Int32} {y0 : Int32} {H : j_H} {Q : Option Value → j_H → Prop}  : j_wp b 191 20 [x0, .int x1, .int x2, .int x3] [.int y0] H Q = (if ¬ y0.toInt = 0 then j_wp b 191 25 [x0, .int x1, .int x2, .int x3] [] H Q else j_wp b 191 23 [x0, .int x1, .int x2, .int x3] [] H Q) := s_ifne r191_20 rfl rfl
theorem b191_23 {b : Nat} {x0 : Value} {x1 : Int32} {x2 : Int32} {x3 : Int32} {H : j_H} {Q : Option Value → j_H → Prop}  : j_wp b 191 23 [x0, .int x1, .int x2, .int x3] [] H Q = Q (some (.int (Int32.ofInt 0))) H := Eq.trans (s_iconst r191_23) (s_ireturn r191_24 (j_rok1 rfl))
theorem b191_25 {b : Nat} {x0 : Value} {x1 : Int32} {x2 : Int32} {x3 : Int32} {H : j_H} {Q : Option Value → j_H → Prop}  : j_wp b 191 25 [x0, .int x1, .int x2, .int x3] [] H Q = (if ¬ x2.toInt = 0 then j_wp b 191 38 [x0, .int x1, .int x2, .int x3] [] H Q else j_wp b 191 29 [x0, .int x1, .int x2, .int x3] [] H Q) := Eq.trans (s_iload_n r191_25 rfl) (s_ifne r191_26 rfl rfl)
theorem b191_29 {b : Nat} {x0 : Value} {x1 : Int32} {x2 : Int32} {x3 : Int32} {H : j_H} {Q : Option Value → j_H → Prop} (h0 : j_vc H x0 = 12) : j_wp (b + 1) 191 29 [x0, .int x1, .int x2, .int x3] [] H Q = j_wp b 185 0 [x0, .int x1, .int x3] [] H (j_k (b + 1) 191 35 [x0, .int x1, .int x2, .int x3] [] Q) := Eq.trans (s_aload_n r191_29 rfl (j_isr_vc h0 rfl)) (Eq.trans (s_iload_n r191_30 rfl) (Eq.trans (s_iload_n r191_31 rfl) (j_cll (as := [x0, .int x1, .int x3]) (es := [x0, .int x1, .int x3]) (s_c2 r191_32 rfl h0 rfl rfl (j_dok (s := [.int x3, .int x1, x0]) (as := [x0, .int x1, .int x3]) (rest := []) (es := [x0, .int x1, .int x3]) rfl rfl rfl rfl (j_slc (j_c1r (j_isr_vc h0 rfl)) rfl) rfl)) (j_slc (j_c1r (j_isr_vc h0 rfl)) rfl) rfl)))
theorem b191_35 {b : Nat} {x0 : Value} {x1 : Int32} {x2 : Int32} {x3 : Int32} {y0 : Int32} {H : j_H} {Q : Option Value → j_H → Prop}  : j_wp b 191 35 [x0, .int x1, .int x2, .int x3] [.int y0] H Q = j_wp b 191 58 [x0, .int x1, .int x2, .int x3] [.int y0] H Q := s_goto r191_35 rfl
theorem b191_38 {b : Nat} {x0 : Value} {x1 : Int32} {x2 : Int32} {x3 : Int32} {H : j_H} {Q : Option Value → j_H → Prop}  : j_wp b 191 38 [x0, .int x1, .int x2, .int x3] [] H Q = (if ¬ x2.toInt = 1 then j_wp b 191 52 [x0, .int x1, .int x2, .int x3] [] H Q else j_wp b 191 43 [x0, .int x1, .int x2, .int x3] [] H Q) := Eq.trans (s_iload_n r191_38 rfl) (Eq.trans (s_iconst r191_39) (s_icne r191_40 rfl rfl rfl))
theorem b191_43 {b : Nat} {x0 : Value} {x1 : Int32} {x2 : Int32} {x3 : Int32} {H : j_H} {Q : Option Value → j_H → Prop} (h0 : j_vc H x0 = 12) : j_wp (b + 1) 191 43 [x0, .int x1, .int x2, .int x3] [] H Q = j_wp b 188 0 [x0, .int x1, .int x3, j_u] [] H (j_k (b + 1) 191 49 [x0, .int x1, .int x2, .int x3] [] Q) := Eq.trans (s_aload_n r191_43 rfl (j_isr_vc h0 rfl)) (Eq.trans (s_iload_n r191_44 rfl) (Eq.trans (s_iload_n r191_45 rfl) (j_cll (as := [x0, .int x1, .int x3]) (es := [x0, .int x1, .int x3]) (s_c2 r191_46 rfl h0 rfl rfl (j_dok (s := [.int x3, .int x1, x0]) (as := [x0, .int x1, .int x3]) (rest := []) (es := [x0, .int x1, .int x3]) rfl rfl rfl rfl (j_slc (j_c1r (j_isr_vc h0 rfl)) rfl) rfl)) (j_slc (j_c1r (j_isr_vc h0 rfl)) rfl) rfl)))
theorem b191_49 {b : Nat} {x0 : Value} {x1 : Int32} {x2 : Int32} {x3 : Int32} {y0 : Int32} {H : j_H} {Q : Option Value → j_H → Prop}  : j_wp b 191 49 [x0, .int x1, .int x2, .int x3] [.int y0] H Q = j_wp b 191 58 [x0, .int x1, .int x2, .int x3] [.int y0] H Q := s_goto r191_49 rfl
theorem b191_52 {b : Nat} {x0 : Value} {x1 : Int32} {x2 : Int32} {x3 : Int32} {H : j_H} {Q : Option Value → j_H → Prop} (h0 : j_vc H x0 = 12) : j_wp (b + 1) 191 52 [x0, .int x1, .int x2, .int x3] [] H Q = j_wp b 190 0 [x0, .int x1, .int x3, j_u] [] H (j_k (b + 1) 191 58 [x0, .int x1, .int x2, .int x3] [] Q) := Eq.trans (s_aload_n r191_52 rfl (j_isr_vc h0 rfl)) (Eq.trans (s_iload_n r191_53 rfl) (Eq.trans (s_iload_n r191_54 rfl) (j_cll (as := [x0, .int x1, .int x3]) (es := [x0, .int x1, .int x3]) (s_c2 r191_55 rfl h0 rfl rfl (j_dok (s := [.int x3, .int x1, x0]) (as := [x0, .int x1, .int x3]) (rest := []) (es := [x0, .int x1, .int x3]) rfl rfl rfl rfl (j_slc (j_c1r (j_isr_vc h0 rfl)) rfl) rfl)) (j_slc (j_c1r (j_isr_vc h0 rfl)) rfl) rfl)))
theorem b191_58 {b : Nat} {x0 : Value} {x1 : Int32} {x2 : Int32} {x3 : Int32} {y0 : Int32} {H : j_H} {Q : Option Value → j_H → Prop}  : j_wp b 191 58 [x0, .int x1, .int x2, .int x3] [.int y0] H Q = Q (some (.int y0)) H := s_ireturn r191_58 (j_rok1 rfl)
-- X12_trace
theorem r192_0 : j_at 192 0 = some (0, .aload_n 0, 1, []) := by decide +kernel
theorem r192_1 : j_at 192 1 = some (1, .iload_n 1, 1, []) := by decide +kernel
theorem r192_2 : j_at 192 2 = some (2, .iconst 0, 1, []) := by decide +kernel
theorem r192_3 : j_at 192 3 = some (3, .bipush 19, 2, []) := by decide +kernel
theorem r192_5 : j_at 192 5 = some (5, .invokevirtual 189, 3, [2, 4, 121, 825, 826, 26, 77, 0, 12]) := by decide +kernel
theorem r192_8 : j_at 192 8 = some (8, .ifCond .eq 20, 3, []) := by decide +kernel
theorem r192_11 : j_at 192 11 = some (11, .iload_n 1, 1, []) := by decide +kernel
theorem r192_12 : j_at 192 12 = some (12, .aload_n 0, 1, []) := by decide +kernel
theorem r192_13 : j_at 192 13 = some (13, .getfield 171, 3, [756, 12, 0, 52, 0, 12]) := by decide +kernel
theorem r192_16 : j_at 192 16 = some (16, .if_icmp .ge 12, 3, []) := by decide +kernel
theorem r192_19 : j_at 192 19 = some (19, .aload_n 0, 1, []) := by decide +kernel
theorem r192_20 : j_at 192 20 = some (20, .getfield 174, 3, [757, 12, 2, 53, 0, 12]) := by decide +kernel
theorem r192_23 : j_at 192 23 = some (23, .iload_n 1, 1, []) := by decide +kernel
theorem r192_24 : j_at 192 24 = some (24, .iaload, 1, []) := by decide +kernel
theorem r192_25 : j_at 192 25 = some (25, .goto 4, 3, []) := by decide +kernel
theorem r192_28 : j_at 192 28 = some (28, .iconst (-1), 1, []) := by decide +kernel
theorem r192_29 : j_at 192 29 = some (29, .ireturn, 1, []) := by decide +kernel
theorem b192_0 {b : Nat} {x0 : Value} {x1 : Int32} {H : j_H} {Q : Option Value → j_H → Prop} (h0 : j_vc H x0 = 12) : j_wp (b + 1) 192 0 [x0, .int x1] [] H Q = j_wp b 121 0 [x0, .int x1, .int (Int32.ofInt 0), .int (Int32.ofInt 19)] [] H (j_k (b + 1) 192 8 [x0, .int x1] [] Q) := Eq.trans (s_aload_n r192_0 rfl (j_isr_vc h0 rfl)) (Eq.trans (s_iload_n r192_1 rfl) (Eq.trans (s_iconst r192_2) (Eq.trans (s_bipush r192_3) (j_cll (as := [x0, .int x1, .int (Int32.ofInt 0), .int (Int32.ofInt 19)]) (es := [x0, .int x1, .int (Int32.ofInt 0), .int (Int32.ofInt 19)]) (s_c2 r192_5 rfl h0 rfl rfl (j_dok (s := [.int (Int32.ofInt 19), .int (Int32.ofInt 0), .int x1, x0]) (as := [x0, .int x1, .int (Int32.ofInt 0), .int (Int32.ofInt 19)]) (rest := []) (es := [x0, .int x1, .int (Int32.ofInt 0), .int (Int32.ofInt 19)]) rfl rfl rfl rfl (j_slc (j_c1r (j_isr_vc h0 rfl)) rfl) rfl)) (j_slc (j_c1r (j_isr_vc h0 rfl)) rfl) rfl))))
theorem b192_8 {b : Nat} {x0 : Value} {x1 : Int32} {y0 : Int32} {H : j_H} {Q : Option Value → j_H → Prop}  : j_wp b 192 8 [x0, .int x1] [.int y0] H Q = (if y0.toInt = 0 then j_wp b 192 28 [x0, .int x1] [] H Q else j_wp b 192 11 [x0, .int x1] [] H Q) := s_ifeq r192_8 rfl rfl
theorem b192_11 {b : Nat} {x0 : Value} {x1 : Int32} {H : j_H} {Q : Option Value → j_H → Prop} (h0 : j_vc H x0 = 12) : j_wp b 192 11 [x0, .int x1] [] H Q = (if (j_I H (j_pa x0) 52).toInt ≤ x1.toInt then j_wp b 192 28 [x0, .int x1] [] H Q else j_wp b 192 19 [x0, .int x1] [] H Q) := Eq.trans (s_iload_n r192_11 rfl) (Eq.trans (s_aload_n r192_12 rfl (j_isr_vc h0 rfl)) (Eq.trans (s_getfi r192_13 (j_al1 h0 rfl) rfl rfl rfl) (s_icge r192_16 rfl rfl rfl)))
theorem b192_19 {b : Nat} {x0 : Value} {x1 : Int32} {H : j_H} {Q : Option Value → j_H → Prop} (h0 : j_vc H x0 = 12) (h1 : j_vt H (va_rf (j_R H (j_pa x0) 53)) = 0) (h2 : 0 ≤ x1.toInt) (h3 : x1.toInt < ((j_vl H (va_rf (j_R H (j_pa x0) 53)) : Nat) : Int)) : j_wp b 192 19 [x0, .int x1] [] H Q = j_wp b 192 29 [x0, .int x1] [.int (j_I H (j_pa (va_rf (j_R H (j_pa x0) 53))) (j_ix x1))] H Q := Eq.trans (s_aload_n r192_19 rfl (j_isr_vc h0 rfl)) (Eq.trans (s_getfr r192_20 (j_al1 h0 rfl) rfl) (Eq.trans (s_iload_n r192_23 rfl) (Eq.trans (s_iald r192_24 h1 (by decide) (j_ib_of (z := x1.toInt) rfl h2 h3)) (s_goto r192_25 rfl))))
theorem b192_28 {b : Nat} {x0 : Value} {x1 : Int32} {H : j_H} {Q : Option Value → j_H → Prop}  : j_wp b 192 28 [x0, .int x1] [] H Q = j_wp b 192 29 [x0, .int x1] [.int (Int32.ofInt (-1))] H Q := s_iconst r192_28
theorem b192_29 {b : Nat} {x0 : Value} {x1 : Int32} {y0 : Int32} {H : j_H} {Q : Option Value → j_H → Prop}  : j_wp b 192 29 [x0, .int x1] [.int y0] H Q = Q (some (.int y0)) H := s_ireturn r192_29 (j_rok1 rfl)
-- X12_taken
theorem r193_0 : j_at 193 0 = some (0, .aload_n 0, 1, []) := by decide +kernel
theorem r193_1 : j_at 193 1 = some (1, .iload_n 2, 1, []) := by decide +kernel
theorem r193_2 : j_at 193 2 = some (2, .iconst 0, 1, []) := by decide +kernel
theorem r193_3 : j_at 193 3 = some (3, .bipush 6, 2, []) := by decide +kernel
theorem r193_5 : j_at 193 5 = some (5, .invokevirtual 189, 3, [2, 4, 121, 825, 826, 26, 77, 0, 12]) := by decide +kernel
theorem r193_8 : j_at 193 8 = some (8, .ifCond .ne 6, 3, []) := by decide +kernel
theorem r193_11 : j_at 193 11 = some (11, .bipush (-2), 2, []) := by decide +kernel
theorem r193_13 : j_at 193 13 = some (13, .ireturn, 1, []) := by decide +kernel
theorem r193_14 : j_at 193 14 = some (14, .aload_n 0, 1, []) := by decide +kernel
theorem r193_15 : j_at 193 15 = some (15, .iload_n 1, 1, []) := by decide +kernel
theorem r193_16 : j_at 193 16 = some (16, .invokevirtual 193, 3, [2, 2, 124, 833, 834, 27, 77, 0, 12]) := by decide +kernel
theorem r193_19 : j_at 193 19 = some (19, .ifCond .ne 6, 3, []) := by decide +kernel
theorem r193_22 : j_at 193 22 = some (22, .bipush (-11), 2, []) := by decide +kernel
theorem r193_24 : j_at 193 24 = some (24, .ireturn, 1, []) := by decide +kernel
theorem r193_25 : j_at 193 25 = some (25, .aload_n 0, 1, []) := by decide +kernel
theorem r193_26 : j_at 193 26 = some (26, .getfield 22, 3, [708, 12, 2, 4, 0, 12]) := by decide +kernel
theorem r193_29 : j_at 193 29 = some (29, .iload_n 1, 1, []) := by decide +kernel
theorem r193_30 : j_at 193 30 = some (30, .iaload, 1, []) := by decide +kernel
theorem r193_31 : j_at 193 31 = some (31, .istore_n 3, 1, []) := by decide +kernel
theorem r193_32 : j_at 193 32 = some (32, .iload_n 2, 1, []) := by decide +kernel
theorem r193_33 : j_at 193 33 = some (33, .ifCond .eq 39, 3, []) := by decide +kernel
theorem r193_36 : j_at 193 36 = some (36, .iload_n 3, 1, []) := by decide +kernel
theorem r193_37 : j_at 193 37 = some (37, .iload_n 2, 1, []) := by decide +kernel
theorem r193_38 : j_at 193 38 = some (38, .if_icmp .eq 34, 3, []) := by decide +kernel
theorem r193_41 : j_at 193 41 = some (41, .iload_n 2, 1, []) := by decide +kernel
theorem r193_42 : j_at 193 42 = some (42, .iconst 1, 1, []) := by decide +kernel
theorem r193_43 : j_at 193 43 = some (43, .if_icmp .ne 8, 3, []) := by decide +kernel
theorem r193_46 : j_at 193 46 = some (46, .iload_n 3, 1, []) := by decide +kernel
theorem r193_47 : j_at 193 47 = some (47, .iconst 4, 1, []) := by decide +kernel
theorem r193_48 : j_at 193 48 = some (48, .if_icmp .eq 24, 3, []) := by decide +kernel
theorem r193_51 : j_at 193 51 = some (51, .iload_n 2, 1, []) := by decide +kernel
theorem r193_52 : j_at 193 52 = some (52, .iconst 2, 1, []) := by decide +kernel
theorem r193_53 : j_at 193 53 = some (53, .if_icmp .ne 8, 3, []) := by decide +kernel
theorem r193_56 : j_at 193 56 = some (56, .iload_n 3, 1, []) := by decide +kernel
theorem r193_57 : j_at 193 57 = some (57, .iconst 5, 1, []) := by decide +kernel
theorem r193_58 : j_at 193 58 = some (58, .if_icmp .eq 14, 3, []) := by decide +kernel
theorem r193_61 : j_at 193 61 = some (61, .iload_n 2, 1, []) := by decide +kernel
theorem r193_62 : j_at 193 62 = some (62, .iconst 3, 1, []) := by decide +kernel
theorem r193_63 : j_at 193 63 = some (63, .if_icmp .ne 13, 3, []) := by decide +kernel
theorem r193_66 : j_at 193 66 = some (66, .iload_n 3, 1, []) := by decide +kernel
theorem r193_67 : j_at 193 67 = some (67, .bipush 6, 2, []) := by decide +kernel
theorem r193_69 : j_at 193 69 = some (69, .if_icmp .ne 7, 3, []) := by decide +kernel
theorem r193_72 : j_at 193 72 = some (72, .iload_n 3, 1, []) := by decide +kernel
theorem r193_73 : j_at 193 73 = some (73, .goto 5, 3, []) := by decide +kernel
theorem r193_76 : j_at 193 76 = some (76, .bipush (-12), 2, []) := by decide +kernel
theorem r193_78 : j_at 193 78 = some (78, .ireturn, 1, []) := by decide +kernel
theorem b193_0 {b : Nat} {x0 : Value} {x1 : Int32} {x2 : Int32} {u3 : Value} {H : j_H} {Q : Option Value → j_H → Prop} (h0 : j_vc H x0 = 12) : j_wp (b + 1) 193 0 [x0, .int x1, .int x2, u3] [] H Q = j_wp b 121 0 [x0, .int x2, .int (Int32.ofInt 0), .int (Int32.ofInt 6)] [] H (j_k (b + 1) 193 8 [x0, .int x1, .int x2, u3] [] Q) := Eq.trans (s_aload_n r193_0 rfl (j_isr_vc h0 rfl)) (Eq.trans (s_iload_n r193_1 rfl) (Eq.trans (s_iconst r193_2) (Eq.trans (s_bipush r193_3) (j_cll (as := [x0, .int x2, .int (Int32.ofInt 0), .int (Int32.ofInt 6)]) (es := [x0, .int x2, .int (Int32.ofInt 0), .int (Int32.ofInt 6)]) (s_c2 r193_5 rfl h0 rfl rfl (j_dok (s := [.int (Int32.ofInt 6), .int (Int32.ofInt 0), .int x2, x0]) (as := [x0, .int x2, .int (Int32.ofInt 0), .int (Int32.ofInt 6)]) (rest := []) (es := [x0, .int x2, .int (Int32.ofInt 0), .int (Int32.ofInt 6)]) rfl rfl rfl rfl (j_slc (j_c1r (j_isr_vc h0 rfl)) rfl) rfl)) (j_slc (j_c1r (j_isr_vc h0 rfl)) rfl) rfl))))
theorem b193_8 {b : Nat} {x0 : Value} {x1 : Int32} {x2 : Int32} {u3 : Value} {y0 : Int32} {H : j_H} {Q : Option Value → j_H → Prop}  : j_wp b 193 8 [x0, .int x1, .int x2, u3] [.int y0] H Q = (if ¬ y0.toInt = 0 then j_wp b 193 14 [x0, .int x1, .int x2, u3] [] H Q else j_wp b 193 11 [x0, .int x1, .int x2, u3] [] H Q) := s_ifne r193_8 rfl rfl
theorem b193_11 {b : Nat} {x0 : Value} {x1 : Int32} {x2 : Int32} {u3 : Value} {H : j_H} {Q : Option Value → j_H → Prop}  : j_wp b 193 11 [x0, .int x1, .int x2, u3] [] H Q = Q (some (.int (Int32.ofInt (-2)))) H := Eq.trans (s_bipush r193_11) (s_ireturn r193_13 (j_rok1 rfl))
theorem b193_14 {b : Nat} {x0 : Value} {x1 : Int32} {x2 : Int32} {u3 : Value} {H : j_H} {Q : Option Value → j_H → Prop} (h0 : j_vc H x0 = 12) : j_wp (b + 1) 193 14 [x0, .int x1, .int x2, u3] [] H Q = j_wp b 124 0 [x0, .int x1] [] H (j_k (b + 1) 193 19 [x0, .int x1, .int x2, u3] [] Q) := Eq.trans (s_aload_n r193_14 rfl (j_isr_vc h0 rfl)) (Eq.trans (s_iload_n r193_15 rfl) (j_cll (as := [x0, .int x1]) (es := [x0, .int x1]) (s_c2 r193_16 rfl h0 rfl rfl (j_dok (s := [.int x1, x0]) (as := [x0, .int x1]) (rest := []) (es := [x0, .int x1]) rfl rfl rfl rfl (j_slc (j_c1r (j_isr_vc h0 rfl)) rfl) rfl)) (j_slc (j_c1r (j_isr_vc h0 rfl)) rfl) rfl))
theorem b193_19 {b : Nat} {x0 : Value} {x1 : Int32} {x2 : Int32} {u3 : Value} {y0 : Int32} {H : j_H} {Q : Option Value → j_H → Prop}  : j_wp b 193 19 [x0, .int x1, .int x2, u3] [.int y0] H Q = (if ¬ y0.toInt = 0 then j_wp b 193 25 [x0, .int x1, .int x2, u3] [] H Q else j_wp b 193 22 [x0, .int x1, .int x2, u3] [] H Q) := s_ifne r193_19 rfl rfl
theorem b193_22 {b : Nat} {x0 : Value} {x1 : Int32} {x2 : Int32} {u3 : Value} {H : j_H} {Q : Option Value → j_H → Prop}  : j_wp b 193 22 [x0, .int x1, .int x2, u3] [] H Q = Q (some (.int (Int32.ofInt (-11)))) H := Eq.trans (s_bipush r193_22) (s_ireturn r193_24 (j_rok1 rfl))
theorem b193_25 {b : Nat} {x0 : Value} {x1 : Int32} {x2 : Int32} {u3 : Value} {H : j_H} {Q : Option Value → j_H → Prop} (h0 : j_vc H x0 = 12) (h1 : j_vt H (va_rf (j_R H (j_pa x0) 4)) = 0) (h2 : 0 ≤ x1.toInt) (h3 : x1.toInt < ((j_vl H (va_rf (j_R H (j_pa x0) 4)) : Nat) : Int)) : j_wp b 193 25 [x0, .int x1, .int x2, u3] [] H Q = (if x2.toInt = 0 then j_wp b 193 72 [x0, .int x1, .int x2, .int (j_I H (j_pa (va_rf (j_R H (j_pa x0) 4))) (j_ix x1))] [] H Q else j_wp b 193 36 [x0, .int x1, .int x2, .int (j_I H (j_pa (va_rf (j_R H (j_pa x0) 4))) (j_ix x1))] [] H Q) := Eq.trans (s_aload_n r193_25 rfl (j_isr_vc h0 rfl)) (Eq.trans (s_getfr r193_26 (j_al1 h0 rfl) rfl) (Eq.trans (s_iload_n r193_29 rfl) (Eq.trans (s_iald r193_30 h1 (by decide) (j_ib_of (z := x1.toInt) rfl h2 h3)) (Eq.trans (s_istore_n r193_31 (Nat.le_of_ble_eq_true rfl) rfl) (Eq.trans (s_iload_n r193_32 rfl) (s_ifeq r193_33 rfl rfl))))))
theorem b193_36 {b : Nat} {x0 : Value} {x1 : Int32} {x2 : Int32} {x3 : Int32} {H : j_H} {Q : Option Value → j_H → Prop}  : j_wp b 193 36 [x0, .int x1, .int x2, .int x3] [] H Q = (if x3.toInt = x2.toInt then j_wp b 193 72 [x0, .int x1, .int x2, .int x3] [] H Q else j_wp b 193 41 [x0, .int x1, .int x2, .int x3] [] H Q) := Eq.trans (s_iload_n r193_36 rfl) (Eq.trans (s_iload_n r193_37 rfl) (s_iceq r193_38 rfl rfl rfl))
theorem b193_41 {b : Nat} {x0 : Value} {x1 : Int32} {x2 : Int32} {x3 : Int32} {H : j_H} {Q : Option Value → j_H → Prop}  : j_wp b 193 41 [x0, .int x1, .int x2, .int x3] [] H Q = (if ¬ x2.toInt = 1 then j_wp b 193 51 [x0, .int x1, .int x2, .int x3] [] H Q else j_wp b 193 46 [x0, .int x1, .int x2, .int x3] [] H Q) := Eq.trans (s_iload_n r193_41 rfl) (Eq.trans (s_iconst r193_42) (s_icne r193_43 rfl rfl rfl))
theorem b193_46 {b : Nat} {x0 : Value} {x1 : Int32} {x2 : Int32} {x3 : Int32} {H : j_H} {Q : Option Value → j_H → Prop}  : j_wp b 193 46 [x0, .int x1, .int x2, .int x3] [] H Q = (if x3.toInt = 4 then j_wp b 193 72 [x0, .int x1, .int x2, .int x3] [] H Q else j_wp b 193 51 [x0, .int x1, .int x2, .int x3] [] H Q) := Eq.trans (s_iload_n r193_46 rfl) (Eq.trans (s_iconst r193_47) (s_iceq r193_48 rfl rfl rfl))
theorem b193_51 {b : Nat} {x0 : Value} {x1 : Int32} {x2 : Int32} {x3 : Int32} {H : j_H} {Q : Option Value → j_H → Prop}  : j_wp b 193 51 [x0, .int x1, .int x2, .int x3] [] H Q = (if ¬ x2.toInt = 2 then j_wp b 193 61 [x0, .int x1, .int x2, .int x3] [] H Q else j_wp b 193 56 [x0, .int x1, .int x2, .int x3] [] H Q) := Eq.trans (s_iload_n r193_51 rfl) (Eq.trans (s_iconst r193_52) (s_icne r193_53 rfl rfl rfl))
theorem b193_56 {b : Nat} {x0 : Value} {x1 : Int32} {x2 : Int32} {x3 : Int32} {H : j_H} {Q : Option Value → j_H → Prop}  : j_wp b 193 56 [x0, .int x1, .int x2, .int x3] [] H Q = (if x3.toInt = 5 then j_wp b 193 72 [x0, .int x1, .int x2, .int x3] [] H Q else j_wp b 193 61 [x0, .int x1, .int x2, .int x3] [] H Q) := Eq.trans (s_iload_n r193_56 rfl) (Eq.trans (s_iconst r193_57) (s_iceq r193_58 rfl rfl rfl))
theorem b193_61 {b : Nat} {x0 : Value} {x1 : Int32} {x2 : Int32} {x3 : Int32} {H : j_H} {Q : Option Value → j_H → Prop}  : j_wp b 193 61 [x0, .int x1, .int x2, .int x3] [] H Q = (if ¬ x2.toInt = 3 then j_wp b 193 76 [x0, .int x1, .int x2, .int x3] [] H Q else j_wp b 193 66 [x0, .int x1, .int x2, .int x3] [] H Q) := Eq.trans (s_iload_n r193_61 rfl) (Eq.trans (s_iconst r193_62) (s_icne r193_63 rfl rfl rfl))
theorem b193_66 {b : Nat} {x0 : Value} {x1 : Int32} {x2 : Int32} {x3 : Int32} {H : j_H} {Q : Option Value → j_H → Prop}  : j_wp b 193 66 [x0, .int x1, .int x2, .int x3] [] H Q = (if ¬ x3.toInt = 6 then j_wp b 193 76 [x0, .int x1, .int x2, .int x3] [] H Q else j_wp b 193 72 [x0, .int x1, .int x2, .int x3] [] H Q) := Eq.trans (s_iload_n r193_66 rfl) (Eq.trans (s_bipush r193_67) (s_icne r193_69 rfl rfl rfl))
theorem b193_72 {b : Nat} {x0 : Value} {x1 : Int32} {x2 : Int32} {x3 : Int32} {H : j_H} {Q : Option Value → j_H → Prop}  : j_wp b 193 72 [x0, .int x1, .int x2, .int x3] [] H Q = j_wp b 193 78 [x0, .int x1, .int x2, .int x3] [.int x3] H Q := Eq.trans (s_iload_n r193_72 rfl) (s_goto r193_73 rfl)
theorem b193_76 {b : Nat} {x0 : Value} {x1 : Int32} {x2 : Int32} {x3 : Int32} {H : j_H} {Q : Option Value → j_H → Prop}  : j_wp b 193 76 [x0, .int x1, .int x2, .int x3] [] H Q = j_wp b 193 78 [x0, .int x1, .int x2, .int x3] [.int (Int32.ofInt (-12))] H Q := s_bipush r193_76
theorem b193_78 {b : Nat} {x0 : Value} {x1 : Int32} {x2 : Int32} {x3 : Int32} {y0 : Int32} {H : j_H} {Q : Option Value → j_H → Prop}  : j_wp b 193 78 [x0, .int x1, .int x2, .int x3] [.int y0] H Q = Q (some (.int y0)) H := s_ireturn r193_78 (j_rok1 rfl)
-- X12_count
theorem r194_0 : j_at 194 0 = some (0, .iload_n 1, 1, []) := by decide +kernel
theorem r194_1 : j_at 194 1 = some (1, .tableswitch 69 0 5 #[39, 44, 49, 54, 59, 64], 39, []) := by decide +kernel
theorem r194_40 : j_at 194 40 = some (40, .aload_n 0, 1, []) := by decide +kernel
theorem r194_41 : j_at 194 41 = some (41, .getfield 7, 3, [704, 12, 0, 0, 0, 12]) := by decide +kernel
theorem r194_44 : j_at 194 44 = some (44, .ireturn, 1, []) := by decide +kernel
theorem r194_45 : j_at 194 45 = some (45, .aload_n 0, 1, []) := by decide +kernel
theorem r194_46 : j_at 194 46 = some (46, .getfield 35, 3, [712, 12, 0, 8, 0, 12]) := by decide +kernel
theorem r194_49 : j_at 194 49 = some (49, .ireturn, 1, []) := by decide +kernel
theorem r194_50 : j_at 194 50 = some (50, .aload_n 0, 1, []) := by decide +kernel
theorem r194_51 : j_at 194 51 = some (51, .getfield 93, 3, [731, 12, 0, 27, 0, 12]) := by decide +kernel
theorem r194_54 : j_at 194 54 = some (54, .ireturn, 1, []) := by decide +kernel
theorem r194_55 : j_at 194 55 = some (55, .aload_n 0, 1, []) := by decide +kernel
theorem r194_56 : j_at 194 56 = some (56, .getfield 122, 3, [740, 12, 0, 36, 0, 12]) := by decide +kernel
theorem r194_59 : j_at 194 59 = some (59, .ireturn, 1, []) := by decide +kernel
theorem r194_60 : j_at 194 60 = some (60, .aload_n 0, 1, []) := by decide +kernel
theorem r194_61 : j_at 194 61 = some (61, .getfield 41, 3, [714, 12, 0, 10, 0, 12]) := by decide +kernel
theorem r194_64 : j_at 194 64 = some (64, .ireturn, 1, []) := by decide +kernel
theorem r194_65 : j_at 194 65 = some (65, .aload_n 0, 1, []) := by decide +kernel
theorem r194_66 : j_at 194 66 = some (66, .getfield 171, 3, [756, 12, 0, 52, 0, 12]) := by decide +kernel
theorem r194_69 : j_at 194 69 = some (69, .ireturn, 1, []) := by decide +kernel
theorem r194_70 : j_at 194 70 = some (70, .bipush (-2), 2, []) := by decide +kernel
theorem r194_72 : j_at 194 72 = some (72, .ireturn, 1, []) := by decide +kernel
theorem b194_0 {b : Nat} {x0 : Value} {x1 : Int32} {H : j_H} {Q : Option Value → j_H → Prop}  : j_wp b 194 0 [x0, .int x1] [] H Q = (if x1.toInt = 0 then j_wp b 194 40 [x0, .int x1] [] H Q else if x1.toInt = 1 then j_wp b 194 45 [x0, .int x1] [] H Q else if x1.toInt = 2 then j_wp b 194 50 [x0, .int x1] [] H Q else if x1.toInt = 3 then j_wp b 194 55 [x0, .int x1] [] H Q else if x1.toInt = 4 then j_wp b 194 60 [x0, .int x1] [] H Q else if x1.toInt = 5 then j_wp b 194 65 [x0, .int x1] [] H Q else j_wp b 194 70 [x0, .int x1] [] H Q) := Eq.trans (s_iload_n r194_0 rfl) (j_ite (fun h => s_tsw r194_1 (by rw [h]; rfl)) (fun h100 => j_ite (fun h => s_tsw r194_1 (by rw [h]; rfl)) (fun h101 => j_ite (fun h => s_tsw r194_1 (by rw [h]; rfl)) (fun h102 => j_ite (fun h => s_tsw r194_1 (by rw [h]; rfl)) (fun h103 => j_ite (fun h => s_tsw r194_1 (by rw [h]; rfl)) (fun h104 => j_ite (fun h => s_tsw r194_1 (by rw [h]; rfl)) (fun h105 => s_tsw r194_1 (by
    have h : x1.toInt < 0 ∨ 5 < x1.toInt  := by omega
    rcases h with h | h
    · rw [if_neg (by omega), j_sw, if_pos h]; rfl
    · rw [if_pos h]; rfl))))))))
theorem b194_40 {b : Nat} {x0 : Value} {x1 : Int32} {H : j_H} {Q : Option Value → j_H → Prop} (h0 : j_vc H x0 = 12) : j_wp b 194 40 [x0, .int x1] [] H Q = Q (some (.int (j_I H (j_pa x0) 0))) H := Eq.trans (s_aload_n r194_40 rfl (j_isr_vc h0 rfl)) (Eq.trans (s_getfi r194_41 (j_al1 h0 rfl) rfl rfl rfl) (s_ireturn r194_44 (j_rok1 rfl)))
theorem b194_45 {b : Nat} {x0 : Value} {x1 : Int32} {H : j_H} {Q : Option Value → j_H → Prop} (h0 : j_vc H x0 = 12) : j_wp b 194 45 [x0, .int x1] [] H Q = Q (some (.int (j_I H (j_pa x0) 8))) H := Eq.trans (s_aload_n r194_45 rfl (j_isr_vc h0 rfl)) (Eq.trans (s_getfi r194_46 (j_al1 h0 rfl) rfl rfl rfl) (s_ireturn r194_49 (j_rok1 rfl)))
theorem b194_50 {b : Nat} {x0 : Value} {x1 : Int32} {H : j_H} {Q : Option Value → j_H → Prop} (h0 : j_vc H x0 = 12) : j_wp b 194 50 [x0, .int x1] [] H Q = Q (some (.int (j_I H (j_pa x0) 27))) H := Eq.trans (s_aload_n r194_50 rfl (j_isr_vc h0 rfl)) (Eq.trans (s_getfi r194_51 (j_al1 h0 rfl) rfl rfl rfl) (s_ireturn r194_54 (j_rok1 rfl)))
theorem b194_55 {b : Nat} {x0 : Value} {x1 : Int32} {H : j_H} {Q : Option Value → j_H → Prop} (h0 : j_vc H x0 = 12) : j_wp b 194 55 [x0, .int x1] [] H Q = Q (some (.int (j_I H (j_pa x0) 36))) H := Eq.trans (s_aload_n r194_55 rfl (j_isr_vc h0 rfl)) (Eq.trans (s_getfi r194_56 (j_al1 h0 rfl) rfl rfl rfl) (s_ireturn r194_59 (j_rok1 rfl)))
theorem b194_60 {b : Nat} {x0 : Value} {x1 : Int32} {H : j_H} {Q : Option Value → j_H → Prop} (h0 : j_vc H x0 = 12) : j_wp b 194 60 [x0, .int x1] [] H Q = Q (some (.int (j_I H (j_pa x0) 10))) H := Eq.trans (s_aload_n r194_60 rfl (j_isr_vc h0 rfl)) (Eq.trans (s_getfi r194_61 (j_al1 h0 rfl) rfl rfl rfl) (s_ireturn r194_64 (j_rok1 rfl)))
theorem b194_65 {b : Nat} {x0 : Value} {x1 : Int32} {H : j_H} {Q : Option Value → j_H → Prop} (h0 : j_vc H x0 = 12) : j_wp b 194 65 [x0, .int x1] [] H Q = Q (some (.int (j_I H (j_pa x0) 52))) H := Eq.trans (s_aload_n r194_65 rfl (j_isr_vc h0 rfl)) (Eq.trans (s_getfi r194_66 (j_al1 h0 rfl) rfl rfl rfl) (s_ireturn r194_69 (j_rok1 rfl)))
theorem b194_70 {b : Nat} {x0 : Value} {x1 : Int32} {H : j_H} {Q : Option Value → j_H → Prop}  : j_wp b 194 70 [x0, .int x1] [] H Q = Q (some (.int (Int32.ofInt (-2)))) H := Eq.trans (s_bipush r194_70) (s_ireturn r194_72 (j_rok1 rfl))
-- X12_isTape
theorem r195_0 : j_at 195 0 = some (0, .aload_n 0, 1, []) := by decide +kernel
theorem r195_1 : j_at 195 1 = some (1, .iload_n 1, 1, []) := by decide +kernel
theorem r195_2 : j_at 195 2 = some (2, .iconst 0, 1, []) := by decide +kernel
theorem r195_3 : j_at 195 3 = some (3, .iconst 5, 1, []) := by decide +kernel
theorem r195_4 : j_at 195 4 = some (4, .invokevirtual 189, 3, [2, 4, 121, 825, 826, 26, 77, 0, 12]) := by decide +kernel
theorem r195_7 : j_at 195 7 = some (7, .ireturn, 1, []) := by decide +kernel
theorem b195_0 {b : Nat} {x0 : Value} {x1 : Int32} {H : j_H} {Q : Option Value → j_H → Prop} (h0 : j_vc H x0 = 12) : j_wp (b + 1) 195 0 [x0, .int x1] [] H Q = j_wp b 121 0 [x0, .int x1, .int (Int32.ofInt 0), .int (Int32.ofInt 5)] [] H (j_k (b + 1) 195 7 [x0, .int x1] [] Q) := Eq.trans (s_aload_n r195_0 rfl (j_isr_vc h0 rfl)) (Eq.trans (s_iload_n r195_1 rfl) (Eq.trans (s_iconst r195_2) (Eq.trans (s_iconst r195_3) (j_cll (as := [x0, .int x1, .int (Int32.ofInt 0), .int (Int32.ofInt 5)]) (es := [x0, .int x1, .int (Int32.ofInt 0), .int (Int32.ofInt 5)]) (s_c2 r195_4 rfl h0 rfl rfl (j_dok (s := [.int (Int32.ofInt 5), .int (Int32.ofInt 0), .int x1, x0]) (as := [x0, .int x1, .int (Int32.ofInt 0), .int (Int32.ofInt 5)]) (rest := []) (es := [x0, .int x1, .int (Int32.ofInt 0), .int (Int32.ofInt 5)]) rfl rfl rfl rfl (j_slc (j_c1r (j_isr_vc h0 rfl)) rfl) rfl)) (j_slc (j_c1r (j_isr_vc h0 rfl)) rfl) rfl))))
theorem b195_7 {b : Nat} {x0 : Value} {x1 : Int32} {y0 : Int32} {H : j_H} {Q : Option Value → j_H → Prop} (h0 : y0.toInt = 0 ∨ y0.toInt = 1) : j_wp b 195 7 [x0, .int x1] [.int y0] H Q = Q (some (.int y0)) H := s_ireturn r195_7 (j_rok4 (z := y0.toInt) rfl rfl h0)
-- X12_tape
theorem r196_0 : j_at 196 0 = some (0, .aload_n 0, 1, []) := by decide +kernel
theorem r196_1 : j_at 196 1 = some (1, .iload_n 1, 1, []) := by decide +kernel
theorem r196_2 : j_at 196 2 = some (2, .invokevirtual 315, 3, [2, 2, 195, 971, 972, 62, 77, 0, 12]) := by decide +kernel
theorem r196_5 : j_at 196 5 = some (5, .ifCond .ne 5, 3, []) := by decide +kernel
theorem r196_8 : j_at 196 8 = some (8, .iconst (-1), 1, []) := by decide +kernel
theorem r196_9 : j_at 196 9 = some (9, .ireturn, 1, []) := by decide +kernel
theorem r196_10 : j_at 196 10 = some (10, .aload_n 0, 1, []) := by decide +kernel
theorem r196_11 : j_at 196 11 = some (11, .iload_n 2, 1, []) := by decide +kernel
theorem r196_12 : j_at 196 12 = some (12, .iconst (-1), 1, []) := by decide +kernel
theorem r196_13 : j_at 196 13 = some (13, .iconst 4, 1, []) := by decide +kernel
theorem r196_14 : j_at 196 14 = some (14, .invokevirtual 189, 3, [2, 4, 121, 825, 826, 26, 77, 0, 12]) := by decide +kernel
theorem r196_17 : j_at 196 17 = some (17, .ifCond .eq 13, 3, []) := by decide +kernel
theorem r196_20 : j_at 196 20 = some (20, .iload_n 2, 1, []) := by decide +kernel
theorem r196_21 : j_at 196 21 = some (21, .ifCond .lt 12, 3, []) := by decide +kernel
theorem r196_24 : j_at 196 24 = some (24, .iload_n 3, 1, []) := by decide +kernel
theorem r196_25 : j_at 196 25 = some (25, .bipush 60, 2, []) := by decide +kernel
theorem r196_27 : j_at 196 27 = some (27, .if_icmp .le 6, 3, []) := by decide +kernel
theorem r196_30 : j_at 196 30 = some (30, .bipush (-2), 2, []) := by decide +kernel
theorem r196_32 : j_at 196 32 = some (32, .ireturn, 1, []) := by decide +kernel
theorem r196_33 : j_at 196 33 = some (33, .iload_n 2, 1, []) := by decide +kernel
theorem r196_34 : j_at 196 34 = some (34, .ifCond .lt 10, 3, []) := by decide +kernel
theorem r196_37 : j_at 196 37 = some (37, .iload_n 3, 1, []) := by decide +kernel
theorem r196_38 : j_at 196 38 = some (38, .ifCond .ge 6, 3, []) := by decide +kernel
theorem r196_41 : j_at 196 41 = some (41, .bipush (-14), 2, []) := by decide +kernel
theorem r196_43 : j_at 196 43 = some (43, .ireturn, 1, []) := by decide +kernel
theorem r196_44 : j_at 196 44 = some (44, .aload_n 0, 1, []) := by decide +kernel
theorem r196_45 : j_at 196 45 = some (45, .getfield 177, 3, [758, 12, 2, 54, 0, 12]) := by decide +kernel
theorem r196_48 : j_at 196 48 = some (48, .iload_n 1, 1, []) := by decide +kernel
theorem r196_49 : j_at 196 49 = some (49, .iload_n 2, 1, []) := by decide +kernel
theorem r196_50 : j_at 196 50 = some (50, .iastore, 1, []) := by decide +kernel
theorem r196_51 : j_at 196 51 = some (51, .aload_n 0, 1, []) := by decide +kernel
theorem r196_52 : j_at 196 52 = some (52, .getfield 180, 3, [759, 12, 2, 55, 0, 12]) := by decide +kernel
theorem r196_55 : j_at 196 55 = some (55, .iload_n 1, 1, []) := by decide +kernel
theorem r196_56 : j_at 196 56 = some (56, .iload_n 2, 1, []) := by decide +kernel
theorem r196_57 : j_at 196 57 = some (57, .ifCond .ge 7, 3, []) := by decide +kernel
theorem r196_60 : j_at 196 60 = some (60, .iconst 0, 1, []) := by decide +kernel
theorem r196_61 : j_at 196 61 = some (61, .goto 4, 3, []) := by decide +kernel
theorem r196_64 : j_at 196 64 = some (64, .iload_n 3, 1, []) := by decide +kernel
theorem r196_65 : j_at 196 65 = some (65, .iastore, 1, []) := by decide +kernel
theorem r196_66 : j_at 196 66 = some (66, .iconst 0, 1, []) := by decide +kernel
theorem r196_67 : j_at 196 67 = some (67, .istore 4, 2, []) := by decide +kernel
theorem r196_69 : j_at 196 69 = some (69, .iload 4, 2, []) := by decide +kernel
theorem r196_71 : j_at 196 71 = some (71, .bipush 60, 2, []) := by decide +kernel
theorem r196_73 : j_at 196 73 = some (73, .if_icmp .ge 22, 3, []) := by decide +kernel
theorem r196_76 : j_at 196 76 = some (76, .aload_n 0, 1, []) := by decide +kernel
theorem r196_77 : j_at 196 77 = some (77, .getfield 183, 3, [760, 12, 2, 56, 0, 12]) := by decide +kernel
theorem r196_80 : j_at 196 80 = some (80, .bipush 60, 2, []) := by decide +kernel
theorem r196_82 : j_at 196 82 = some (82, .iload_n 1, 1, []) := by decide +kernel
theorem r196_83 : j_at 196 83 = some (83, .imul, 1, []) := by decide +kernel
theorem r196_84 : j_at 196 84 = some (84, .iload 4, 2, []) := by decide +kernel
theorem r196_86 : j_at 196 86 = some (86, .iadd, 1, []) := by decide +kernel
theorem r196_87 : j_at 196 87 = some (87, .lconst 0, 1, []) := by decide +kernel
theorem r196_88 : j_at 196 88 = some (88, .lastore, 1, []) := by decide +kernel
theorem r196_89 : j_at 196 89 = some (89, .iinc 4 1, 3, []) := by decide +kernel
theorem r196_92 : j_at 196 92 = some (92, .goto (-23), 3, []) := by decide +kernel
theorem r196_95 : j_at 196 95 = some (95, .iconst 1, 1, []) := by decide +kernel
theorem r196_96 : j_at 196 96 = some (96, .ireturn, 1, []) := by decide +kernel
theorem b196_0 {b : Nat} {x0 : Value} {x1 : Int32} {x2 : Int32} {x3 : Int32} {u4 : Value} {H : j_H} {Q : Option Value → j_H → Prop} (h0 : j_vc H x0 = 12) : j_wp (b + 1) 196 0 [x0, .int x1, .int x2, .int x3, u4] [] H Q = j_wp b 195 0 [x0, .int x1] [] H (j_k (b + 1) 196 5 [x0, .int x1, .int x2, .int x3, u4] [] Q) := Eq.trans (s_aload_n r196_0 rfl (j_isr_vc h0 rfl)) (Eq.trans (s_iload_n r196_1 rfl) (j_cll (as := [x0, .int x1]) (es := [x0, .int x1]) (s_c2 r196_2 rfl h0 rfl rfl (j_dok (s := [.int x1, x0]) (as := [x0, .int x1]) (rest := []) (es := [x0, .int x1]) rfl rfl rfl rfl (j_slc (j_c1r (j_isr_vc h0 rfl)) rfl) rfl)) (j_slc (j_c1r (j_isr_vc h0 rfl)) rfl) rfl))
theorem b196_5 {b : Nat} {x0 : Value} {x1 : Int32} {x2 : Int32} {x3 : Int32} {u4 : Value} {y0 : Int32} {H : j_H} {Q : Option Value → j_H → Prop}  : j_wp b 196 5 [x0, .int x1, .int x2, .int x3, u4] [.int y0] H Q = (if ¬ y0.toInt = 0 then j_wp b 196 10 [x0, .int x1, .int x2, .int x3, u4] [] H Q else j_wp b 196 8 [x0, .int x1, .int x2, .int x3, u4] [] H Q) := s_ifne r196_5 rfl rfl
theorem b196_8 {b : Nat} {x0 : Value} {x1 : Int32} {x2 : Int32} {x3 : Int32} {u4 : Value} {H : j_H} {Q : Option Value → j_H → Prop}  : j_wp b 196 8 [x0, .int x1, .int x2, .int x3, u4] [] H Q = Q (some (.int (Int32.ofInt (-1)))) H := Eq.trans (s_iconst r196_8) (s_ireturn r196_9 (j_rok1 rfl))
theorem b196_10 {b : Nat} {x0 : Value} {x1 : Int32} {x2 : Int32} {x3 : Int32} {u4 : Value} {H : j_H} {Q : Option Value → j_H → Prop} (h0 : j_vc H x0 = 12) : j_wp (b + 1) 196 10 [x0, .int x1, .int x2, .int x3, u4] [] H Q = j_wp b 121 0 [x0, .int x2, .int (Int32.ofInt (-1)), .int (Int32.ofInt 4)] [] H (j_k (b + 1) 196 17 [x0, .int x1, .int x2, .int x3, u4] [] Q) := Eq.trans (s_aload_n r196_10 rfl (j_isr_vc h0 rfl)) (Eq.trans (s_iload_n r196_11 rfl) (Eq.trans (s_iconst r196_12) (Eq.trans (s_iconst r196_13) (j_cll (as := [x0, .int x2, .int (Int32.ofInt (-1)), .int (Int32.ofInt 4)]) (es := [x0, .int x2, .int (Int32.ofInt (-1)), .int (Int32.ofInt 4)]) (s_c2 r196_14 rfl h0 rfl rfl (j_dok (s := [.int (Int32.ofInt 4), .int (Int32.ofInt (-1)), .int x2, x0]) (as := [x0, .int x2, .int (Int32.ofInt (-1)), .int (Int32.ofInt 4)]) (rest := []) (es := [x0, .int x2, .int (Int32.ofInt (-1)), .int (Int32.ofInt 4)]) rfl rfl rfl rfl (j_slc (j_c1r (j_isr_vc h0 rfl)) rfl) rfl)) (j_slc (j_c1r (j_isr_vc h0 rfl)) rfl) rfl))))
theorem b196_17 {b : Nat} {x0 : Value} {x1 : Int32} {x2 : Int32} {x3 : Int32} {u4 : Value} {y0 : Int32} {H : j_H} {Q : Option Value → j_H → Prop}  : j_wp b 196 17 [x0, .int x1, .int x2, .int x3, u4] [.int y0] H Q = (if y0.toInt = 0 then j_wp b 196 30 [x0, .int x1, .int x2, .int x3, u4] [] H Q else j_wp b 196 20 [x0, .int x1, .int x2, .int x3, u4] [] H Q) := s_ifeq r196_17 rfl rfl
theorem b196_20 {b : Nat} {x0 : Value} {x1 : Int32} {x2 : Int32} {x3 : Int32} {u4 : Value} {H : j_H} {Q : Option Value → j_H → Prop}  : j_wp b 196 20 [x0, .int x1, .int x2, .int x3, u4] [] H Q = (if x2.toInt < 0 then j_wp b 196 33 [x0, .int x1, .int x2, .int x3, u4] [] H Q else j_wp b 196 24 [x0, .int x1, .int x2, .int x3, u4] [] H Q) := Eq.trans (s_iload_n r196_20 rfl) (s_iflt r196_21 rfl rfl)
theorem b196_24 {b : Nat} {x0 : Value} {x1 : Int32} {x2 : Int32} {x3 : Int32} {u4 : Value} {H : j_H} {Q : Option Value → j_H → Prop}  : j_wp b 196 24 [x0, .int x1, .int x2, .int x3, u4] [] H Q = (if x3.toInt ≤ 60 then j_wp b 196 33 [x0, .int x1, .int x2, .int x3, u4] [] H Q else j_wp b 196 30 [x0, .int x1, .int x2, .int x3, u4] [] H Q) := Eq.trans (s_iload_n r196_24 rfl) (Eq.trans (s_bipush r196_25) (s_icle r196_27 rfl rfl rfl))
theorem b196_30 {b : Nat} {x0 : Value} {x1 : Int32} {x2 : Int32} {x3 : Int32} {u4 : Value} {H : j_H} {Q : Option Value → j_H → Prop}  : j_wp b 196 30 [x0, .int x1, .int x2, .int x3, u4] [] H Q = Q (some (.int (Int32.ofInt (-2)))) H := Eq.trans (s_bipush r196_30) (s_ireturn r196_32 (j_rok1 rfl))
theorem b196_33 {b : Nat} {x0 : Value} {x1 : Int32} {x2 : Int32} {x3 : Int32} {u4 : Value} {H : j_H} {Q : Option Value → j_H → Prop}  : j_wp b 196 33 [x0, .int x1, .int x2, .int x3, u4] [] H Q = (if x2.toInt < 0 then j_wp b 196 44 [x0, .int x1, .int x2, .int x3, u4] [] H Q else j_wp b 196 37 [x0, .int x1, .int x2, .int x3, u4] [] H Q) := Eq.trans (s_iload_n r196_33 rfl) (s_iflt r196_34 rfl rfl)
theorem b196_37 {b : Nat} {x0 : Value} {x1 : Int32} {x2 : Int32} {x3 : Int32} {u4 : Value} {H : j_H} {Q : Option Value → j_H → Prop}  : j_wp b 196 37 [x0, .int x1, .int x2, .int x3, u4] [] H Q = (if 0 ≤ x3.toInt then j_wp b 196 44 [x0, .int x1, .int x2, .int x3, u4] [] H Q else j_wp b 196 41 [x0, .int x1, .int x2, .int x3, u4] [] H Q) := Eq.trans (s_iload_n r196_37 rfl) (s_ifge r196_38 rfl rfl)
theorem b196_41 {b : Nat} {x0 : Value} {x1 : Int32} {x2 : Int32} {x3 : Int32} {u4 : Value} {H : j_H} {Q : Option Value → j_H → Prop}  : j_wp b 196 41 [x0, .int x1, .int x2, .int x3, u4] [] H Q = Q (some (.int (Int32.ofInt (-14)))) H := Eq.trans (s_bipush r196_41) (s_ireturn r196_43 (j_rok1 rfl))
theorem b196_44 {b : Nat} {x0 : Value} {x1 : Int32} {x2 : Int32} {x3 : Int32} {u4 : Value} {H : j_H} {Q : Option Value → j_H → Prop} (h0 : j_vc H x0 = 12) (h1 : j_vt H (va_rf (j_R H (j_pa x0) 54)) = 0) (h2 : 0 ≤ x1.toInt) (h3 : x1.toInt < ((j_vl H (va_rf (j_R H (j_pa x0) 54)) : Nat) : Int)) : j_wp b 196 44 [x0, .int x1, .int x2, .int x3, u4] [] H Q = j_wp b 196 51 [x0, .int x1, .int x2, .int x3, u4] [] (j_sI H (j_pa (va_rf (j_R H (j_pa x0) 54))) (j_ix x1) x2) Q := Eq.trans (s_aload_n r196_44 rfl (j_isr_vc h0 rfl)) (Eq.trans (s_getfr r196_45 (j_al1 h0 rfl) rfl) (Eq.trans (s_iload_n r196_48 rfl) (Eq.trans (s_iload_n r196_49 rfl) (s_iast r196_50 h1 (j_ib_of (z := x1.toInt) rfl h2 h3)))))
theorem b196_51 {b : Nat} {x0 : Value} {x1 : Int32} {x2 : Int32} {x3 : Int32} {u4 : Value} {H : j_H} {Q : Option Value → j_H → Prop} (h0 : j_vc H x0 = 12) : j_wp b 196 51 [x0, .int x1, .int x2, .int x3, u4] [] H Q = (if 0 ≤ x2.toInt then j_wp b 196 64 [x0, .int x1, .int x2, .int x3, u4] [.int x1, va_rf (j_R H (j_pa x0) 55)] H Q else j_wp b 196 60 [x0, .int x1, .int x2, .int x3, u4] [.int x1, va_rf (j_R H (j_pa x0) 55)] H Q) := Eq.trans (s_aload_n r196_51 rfl (j_isr_vc h0 rfl)) (Eq.trans (s_getfr r196_52 (j_al1 h0 rfl) rfl) (Eq.trans (s_iload_n r196_55 rfl) (Eq.trans (s_iload_n r196_56 rfl) (s_ifge r196_57 rfl rfl))))
theorem b196_60 {b : Nat} {x0 : Value} {x1 : Int32} {x2 : Int32} {x3 : Int32} {u4 : Value} {y0 : Int32} {y1 : Value} {H : j_H} {Q : Option Value → j_H → Prop}  : j_wp b 196 60 [x0, .int x1, .int x2, .int x3, u4] [.int y0, y1] H Q = j_wp b 196 65 [x0, .int x1, .int x2, .int x3, u4] [.int (Int32.ofInt 0), .int y0, y1] H Q := Eq.trans (s_iconst r196_60) (s_goto r196_61 rfl)
theorem b196_64 {b : Nat} {x0 : Value} {x1 : Int32} {x2 : Int32} {x3 : Int32} {u4 : Value} {y0 : Int32} {y1 : Value} {H : j_H} {Q : Option Value → j_H → Prop}  : j_wp b 196 64 [x0, .int x1, .int x2, .int x3, u4] [.int y0, y1] H Q = j_wp b 196 65 [x0, .int x1, .int x2, .int x3, u4] [.int x3, .int y0, y1] H Q := s_iload_n r196_64 rfl
theorem b196_65 {b : Nat} {x0 : Value} {x1 : Int32} {x2 : Int32} {x3 : Int32} {u4 : Value} {y0 : Int32} {y1 : Int32} {y2 : Value} {H : j_H} {Q : Option Value → j_H → Prop} (h0 : j_vt H y2 = 0) (h1 : 0 ≤ y1.toInt) (h2 : y1.toInt < ((j_vl H y2 : Nat) : Int)) : j_wp b 196 65 [x0, .int x1, .int x2, .int x3, u4] [.int y0, .int y1, y2] H Q = j_wp b 196 66 [x0, .int x1, .int x2, .int x3, u4] [] (j_sI H (j_pa y2) (j_ix y1) y0) Q := s_iast r196_65 h0 (j_ib_of (z := y1.toInt) rfl h1 h2)
theorem b196_66 {b : Nat} {x0 : Value} {x1 : Int32} {x2 : Int32} {x3 : Int32} {u4 : Value} {H : j_H} {Q : Option Value → j_H → Prop}  : j_wp b 196 66 [x0, .int x1, .int x2, .int x3, u4] [] H Q = j_wp b 196 69 [x0, .int x1, .int x2, .int x3, .int (Int32.ofInt 0)] [] H Q := Eq.trans (s_iconst r196_66) (s_istore r196_67 (Nat.le_of_ble_eq_true rfl) rfl)
theorem b196_69 {b : Nat} {x0 : Value} {x1 : Int32} {x2 : Int32} {x3 : Int32} {x4 : Int32} {H : j_H} {Q : Option Value → j_H → Prop}  : j_wp b 196 69 [x0, .int x1, .int x2, .int x3, .int x4] [] H Q = (if 60 ≤ x4.toInt then j_wp b 196 95 [x0, .int x1, .int x2, .int x3, .int x4] [] H Q else j_wp b 196 76 [x0, .int x1, .int x2, .int x3, .int x4] [] H Q) := Eq.trans (s_iload r196_69 rfl) (Eq.trans (s_bipush r196_71) (s_icge r196_73 rfl rfl rfl))
theorem b196_76 {b : Nat} {x0 : Value} {x1 : Int32} {x2 : Int32} {x3 : Int32} {x4 : Int32} {H : j_H} {Q : Option Value → j_H → Prop} (h0 : j_vc H x0 = 12) (h1 : j_vt H (va_rf (j_R H (j_pa x0) 56)) = 1) (h2 : 0 ≤ (((Int32.ofInt 60) * x1) + x4).toInt) (h3 : (((Int32.ofInt 60) * x1) + x4).toInt < ((j_vl H (va_rf (j_R H (j_pa x0) 56)) : Nat) : Int)) : j_wp b 196 76 [x0, .int x1, .int x2, .int x3, .int x4] [] H Q = j_wp b 196 89 [x0, .int x1, .int x2, .int x3, .int x4] [] (j_sL H (j_pa (va_rf (j_R H (j_pa x0) 56))) (j_ix (((Int32.ofInt 60) * x1) + x4)) (Int64.ofInt 0)) Q := Eq.trans (s_aload_n r196_76 rfl (j_isr_vc h0 rfl)) (Eq.trans (s_getfr r196_77 (j_al1 h0 rfl) rfl) (Eq.trans (s_bipush r196_80) (Eq.trans (s_iload_n r196_82 rfl) (Eq.trans (s_imul r196_83) (Eq.trans (s_iload r196_84 rfl) (Eq.trans (s_iadd r196_86) (Eq.trans (s_lconst r196_87 rfl) (s_last r196_88 h1 (j_ib_of (z := (((Int32.ofInt 60) * x1) + x4).toInt) rfl h2 h3)))))))))
theorem b196_89 {b : Nat} {x0 : Value} {x1 : Int32} {x2 : Int32} {x3 : Int32} {x4 : Int32} {H : j_H} {Q : Option Value → j_H → Prop}  : j_wp b 196 89 [x0, .int x1, .int x2, .int x3, .int x4] [] H Q = j_wp b 196 69 [x0, .int x1, .int x2, .int x3, .int (x4 + Int32.ofInt 1)] [] H Q := Eq.trans (s_iinc r196_89 rfl rfl) (s_goto r196_92 rfl)
theorem b196_95 {b : Nat} {x0 : Value} {x1 : Int32} {x2 : Int32} {x3 : Int32} {x4 : Int32} {H : j_H} {Q : Option Value → j_H → Prop}  : j_wp b 196 95 [x0, .int x1, .int x2, .int x3, .int x4] [] H Q = Q (some (.int (Int32.ofInt 1))) H := Eq.trans (s_iconst r196_95) (s_ireturn r196_96 (j_rok1 rfl))
-- X12_narrow
theorem r197_0 : j_at 197 0 = some (0, .iload_n 1, 1, []) := by decide +kernel
theorem r197_1 : j_at 197 1 = some (1, .ifCond .ne 10, 3, []) := by decide +kernel
theorem r197_4 : j_at 197 4 = some (4, .lload_n 2, 1, []) := by decide +kernel
theorem r197_5 : j_at 197 5 = some (5, .l2i, 1, []) := by decide +kernel
theorem r197_6 : j_at 197 6 = some (6, .i2b, 1, []) := by decide +kernel
theorem r197_7 : j_at 197 7 = some (7, .i2l, 1, []) := by decide +kernel
theorem r197_8 : j_at 197 8 = some (8, .goto 46, 3, []) := by decide +kernel
theorem r197_11 : j_at 197 11 = some (11, .iload_n 1, 1, []) := by decide +kernel
theorem r197_12 : j_at 197 12 = some (12, .iconst 1, 1, []) := by decide +kernel
theorem r197_13 : j_at 197 13 = some (13, .if_icmp .ne 10, 3, []) := by decide +kernel
theorem r197_16 : j_at 197 16 = some (16, .lload_n 2, 1, []) := by decide +kernel
theorem r197_17 : j_at 197 17 = some (17, .l2i, 1, []) := by decide +kernel
theorem r197_18 : j_at 197 18 = some (18, .i2s, 1, []) := by decide +kernel
theorem r197_19 : j_at 197 19 = some (19, .i2l, 1, []) := by decide +kernel
theorem r197_20 : j_at 197 20 = some (20, .goto 34, 3, []) := by decide +kernel
theorem r197_23 : j_at 197 23 = some (23, .iload_n 1, 1, []) := by decide +kernel
theorem r197_24 : j_at 197 24 = some (24, .iconst 2, 1, []) := by decide +kernel
theorem r197_25 : j_at 197 25 = some (25, .if_icmp .ne 9, 3, []) := by decide +kernel
theorem r197_28 : j_at 197 28 = some (28, .lload_n 2, 1, []) := by decide +kernel
theorem r197_29 : j_at 197 29 = some (29, .l2i, 1, []) := by decide +kernel
theorem r197_30 : j_at 197 30 = some (30, .i2l, 1, []) := by decide +kernel
theorem r197_31 : j_at 197 31 = some (31, .goto 23, 3, []) := by decide +kernel
theorem r197_34 : j_at 197 34 = some (34, .iload_n 1, 1, []) := by decide +kernel
theorem r197_35 : j_at 197 35 = some (35, .iconst 4, 1, []) := by decide +kernel
theorem r197_36 : j_at 197 36 = some (36, .if_icmp .ne 17, 3, []) := by decide +kernel
theorem r197_39 : j_at 197 39 = some (39, .lload_n 2, 1, []) := by decide +kernel
theorem r197_40 : j_at 197 40 = some (40, .lconst 0, 1, []) := by decide +kernel
theorem r197_41 : j_at 197 41 = some (41, .lcmp, 1, []) := by decide +kernel
theorem r197_42 : j_at 197 42 = some (42, .ifCond .eq 7, 3, []) := by decide +kernel
theorem r197_45 : j_at 197 45 = some (45, .lconst 1, 1, []) := by decide +kernel
theorem r197_46 : j_at 197 46 = some (46, .goto 8, 3, []) := by decide +kernel
theorem r197_49 : j_at 197 49 = some (49, .lconst 0, 1, []) := by decide +kernel
theorem r197_50 : j_at 197 50 = some (50, .goto 4, 3, []) := by decide +kernel
theorem r197_53 : j_at 197 53 = some (53, .lload_n 2, 1, []) := by decide +kernel
theorem r197_54 : j_at 197 54 = some (54, .lreturn, 1, []) := by decide +kernel
theorem b197_0 {b : Nat} {x0 : Value} {x1 : Int32} {x2 : Int64} {H : j_H} {Q : Option Value → j_H → Prop}  : j_wp b 197 0 [x0, .int x1, .long x2, j_u] [] H Q = (if ¬ x1.toInt = 0 then j_wp b 197 11 [x0, .int x1, .long x2, j_u] [] H Q else j_wp b 197 4 [x0, .int x1, .long x2, j_u] [] H Q) := Eq.trans (s_iload_n r197_0 rfl) (s_ifne r197_1 rfl rfl)
theorem b197_4 {b : Nat} {x0 : Value} {x1 : Int32} {x2 : Int64} {H : j_H} {Q : Option Value → j_H → Prop}  : j_wp b 197 4 [x0, .int x1, .long x2, j_u] [] H Q = j_wp b 197 54 [x0, .int x1, .long x2, j_u] [.long x2.toInt32.toInt8.toInt32.toInt64] H Q := Eq.trans (s_lload_n r197_4 rfl) (Eq.trans (s_l2i r197_5) (Eq.trans (s_i2b r197_6) (Eq.trans (s_i2l r197_7) (s_goto r197_8 rfl))))
theorem b197_11 {b : Nat} {x0 : Value} {x1 : Int32} {x2 : Int64} {H : j_H} {Q : Option Value → j_H → Prop}  : j_wp b 197 11 [x0, .int x1, .long x2, j_u] [] H Q = (if ¬ x1.toInt = 1 then j_wp b 197 23 [x0, .int x1, .long x2, j_u] [] H Q else j_wp b 197 16 [x0, .int x1, .long x2, j_u] [] H Q) := Eq.trans (s_iload_n r197_11 rfl) (Eq.trans (s_iconst r197_12) (s_icne r197_13 rfl rfl rfl))
theorem b197_16 {b : Nat} {x0 : Value} {x1 : Int32} {x2 : Int64} {H : j_H} {Q : Option Value → j_H → Prop}  : j_wp b 197 16 [x0, .int x1, .long x2, j_u] [] H Q = j_wp b 197 54 [x0, .int x1, .long x2, j_u] [.long x2.toInt32.toInt16.toInt32.toInt64] H Q := Eq.trans (s_lload_n r197_16 rfl) (Eq.trans (s_l2i r197_17) (Eq.trans (s_i2s r197_18) (Eq.trans (s_i2l r197_19) (s_goto r197_20 rfl))))
theorem b197_23 {b : Nat} {x0 : Value} {x1 : Int32} {x2 : Int64} {H : j_H} {Q : Option Value → j_H → Prop}  : j_wp b 197 23 [x0, .int x1, .long x2, j_u] [] H Q = (if ¬ x1.toInt = 2 then j_wp b 197 34 [x0, .int x1, .long x2, j_u] [] H Q else j_wp b 197 28 [x0, .int x1, .long x2, j_u] [] H Q) := Eq.trans (s_iload_n r197_23 rfl) (Eq.trans (s_iconst r197_24) (s_icne r197_25 rfl rfl rfl))
theorem b197_28 {b : Nat} {x0 : Value} {x1 : Int32} {x2 : Int64} {H : j_H} {Q : Option Value → j_H → Prop}  : j_wp b 197 28 [x0, .int x1, .long x2, j_u] [] H Q = j_wp b 197 54 [x0, .int x1, .long x2, j_u] [.long x2.toInt32.toInt64] H Q := Eq.trans (s_lload_n r197_28 rfl) (Eq.trans (s_l2i r197_29) (Eq.trans (s_i2l r197_30) (s_goto r197_31 rfl)))
theorem b197_34 {b : Nat} {x0 : Value} {x1 : Int32} {x2 : Int64} {H : j_H} {Q : Option Value → j_H → Prop}  : j_wp b 197 34 [x0, .int x1, .long x2, j_u] [] H Q = (if ¬ x1.toInt = 4 then j_wp b 197 53 [x0, .int x1, .long x2, j_u] [] H Q else j_wp b 197 39 [x0, .int x1, .long x2, j_u] [] H Q) := Eq.trans (s_iload_n r197_34 rfl) (Eq.trans (s_iconst r197_35) (s_icne r197_36 rfl rfl rfl))
theorem b197_39 {b : Nat} {x0 : Value} {x1 : Int32} {x2 : Int64} {H : j_H} {Q : Option Value → j_H → Prop}  : j_wp b 197 39 [x0, .int x1, .long x2, j_u] [] H Q = (if (lg_cmp x2 (Int64.ofInt 0)).toInt = 0 then j_wp b 197 49 [x0, .int x1, .long x2, j_u] [] H Q else j_wp b 197 45 [x0, .int x1, .long x2, j_u] [] H Q) := Eq.trans (s_lload_n r197_39 rfl) (Eq.trans (s_lconst r197_40 rfl) (Eq.trans (s_lcmp r197_41) (s_ifeq r197_42 rfl rfl)))
theorem b197_45 {b : Nat} {x0 : Value} {x1 : Int32} {x2 : Int64} {H : j_H} {Q : Option Value → j_H → Prop}  : j_wp b 197 45 [x0, .int x1, .long x2, j_u] [] H Q = j_wp b 197 54 [x0, .int x1, .long x2, j_u] [.long (Int64.ofInt 1)] H Q := Eq.trans (s_lconst r197_45 rfl) (s_goto r197_46 rfl)
theorem b197_49 {b : Nat} {x0 : Value} {x1 : Int32} {x2 : Int64} {H : j_H} {Q : Option Value → j_H → Prop}  : j_wp b 197 49 [x0, .int x1, .long x2, j_u] [] H Q = j_wp b 197 54 [x0, .int x1, .long x2, j_u] [.long (Int64.ofInt 0)] H Q := Eq.trans (s_lconst r197_49 rfl) (s_goto r197_50 rfl)
theorem b197_53 {b : Nat} {x0 : Value} {x1 : Int32} {x2 : Int64} {H : j_H} {Q : Option Value → j_H → Prop}  : j_wp b 197 53 [x0, .int x1, .long x2, j_u] [] H Q = j_wp b 197 54 [x0, .int x1, .long x2, j_u] [.long x2] H Q := s_lload_n r197_53 rfl
theorem b197_54 {b : Nat} {x0 : Value} {x1 : Int32} {x2 : Int64} {y0 : Int64} {H : j_H} {Q : Option Value → j_H → Prop}  : j_wp b 197 54 [x0, .int x1, .long x2, j_u] [.long y0] H Q = Q (some (.long y0)) H := s_lreturn r197_54 rfl
-- X12_item
theorem r198_0 : j_at 198 0 = some (0, .aload_n 0, 1, []) := by decide +kernel
theorem r198_1 : j_at 198 1 = some (1, .iload_n 1, 1, []) := by decide +kernel
theorem r198_2 : j_at 198 2 = some (2, .invokevirtual 315, 3, [2, 2, 195, 971, 972, 62, 77, 0, 12]) := by decide +kernel
theorem r198_5 : j_at 198 5 = some (5, .ifCond .ne 5, 3, []) := by decide +kernel
theorem r198_8 : j_at 198 8 = some (8, .iconst (-1), 1, []) := by decide +kernel
theorem r198_9 : j_at 198 9 = some (9, .ireturn, 1, []) := by decide +kernel
theorem r198_10 : j_at 198 10 = some (10, .aload_n 0, 1, []) := by decide +kernel
theorem r198_11 : j_at 198 11 = some (11, .getfield 177, 3, [758, 12, 2, 54, 0, 12]) := by decide +kernel
theorem r198_14 : j_at 198 14 = some (14, .iload_n 1, 1, []) := by decide +kernel
theorem r198_15 : j_at 198 15 = some (15, .iaload, 1, []) := by decide +kernel
theorem r198_16 : j_at 198 16 = some (16, .ifCond .ge 6, 3, []) := by decide +kernel
theorem r198_19 : j_at 198 19 = some (19, .bipush (-11), 2, []) := by decide +kernel
theorem r198_21 : j_at 198 21 = some (21, .ireturn, 1, []) := by decide +kernel
theorem r198_22 : j_at 198 22 = some (22, .aload_n 0, 1, []) := by decide +kernel
theorem r198_23 : j_at 198 23 = some (23, .iload_n 2, 1, []) := by decide +kernel
theorem r198_24 : j_at 198 24 = some (24, .iconst 0, 1, []) := by decide +kernel
theorem r198_25 : j_at 198 25 = some (25, .aload_n 0, 1, []) := by decide +kernel
theorem r198_26 : j_at 198 26 = some (26, .getfield 180, 3, [759, 12, 2, 55, 0, 12]) := by decide +kernel
theorem r198_29 : j_at 198 29 = some (29, .iload_n 1, 1, []) := by decide +kernel
theorem r198_30 : j_at 198 30 = some (30, .iaload, 1, []) := by decide +kernel
theorem r198_31 : j_at 198 31 = some (31, .iconst 1, 1, []) := by decide +kernel
theorem r198_32 : j_at 198 32 = some (32, .isub, 1, []) := by decide +kernel
theorem r198_33 : j_at 198 33 = some (33, .invokevirtual 189, 3, [2, 4, 121, 825, 826, 26, 77, 0, 12]) := by decide +kernel
theorem r198_36 : j_at 198 36 = some (36, .ifCond .ne 6, 3, []) := by decide +kernel
theorem r198_39 : j_at 198 39 = some (39, .bipush (-13), 2, []) := by decide +kernel
theorem r198_41 : j_at 198 41 = some (41, .ireturn, 1, []) := by decide +kernel
theorem r198_42 : j_at 198 42 = some (42, .aload_n 0, 1, []) := by decide +kernel
theorem r198_43 : j_at 198 43 = some (43, .getfield 183, 3, [760, 12, 2, 56, 0, 12]) := by decide +kernel
theorem r198_46 : j_at 198 46 = some (46, .bipush 60, 2, []) := by decide +kernel
theorem r198_48 : j_at 198 48 = some (48, .iload_n 1, 1, []) := by decide +kernel
theorem r198_49 : j_at 198 49 = some (49, .imul, 1, []) := by decide +kernel
theorem r198_50 : j_at 198 50 = some (50, .iload_n 2, 1, []) := by decide +kernel
theorem r198_51 : j_at 198 51 = some (51, .iadd, 1, []) := by decide +kernel
theorem r198_52 : j_at 198 52 = some (52, .aload_n 0, 1, []) := by decide +kernel
theorem r198_53 : j_at 198 53 = some (53, .aload_n 0, 1, []) := by decide +kernel
theorem r198_54 : j_at 198 54 = some (54, .getfield 177, 3, [758, 12, 2, 54, 0, 12]) := by decide +kernel
theorem r198_57 : j_at 198 57 = some (57, .iload_n 1, 1, []) := by decide +kernel
theorem r198_58 : j_at 198 58 = some (58, .iaload, 1, []) := by decide +kernel
theorem r198_59 : j_at 198 59 = some (59, .lload_n 3, 1, []) := by decide +kernel
theorem r198_60 : j_at 198 60 = some (60, .invokevirtual 342, 3, [2, 3, 197, 1013, 1014, 71, 77, 0, 12]) := by decide +kernel
theorem r198_63 : j_at 198 63 = some (63, .lastore, 1, []) := by decide +kernel
theorem r198_64 : j_at 198 64 = some (64, .iconst 1, 1, []) := by decide +kernel
theorem r198_65 : j_at 198 65 = some (65, .ireturn, 1, []) := by decide +kernel
theorem b198_0 {b : Nat} {x0 : Value} {x1 : Int32} {x2 : Int32} {x3 : Int64} {H : j_H} {Q : Option Value → j_H → Prop} (h0 : j_vc H x0 = 12) : j_wp (b + 1) 198 0 [x0, .int x1, .int x2, .long x3, j_u] [] H Q = j_wp b 195 0 [x0, .int x1] [] H (j_k (b + 1) 198 5 [x0, .int x1, .int x2, .long x3, j_u] [] Q) := Eq.trans (s_aload_n r198_0 rfl (j_isr_vc h0 rfl)) (Eq.trans (s_iload_n r198_1 rfl) (j_cll (as := [x0, .int x1]) (es := [x0, .int x1]) (s_c2 r198_2 rfl h0 rfl rfl (j_dok (s := [.int x1, x0]) (as := [x0, .int x1]) (rest := []) (es := [x0, .int x1]) rfl rfl rfl rfl (j_slc (j_c1r (j_isr_vc h0 rfl)) rfl) rfl)) (j_slc (j_c1r (j_isr_vc h0 rfl)) rfl) rfl))
theorem b198_5 {b : Nat} {x0 : Value} {x1 : Int32} {x2 : Int32} {x3 : Int64} {y0 : Int32} {H : j_H} {Q : Option Value → j_H → Prop}  : j_wp b 198 5 [x0, .int x1, .int x2, .long x3, j_u] [.int y0] H Q = (if ¬ y0.toInt = 0 then j_wp b 198 10 [x0, .int x1, .int x2, .long x3, j_u] [] H Q else j_wp b 198 8 [x0, .int x1, .int x2, .long x3, j_u] [] H Q) := s_ifne r198_5 rfl rfl
theorem b198_8 {b : Nat} {x0 : Value} {x1 : Int32} {x2 : Int32} {x3 : Int64} {H : j_H} {Q : Option Value → j_H → Prop}  : j_wp b 198 8 [x0, .int x1, .int x2, .long x3, j_u] [] H Q = Q (some (.int (Int32.ofInt (-1)))) H := Eq.trans (s_iconst r198_8) (s_ireturn r198_9 (j_rok1 rfl))
theorem b198_10 {b : Nat} {x0 : Value} {x1 : Int32} {x2 : Int32} {x3 : Int64} {H : j_H} {Q : Option Value → j_H → Prop} (h0 : j_vc H x0 = 12) (h1 : j_vt H (va_rf (j_R H (j_pa x0) 54)) = 0) (h2 : 0 ≤ x1.toInt) (h3 : x1.toInt < ((j_vl H (va_rf (j_R H (j_pa x0) 54)) : Nat) : Int)) : j_wp b 198 10 [x0, .int x1, .int x2, .long x3, j_u] [] H Q = (if 0 ≤ (j_I H (j_pa (va_rf (j_R H (j_pa x0) 54))) (j_ix x1)).toInt then j_wp b 198 22 [x0, .int x1, .int x2, .long x3, j_u] [] H Q else j_wp b 198 19 [x0, .int x1, .int x2, .long x3, j_u] [] H Q) := Eq.trans (s_aload_n r198_10 rfl (j_isr_vc h0 rfl)) (Eq.trans (s_getfr r198_11 (j_al1 h0 rfl) rfl) (Eq.trans (s_iload_n r198_14 rfl) (Eq.trans (s_iald r198_15 h1 (by decide) (j_ib_of (z := x1.toInt) rfl h2 h3)) (s_ifge r198_16 rfl rfl))))
theorem b198_19 {b : Nat} {x0 : Value} {x1 : Int32} {x2 : Int32} {x3 : Int64} {H : j_H} {Q : Option Value → j_H → Prop}  : j_wp b 198 19 [x0, .int x1, .int x2, .long x3, j_u] [] H Q = Q (some (.int (Int32.ofInt (-11)))) H := Eq.trans (s_bipush r198_19) (s_ireturn r198_21 (j_rok1 rfl))
theorem b198_22 {b : Nat} {x0 : Value} {x1 : Int32} {x2 : Int32} {x3 : Int64} {H : j_H} {Q : Option Value → j_H → Prop} (h0 : j_vc H x0 = 12) (h1 : j_vt H (va_rf (j_R H (j_pa x0) 55)) = 0) (h2 : 0 ≤ x1.toInt) (h3 : x1.toInt < ((j_vl H (va_rf (j_R H (j_pa x0) 55)) : Nat) : Int)) : j_wp (b + 1) 198 22 [x0, .int x1, .int x2, .long x3, j_u] [] H Q = j_wp b 121 0 [x0, .int x2, .int (Int32.ofInt 0), .int ((j_I H (j_pa (va_rf (j_R H (j_pa x0) 55))) (j_ix x1)) - (Int32.ofInt 1))] [] H (j_k (b + 1) 198 36 [x0, .int x1, .int x2, .long x3, j_u] [] Q) := Eq.trans (s_aload_n r198_22 rfl (j_isr_vc h0 rfl)) (Eq.trans (s_iload_n r198_23 rfl) (Eq.trans (s_iconst r198_24) (Eq.trans (s_aload_n r198_25 rfl (j_isr_vc h0 rfl)) (Eq.trans (s_getfr r198_26 (j_al1 h0 rfl) rfl) (Eq.trans (s_iload_n r198_29 rfl) (Eq.trans (s_iald r198_30 h1 (by decide) (j_ib_of (z := x1.toInt) rfl h2 h3)) (Eq.trans (s_iconst r198_31) (Eq.trans (s_isub r198_32) (j_cll (as := [x0, .int x2, .int (Int32.ofInt 0), .int ((j_I H (j_pa (va_rf (j_R H (j_pa x0) 55))) (j_ix x1)) - (Int32.ofInt 1))]) (es := [x0, .int x2, .int (Int32.ofInt 0), .int ((j_I H (j_pa (va_rf (j_R H (j_pa x0) 55))) (j_ix x1)) - (Int32.ofInt 1))]) (s_c2 r198_33 rfl h0 rfl rfl (j_dok (s := [.int ((j_I H (j_pa (va_rf (j_R H (j_pa x0) 55))) (j_ix x1)) - (Int32.ofInt 1)), .int (Int32.ofInt 0), .int x2, x0]) (as := [x0, .int x2, .int (Int32.ofInt 0), .int ((j_I H (j_pa (va_rf (j_R H (j_pa x0) 55))) (j_ix x1)) - (Int32.ofInt 1))]) (rest := []) (es := [x0, .int x2, .int (Int32.ofInt 0), .int ((j_I H (j_pa (va_rf (j_R H (j_pa x0) 55))) (j_ix x1)) - (Int32.ofInt 1))]) rfl rfl rfl rfl (j_slc (j_c1r (j_isr_vc h0 rfl)) rfl) rfl)) (j_slc (j_c1r (j_isr_vc h0 rfl)) rfl) rfl)))))))))
theorem b198_36 {b : Nat} {x0 : Value} {x1 : Int32} {x2 : Int32} {x3 : Int64} {y0 : Int32} {H : j_H} {Q : Option Value → j_H → Prop}  : j_wp b 198 36 [x0, .int x1, .int x2, .long x3, j_u] [.int y0] H Q = (if ¬ y0.toInt = 0 then j_wp b 198 42 [x0, .int x1, .int x2, .long x3, j_u] [] H Q else j_wp b 198 39 [x0, .int x1, .int x2, .long x3, j_u] [] H Q) := s_ifne r198_36 rfl rfl
theorem b198_39 {b : Nat} {x0 : Value} {x1 : Int32} {x2 : Int32} {x3 : Int64} {H : j_H} {Q : Option Value → j_H → Prop}  : j_wp b 198 39 [x0, .int x1, .int x2, .long x3, j_u] [] H Q = Q (some (.int (Int32.ofInt (-13)))) H := Eq.trans (s_bipush r198_39) (s_ireturn r198_41 (j_rok1 rfl))
theorem b198_42 {b : Nat} {x0 : Value} {x1 : Int32} {x2 : Int32} {x3 : Int64} {H : j_H} {Q : Option Value → j_H → Prop} (h0 : j_vc H x0 = 12) (h1 : j_vt H (va_rf (j_R H (j_pa x0) 54)) = 0) (h2 : 0 ≤ x1.toInt) (h3 : x1.toInt < ((j_vl H (va_rf (j_R H (j_pa x0) 54)) : Nat) : Int)) : j_wp (b + 1) 198 42 [x0, .int x1, .int x2, .long x3, j_u] [] H Q = j_wp b 197 0 [x0, .int (j_I H (j_pa (va_rf (j_R H (j_pa x0) 54))) (j_ix x1)), .long x3, j_u] [] H (j_k (b + 1) 198 63 [x0, .int x1, .int x2, .long x3, j_u] [.int (((Int32.ofInt 60) * x1) + x2), va_rf (j_R H (j_pa x0) 56)] Q) := Eq.trans (s_aload_n r198_42 rfl (j_isr_vc h0 rfl)) (Eq.trans (s_getfr r198_43 (j_al1 h0 rfl) rfl) (Eq.trans (s_bipush r198_46) (Eq.trans (s_iload_n r198_48 rfl) (Eq.trans (s_imul r198_49) (Eq.trans (s_iload_n r198_50 rfl) (Eq.trans (s_iadd r198_51) (Eq.trans (s_aload_n r198_52 rfl (j_isr_vc h0 rfl)) (Eq.trans (s_aload_n r198_53 rfl (j_isr_vc h0 rfl)) (Eq.trans (s_getfr r198_54 (j_al1 h0 rfl) rfl) (Eq.trans (s_iload_n r198_57 rfl) (Eq.trans (s_iald r198_58 h1 (by decide) (j_ib_of (z := x1.toInt) rfl h2 h3)) (Eq.trans (s_lload_n r198_59 rfl) (j_cll (as := [x0, .int (j_I H (j_pa (va_rf (j_R H (j_pa x0) 54))) (j_ix x1)), .long x3]) (es := [x0, .int (j_I H (j_pa (va_rf (j_R H (j_pa x0) 54))) (j_ix x1)), .long x3, j_u]) (s_c2 r198_60 rfl h0 rfl rfl (j_dok (s := [.long x3, .int (j_I H (j_pa (va_rf (j_R H (j_pa x0) 54))) (j_ix x1)), x0, .int (((Int32.ofInt 60) * x1) + x2), va_rf (j_R H (j_pa x0) 56)]) (as := [x0, .int (j_I H (j_pa (va_rf (j_R H (j_pa x0) 54))) (j_ix x1)), .long x3]) (rest := [.int (((Int32.ofInt 60) * x1) + x2), va_rf (j_R H (j_pa x0) 56)]) (es := [x0, .int (j_I H (j_pa (va_rf (j_R H (j_pa x0) 54))) (j_ix x1)), .long x3, j_u]) rfl rfl rfl rfl (j_slc (j_c1r (j_isr_vc h0 rfl)) rfl) rfl)) (j_slc (j_c1r (j_isr_vc h0 rfl)) rfl) rfl)))))))))))))
theorem b198_63 {b : Nat} {x0 : Value} {x1 : Int32} {x2 : Int32} {x3 : Int64} {y0 : Int64} {y1 : Int32} {y2 : Value} {H : j_H} {Q : Option Value → j_H → Prop} (h0 : j_vt H y2 = 1) (h1 : 0 ≤ y1.toInt) (h2 : y1.toInt < ((j_vl H y2 : Nat) : Int)) : j_wp b 198 63 [x0, .int x1, .int x2, .long x3, j_u] [.long y0, .int y1, y2] H Q = j_wp b 198 64 [x0, .int x1, .int x2, .long x3, j_u] [] (j_sL H (j_pa y2) (j_ix y1) y0) Q := s_last r198_63 h0 (j_ib_of (z := y1.toInt) rfl h1 h2)
theorem b198_64 {b : Nat} {x0 : Value} {x1 : Int32} {x2 : Int32} {x3 : Int64} {H : j_H} {Q : Option Value → j_H → Prop}  : j_wp b 198 64 [x0, .int x1, .int x2, .long x3, j_u] [] H Q = Q (some (.int (Int32.ofInt 1))) H := Eq.trans (s_iconst r198_64) (s_ireturn r198_65 (j_rok1 rfl))
-- X12_read
theorem r199_0 : j_at 199 0 = some (0, .aload_n 0, 1, []) := by decide +kernel
theorem r199_1 : j_at 199 1 = some (1, .iload_n 1, 1, []) := by decide +kernel
theorem r199_2 : j_at 199 2 = some (2, .invokevirtual 315, 3, [2, 2, 195, 971, 972, 62, 77, 0, 12]) := by decide +kernel
theorem r199_5 : j_at 199 5 = some (5, .ifCond .eq 29, 3, []) := by decide +kernel
theorem r199_8 : j_at 199 8 = some (8, .aload_n 0, 1, []) := by decide +kernel
theorem r199_9 : j_at 199 9 = some (9, .getfield 177, 3, [758, 12, 2, 54, 0, 12]) := by decide +kernel
theorem r199_12 : j_at 199 12 = some (12, .iload_n 1, 1, []) := by decide +kernel
theorem r199_13 : j_at 199 13 = some (13, .iaload, 1, []) := by decide +kernel
theorem r199_14 : j_at 199 14 = some (14, .ifCond .lt 20, 3, []) := by decide +kernel
theorem r199_17 : j_at 199 17 = some (17, .aload_n 0, 1, []) := by decide +kernel
theorem r199_18 : j_at 199 18 = some (18, .iload_n 2, 1, []) := by decide +kernel
theorem r199_19 : j_at 199 19 = some (19, .iconst 0, 1, []) := by decide +kernel
theorem r199_20 : j_at 199 20 = some (20, .aload_n 0, 1, []) := by decide +kernel
theorem r199_21 : j_at 199 21 = some (21, .getfield 180, 3, [759, 12, 2, 55, 0, 12]) := by decide +kernel
theorem r199_24 : j_at 199 24 = some (24, .iload_n 1, 1, []) := by decide +kernel
theorem r199_25 : j_at 199 25 = some (25, .iaload, 1, []) := by decide +kernel
theorem r199_26 : j_at 199 26 = some (26, .iconst 1, 1, []) := by decide +kernel
theorem r199_27 : j_at 199 27 = some (27, .isub, 1, []) := by decide +kernel
theorem r199_28 : j_at 199 28 = some (28, .invokevirtual 189, 3, [2, 4, 121, 825, 826, 26, 77, 0, 12]) := by decide +kernel
theorem r199_31 : j_at 199 31 = some (31, .ifCond .ne 9, 3, []) := by decide +kernel
theorem r199_34 : j_at 199 34 = some (34, .ldc2_w 306, 3, [951, 1, 9223372036854775808]) := by decide +kernel
theorem r199_37 : j_at 199 37 = some (37, .goto 14, 3, []) := by decide +kernel
theorem r199_40 : j_at 199 40 = some (40, .aload_n 0, 1, []) := by decide +kernel
theorem r199_41 : j_at 199 41 = some (41, .getfield 183, 3, [760, 12, 2, 56, 0, 12]) := by decide +kernel
theorem r199_44 : j_at 199 44 = some (44, .bipush 60, 2, []) := by decide +kernel
theorem r199_46 : j_at 199 46 = some (46, .iload_n 1, 1, []) := by decide +kernel
theorem r199_47 : j_at 199 47 = some (47, .imul, 1, []) := by decide +kernel
theorem r199_48 : j_at 199 48 = some (48, .iload_n 2, 1, []) := by decide +kernel
theorem r199_49 : j_at 199 49 = some (49, .iadd, 1, []) := by decide +kernel
theorem r199_50 : j_at 199 50 = some (50, .laload, 1, []) := by decide +kernel
theorem r199_51 : j_at 199 51 = some (51, .lreturn, 1, []) := by decide +kernel
theorem b199_0 {b : Nat} {x0 : Value} {x1 : Int32} {x2 : Int32} {H : j_H} {Q : Option Value → j_H → Prop} (h0 : j_vc H x0 = 12) : j_wp (b + 1) 199 0 [x0, .int x1, .int x2] [] H Q = j_wp b 195 0 [x0, .int x1] [] H (j_k (b + 1) 199 5 [x0, .int x1, .int x2] [] Q) := Eq.trans (s_aload_n r199_0 rfl (j_isr_vc h0 rfl)) (Eq.trans (s_iload_n r199_1 rfl) (j_cll (as := [x0, .int x1]) (es := [x0, .int x1]) (s_c2 r199_2 rfl h0 rfl rfl (j_dok (s := [.int x1, x0]) (as := [x0, .int x1]) (rest := []) (es := [x0, .int x1]) rfl rfl rfl rfl (j_slc (j_c1r (j_isr_vc h0 rfl)) rfl) rfl)) (j_slc (j_c1r (j_isr_vc h0 rfl)) rfl) rfl))
theorem b199_5 {b : Nat} {x0 : Value} {x1 : Int32} {x2 : Int32} {y0 : Int32} {H : j_H} {Q : Option Value → j_H → Prop}  : j_wp b 199 5 [x0, .int x1, .int x2] [.int y0] H Q = (if y0.toInt = 0 then j_wp b 199 34 [x0, .int x1, .int x2] [] H Q else j_wp b 199 8 [x0, .int x1, .int x2] [] H Q) := s_ifeq r199_5 rfl rfl
theorem b199_8 {b : Nat} {x0 : Value} {x1 : Int32} {x2 : Int32} {H : j_H} {Q : Option Value → j_H → Prop} (h0 : j_vc H x0 = 12) (h1 : j_vt H (va_rf (j_R H (j_pa x0) 54)) = 0) (h2 : 0 ≤ x1.toInt) (h3 : x1.toInt < ((j_vl H (va_rf (j_R H (j_pa x0) 54)) : Nat) : Int)) : j_wp b 199 8 [x0, .int x1, .int x2] [] H Q = (if (j_I H (j_pa (va_rf (j_R H (j_pa x0) 54))) (j_ix x1)).toInt < 0 then j_wp b 199 34 [x0, .int x1, .int x2] [] H Q else j_wp b 199 17 [x0, .int x1, .int x2] [] H Q) := Eq.trans (s_aload_n r199_8 rfl (j_isr_vc h0 rfl)) (Eq.trans (s_getfr r199_9 (j_al1 h0 rfl) rfl) (Eq.trans (s_iload_n r199_12 rfl) (Eq.trans (s_iald r199_13 h1 (by decide) (j_ib_of (z := x1.toInt) rfl h2 h3)) (s_iflt r199_14 rfl rfl))))
theorem b199_17 {b : Nat} {x0 : Value} {x1 : Int32} {x2 : Int32} {H : j_H} {Q : Option Value → j_H → Prop} (h0 : j_vc H x0 = 12) (h1 : j_vt H (va_rf (j_R H (j_pa x0) 55)) = 0) (h2 : 0 ≤ x1.toInt) (h3 : x1.toInt < ((j_vl H (va_rf (j_R H (j_pa x0) 55)) : Nat) : Int)) : j_wp (b + 1) 199 17 [x0, .int x1, .int x2] [] H Q = j_wp b 121 0 [x0, .int x2, .int (Int32.ofInt 0), .int ((j_I H (j_pa (va_rf (j_R H (j_pa x0) 55))) (j_ix x1)) - (Int32.ofInt 1))] [] H (j_k (b + 1) 199 31 [x0, .int x1, .int x2] [] Q) := Eq.trans (s_aload_n r199_17 rfl (j_isr_vc h0 rfl)) (Eq.trans (s_iload_n r199_18 rfl) (Eq.trans (s_iconst r199_19) (Eq.trans (s_aload_n r199_20 rfl (j_isr_vc h0 rfl)) (Eq.trans (s_getfr r199_21 (j_al1 h0 rfl) rfl) (Eq.trans (s_iload_n r199_24 rfl) (Eq.trans (s_iald r199_25 h1 (by decide) (j_ib_of (z := x1.toInt) rfl h2 h3)) (Eq.trans (s_iconst r199_26) (Eq.trans (s_isub r199_27) (j_cll (as := [x0, .int x2, .int (Int32.ofInt 0), .int ((j_I H (j_pa (va_rf (j_R H (j_pa x0) 55))) (j_ix x1)) - (Int32.ofInt 1))]) (es := [x0, .int x2, .int (Int32.ofInt 0), .int ((j_I H (j_pa (va_rf (j_R H (j_pa x0) 55))) (j_ix x1)) - (Int32.ofInt 1))]) (s_c2 r199_28 rfl h0 rfl rfl (j_dok (s := [.int ((j_I H (j_pa (va_rf (j_R H (j_pa x0) 55))) (j_ix x1)) - (Int32.ofInt 1)), .int (Int32.ofInt 0), .int x2, x0]) (as := [x0, .int x2, .int (Int32.ofInt 0), .int ((j_I H (j_pa (va_rf (j_R H (j_pa x0) 55))) (j_ix x1)) - (Int32.ofInt 1))]) (rest := []) (es := [x0, .int x2, .int (Int32.ofInt 0), .int ((j_I H (j_pa (va_rf (j_R H (j_pa x0) 55))) (j_ix x1)) - (Int32.ofInt 1))]) rfl rfl rfl rfl (j_slc (j_c1r (j_isr_vc h0 rfl)) rfl) rfl)) (j_slc (j_c1r (j_isr_vc h0 rfl)) rfl) rfl)))))))))
theorem b199_31 {b : Nat} {x0 : Value} {x1 : Int32} {x2 : Int32} {y0 : Int32} {H : j_H} {Q : Option Value → j_H → Prop}  : j_wp b 199 31 [x0, .int x1, .int x2] [.int y0] H Q = (if ¬ y0.toInt = 0 then j_wp b 199 40 [x0, .int x1, .int x2] [] H Q else j_wp b 199 34 [x0, .int x1, .int x2] [] H Q) := s_ifne r199_31 rfl rfl
theorem b199_34 {b : Nat} {x0 : Value} {x1 : Int32} {x2 : Int32} {H : j_H} {Q : Option Value → j_H → Prop}  : j_wp b 199 34 [x0, .int x1, .int x2] [] H Q = j_wp b 199 51 [x0, .int x1, .int x2] [.long (Int64.ofInt (-9223372036854775808))] H Q := Eq.trans (s_ldc2 r199_34 rfl) (s_goto r199_37 rfl)
theorem b199_40 {b : Nat} {x0 : Value} {x1 : Int32} {x2 : Int32} {H : j_H} {Q : Option Value → j_H → Prop} (h0 : j_vc H x0 = 12) (h1 : j_vt H (va_rf (j_R H (j_pa x0) 56)) = 1) (h2 : 0 ≤ (((Int32.ofInt 60) * x1) + x2).toInt) (h3 : (((Int32.ofInt 60) * x1) + x2).toInt < ((j_vl H (va_rf (j_R H (j_pa x0) 56)) : Nat) : Int)) : j_wp b 199 40 [x0, .int x1, .int x2] [] H Q = j_wp b 199 51 [x0, .int x1, .int x2] [.long (j_L H (j_pa (va_rf (j_R H (j_pa x0) 56))) (j_ix (((Int32.ofInt 60) * x1) + x2)))] H Q := Eq.trans (s_aload_n r199_40 rfl (j_isr_vc h0 rfl)) (Eq.trans (s_getfr r199_41 (j_al1 h0 rfl) rfl) (Eq.trans (s_bipush r199_44) (Eq.trans (s_iload_n r199_46 rfl) (Eq.trans (s_imul r199_47) (Eq.trans (s_iload_n r199_48 rfl) (Eq.trans (s_iadd r199_49) (s_lald r199_50 h1 (j_ib_of (z := (((Int32.ofInt 60) * x1) + x2).toInt) rfl h2 h3))))))))
theorem b199_51 {b : Nat} {x0 : Value} {x1 : Int32} {x2 : Int32} {y0 : Int64} {H : j_H} {Q : Option Value → j_H → Prop}  : j_wp b 199 51 [x0, .int x1, .int x2] [.long y0] H Q = Q (some (.long y0)) H := s_lreturn r199_51 rfl
-- X12_shift
theorem r200_0 : j_at 200 0 = some (0, .aload_n 0, 1, []) := by decide +kernel
theorem r200_1 : j_at 200 1 = some (1, .iload_n 1, 1, []) := by decide +kernel
theorem r200_2 : j_at 200 2 = some (2, .invokevirtual 315, 3, [2, 2, 195, 971, 972, 62, 77, 0, 12]) := by decide +kernel
theorem r200_5 : j_at 200 5 = some (5, .ifCond .eq 11, 3, []) := by decide +kernel
theorem r200_8 : j_at 200 8 = some (8, .aload_n 0, 1, []) := by decide +kernel
theorem r200_9 : j_at 200 9 = some (9, .iload_n 3, 1, []) := by decide +kernel
theorem r200_10 : j_at 200 10 = some (10, .invokevirtual 315, 3, [2, 2, 195, 971, 972, 62, 77, 0, 12]) := by decide +kernel
theorem r200_13 : j_at 200 13 = some (13, .ifCond .ne 5, 3, []) := by decide +kernel
theorem r200_16 : j_at 200 16 = some (16, .iconst (-1), 1, []) := by decide +kernel
theorem r200_17 : j_at 200 17 = some (17, .ireturn, 1, []) := by decide +kernel
theorem r200_18 : j_at 200 18 = some (18, .aload_n 0, 1, []) := by decide +kernel
theorem r200_19 : j_at 200 19 = some (19, .getfield 177, 3, [758, 12, 2, 54, 0, 12]) := by decide +kernel
theorem r200_22 : j_at 200 22 = some (22, .iload_n 1, 1, []) := by decide +kernel
theorem r200_23 : j_at 200 23 = some (23, .iaload, 1, []) := by decide +kernel
theorem r200_24 : j_at 200 24 = some (24, .ifCond .lt 12, 3, []) := by decide +kernel
theorem r200_27 : j_at 200 27 = some (27, .aload_n 0, 1, []) := by decide +kernel
theorem r200_28 : j_at 200 28 = some (28, .getfield 177, 3, [758, 12, 2, 54, 0, 12]) := by decide +kernel
theorem r200_31 : j_at 200 31 = some (31, .iload_n 3, 1, []) := by decide +kernel
theorem r200_32 : j_at 200 32 = some (32, .iaload, 1, []) := by decide +kernel
theorem r200_33 : j_at 200 33 = some (33, .ifCond .ge 6, 3, []) := by decide +kernel
theorem r200_36 : j_at 200 36 = some (36, .bipush (-11), 2, []) := by decide +kernel
theorem r200_38 : j_at 200 38 = some (38, .ireturn, 1, []) := by decide +kernel
theorem r200_39 : j_at 200 39 = some (39, .aload_n 0, 1, []) := by decide +kernel
theorem r200_40 : j_at 200 40 = some (40, .getfield 177, 3, [758, 12, 2, 54, 0, 12]) := by decide +kernel
theorem r200_43 : j_at 200 43 = some (43, .iload_n 1, 1, []) := by decide +kernel
theorem r200_44 : j_at 200 44 = some (44, .iaload, 1, []) := by decide +kernel
theorem r200_45 : j_at 200 45 = some (45, .aload_n 0, 1, []) := by decide +kernel
theorem r200_46 : j_at 200 46 = some (46, .getfield 177, 3, [758, 12, 2, 54, 0, 12]) := by decide +kernel
theorem r200_49 : j_at 200 49 = some (49, .iload_n 3, 1, []) := by decide +kernel
theorem r200_50 : j_at 200 50 = some (50, .iaload, 1, []) := by decide +kernel
theorem r200_51 : j_at 200 51 = some (51, .if_icmp .eq 6, 3, []) := by decide +kernel
theorem r200_54 : j_at 200 54 = some (54, .bipush (-12), 2, []) := by decide +kernel
theorem r200_56 : j_at 200 56 = some (56, .ireturn, 1, []) := by decide +kernel
theorem r200_57 : j_at 200 57 = some (57, .iload 5, 2, []) := by decide +kernel
theorem r200_59 : j_at 200 59 = some (59, .ifCond .lt 39, 3, []) := by decide +kernel
theorem r200_62 : j_at 200 62 = some (62, .iload_n 2, 1, []) := by decide +kernel
theorem r200_63 : j_at 200 63 = some (63, .ifCond .lt 35, 3, []) := by decide +kernel
theorem r200_66 : j_at 200 66 = some (66, .iload 4, 2, []) := by decide +kernel
theorem r200_68 : j_at 200 68 = some (68, .ifCond .lt 30, 3, []) := by decide +kernel
theorem r200_71 : j_at 200 71 = some (71, .iload_n 2, 1, []) := by decide +kernel
theorem r200_72 : j_at 200 72 = some (72, .aload_n 0, 1, []) := by decide +kernel
theorem r200_73 : j_at 200 73 = some (73, .getfield 180, 3, [759, 12, 2, 55, 0, 12]) := by decide +kernel
theorem r200_76 : j_at 200 76 = some (76, .iload_n 1, 1, []) := by decide +kernel
theorem r200_77 : j_at 200 77 = some (77, .iaload, 1, []) := by decide +kernel
theorem r200_78 : j_at 200 78 = some (78, .iload 5, 2, []) := by decide +kernel
theorem r200_80 : j_at 200 80 = some (80, .isub, 1, []) := by decide +kernel
theorem r200_81 : j_at 200 81 = some (81, .if_icmp .gt 17, 3, []) := by decide +kernel
theorem r200_84 : j_at 200 84 = some (84, .iload 4, 2, []) := by decide +kernel
theorem r200_86 : j_at 200 86 = some (86, .aload_n 0, 1, []) := by decide +kernel
theorem r200_87 : j_at 200 87 = some (87, .getfield 180, 3, [759, 12, 2, 55, 0, 12]) := by decide +kernel
theorem r200_90 : j_at 200 90 = some (90, .iload_n 3, 1, []) := by decide +kernel
theorem r200_91 : j_at 200 91 = some (91, .iaload, 1, []) := by decide +kernel
theorem r200_92 : j_at 200 92 = some (92, .iload 5, 2, []) := by decide +kernel
theorem r200_94 : j_at 200 94 = some (94, .isub, 1, []) := by decide +kernel
theorem r200_95 : j_at 200 95 = some (95, .if_icmp .le 6, 3, []) := by decide +kernel
theorem r200_98 : j_at 200 98 = some (98, .bipush (-13), 2, []) := by decide +kernel
theorem r200_100 : j_at 200 100 = some (100, .ireturn, 1, []) := by decide +kernel
theorem r200_101 : j_at 200 101 = some (101, .iconst 0, 1, []) := by decide +kernel
theorem r200_102 : j_at 200 102 = some (102, .istore 6, 2, []) := by decide +kernel
theorem r200_104 : j_at 200 104 = some (104, .iload 6, 2, []) := by decide +kernel
theorem r200_106 : j_at 200 106 = some (106, .iload 5, 2, []) := by decide +kernel
theorem r200_108 : j_at 200 108 = some (108, .if_icmp .ge 30, 3, []) := by decide +kernel
theorem r200_111 : j_at 200 111 = some (111, .aload_n 0, 1, []) := by decide +kernel
theorem r200_112 : j_at 200 112 = some (112, .getfield 186, 3, [761, 12, 2, 57, 0, 12]) := by decide +kernel
theorem r200_115 : j_at 200 115 = some (115, .iload 6, 2, []) := by decide +kernel
theorem r200_117 : j_at 200 117 = some (117, .aload_n 0, 1, []) := by decide +kernel
theorem r200_118 : j_at 200 118 = some (118, .getfield 183, 3, [760, 12, 2, 56, 0, 12]) := by decide +kernel
theorem r200_121 : j_at 200 121 = some (121, .bipush 60, 2, []) := by decide +kernel
theorem r200_123 : j_at 200 123 = some (123, .iload_n 1, 1, []) := by decide +kernel
theorem r200_124 : j_at 200 124 = some (124, .imul, 1, []) := by decide +kernel
theorem r200_125 : j_at 200 125 = some (125, .iload_n 2, 1, []) := by decide +kernel
theorem r200_126 : j_at 200 126 = some (126, .iadd, 1, []) := by decide +kernel
theorem r200_127 : j_at 200 127 = some (127, .iload 6, 2, []) := by decide +kernel
theorem r200_129 : j_at 200 129 = some (129, .iadd, 1, []) := by decide +kernel
theorem r200_130 : j_at 200 130 = some (130, .laload, 1, []) := by decide +kernel
theorem r200_131 : j_at 200 131 = some (131, .lastore, 1, []) := by decide +kernel
theorem r200_132 : j_at 200 132 = some (132, .iinc 6 1, 3, []) := by decide +kernel
theorem r200_135 : j_at 200 135 = some (135, .goto (-31), 3, []) := by decide +kernel
theorem r200_138 : j_at 200 138 = some (138, .iconst 0, 1, []) := by decide +kernel
theorem r200_139 : j_at 200 139 = some (139, .istore 6, 2, []) := by decide +kernel
theorem r200_141 : j_at 200 141 = some (141, .iload 6, 2, []) := by decide +kernel
theorem r200_143 : j_at 200 143 = some (143, .iload 5, 2, []) := by decide +kernel
theorem r200_145 : j_at 200 145 = some (145, .if_icmp .ge 31, 3, []) := by decide +kernel
theorem r200_148 : j_at 200 148 = some (148, .aload_n 0, 1, []) := by decide +kernel
theorem r200_149 : j_at 200 149 = some (149, .getfield 183, 3, [760, 12, 2, 56, 0, 12]) := by decide +kernel
theorem r200_152 : j_at 200 152 = some (152, .bipush 60, 2, []) := by decide +kernel
theorem r200_154 : j_at 200 154 = some (154, .iload_n 3, 1, []) := by decide +kernel
theorem r200_155 : j_at 200 155 = some (155, .imul, 1, []) := by decide +kernel
theorem r200_156 : j_at 200 156 = some (156, .iload 4, 2, []) := by decide +kernel
theorem r200_158 : j_at 200 158 = some (158, .iadd, 1, []) := by decide +kernel
theorem r200_159 : j_at 200 159 = some (159, .iload 6, 2, []) := by decide +kernel
theorem r200_161 : j_at 200 161 = some (161, .iadd, 1, []) := by decide +kernel
theorem r200_162 : j_at 200 162 = some (162, .aload_n 0, 1, []) := by decide +kernel
theorem r200_163 : j_at 200 163 = some (163, .getfield 186, 3, [761, 12, 2, 57, 0, 12]) := by decide +kernel
theorem r200_166 : j_at 200 166 = some (166, .iload 6, 2, []) := by decide +kernel
theorem r200_168 : j_at 200 168 = some (168, .laload, 1, []) := by decide +kernel
theorem r200_169 : j_at 200 169 = some (169, .lastore, 1, []) := by decide +kernel
theorem r200_170 : j_at 200 170 = some (170, .iinc 6 1, 3, []) := by decide +kernel
theorem r200_173 : j_at 200 173 = some (173, .goto (-32), 3, []) := by decide +kernel
theorem r200_176 : j_at 200 176 = some (176, .iload 5, 2, []) := by decide +kernel
theorem r200_178 : j_at 200 178 = some (178, .ireturn, 1, []) := by decide +kernel
theorem b200_0 {b : Nat} {x0 : Value} {x1 : Int32} {x2 : Int32} {x3 : Int32} {x4 : Int32} {x5 : Int32} {u6 : Value} {H : j_H} {Q : Option Value → j_H → Prop} (h0 : j_vc H x0 = 12) : j_wp (b + 1) 200 0 [x0, .int x1, .int x2, .int x3, .int x4, .int x5, u6] [] H Q = j_wp b 195 0 [x0, .int x1] [] H (j_k (b + 1) 200 5 [x0, .int x1, .int x2, .int x3, .int x4, .int x5, u6] [] Q) := Eq.trans (s_aload_n r200_0 rfl (j_isr_vc h0 rfl)) (Eq.trans (s_iload_n r200_1 rfl) (j_cll (as := [x0, .int x1]) (es := [x0, .int x1]) (s_c2 r200_2 rfl h0 rfl rfl (j_dok (s := [.int x1, x0]) (as := [x0, .int x1]) (rest := []) (es := [x0, .int x1]) rfl rfl rfl rfl (j_slc (j_c1r (j_isr_vc h0 rfl)) rfl) rfl)) (j_slc (j_c1r (j_isr_vc h0 rfl)) rfl) rfl))
theorem b200_5 {b : Nat} {x0 : Value} {x1 : Int32} {x2 : Int32} {x3 : Int32} {x4 : Int32} {x5 : Int32} {u6 : Value} {y0 : Int32} {H : j_H} {Q : Option Value → j_H → Prop}  : j_wp b 200 5 [x0, .int x1, .int x2, .int x3, .int x4, .int x5, u6] [.int y0] H Q = (if y0.toInt = 0 then j_wp b 200 16 [x0, .int x1, .int x2, .int x3, .int x4, .int x5, u6] [] H Q else j_wp b 200 8 [x0, .int x1, .int x2, .int x3, .int x4, .int x5, u6] [] H Q) := s_ifeq r200_5 rfl rfl
theorem b200_8 {b : Nat} {x0 : Value} {x1 : Int32} {x2 : Int32} {x3 : Int32} {x4 : Int32} {x5 : Int32} {u6 : Value} {H : j_H} {Q : Option Value → j_H → Prop} (h0 : j_vc H x0 = 12) : j_wp (b + 1) 200 8 [x0, .int x1, .int x2, .int x3, .int x4, .int x5, u6] [] H Q = j_wp b 195 0 [x0, .int x3] [] H (j_k (b + 1) 200 13 [x0, .int x1, .int x2, .int x3, .int x4, .int x5, u6] [] Q) := Eq.trans (s_aload_n r200_8 rfl (j_isr_vc h0 rfl)) (Eq.trans (s_iload_n r200_9 rfl) (j_cll (as := [x0, .int x3]) (es := [x0, .int x3]) (s_c2 r200_10 rfl h0 rfl rfl (j_dok (s := [.int x3, x0]) (as := [x0, .int x3]) (rest := []) (es := [x0, .int x3]) rfl rfl rfl rfl (j_slc (j_c1r (j_isr_vc h0 rfl)) rfl) rfl)) (j_slc (j_c1r (j_isr_vc h0 rfl)) rfl) rfl))
theorem b200_13 {b : Nat} {x0 : Value} {x1 : Int32} {x2 : Int32} {x3 : Int32} {x4 : Int32} {x5 : Int32} {u6 : Value} {y0 : Int32} {H : j_H} {Q : Option Value → j_H → Prop}  : j_wp b 200 13 [x0, .int x1, .int x2, .int x3, .int x4, .int x5, u6] [.int y0] H Q = (if ¬ y0.toInt = 0 then j_wp b 200 18 [x0, .int x1, .int x2, .int x3, .int x4, .int x5, u6] [] H Q else j_wp b 200 16 [x0, .int x1, .int x2, .int x3, .int x4, .int x5, u6] [] H Q) := s_ifne r200_13 rfl rfl
theorem b200_16 {b : Nat} {x0 : Value} {x1 : Int32} {x2 : Int32} {x3 : Int32} {x4 : Int32} {x5 : Int32} {u6 : Value} {H : j_H} {Q : Option Value → j_H → Prop}  : j_wp b 200 16 [x0, .int x1, .int x2, .int x3, .int x4, .int x5, u6] [] H Q = Q (some (.int (Int32.ofInt (-1)))) H := Eq.trans (s_iconst r200_16) (s_ireturn r200_17 (j_rok1 rfl))
theorem b200_18 {b : Nat} {x0 : Value} {x1 : Int32} {x2 : Int32} {x3 : Int32} {x4 : Int32} {x5 : Int32} {u6 : Value} {H : j_H} {Q : Option Value → j_H → Prop} (h0 : j_vc H x0 = 12) (h1 : j_vt H (va_rf (j_R H (j_pa x0) 54)) = 0) (h2 : 0 ≤ x1.toInt) (h3 : x1.toInt < ((j_vl H (va_rf (j_R H (j_pa x0) 54)) : Nat) : Int)) : j_wp b 200 18 [x0, .int x1, .int x2, .int x3, .int x4, .int x5, u6] [] H Q = (if (j_I H (j_pa (va_rf (j_R H (j_pa x0) 54))) (j_ix x1)).toInt < 0 then j_wp b 200 36 [x0, .int x1, .int x2, .int x3, .int x4, .int x5, u6] [] H Q else j_wp b 200 27 [x0, .int x1, .int x2, .int x3, .int x4, .int x5, u6] [] H Q) := Eq.trans (s_aload_n r200_18 rfl (j_isr_vc h0 rfl)) (Eq.trans (s_getfr r200_19 (j_al1 h0 rfl) rfl) (Eq.trans (s_iload_n r200_22 rfl) (Eq.trans (s_iald r200_23 h1 (by decide) (j_ib_of (z := x1.toInt) rfl h2 h3)) (s_iflt r200_24 rfl rfl))))
theorem b200_27 {b : Nat} {x0 : Value} {x1 : Int32} {x2 : Int32} {x3 : Int32} {x4 : Int32} {x5 : Int32} {u6 : Value} {H : j_H} {Q : Option Value → j_H → Prop} (h0 : j_vc H x0 = 12) (h1 : j_vt H (va_rf (j_R H (j_pa x0) 54)) = 0) (h2 : 0 ≤ x3.toInt) (h3 : x3.toInt < ((j_vl H (va_rf (j_R H (j_pa x0) 54)) : Nat) : Int)) : j_wp b 200 27 [x0, .int x1, .int x2, .int x3, .int x4, .int x5, u6] [] H Q = (if 0 ≤ (j_I H (j_pa (va_rf (j_R H (j_pa x0) 54))) (j_ix x3)).toInt then j_wp b 200 39 [x0, .int x1, .int x2, .int x3, .int x4, .int x5, u6] [] H Q else j_wp b 200 36 [x0, .int x1, .int x2, .int x3, .int x4, .int x5, u6] [] H Q) := Eq.trans (s_aload_n r200_27 rfl (j_isr_vc h0 rfl)) (Eq.trans (s_getfr r200_28 (j_al1 h0 rfl) rfl) (Eq.trans (s_iload_n r200_31 rfl) (Eq.trans (s_iald r200_32 h1 (by decide) (j_ib_of (z := x3.toInt) rfl h2 h3)) (s_ifge r200_33 rfl rfl))))
theorem b200_36 {b : Nat} {x0 : Value} {x1 : Int32} {x2 : Int32} {x3 : Int32} {x4 : Int32} {x5 : Int32} {u6 : Value} {H : j_H} {Q : Option Value → j_H → Prop}  : j_wp b 200 36 [x0, .int x1, .int x2, .int x3, .int x4, .int x5, u6] [] H Q = Q (some (.int (Int32.ofInt (-11)))) H := Eq.trans (s_bipush r200_36) (s_ireturn r200_38 (j_rok1 rfl))
theorem b200_39 {b : Nat} {x0 : Value} {x1 : Int32} {x2 : Int32} {x3 : Int32} {x4 : Int32} {x5 : Int32} {u6 : Value} {H : j_H} {Q : Option Value → j_H → Prop} (h0 : j_vc H x0 = 12) (h1 : j_vt H (va_rf (j_R H (j_pa x0) 54)) = 0) (h2 : 0 ≤ x1.toInt) (h3 : x1.toInt < ((j_vl H (va_rf (j_R H (j_pa x0) 54)) : Nat) : Int)) (h4 : 0 ≤ x3.toInt) (h5 : x3.toInt < ((j_vl H (va_rf (j_R H (j_pa x0) 54)) : Nat) : Int)) : j_wp b 200 39 [x0, .int x1, .int x2, .int x3, .int x4, .int x5, u6] [] H Q = (if (j_I H (j_pa (va_rf (j_R H (j_pa x0) 54))) (j_ix x1)).toInt = (j_I H (j_pa (va_rf (j_R H (j_pa x0) 54))) (j_ix x3)).toInt then j_wp b 200 57 [x0, .int x1, .int x2, .int x3, .int x4, .int x5, u6] [] H Q else j_wp b 200 54 [x0, .int x1, .int x2, .int x3, .int x4, .int x5, u6] [] H Q) := Eq.trans (s_aload_n r200_39 rfl (j_isr_vc h0 rfl)) (Eq.trans (s_getfr r200_40 (j_al1 h0 rfl) rfl) (Eq.trans (s_iload_n r200_43 rfl) (Eq.trans (s_iald r200_44 h1 (by decide) (j_ib_of (z := x1.toInt) rfl h2 h3)) (Eq.trans (s_aload_n r200_45 rfl (j_isr_vc h0 rfl)) (Eq.trans (s_getfr r200_46 (j_al1 h0 rfl) rfl) (Eq.trans (s_iload_n r200_49 rfl) (Eq.trans (s_iald r200_50 h1 (by decide) (j_ib_of (z := x3.toInt) rfl h4 h5)) (s_iceq r200_51 rfl rfl rfl))))))))
theorem b200_54 {b : Nat} {x0 : Value} {x1 : Int32} {x2 : Int32} {x3 : Int32} {x4 : Int32} {x5 : Int32} {u6 : Value} {H : j_H} {Q : Option Value → j_H → Prop}  : j_wp b 200 54 [x0, .int x1, .int x2, .int x3, .int x4, .int x5, u6] [] H Q = Q (some (.int (Int32.ofInt (-12)))) H := Eq.trans (s_bipush r200_54) (s_ireturn r200_56 (j_rok1 rfl))
theorem b200_57 {b : Nat} {x0 : Value} {x1 : Int32} {x2 : Int32} {x3 : Int32} {x4 : Int32} {x5 : Int32} {u6 : Value} {H : j_H} {Q : Option Value → j_H → Prop}  : j_wp b 200 57 [x0, .int x1, .int x2, .int x3, .int x4, .int x5, u6] [] H Q = (if x5.toInt < 0 then j_wp b 200 98 [x0, .int x1, .int x2, .int x3, .int x4, .int x5, u6] [] H Q else j_wp b 200 62 [x0, .int x1, .int x2, .int x3, .int x4, .int x5, u6] [] H Q) := Eq.trans (s_iload r200_57 rfl) (s_iflt r200_59 rfl rfl)
theorem b200_62 {b : Nat} {x0 : Value} {x1 : Int32} {x2 : Int32} {x3 : Int32} {x4 : Int32} {x5 : Int32} {u6 : Value} {H : j_H} {Q : Option Value → j_H → Prop}  : j_wp b 200 62 [x0, .int x1, .int x2, .int x3, .int x4, .int x5, u6] [] H Q = (if x2.toInt < 0 then j_wp b 200 98 [x0, .int x1, .int x2, .int x3, .int x4, .int x5, u6] [] H Q else j_wp b 200 66 [x0, .int x1, .int x2, .int x3, .int x4, .int x5, u6] [] H Q) := Eq.trans (s_iload_n r200_62 rfl) (s_iflt r200_63 rfl rfl)
theorem b200_66 {b : Nat} {x0 : Value} {x1 : Int32} {x2 : Int32} {x3 : Int32} {x4 : Int32} {x5 : Int32} {u6 : Value} {H : j_H} {Q : Option Value → j_H → Prop}  : j_wp b 200 66 [x0, .int x1, .int x2, .int x3, .int x4, .int x5, u6] [] H Q = (if x4.toInt < 0 then j_wp b 200 98 [x0, .int x1, .int x2, .int x3, .int x4, .int x5, u6] [] H Q else j_wp b 200 71 [x0, .int x1, .int x2, .int x3, .int x4, .int x5, u6] [] H Q) := Eq.trans (s_iload r200_66 rfl) (s_iflt r200_68 rfl rfl)
theorem b200_71 {b : Nat} {x0 : Value} {x1 : Int32} {x2 : Int32} {x3 : Int32} {x4 : Int32} {x5 : Int32} {u6 : Value} {H : j_H} {Q : Option Value → j_H → Prop} (h0 : j_vc H x0 = 12) (h1 : j_vt H (va_rf (j_R H (j_pa x0) 55)) = 0) (h2 : 0 ≤ x1.toInt) (h3 : x1.toInt < ((j_vl H (va_rf (j_R H (j_pa x0) 55)) : Nat) : Int)) : j_wp b 200 71 [x0, .int x1, .int x2, .int x3, .int x4, .int x5, u6] [] H Q = (if ((j_I H (j_pa (va_rf (j_R H (j_pa x0) 55))) (j_ix x1)) - x5).toInt < x2.toInt then j_wp b 200 98 [x0, .int x1, .int x2, .int x3, .int x4, .int x5, u6] [] H Q else j_wp b 200 84 [x0, .int x1, .int x2, .int x3, .int x4, .int x5, u6] [] H Q) := Eq.trans (s_iload_n r200_71 rfl) (Eq.trans (s_aload_n r200_72 rfl (j_isr_vc h0 rfl)) (Eq.trans (s_getfr r200_73 (j_al1 h0 rfl) rfl) (Eq.trans (s_iload_n r200_76 rfl) (Eq.trans (s_iald r200_77 h1 (by decide) (j_ib_of (z := x1.toInt) rfl h2 h3)) (Eq.trans (s_iload r200_78 rfl) (Eq.trans (s_isub r200_80) (s_icgt r200_81 rfl rfl rfl)))))))
theorem b200_84 {b : Nat} {x0 : Value} {x1 : Int32} {x2 : Int32} {x3 : Int32} {x4 : Int32} {x5 : Int32} {u6 : Value} {H : j_H} {Q : Option Value → j_H → Prop} (h0 : j_vc H x0 = 12) (h1 : j_vt H (va_rf (j_R H (j_pa x0) 55)) = 0) (h2 : 0 ≤ x3.toInt) (h3 : x3.toInt < ((j_vl H (va_rf (j_R H (j_pa x0) 55)) : Nat) : Int)) : j_wp b 200 84 [x0, .int x1, .int x2, .int x3, .int x4, .int x5, u6] [] H Q = (if x4.toInt ≤ ((j_I H (j_pa (va_rf (j_R H (j_pa x0) 55))) (j_ix x3)) - x5).toInt then j_wp b 200 101 [x0, .int x1, .int x2, .int x3, .int x4, .int x5, u6] [] H Q else j_wp b 200 98 [x0, .int x1, .int x2, .int x3, .int x4, .int x5, u6] [] H Q) := Eq.trans (s_iload r200_84 rfl) (Eq.trans (s_aload_n r200_86 rfl (j_isr_vc h0 rfl)) (Eq.trans (s_getfr r200_87 (j_al1 h0 rfl) rfl) (Eq.trans (s_iload_n r200_90 rfl) (Eq.trans (s_iald r200_91 h1 (by decide) (j_ib_of (z := x3.toInt) rfl h2 h3)) (Eq.trans (s_iload r200_92 rfl) (Eq.trans (s_isub r200_94) (s_icle r200_95 rfl rfl rfl)))))))
theorem b200_98 {b : Nat} {x0 : Value} {x1 : Int32} {x2 : Int32} {x3 : Int32} {x4 : Int32} {x5 : Int32} {u6 : Value} {H : j_H} {Q : Option Value → j_H → Prop}  : j_wp b 200 98 [x0, .int x1, .int x2, .int x3, .int x4, .int x5, u6] [] H Q = Q (some (.int (Int32.ofInt (-13)))) H := Eq.trans (s_bipush r200_98) (s_ireturn r200_100 (j_rok1 rfl))
theorem b200_101 {b : Nat} {x0 : Value} {x1 : Int32} {x2 : Int32} {x3 : Int32} {x4 : Int32} {x5 : Int32} {u6 : Value} {H : j_H} {Q : Option Value → j_H → Prop}  : j_wp b 200 101 [x0, .int x1, .int x2, .int x3, .int x4, .int x5, u6] [] H Q = j_wp b 200 104 [x0, .int x1, .int x2, .int x3, .int x4, .int x5, .int (Int32.ofInt 0)] [] H Q := Eq.trans (s_iconst r200_101) (s_istore r200_102 (Nat.le_of_ble_eq_true rfl) rfl)
theorem b200_104 {b : Nat} {x0 : Value} {x1 : Int32} {x2 : Int32} {x3 : Int32} {x4 : Int32} {x5 : Int32} {x6 : Int32} {H : j_H} {Q : Option Value → j_H → Prop}  : j_wp b 200 104 [x0, .int x1, .int x2, .int x3, .int x4, .int x5, .int x6] [] H Q = (if x5.toInt ≤ x6.toInt then j_wp b 200 138 [x0, .int x1, .int x2, .int x3, .int x4, .int x5, .int x6] [] H Q else j_wp b 200 111 [x0, .int x1, .int x2, .int x3, .int x4, .int x5, .int x6] [] H Q) := Eq.trans (s_iload r200_104 rfl) (Eq.trans (s_iload r200_106 rfl) (s_icge r200_108 rfl rfl rfl))
theorem b200_111 {b : Nat} {x0 : Value} {x1 : Int32} {x2 : Int32} {x3 : Int32} {x4 : Int32} {x5 : Int32} {x6 : Int32} {H : j_H} {Q : Option Value → j_H → Prop} (h0 : j_vc H x0 = 12) (h1 : j_vt H (va_rf (j_R H (j_pa x0) 56)) = 1) (h2 : 0 ≤ ((((Int32.ofInt 60) * x1) + x2) + x6).toInt) (h3 : ((((Int32.ofInt 60) * x1) + x2) + x6).toInt < ((j_vl H (va_rf (j_R H (j_pa x0) 56)) : Nat) : Int)) (h4 : j_vt H (va_rf (j_R H (j_pa x0) 57)) = 1) (h5 : 0 ≤ x6.toInt) (h6 : x6.toInt < ((j_vl H (va_rf (j_R H (j_pa x0) 57)) : Nat) : Int)) : j_wp b 200 111 [x0, .int x1, .int x2, .int x3, .int x4, .int x5, .int x6] [] H Q = j_wp b 200 132 [x0, .int x1, .int x2, .int x3, .int x4, .int x5, .int x6] [] (j_sL H (j_pa (va_rf (j_R H (j_pa x0) 57))) (j_ix x6) (j_L H (j_pa (va_rf (j_R H (j_pa x0) 56))) (j_ix ((((Int32.ofInt 60) * x1) + x2) + x6)))) Q := Eq.trans (s_aload_n r200_111 rfl (j_isr_vc h0 rfl)) (Eq.trans (s_getfr r200_112 (j_al1 h0 rfl) rfl) (Eq.trans (s_iload r200_115 rfl) (Eq.trans (s_aload_n r200_117 rfl (j_isr_vc h0 rfl)) (Eq.trans (s_getfr r200_118 (j_al1 h0 rfl) rfl) (Eq.trans (s_bipush r200_121) (Eq.trans (s_iload_n r200_123 rfl) (Eq.trans (s_imul r200_124) (Eq.trans (s_iload_n r200_125 rfl) (Eq.trans (s_iadd r200_126) (Eq.trans (s_iload r200_127 rfl) (Eq.trans (s_iadd r200_129) (Eq.trans (s_lald r200_130 h1 (j_ib_of (z := ((((Int32.ofInt 60) * x1) + x2) + x6).toInt) rfl h2 h3)) (s_last r200_131 h4 (j_ib_of (z := x6.toInt) rfl h5 h6))))))))))))))
theorem b200_132 {b : Nat} {x0 : Value} {x1 : Int32} {x2 : Int32} {x3 : Int32} {x4 : Int32} {x5 : Int32} {x6 : Int32} {H : j_H} {Q : Option Value → j_H → Prop}  : j_wp b 200 132 [x0, .int x1, .int x2, .int x3, .int x4, .int x5, .int x6] [] H Q = j_wp b 200 104 [x0, .int x1, .int x2, .int x3, .int x4, .int x5, .int (x6 + Int32.ofInt 1)] [] H Q := Eq.trans (s_iinc r200_132 rfl rfl) (s_goto r200_135 rfl)
theorem b200_138 {b : Nat} {x0 : Value} {x1 : Int32} {x2 : Int32} {x3 : Int32} {x4 : Int32} {x5 : Int32} {x6 : Int32} {H : j_H} {Q : Option Value → j_H → Prop}  : j_wp b 200 138 [x0, .int x1, .int x2, .int x3, .int x4, .int x5, .int x6] [] H Q = j_wp b 200 141 [x0, .int x1, .int x2, .int x3, .int x4, .int x5, .int (Int32.ofInt 0)] [] H Q := Eq.trans (s_iconst r200_138) (s_istore r200_139 (Nat.le_of_ble_eq_true rfl) rfl)
theorem b200_141 {b : Nat} {x0 : Value} {x1 : Int32} {x2 : Int32} {x3 : Int32} {x4 : Int32} {x5 : Int32} {x6 : Int32} {H : j_H} {Q : Option Value → j_H → Prop}  : j_wp b 200 141 [x0, .int x1, .int x2, .int x3, .int x4, .int x5, .int x6] [] H Q = (if x5.toInt ≤ x6.toInt then j_wp b 200 176 [x0, .int x1, .int x2, .int x3, .int x4, .int x5, .int x6] [] H Q else j_wp b 200 148 [x0, .int x1, .int x2, .int x3, .int x4, .int x5, .int x6] [] H Q) := Eq.trans (s_iload r200_141 rfl) (Eq.trans (s_iload r200_143 rfl) (s_icge r200_145 rfl rfl rfl))
theorem b200_148 {b : Nat} {x0 : Value} {x1 : Int32} {x2 : Int32} {x3 : Int32} {x4 : Int32} {x5 : Int32} {x6 : Int32} {H : j_H} {Q : Option Value → j_H → Prop} (h0 : j_vc H x0 = 12) (h1 : j_vt H (va_rf (j_R H (j_pa x0) 57)) = 1) (h2 : 0 ≤ x6.toInt) (h3 : x6.toInt < ((j_vl H (va_rf (j_R H (j_pa x0) 57)) : Nat) : Int)) (h4 : j_vt H (va_rf (j_R H (j_pa x0) 56)) = 1) (h5 : 0 ≤ ((((Int32.ofInt 60) * x3) + x4) + x6).toInt) (h6 : ((((Int32.ofInt 60) * x3) + x4) + x6).toInt < ((j_vl H (va_rf (j_R H (j_pa x0) 56)) : Nat) : Int)) : j_wp b 200 148 [x0, .int x1, .int x2, .int x3, .int x4, .int x5, .int x6] [] H Q = j_wp b 200 170 [x0, .int x1, .int x2, .int x3, .int x4, .int x5, .int x6] [] (j_sL H (j_pa (va_rf (j_R H (j_pa x0) 56))) (j_ix ((((Int32.ofInt 60) * x3) + x4) + x6)) (j_L H (j_pa (va_rf (j_R H (j_pa x0) 57))) (j_ix x6))) Q := Eq.trans (s_aload_n r200_148 rfl (j_isr_vc h0 rfl)) (Eq.trans (s_getfr r200_149 (j_al1 h0 rfl) rfl) (Eq.trans (s_bipush r200_152) (Eq.trans (s_iload_n r200_154 rfl) (Eq.trans (s_imul r200_155) (Eq.trans (s_iload r200_156 rfl) (Eq.trans (s_iadd r200_158) (Eq.trans (s_iload r200_159 rfl) (Eq.trans (s_iadd r200_161) (Eq.trans (s_aload_n r200_162 rfl (j_isr_vc h0 rfl)) (Eq.trans (s_getfr r200_163 (j_al1 h0 rfl) rfl) (Eq.trans (s_iload r200_166 rfl) (Eq.trans (s_lald r200_168 h1 (j_ib_of (z := x6.toInt) rfl h2 h3)) (s_last r200_169 h4 (j_ib_of (z := ((((Int32.ofInt 60) * x3) + x4) + x6).toInt) rfl h5 h6))))))))))))))
theorem b200_170 {b : Nat} {x0 : Value} {x1 : Int32} {x2 : Int32} {x3 : Int32} {x4 : Int32} {x5 : Int32} {x6 : Int32} {H : j_H} {Q : Option Value → j_H → Prop}  : j_wp b 200 170 [x0, .int x1, .int x2, .int x3, .int x4, .int x5, .int x6] [] H Q = j_wp b 200 141 [x0, .int x1, .int x2, .int x3, .int x4, .int x5, .int (x6 + Int32.ofInt 1)] [] H Q := Eq.trans (s_iinc r200_170 rfl rfl) (s_goto r200_173 rfl)
theorem b200_176 {b : Nat} {x0 : Value} {x1 : Int32} {x2 : Int32} {x3 : Int32} {x4 : Int32} {x5 : Int32} {x6 : Int32} {H : j_H} {Q : Option Value → j_H → Prop}  : j_wp b 200 176 [x0, .int x1, .int x2, .int x3, .int x4, .int x5, .int x6] [] H Q = Q (some (.int x5)) H := Eq.trans (s_iload r200_176 rfl) (s_ireturn r200_178 (j_rok1 rfl))
-- J6_bitCount_0f7a4
theorem r201_0 : j_at 201 0 = some (0, .iload_n 0, 1, []) := by decide +kernel
theorem r201_1 : j_at 201 1 = some (1, .iload_n 0, 1, []) := by decide +kernel
theorem r201_2 : j_at 201 2 = some (2, .iconst 1, 1, []) := by decide +kernel
theorem r201_3 : j_at 201 3 = some (3, .iushr, 1, []) := by decide +kernel
theorem r201_4 : j_at 201 4 = some (4, .ldc_w 265, 3, [0, 235, 0, 1431655765]) := by decide +kernel
theorem r201_7 : j_at 201 7 = some (7, .iand, 1, []) := by decide +kernel
theorem r201_8 : j_at 201 8 = some (8, .isub, 1, []) := by decide +kernel
theorem r201_9 : j_at 201 9 = some (9, .istore_n 0, 1, []) := by decide +kernel
theorem r201_10 : j_at 201 10 = some (10, .iload_n 0, 1, []) := by decide +kernel
theorem r201_11 : j_at 201 11 = some (11, .ldc_w 266, 3, [0, 236, 0, 858993459]) := by decide +kernel
theorem r201_14 : j_at 201 14 = some (14, .iand, 1, []) := by decide +kernel
theorem r201_15 : j_at 201 15 = some (15, .iload_n 0, 1, []) := by decide +kernel
theorem r201_16 : j_at 201 16 = some (16, .iconst 2, 1, []) := by decide +kernel
theorem r201_17 : j_at 201 17 = some (17, .iushr, 1, []) := by decide +kernel
theorem r201_18 : j_at 201 18 = some (18, .ldc_w 266, 3, [0, 236, 0, 858993459]) := by decide +kernel
theorem r201_21 : j_at 201 21 = some (21, .iand, 1, []) := by decide +kernel
theorem r201_22 : j_at 201 22 = some (22, .iadd, 1, []) := by decide +kernel
theorem r201_23 : j_at 201 23 = some (23, .istore_n 0, 1, []) := by decide +kernel
theorem r201_24 : j_at 201 24 = some (24, .iload_n 0, 1, []) := by decide +kernel
theorem r201_25 : j_at 201 25 = some (25, .iload_n 0, 1, []) := by decide +kernel
theorem r201_26 : j_at 201 26 = some (26, .iconst 4, 1, []) := by decide +kernel
theorem r201_27 : j_at 201 27 = some (27, .iushr, 1, []) := by decide +kernel
theorem r201_28 : j_at 201 28 = some (28, .iadd, 1, []) := by decide +kernel
theorem r201_29 : j_at 201 29 = some (29, .ldc_w 267, 3, [0, 237, 0, 252645135]) := by decide +kernel
theorem r201_32 : j_at 201 32 = some (32, .iand, 1, []) := by decide +kernel
theorem r201_33 : j_at 201 33 = some (33, .istore_n 0, 1, []) := by decide +kernel
theorem r201_34 : j_at 201 34 = some (34, .iload_n 0, 1, []) := by decide +kernel
theorem r201_35 : j_at 201 35 = some (35, .iload_n 0, 1, []) := by decide +kernel
theorem r201_36 : j_at 201 36 = some (36, .bipush 8, 2, []) := by decide +kernel
theorem r201_38 : j_at 201 38 = some (38, .iushr, 1, []) := by decide +kernel
theorem r201_39 : j_at 201 39 = some (39, .iadd, 1, []) := by decide +kernel
theorem r201_40 : j_at 201 40 = some (40, .istore_n 0, 1, []) := by decide +kernel
theorem r201_41 : j_at 201 41 = some (41, .iload_n 0, 1, []) := by decide +kernel
theorem r201_42 : j_at 201 42 = some (42, .iload_n 0, 1, []) := by decide +kernel
theorem r201_43 : j_at 201 43 = some (43, .bipush 16, 2, []) := by decide +kernel
theorem r201_45 : j_at 201 45 = some (45, .iushr, 1, []) := by decide +kernel
theorem r201_46 : j_at 201 46 = some (46, .iadd, 1, []) := by decide +kernel
theorem r201_47 : j_at 201 47 = some (47, .istore_n 0, 1, []) := by decide +kernel
theorem r201_48 : j_at 201 48 = some (48, .iload_n 0, 1, []) := by decide +kernel
theorem r201_49 : j_at 201 49 = some (49, .bipush 63, 2, []) := by decide +kernel
theorem r201_51 : j_at 201 51 = some (51, .iand, 1, []) := by decide +kernel
theorem r201_52 : j_at 201 52 = some (52, .ireturn, 1, []) := by decide +kernel
theorem b201_0 {b : Nat} {x0 : Int32} {H : j_H} {Q : Option Value → j_H → Prop}  : j_wp b 201 0 [.int x0] [] H Q = Q (some (.int ((((((((x0 - ((j_ushr x0 (Int32.ofInt 1)) &&& (Int32.ofInt 1431655765))) &&& (Int32.ofInt 858993459)) + ((j_ushr (x0 - ((j_ushr x0 (Int32.ofInt 1)) &&& (Int32.ofInt 1431655765))) (Int32.ofInt 2)) &&& (Int32.ofInt 858993459))) + (j_ushr (((x0 - ((j_ushr x0 (Int32.ofInt 1)) &&& (Int32.ofInt 1431655765))) &&& (Int32.ofInt 858993459)) + ((j_ushr (x0 - ((j_ushr x0 (Int32.ofInt 1)) &&& (Int32.ofInt 1431655765))) (Int32.ofInt 2)) &&& (Int32.ofInt 858993459))) (Int32.ofInt 4))) &&& (Int32.ofInt 252645135)) + (j_ushr (((((x0 - ((j_ushr x0 (Int32.ofInt 1)) &&& (Int32.ofInt 1431655765))) &&& (Int32.ofInt 858993459)) + ((j_ushr (x0 - ((j_ushr x0 (Int32.ofInt 1)) &&& (Int32.ofInt 1431655765))) (Int32.ofInt 2)) &&& (Int32.ofInt 858993459))) + (j_ushr (((x0 - ((j_ushr x0 (Int32.ofInt 1)) &&& (Int32.ofInt 1431655765))) &&& (Int32.ofInt 858993459)) + ((j_ushr (x0 - ((j_ushr x0 (Int32.ofInt 1)) &&& (Int32.ofInt 1431655765))) (Int32.ofInt 2)) &&& (Int32.ofInt 858993459))) (Int32.ofInt 4))) &&& (Int32.ofInt 252645135)) (Int32.ofInt 8))) + (j_ushr ((((((x0 - ((j_ushr x0 (Int32.ofInt 1)) &&& (Int32.ofInt 1431655765))) &&& (Int32.ofInt 858993459)) + ((j_ushr (x0 - ((j_ushr x0 (Int32.ofInt 1)) &&& (Int32.ofInt 1431655765))) (Int32.ofInt 2)) &&& (Int32.ofInt 858993459))) + (j_ushr (((x0 - ((j_ushr x0 (Int32.ofInt 1)) &&& (Int32.ofInt 1431655765))) &&& (Int32.ofInt 858993459)) + ((j_ushr (x0 - ((j_ushr x0 (Int32.ofInt 1)) &&& (Int32.ofInt 1431655765))) (Int32.ofInt 2)) &&& (Int32.ofInt 858993459))) (Int32.ofInt 4))) &&& (Int32.ofInt 252645135)) + (j_ushr (((((x0 - ((j_ushr x0 (Int32.ofInt 1)) &&& (Int32.ofInt 1431655765))) &&& (Int32.ofInt 858993459)) + ((j_ushr (x0 - ((j_ushr x0 (Int32.ofInt 1)) &&& (Int32.ofInt 1431655765))) (Int32.ofInt 2)) &&& (Int32.ofInt 858993459))) + (j_ushr (((x0 - ((j_ushr x0 (Int32.ofInt 1)) &&& (Int32.ofInt 1431655765))) &&& (Int32.ofInt 858993459)) + ((j_ushr (x0 - ((j_ushr x0 (Int32.ofInt 1)) &&& (Int32.ofInt 1431655765))) (Int32.ofInt 2)) &&& (Int32.ofInt 858993459))) (Int32.ofInt 4))) &&& (Int32.ofInt 252645135)) (Int32.ofInt 8))) (Int32.ofInt 16))) &&& (Int32.ofInt 63)))) H := Eq.trans (s_iload_n r201_0 rfl) (Eq.trans (s_iload_n r201_1 rfl) (Eq.trans (s_iconst r201_2) (Eq.trans (s_iushr r201_3) (Eq.trans (s_ldcw r201_4 rfl) (Eq.trans (s_iand r201_7) (Eq.trans (s_isub r201_8) (Eq.trans (s_istore_n r201_9 (Nat.le_of_ble_eq_true rfl) rfl) (Eq.trans (s_iload_n r201_10 rfl) (Eq.trans (s_ldcw r201_11 rfl) (Eq.trans (s_iand r201_14) (Eq.trans (s_iload_n r201_15 rfl) (Eq.trans (s_iconst r201_16) (Eq.trans (s_iushr r201_17) (Eq.trans (s_ldcw r201_18 rfl) (Eq.trans (s_iand r201_21) (Eq.trans (s_iadd r201_22) (Eq.trans (s_istore_n r201_23 (Nat.le_of_ble_eq_true rfl) rfl) (Eq.trans (s_iload_n r201_24 rfl) (Eq.trans (s_iload_n r201_25 rfl) (Eq.trans (s_iconst r201_26) (Eq.trans (s_iushr r201_27) (Eq.trans (s_iadd r201_28) (Eq.trans (s_ldcw r201_29 rfl) (Eq.trans (s_iand r201_32) (Eq.trans (s_istore_n r201_33 (Nat.le_of_ble_eq_true rfl) rfl) (Eq.trans (s_iload_n r201_34 rfl) (Eq.trans (s_iload_n r201_35 rfl) (Eq.trans (s_bipush r201_36) (Eq.trans (s_iushr r201_38) (Eq.trans (s_iadd r201_39) (Eq.trans (s_istore_n r201_40 (Nat.le_of_ble_eq_true rfl) rfl) (Eq.trans (s_iload_n r201_41 rfl) (Eq.trans (s_iload_n r201_42 rfl) (Eq.trans (s_bipush r201_43) (Eq.trans (s_iushr r201_45) (Eq.trans (s_iadd r201_46) (Eq.trans (s_istore_n r201_47 (Nat.le_of_ble_eq_true rfl) rfl) (Eq.trans (s_iload_n r201_48 rfl) (Eq.trans (s_bipush r201_49) (Eq.trans (s_iand r201_51) (s_ireturn r201_52 (j_rok1 rfl))))))))))))))))))))))))))))))))))))))))))
-- J9_floorMod_7cf53
theorem r202_0 : j_at 202 0 = some (0, .iload_n 0, 1, []) := by decide +kernel
theorem r202_1 : j_at 202 1 = some (1, .iload_n 1, 1, []) := by decide +kernel
theorem r202_2 : j_at 202 2 = some (2, .irem, 1, []) := by decide +kernel
theorem r202_3 : j_at 202 3 = some (3, .istore_n 2, 1, []) := by decide +kernel
theorem r202_4 : j_at 202 4 = some (4, .iload_n 0, 1, []) := by decide +kernel
theorem r202_5 : j_at 202 5 = some (5, .iload_n 1, 1, []) := by decide +kernel
theorem r202_6 : j_at 202 6 = some (6, .ixor, 1, []) := by decide +kernel
theorem r202_7 : j_at 202 7 = some (7, .ifCond .ge 11, 3, []) := by decide +kernel
theorem r202_10 : j_at 202 10 = some (10, .iload_n 2, 1, []) := by decide +kernel
theorem r202_11 : j_at 202 11 = some (11, .ifCond .eq 7, 3, []) := by decide +kernel
theorem r202_14 : j_at 202 14 = some (14, .iload_n 2, 1, []) := by decide +kernel
theorem r202_15 : j_at 202 15 = some (15, .iload_n 1, 1, []) := by decide +kernel
theorem r202_16 : j_at 202 16 = some (16, .iadd, 1, []) := by decide +kernel
theorem r202_17 : j_at 202 17 = some (17, .ireturn, 1, []) := by decide +kernel
theorem r202_18 : j_at 202 18 = some (18, .iload_n 2, 1, []) := by decide +kernel
theorem r202_19 : j_at 202 19 = some (19, .ireturn, 1, []) := by decide +kernel
theorem b202_0 {b : Nat} {x0 : Int32} {x1 : Int32} {u2 : Value} {H : j_H} {Q : Option Value → j_H → Prop} (h0 : ¬ x1.toInt = 0) : j_wp b 202 0 [.int x0, .int x1, u2] [] H Q = (if 0 ≤ (x0 ^^^ x1).toInt then j_wp b 202 18 [.int x0, .int x1, .int (j_rem x0 x1)] [] H Q else j_wp b 202 10 [.int x0, .int x1, .int (j_rem x0 x1)] [] H Q) := Eq.trans (s_iload_n r202_0 rfl) (Eq.trans (s_iload_n r202_1 rfl) (Eq.trans (s_irem r202_2 (j_nz h0)) (Eq.trans (s_istore_n r202_3 (Nat.le_of_ble_eq_true rfl) rfl) (Eq.trans (s_iload_n r202_4 rfl) (Eq.trans (s_iload_n r202_5 rfl) (Eq.trans (s_ixor r202_6) (s_ifge r202_7 rfl rfl)))))))
theorem b202_10 {b : Nat} {x0 : Int32} {x1 : Int32} {x2 : Int32} {H : j_H} {Q : Option Value → j_H → Prop}  : j_wp b 202 10 [.int x0, .int x1, .int x2] [] H Q = (if x2.toInt = 0 then j_wp b 202 18 [.int x0, .int x1, .int x2] [] H Q else j_wp b 202 14 [.int x0, .int x1, .int x2] [] H Q) := Eq.trans (s_iload_n r202_10 rfl) (s_ifeq r202_11 rfl rfl)
theorem b202_14 {b : Nat} {x0 : Int32} {x1 : Int32} {x2 : Int32} {H : j_H} {Q : Option Value → j_H → Prop}  : j_wp b 202 14 [.int x0, .int x1, .int x2] [] H Q = Q (some (.int (x2 + x1))) H := Eq.trans (s_iload_n r202_14 rfl) (Eq.trans (s_iload_n r202_15 rfl) (Eq.trans (s_iadd r202_16) (s_ireturn r202_17 (j_rok1 rfl))))
theorem b202_18 {b : Nat} {x0 : Int32} {x1 : Int32} {x2 : Int32} {H : j_H} {Q : Option Value → j_H → Prop}  : j_wp b 202 18 [.int x0, .int x1, .int x2] [] H Q = Q (some (.int x2)) H := Eq.trans (s_iload_n r202_18 rfl) (s_ireturn r202_19 (j_rok1 rfl))
-- J9_min_7cf53
theorem r203_0 : j_at 203 0 = some (0, .iload_n 0, 1, []) := by decide +kernel
theorem r203_1 : j_at 203 1 = some (1, .iload_n 1, 1, []) := by decide +kernel
theorem r203_2 : j_at 203 2 = some (2, .if_icmp .gt 7, 3, []) := by decide +kernel
theorem r203_5 : j_at 203 5 = some (5, .iload_n 0, 1, []) := by decide +kernel
theorem r203_6 : j_at 203 6 = some (6, .goto 4, 3, []) := by decide +kernel
theorem r203_9 : j_at 203 9 = some (9, .iload_n 1, 1, []) := by decide +kernel
theorem r203_10 : j_at 203 10 = some (10, .ireturn, 1, []) := by decide +kernel
theorem b203_0 {b : Nat} {x0 : Int32} {x1 : Int32} {H : j_H} {Q : Option Value → j_H → Prop}  : j_wp b 203 0 [.int x0, .int x1] [] H Q = (if x1.toInt < x0.toInt then j_wp b 203 9 [.int x0, .int x1] [] H Q else j_wp b 203 5 [.int x0, .int x1] [] H Q) := Eq.trans (s_iload_n r203_0 rfl) (Eq.trans (s_iload_n r203_1 rfl) (s_icgt r203_2 rfl rfl rfl))
theorem b203_5 {b : Nat} {x0 : Int32} {x1 : Int32} {H : j_H} {Q : Option Value → j_H → Prop}  : j_wp b 203 5 [.int x0, .int x1] [] H Q = j_wp b 203 10 [.int x0, .int x1] [.int x0] H Q := Eq.trans (s_iload_n r203_5 rfl) (s_goto r203_6 rfl)
theorem b203_9 {b : Nat} {x0 : Int32} {x1 : Int32} {H : j_H} {Q : Option Value → j_H → Prop}  : j_wp b 203 9 [.int x0, .int x1] [] H Q = j_wp b 203 10 [.int x0, .int x1] [.int x1] H Q := s_iload_n r203_9 rfl
theorem b203_10 {b : Nat} {x0 : Int32} {x1 : Int32} {y0 : Int32} {H : j_H} {Q : Option Value → j_H → Prop}  : j_wp b 203 10 [.int x0, .int x1] [.int y0] H Q = Q (some (.int y0)) H := s_ireturn r203_10 (j_rok1 rfl)
-- J0_length_8abf5
theorem r204_0 : j_at 204 0 = some (0, .aload_n 0, 1, []) := by decide +kernel
theorem r204_1 : j_at 204 1 = some (1, .getfield 9, 3, [1025, 14, 2, 0, 0, 14]) := by decide +kernel
theorem r204_4 : j_at 204 4 = some (4, .arraylength, 1, []) := by decide +kernel
theorem r204_5 : j_at 204 5 = some (5, .aload_n 0, 1, []) := by decide +kernel
theorem r204_6 : j_at 204 6 = some (6, .invokevirtual 335, 3, [2, 1, 206, 425, 426, 427, 87, 0, 14]) := by decide +kernel
theorem r204_9 : j_at 204 9 = some (9, .ishr, 1, []) := by decide +kernel
theorem r204_10 : j_at 204 10 = some (10, .ireturn, 1, []) := by decide +kernel
theorem b204_0 {b : Nat} {x0 : Value} {H : j_H} {Q : Option Value → j_H → Prop} (h0 : j_vc H x0 = 14) (h1 : j_vt H (va_rf (j_R H (j_pa x0) 0)) = 9) : j_wp (b + 1) 204 0 [x0] [] H Q = j_wp b 206 0 [x0] [] H (j_k (b + 1) 204 9 [x0] [.int (Int32.ofInt (j_vl H (va_rf (j_R H (j_pa x0) 0)) : Nat))] Q) := Eq.trans (s_aload_n r204_0 rfl (j_isr_vc h0 rfl)) (Eq.trans (s_getfr r204_1 (j_al1 h0 rfl) rfl) (Eq.trans (s_alen r204_4 h1 (by decide)) (Eq.trans (s_aload_n r204_5 rfl (j_isr_vc h0 rfl)) (j_cll (as := [x0]) (es := [x0]) (s_c2 r204_6 rfl h0 rfl rfl (j_dok (s := [x0, .int (Int32.ofInt (j_vl H (va_rf (j_R H (j_pa x0) 0)) : Nat))]) (as := [x0]) (rest := [.int (Int32.ofInt (j_vl H (va_rf (j_R H (j_pa x0) 0)) : Nat))]) (es := [x0]) rfl rfl rfl rfl (j_slc (j_c1r (j_isr_vc h0 rfl)) rfl) rfl)) (j_slc (j_c1r (j_isr_vc h0 rfl)) rfl) rfl))))
theorem b204_9 {b : Nat} {x0 : Value} {y0 : Int32} {y1 : Int32} {H : j_H} {Q : Option Value → j_H → Prop}  : j_wp b 204 9 [x0] [.int y0, .int y1] H Q = Q (some (.int (j_shr y1 y0))) H := Eq.trans (s_ishr r204_9) (s_ireturn r204_10 (j_rok1 rfl))
-- J0_charAt_5068e
theorem r205_0 : j_at 205 0 = some (0, .aload_n 0, 1, []) := by decide +kernel
theorem r205_1 : j_at 205 1 = some (1, .invokevirtual 492, 3, [2, 1, 207, 432, 433, 434, 87, 0, 14]) := by decide +kernel
theorem r205_4 : j_at 205 4 = some (4, .ifCond .eq 12, 3, []) := by decide +kernel
theorem r205_7 : j_at 205 7 = some (7, .aload_n 0, 1, []) := by decide +kernel
theorem r205_8 : j_at 205 8 = some (8, .getfield 9, 3, [1025, 14, 2, 0, 0, 14]) := by decide +kernel
theorem r205_11 : j_at 205 11 = some (11, .iload_n 1, 1, []) := by decide +kernel
theorem r205_12 : j_at 205 12 = some (12, .invokestatic 495, 3, [0, 2, 209, 435, 436, 88, 0]) := by decide +kernel
theorem r205_15 : j_at 205 15 = some (15, .ireturn, 1, []) := by decide +kernel
theorem r205_16 : j_at 205 16 = some (16, .aload_n 0, 1, []) := by decide +kernel
theorem r205_17 : j_at 205 17 = some (17, .getfield 9, 3, [1025, 14, 2, 0, 0, 14]) := by decide +kernel
theorem r205_20 : j_at 205 20 = some (20, .iload_n 1, 1, []) := by decide +kernel
theorem r205_21 : j_at 205 21 = some (21, .invokestatic 498, 3, []) := by decide +kernel
theorem r205_24 : j_at 205 24 = some (24, .ireturn, 1, []) := by decide +kernel
theorem b205_0 {b : Nat} {x0 : Value} {x1 : Int32} {H : j_H} {Q : Option Value → j_H → Prop} (h0 : j_vc H x0 = 14) : j_wp (b + 1) 205 0 [x0, .int x1] [] H Q = j_wp b 207 0 [x0] [] H (j_k (b + 1) 205 4 [x0, .int x1] [] Q) := Eq.trans (s_aload_n r205_0 rfl (j_isr_vc h0 rfl)) (j_cll (as := [x0]) (es := [x0]) (s_c2 r205_1 rfl h0 rfl rfl (j_dok (s := [x0]) (as := [x0]) (rest := []) (es := [x0]) rfl rfl rfl rfl (j_slc (j_c1r (j_isr_vc h0 rfl)) rfl) rfl)) (j_slc (j_c1r (j_isr_vc h0 rfl)) rfl) rfl)
theorem b205_4 {b : Nat} {x0 : Value} {x1 : Int32} {y0 : Int32} {H : j_H} {Q : Option Value → j_H → Prop}  : j_wp b 205 4 [x0, .int x1] [.int y0] H Q = (if y0.toInt = 0 then j_wp b 205 16 [x0, .int x1] [] H Q else j_wp b 205 7 [x0, .int x1] [] H Q) := s_ifeq r205_4 rfl rfl
theorem b205_7 {b : Nat} {x0 : Value} {x1 : Int32} {H : j_H} {Q : Option Value → j_H → Prop} (h0 : j_vc H x0 = 14) : j_wp (b + 1) 205 7 [x0, .int x1] [] H Q = j_wp b 209 0 [va_rf (j_R H (j_pa x0) 0), .int x1] [] H (j_k (b + 1) 205 15 [x0, .int x1] [] Q) := Eq.trans (s_aload_n r205_7 rfl (j_isr_vc h0 rfl)) (Eq.trans (s_getfr r205_8 (j_al1 h0 rfl) rfl) (Eq.trans (s_iload_n r205_11 rfl) (j_cll (as := [va_rf (j_R H (j_pa x0) 0), .int x1]) (es := [va_rf (j_R H (j_pa x0) 0), .int x1]) (s_c0 r205_12 (j_dok (s := [.int x1, va_rf (j_R H (j_pa x0) 0)]) (as := [va_rf (j_R H (j_pa x0) 0), .int x1]) (rest := []) (es := [va_rf (j_R H (j_pa x0) 0), .int x1]) rfl rfl rfl rfl (j_slc (j_c1r (j_isr_rf _)) rfl) rfl)) (j_slc (j_c1r (j_isr_rf _)) rfl) rfl)))
theorem b205_15 {b : Nat} {x0 : Value} {x1 : Int32} {y0 : Int32} {H : j_H} {Q : Option Value → j_H → Prop} (h0 : 0 ≤ y0.toInt) (h1 : y0.toInt ≤ 65535) : j_wp b 205 15 [x0, .int x1] [.int y0] H Q = Q (some (.int y0)) H := s_ireturn r205_15 (j_rok6 (z := y0.toInt) rfl rfl h0 h1)
-- no block at 16: list index out of range
-- J0_coder_7d493
theorem r206_0 : j_at 206 0 = some (0, .getstatic 38, 3, [428, 0]) := by decide +kernel
theorem r206_3 : j_at 206 3 = some (3, .ifCond .eq 10, 3, []) := by decide +kernel
theorem r206_6 : j_at 206 6 = some (6, .aload_n 0, 1, []) := by decide +kernel
theorem r206_7 : j_at 206 7 = some (7, .getfield 15, 3, [1026, 14, 0, 1, 0, 14]) := by decide +kernel
theorem r206_10 : j_at 206 10 = some (10, .goto 4, 3, []) := by decide +kernel
theorem r206_13 : j_at 206 13 = some (13, .iconst 1, 1, []) := by decide +kernel
theorem r206_14 : j_at 206 14 = some (14, .ireturn, 1, []) := by decide +kernel
theorem b206_0 {b : Nat} {x0 : Value} {H : j_H} {Q : Option Value → j_H → Prop}  : j_wp b 206 0 [x0] [] H Q = (if 1 = 0 then j_wp b 206 13 [x0] [] H Q else j_wp b 206 6 [x0] [] H Q) := Eq.trans (s_stat0 r206_0) (s_ifeq r206_3 rfl rfl)
theorem b206_6 {b : Nat} {x0 : Value} {H : j_H} {Q : Option Value → j_H → Prop} (h0 : j_vc H x0 = 14) : j_wp b 206 6 [x0] [] H Q = j_wp b 206 14 [x0] [.int (j_I H (j_pa x0) 1)] H Q := Eq.trans (s_aload_n r206_6 rfl (j_isr_vc h0 rfl)) (Eq.trans (s_getfi r206_7 (j_al1 h0 rfl) rfl rfl rfl) (s_goto r206_10 rfl))
theorem b206_13 {b : Nat} {x0 : Value} {H : j_H} {Q : Option Value → j_H → Prop}  : j_wp b 206 13 [x0] [] H Q = j_wp b 206 14 [x0] [.int (Int32.ofInt 1)] H Q := s_iconst r206_13
theorem b206_14 {b : Nat} {x0 : Value} {y0 : Int32} {H : j_H} {Q : Option Value → j_H → Prop} (h0 : -128 ≤ y0.toInt) (h1 : y0.toInt ≤ 127) : j_wp b 206 14 [x0] [.int y0] H Q = Q (some (.int y0)) H := s_ireturn r206_14 (j_rok5 (z := y0.toInt) rfl rfl h0 h1)
-- J0_isLatin1_aae02
theorem r207_0 : j_at 207 0 = some (0, .getstatic 38, 3, [428, 0]) := by decide +kernel
theorem r207_3 : j_at 207 3 = some (3, .ifCond .eq 14, 3, []) := by decide +kernel
theorem r207_6 : j_at 207 6 = some (6, .aload_n 0, 1, []) := by decide +kernel
theorem r207_7 : j_at 207 7 = some (7, .getfield 15, 3, [1026, 14, 0, 1, 0, 14]) := by decide +kernel
theorem r207_10 : j_at 207 10 = some (10, .ifCond .ne 7, 3, []) := by decide +kernel
theorem r207_13 : j_at 207 13 = some (13, .iconst 1, 1, []) := by decide +kernel
theorem r207_14 : j_at 207 14 = some (14, .goto 4, 3, []) := by decide +kernel
theorem r207_17 : j_at 207 17 = some (17, .iconst 0, 1, []) := by decide +kernel
theorem r207_18 : j_at 207 18 = some (18, .ireturn, 1, []) := by decide +kernel
theorem b207_0 {b : Nat} {x0 : Value} {H : j_H} {Q : Option Value → j_H → Prop}  : j_wp b 207 0 [x0] [] H Q = (if 1 = 0 then j_wp b 207 17 [x0] [] H Q else j_wp b 207 6 [x0] [] H Q) := Eq.trans (s_stat0 r207_0) (s_ifeq r207_3 rfl rfl)
theorem b207_6 {b : Nat} {x0 : Value} {H : j_H} {Q : Option Value → j_H → Prop} (h0 : j_vc H x0 = 14) : j_wp b 207 6 [x0] [] H Q = (if ¬ (j_I H (j_pa x0) 1).toInt = 0 then j_wp b 207 17 [x0] [] H Q else j_wp b 207 13 [x0] [] H Q) := Eq.trans (s_aload_n r207_6 rfl (j_isr_vc h0 rfl)) (Eq.trans (s_getfi r207_7 (j_al1 h0 rfl) rfl rfl rfl) (s_ifne r207_10 rfl rfl))
theorem b207_13 {b : Nat} {x0 : Value} {H : j_H} {Q : Option Value → j_H → Prop}  : j_wp b 207 13 [x0] [] H Q = j_wp b 207 18 [x0] [.int (Int32.ofInt 1)] H Q := Eq.trans (s_iconst r207_13) (s_goto r207_14 rfl)
theorem b207_17 {b : Nat} {x0 : Value} {H : j_H} {Q : Option Value → j_H → Prop}  : j_wp b 207 17 [x0] [] H Q = j_wp b 207 18 [x0] [.int (Int32.ofInt 0)] H Q := s_iconst r207_17
theorem b207_18 {b : Nat} {x0 : Value} {y0 : Int32} {H : j_H} {Q : Option Value → j_H → Prop} (h0 : y0.toInt = 0 ∨ y0.toInt = 1) : j_wp b 207 18 [x0] [.int y0] H Q = Q (some (.int y0)) H := s_ireturn r207_18 (j_rok4 (z := y0.toInt) rfl rfl h0)
-- J0_checkIndex_df160
theorem r208_0 : j_at 208 0 = some (0, .iload_n 0, 1, []) := by decide +kernel
theorem r208_1 : j_at 208 1 = some (1, .iload_n 1, 1, []) := by decide +kernel
theorem r208_2 : j_at 208 2 = some (2, .getstatic 1053, 3, [446, 1]) := by decide +kernel
theorem r208_5 : j_at 208 5 = some (5, .invokestatic 1059, 3, [0, 3, 212, 447, 448, 89, 0]) := by decide +kernel
theorem r208_8 : j_at 208 8 = some (8, .pop, 1, []) := by decide +kernel
theorem r208_9 : j_at 208 9 = some (9, .return_, 1, []) := by decide +kernel
theorem b208_0 {b : Nat} {x0 : Int32} {x1 : Int32} {H : j_H} {Q : Option Value → j_H → Prop}  : j_wp (b + 1) 208 0 [.int x0, .int x1] [] H Q = j_wp b 212 0 [.int x0, .int x1, .ref 11] [] H (j_k (b + 1) 208 8 [.int x0, .int x1] [] Q) := Eq.trans (s_iload_n r208_0 rfl) (Eq.trans (s_iload_n r208_1 rfl) (Eq.trans (s_stat1 r208_2) (j_cll (as := [.int x0, .int x1, .ref 11]) (es := [.int x0, .int x1, .ref 11]) (s_c0 r208_5 (j_dok (s := [.ref 11, .int x1, .int x0]) (as := [.int x0, .int x1, .ref 11]) (rest := []) (es := [.int x0, .int x1, .ref 11]) rfl rfl rfl rfl (j_slc rfl (j_slc rfl (j_slc (j_c1r rfl) rfl))) rfl)) (j_slc rfl (j_slc rfl (j_slc (j_c1r rfl) rfl))) rfl)))
theorem b208_8 {b : Nat} {x0 : Int32} {x1 : Int32} {y0 : Int32} {H : j_H} {Q : Option Value → j_H → Prop}  : j_wp b 208 8 [.int x0, .int x1] [.int y0] H Q = Q none H := Eq.trans (s_pop r208_8) (s_return r208_9 rfl)
-- J1_charAt_3b067
theorem r209_0 : j_at 209 0 = some (0, .iload_n 1, 1, []) := by decide +kernel
theorem r209_1 : j_at 209 1 = some (1, .aload_n 0, 1, []) := by decide +kernel
theorem r209_2 : j_at 209 2 = some (2, .arraylength, 1, []) := by decide +kernel
theorem r209_3 : j_at 209 3 = some (3, .invokestatic 9, 3, [0, 2, 208, 444, 445, 87, 0]) := by decide +kernel
theorem r209_6 : j_at 209 6 = some (6, .aload_n 0, 1, []) := by decide +kernel
theorem r209_7 : j_at 209 7 = some (7, .iload_n 1, 1, []) := by decide +kernel
theorem r209_8 : j_at 209 8 = some (8, .baload, 1, [9]) := by decide +kernel
theorem r209_9 : j_at 209 9 = some (9, .sipush 255, 3, []) := by decide +kernel
theorem r209_12 : j_at 209 12 = some (12, .iand, 1, []) := by decide +kernel
theorem r209_13 : j_at 209 13 = some (13, .i2c, 1, []) := by decide +kernel
theorem r209_14 : j_at 209 14 = some (14, .ireturn, 1, []) := by decide +kernel
theorem b209_0 {b : Nat} {x0 : Value} {x1 : Int32} {H : j_H} {Q : Option Value → j_H → Prop} (h0 : j_vt H x0 = 9) : j_wp (b + 1) 209 0 [x0, .int x1] [] H Q = j_wp b 208 0 [.int x1, .int (Int32.ofInt (j_vl H x0 : Nat))] [] H (j_k (b + 1) 209 6 [x0, .int x1] [] Q) := Eq.trans (s_iload_n r209_0 rfl) (Eq.trans (s_aload_n r209_1 rfl (j_isr_vt h0 rfl)) (Eq.trans (s_alen r209_2 h0 (by decide)) (j_cll (as := [.int x1, .int (Int32.ofInt (j_vl H x0 : Nat))]) (es := [.int x1, .int (Int32.ofInt (j_vl H x0 : Nat))]) (s_c0 r209_3 (j_dok (s := [.int (Int32.ofInt (j_vl H x0 : Nat)), .int x1]) (as := [.int x1, .int (Int32.ofInt (j_vl H x0 : Nat))]) (rest := []) (es := [.int x1, .int (Int32.ofInt (j_vl H x0 : Nat))]) rfl rfl rfl rfl rfl rfl)) rfl rfl)))
theorem b209_6 {b : Nat} {x0 : Value} {x1 : Int32} {H : j_H} {Q : Option Value → j_H → Prop} (h0 : j_vt H x0 = 9) (h1 : 0 ≤ x1.toInt) (h2 : x1.toInt < ((j_vl H x0 : Nat) : Int)) (h3 : 0 ≤ ((((j_I H (j_pa x0) (j_ix x1)) &&& (Int32.ofInt 255)).toUInt32 % 65536).toInt32).toInt) (h4 : ((((j_I H (j_pa x0) (j_ix x1)) &&& (Int32.ofInt 255)).toUInt32 % 65536).toInt32).toInt ≤ 65535) : j_wp b 209 6 [x0, .int x1] [] H Q = Q (some (.int ((((j_I H (j_pa x0) (j_ix x1)) &&& (Int32.ofInt 255)).toUInt32 % 65536).toInt32))) H := Eq.trans (s_aload_n r209_6 rfl (j_isr_vt h0 rfl)) (Eq.trans (s_iload_n r209_7 rfl) (Eq.trans (s_bald r209_8 h0 (by decide) (j_ib_of (z := x1.toInt) rfl h1 h2)) (Eq.trans (s_sipush r209_9) (Eq.trans (s_iand r209_12) (Eq.trans (s_i2c r209_13) (s_ireturn r209_14 (j_rok6 (z := ((((j_I H (j_pa x0) (j_ix x1)) &&& (Int32.ofInt 255)).toUInt32 % 65536).toInt32).toInt) rfl rfl h3 h4)))))))
-- J7_fill_d0a16
theorem r210_0 : j_at 210 0 = some (0, .iconst 0, 1, []) := by decide +kernel
theorem r210_1 : j_at 210 1 = some (1, .istore_n 3, 1, []) := by decide +kernel
theorem r210_2 : j_at 210 2 = some (2, .aload_n 0, 1, []) := by decide +kernel
theorem r210_3 : j_at 210 3 = some (3, .arraylength, 1, []) := by decide +kernel
theorem r210_4 : j_at 210 4 = some (4, .istore 4, 2, []) := by decide +kernel
theorem r210_6 : j_at 210 6 = some (6, .iload_n 3, 1, []) := by decide +kernel
theorem r210_7 : j_at 210 7 = some (7, .iload 4, 2, []) := by decide +kernel
theorem r210_9 : j_at 210 9 = some (9, .if_icmp .ge 13, 3, []) := by decide +kernel
theorem r210_12 : j_at 210 12 = some (12, .aload_n 0, 1, []) := by decide +kernel
theorem r210_13 : j_at 210 13 = some (13, .iload_n 3, 1, []) := by decide +kernel
theorem r210_14 : j_at 210 14 = some (14, .lload_n 1, 1, []) := by decide +kernel
theorem r210_15 : j_at 210 15 = some (15, .lastore, 1, []) := by decide +kernel
theorem r210_16 : j_at 210 16 = some (16, .iinc 3 1, 3, []) := by decide +kernel
theorem r210_19 : j_at 210 19 = some (19, .goto (-13), 3, []) := by decide +kernel
theorem r210_22 : j_at 210 22 = some (22, .return_, 1, []) := by decide +kernel
theorem b210_0 {b : Nat} {x0 : Value} {x1 : Int64} {u3 : Value} {u4 : Value} {H : j_H} {Q : Option Value → j_H → Prop} (h0 : j_vt H x0 = 1) : j_wp b 210 0 [x0, .long x1, j_u, u3, u4] [] H Q = j_wp b 210 6 [x0, .long x1, j_u, .int (Int32.ofInt 0), .int (Int32.ofInt (j_vl H x0 : Nat))] [] H Q := Eq.trans (s_iconst r210_0) (Eq.trans (s_istore_n r210_1 (Nat.le_of_ble_eq_true rfl) rfl) (Eq.trans (s_aload_n r210_2 rfl (j_isr_vt h0 rfl)) (Eq.trans (s_alen r210_3 h0 (by decide)) (s_istore r210_4 (Nat.le_of_ble_eq_true rfl) rfl))))
theorem b210_6 {b : Nat} {x0 : Value} {x1 : Int64} {x3 : Int32} {x4 : Int32} {H : j_H} {Q : Option Value → j_H → Prop}  : j_wp b 210 6 [x0, .long x1, j_u, .int x3, .int x4] [] H Q = (if x4.toInt ≤ x3.toInt then j_wp b 210 22 [x0, .long x1, j_u, .int x3, .int x4] [] H Q else j_wp b 210 12 [x0, .long x1, j_u, .int x3, .int x4] [] H Q) := Eq.trans (s_iload_n r210_6 rfl) (Eq.trans (s_iload r210_7 rfl) (s_icge r210_9 rfl rfl rfl))
theorem b210_12 {b : Nat} {x0 : Value} {x1 : Int64} {x3 : Int32} {x4 : Int32} {H : j_H} {Q : Option Value → j_H → Prop} (h0 : j_vt H x0 = 1) (h1 : 0 ≤ x3.toInt) (h2 : x3.toInt < ((j_vl H x0 : Nat) : Int)) : j_wp b 210 12 [x0, .long x1, j_u, .int x3, .int x4] [] H Q = j_wp b 210 16 [x0, .long x1, j_u, .int x3, .int x4] [] (j_sL H (j_pa x0) (j_ix x3) x1) Q := Eq.trans (s_aload_n r210_12 rfl (j_isr_vt h0 rfl)) (Eq.trans (s_iload_n r210_13 rfl) (Eq.trans (s_lload_n r210_14 rfl) (s_last r210_15 h0 (j_ib_of (z := x3.toInt) rfl h1 h2))))
theorem b210_16 {b : Nat} {x0 : Value} {x1 : Int64} {x3 : Int32} {x4 : Int32} {H : j_H} {Q : Option Value → j_H → Prop}  : j_wp b 210 16 [x0, .long x1, j_u, .int x3, .int x4] [] H Q = j_wp b 210 6 [x0, .long x1, j_u, .int (x3 + Int32.ofInt 1), .int x4] [] H Q := Eq.trans (s_iinc r210_16 rfl rfl) (s_goto r210_19 rfl)
theorem b210_22 {b : Nat} {x0 : Value} {x1 : Int64} {x3 : Int32} {x4 : Int32} {H : j_H} {Q : Option Value → j_H → Prop}  : j_wp b 210 22 [x0, .long x1, j_u, .int x3, .int x4] [] H Q = Q none H := s_return r210_22 rfl
-- J7_fill_53178
theorem r211_0 : j_at 211 0 = some (0, .iconst 0, 1, []) := by decide +kernel
theorem r211_1 : j_at 211 1 = some (1, .istore_n 2, 1, []) := by decide +kernel
theorem r211_2 : j_at 211 2 = some (2, .aload_n 0, 1, []) := by decide +kernel
theorem r211_3 : j_at 211 3 = some (3, .arraylength, 1, []) := by decide +kernel
theorem r211_4 : j_at 211 4 = some (4, .istore_n 3, 1, []) := by decide +kernel
theorem r211_5 : j_at 211 5 = some (5, .iload_n 2, 1, []) := by decide +kernel
theorem r211_6 : j_at 211 6 = some (6, .iload_n 3, 1, []) := by decide +kernel
theorem r211_7 : j_at 211 7 = some (7, .if_icmp .ge 13, 3, []) := by decide +kernel
theorem r211_10 : j_at 211 10 = some (10, .aload_n 0, 1, []) := by decide +kernel
theorem r211_11 : j_at 211 11 = some (11, .iload_n 2, 1, []) := by decide +kernel
theorem r211_12 : j_at 211 12 = some (12, .iload_n 1, 1, []) := by decide +kernel
theorem r211_13 : j_at 211 13 = some (13, .iastore, 1, []) := by decide +kernel
theorem r211_14 : j_at 211 14 = some (14, .iinc 2 1, 3, []) := by decide +kernel
theorem r211_17 : j_at 211 17 = some (17, .goto (-12), 3, []) := by decide +kernel
theorem r211_20 : j_at 211 20 = some (20, .return_, 1, []) := by decide +kernel
theorem b211_0 {b : Nat} {x0 : Value} {x1 : Int32} {u2 : Value} {u3 : Value} {H : j_H} {Q : Option Value → j_H → Prop} (h0 : j_vt H x0 = 0) : j_wp b 211 0 [x0, .int x1, u2, u3] [] H Q = j_wp b 211 5 [x0, .int x1, .int (Int32.ofInt 0), .int (Int32.ofInt (j_vl H x0 : Nat))] [] H Q := Eq.trans (s_iconst r211_0) (Eq.trans (s_istore_n r211_1 (Nat.le_of_ble_eq_true rfl) rfl) (Eq.trans (s_aload_n r211_2 rfl (j_isr_vt h0 rfl)) (Eq.trans (s_alen r211_3 h0 (by decide)) (s_istore_n r211_4 (Nat.le_of_ble_eq_true rfl) rfl))))
theorem b211_5 {b : Nat} {x0 : Value} {x1 : Int32} {x2 : Int32} {x3 : Int32} {H : j_H} {Q : Option Value → j_H → Prop}  : j_wp b 211 5 [x0, .int x1, .int x2, .int x3] [] H Q = (if x3.toInt ≤ x2.toInt then j_wp b 211 20 [x0, .int x1, .int x2, .int x3] [] H Q else j_wp b 211 10 [x0, .int x1, .int x2, .int x3] [] H Q) := Eq.trans (s_iload_n r211_5 rfl) (Eq.trans (s_iload_n r211_6 rfl) (s_icge r211_7 rfl rfl rfl))
theorem b211_10 {b : Nat} {x0 : Value} {x1 : Int32} {x2 : Int32} {x3 : Int32} {H : j_H} {Q : Option Value → j_H → Prop} (h0 : j_vt H x0 = 0) (h1 : 0 ≤ x2.toInt) (h2 : x2.toInt < ((j_vl H x0 : Nat) : Int)) : j_wp b 211 10 [x0, .int x1, .int x2, .int x3] [] H Q = j_wp b 211 14 [x0, .int x1, .int x2, .int x3] [] (j_sI H (j_pa x0) (j_ix x2) x1) Q := Eq.trans (s_aload_n r211_10 rfl (j_isr_vt h0 rfl)) (Eq.trans (s_iload_n r211_11 rfl) (Eq.trans (s_iload_n r211_12 rfl) (s_iast r211_13 h0 (j_ib_of (z := x2.toInt) rfl h1 h2))))
theorem b211_14 {b : Nat} {x0 : Value} {x1 : Int32} {x2 : Int32} {x3 : Int32} {H : j_H} {Q : Option Value → j_H → Prop}  : j_wp b 211 14 [x0, .int x1, .int x2, .int x3] [] H Q = j_wp b 211 5 [x0, .int x1, .int (x2 + Int32.ofInt 1), .int x3] [] H Q := Eq.trans (s_iinc r211_14 rfl rfl) (s_goto r211_17 rfl)
theorem b211_20 {b : Nat} {x0 : Value} {x1 : Int32} {x2 : Int32} {x3 : Int32} {H : j_H} {Q : Option Value → j_H → Prop}  : j_wp b 211 20 [x0, .int x1, .int x2, .int x3] [] H Q = Q none H := s_return r211_20 rfl
-- J3_checkIndex_8e157
theorem r212_0 : j_at 212 0 = some (0, .iload_n 0, 1, []) := by decide +kernel
theorem r212_1 : j_at 212 1 = some (1, .ifCond .lt 8, 3, []) := by decide +kernel
theorem r212_4 : j_at 212 4 = some (4, .iload_n 0, 1, []) := by decide +kernel
theorem r212_5 : j_at 212 5 = some (5, .iload_n 1, 1, []) := by decide +kernel
theorem r212_6 : j_at 212 6 = some (6, .if_icmp .lt 10, 3, []) := by decide +kernel
theorem r212_9 : j_at 212 9 = some (9, .aload_n 2, 1, []) := by decide +kernel
theorem r212_10 : j_at 212 10 = some (10, .iload_n 0, 1, []) := by decide +kernel
theorem r212_11 : j_at 212 11 = some (11, .iload_n 1, 1, []) := by decide +kernel
theorem r212_12 : j_at 212 12 = some (12, .invokestatic 95, 3, []) := by decide +kernel
theorem r212_16 : j_at 212 16 = some (16, .iload_n 0, 1, []) := by decide +kernel
theorem r212_17 : j_at 212 17 = some (17, .ireturn, 1, []) := by decide +kernel
theorem b212_0 {b : Nat} {x0 : Int32} {x1 : Int32} {x2 : Value} {H : j_H} {Q : Option Value → j_H → Prop}  : j_wp b 212 0 [.int x0, .int x1, x2] [] H Q = (if x0.toInt < 0 then j_wp b 212 9 [.int x0, .int x1, x2] [] H Q else j_wp b 212 4 [.int x0, .int x1, x2] [] H Q) := Eq.trans (s_iload_n r212_0 rfl) (s_iflt r212_1 rfl rfl)
theorem b212_4 {b : Nat} {x0 : Int32} {x1 : Int32} {x2 : Value} {H : j_H} {Q : Option Value → j_H → Prop}  : j_wp b 212 4 [.int x0, .int x1, x2] [] H Q = (if x0.toInt < x1.toInt then j_wp b 212 16 [.int x0, .int x1, x2] [] H Q else j_wp b 212 9 [.int x0, .int x1, x2] [] H Q) := Eq.trans (s_iload_n r212_4 rfl) (Eq.trans (s_iload_n r212_5 rfl) (s_iclt r212_6 rfl rfl rfl))
-- no block at 9: list index out of range
theorem b212_16 {b : Nat} {x0 : Int32} {x1 : Int32} {x2 : Value} {H : j_H} {Q : Option Value → j_H → Prop}  : j_wp b 212 16 [.int x0, .int x1, x2] [] H Q = Q (some (.int x0)) H := Eq.trans (s_iload_n r212_16 rfl) (s_ireturn r212_17 (j_rok1 rfl))
