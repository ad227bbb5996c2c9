theorem dL_law_0_t : dqK cL_law.data.toList 0 [(0, .new 7, 3), (3, .dup, 1), (4, .invokespecial 9, 3), (7, .astore_n 1, 1), (8, .new 10, 3), (11, .dup, 1), (12, .invokespecial 12, 3), (15, .astore_n 2, 1), (16, .iconst 0, 1), (17, .istore_n 3, 1), (18, .iload_n 3, 1), (19, .aload_n 0, 1), (20, .arraylength, 1), (21, .iconst 5, 1), (22, .isub, 1), (23, .if_icmp .gt 1538, 3), (26, .aload_n 0, 1), (27, .iload_n 3, 1), (28, .iaload, 1), (29, .bipush 63, 2), (31, .iand, 1), (220, .aload_n 1, 1), (221, .aload_n 0, 1), (222, .iload_n 3, 1), (223, .iconst 1, 1), (224, .iadd, 1), (225, .iaload, 1), (226, .invokevirtual 13, 3), (229, .pop, 1), (230, .aload_n 2, 1), (231, .aload_n 0, 1), (232, .iload_n 3, 1), (233, .iconst 1, 1), (234, .iadd, 1), (235, .iaload, 1), (236, .invokevirtual 17, 3), (239, .pop, 1), (240, .goto 1315, 3), (243, .aload_n 1, 1), (244, .aload_n 0, 1)] = true := by decide +kernel
theorem dL_law_0 : decode cL_law 0 = .ok (.new 7, 3) := dq_get dL_law_0_t 0 rfl
theorem dL_law_3 : decode cL_law 3 = .ok (.dup, 1) := dq_get dL_law_0_t 1 rfl
theorem dL_law_4 : decode cL_law 4 = .ok (.invokespecial 9, 3) := dq_get dL_law_0_t 2 rfl
theorem dL_law_7 : decode cL_law 7 = .ok (.astore_n 1, 1) := dq_get dL_law_0_t 3 rfl
theorem dL_law_8 : decode cL_law 8 = .ok (.new 10, 3) := dq_get dL_law_0_t 4 rfl
theorem dL_law_11 : decode cL_law 11 = .ok (.dup, 1) := dq_get dL_law_0_t 5 rfl
theorem dL_law_12 : decode cL_law 12 = .ok (.invokespecial 12, 3) := dq_get dL_law_0_t 6 rfl
theorem dL_law_15 : decode cL_law 15 = .ok (.astore_n 2, 1) := dq_get dL_law_0_t 7 rfl
theorem dL_law_16 : decode cL_law 16 = .ok (.iconst 0, 1) := dq_get dL_law_0_t 8 rfl
theorem dL_law_17 : decode cL_law 17 = .ok (.istore_n 3, 1) := dq_get dL_law_0_t 9 rfl
theorem dL_law_18 : decode cL_law 18 = .ok (.iload_n 3, 1) := dq_get dL_law_0_t 10 rfl
theorem dL_law_19 : decode cL_law 19 = .ok (.aload_n 0, 1) := dq_get dL_law_0_t 11 rfl
theorem dL_law_20 : decode cL_law 20 = .ok (.arraylength, 1) := dq_get dL_law_0_t 12 rfl
theorem dL_law_21 : decode cL_law 21 = .ok (.iconst 5, 1) := dq_get dL_law_0_t 13 rfl
theorem dL_law_22 : decode cL_law 22 = .ok (.isub, 1) := dq_get dL_law_0_t 14 rfl
theorem dL_law_23 : decode cL_law 23 = .ok (.if_icmp .gt 1538, 3) := dq_get dL_law_0_t 15 rfl
theorem dL_law_26 : decode cL_law 26 = .ok (.aload_n 0, 1) := dq_get dL_law_0_t 16 rfl
theorem dL_law_27 : decode cL_law 27 = .ok (.iload_n 3, 1) := dq_get dL_law_0_t 17 rfl
theorem dL_law_28 : decode cL_law 28 = .ok (.iaload, 1) := dq_get dL_law_0_t 18 rfl
theorem dL_law_29 : decode cL_law 29 = .ok (.bipush 63, 2) := dq_get dL_law_0_t 19 rfl
theorem dL_law_31 : decode cL_law 31 = .ok (.iand, 1) := dq_get dL_law_0_t 20 rfl
theorem dL_law_220 : decode cL_law 220 = .ok (.aload_n 1, 1) := dq_get dL_law_0_t 21 rfl
theorem dL_law_221 : decode cL_law 221 = .ok (.aload_n 0, 1) := dq_get dL_law_0_t 22 rfl
theorem dL_law_222 : decode cL_law 222 = .ok (.iload_n 3, 1) := dq_get dL_law_0_t 23 rfl
theorem dL_law_223 : decode cL_law 223 = .ok (.iconst 1, 1) := dq_get dL_law_0_t 24 rfl
theorem dL_law_224 : decode cL_law 224 = .ok (.iadd, 1) := dq_get dL_law_0_t 25 rfl
theorem dL_law_225 : decode cL_law 225 = .ok (.iaload, 1) := dq_get dL_law_0_t 26 rfl
theorem dL_law_226 : decode cL_law 226 = .ok (.invokevirtual 13, 3) := dq_get dL_law_0_t 27 rfl
theorem dL_law_229 : decode cL_law 229 = .ok (.pop, 1) := dq_get dL_law_0_t 28 rfl
theorem dL_law_230 : decode cL_law 230 = .ok (.aload_n 2, 1) := dq_get dL_law_0_t 29 rfl
theorem dL_law_231 : decode cL_law 231 = .ok (.aload_n 0, 1) := dq_get dL_law_0_t 30 rfl
theorem dL_law_232 : decode cL_law 232 = .ok (.iload_n 3, 1) := dq_get dL_law_0_t 31 rfl
theorem dL_law_233 : decode cL_law 233 = .ok (.iconst 1, 1) := dq_get dL_law_0_t 32 rfl
theorem dL_law_234 : decode cL_law 234 = .ok (.iadd, 1) := dq_get dL_law_0_t 33 rfl
theorem dL_law_235 : decode cL_law 235 = .ok (.iaload, 1) := dq_get dL_law_0_t 34 rfl
theorem dL_law_236 : decode cL_law 236 = .ok (.invokevirtual 17, 3) := dq_get dL_law_0_t 35 rfl
theorem dL_law_239 : decode cL_law 239 = .ok (.pop, 1) := dq_get dL_law_0_t 36 rfl
theorem dL_law_240 : decode cL_law 240 = .ok (.goto 1315, 3) := dq_get dL_law_0_t 37 rfl
theorem dL_law_243 : decode cL_law 243 = .ok (.aload_n 1, 1) := dq_get dL_law_0_t 38 rfl
theorem dL_law_244 : decode cL_law 244 = .ok (.aload_n 0, 1) := dq_get dL_law_0_t 39 rfl
theorem dL_law_32 : decode cL_law 32 = .ok (.tableswitch 1523 0 42 #[188, 211, 234, 247, 260, 283, 316, 349, 382, 415, 458, 491, 524, 557, 616, 649, 692, 735, 768, 801, 844, 857, 900, 923, 936, 949, 972, 1015, 1028, 1061, 1084, 1117, 1140, 1163, 1216, 1259, 1302, 1325, 1348, 1391, 1434, 1487, 1500], 188) := by decide +kernel
theorem dL_law_245_t : dqK cL_law.data.toList 0 [(245, .iload_n 3, 1), (246, .iconst 1, 1), (247, .iadd, 1), (248, .iaload, 1), (249, .invokevirtual 18, 3), (252, .pop, 1), (253, .aload_n 2, 1), (254, .aload_n 0, 1), (255, .iload_n 3, 1), (256, .iconst 1, 1), (257, .iadd, 1), (258, .iaload, 1), (259, .invokevirtual 21, 3), (262, .pop, 1), (263, .goto 1292, 3), (266, .aload_n 1, 1), (267, .invokevirtual 22, 3), (270, .pop, 1), (271, .aload_n 2, 1), (272, .invokevirtual 26, 3), (275, .pop, 1), (276, .goto 1279, 3), (279, .aload_n 1, 1), (280, .invokevirtual 27, 3), (283, .pop, 1), (284, .aload_n 2, 1), (285, .invokevirtual 30, 3), (288, .pop, 1), (289, .goto 1266, 3), (292, .aload_n 1, 1), (293, .aload_n 0, 1), (294, .iload_n 3, 1), (295, .iconst 1, 1), (296, .iadd, 1), (297, .iaload, 1), (298, .invokevirtual 31, 3), (301, .pop, 1), (302, .aload_n 2, 1), (303, .aload_n 0, 1), (304, .iload_n 3, 1)] = true := by decide +kernel
theorem dL_law_245 : decode cL_law 245 = .ok (.iload_n 3, 1) := dq_get dL_law_245_t 0 rfl
theorem dL_law_246 : decode cL_law 246 = .ok (.iconst 1, 1) := dq_get dL_law_245_t 1 rfl
theorem dL_law_247 : decode cL_law 247 = .ok (.iadd, 1) := dq_get dL_law_245_t 2 rfl
theorem dL_law_248 : decode cL_law 248 = .ok (.iaload, 1) := dq_get dL_law_245_t 3 rfl
theorem dL_law_249 : decode cL_law 249 = .ok (.invokevirtual 18, 3) := dq_get dL_law_245_t 4 rfl
theorem dL_law_252 : decode cL_law 252 = .ok (.pop, 1) := dq_get dL_law_245_t 5 rfl
theorem dL_law_253 : decode cL_law 253 = .ok (.aload_n 2, 1) := dq_get dL_law_245_t 6 rfl
theorem dL_law_254 : decode cL_law 254 = .ok (.aload_n 0, 1) := dq_get dL_law_245_t 7 rfl
theorem dL_law_255 : decode cL_law 255 = .ok (.iload_n 3, 1) := dq_get dL_law_245_t 8 rfl
theorem dL_law_256 : decode cL_law 256 = .ok (.iconst 1, 1) := dq_get dL_law_245_t 9 rfl
theorem dL_law_257 : decode cL_law 257 = .ok (.iadd, 1) := dq_get dL_law_245_t 10 rfl
theorem dL_law_258 : decode cL_law 258 = .ok (.iaload, 1) := dq_get dL_law_245_t 11 rfl
theorem dL_law_259 : decode cL_law 259 = .ok (.invokevirtual 21, 3) := dq_get dL_law_245_t 12 rfl
theorem dL_law_262 : decode cL_law 262 = .ok (.pop, 1) := dq_get dL_law_245_t 13 rfl
theorem dL_law_263 : decode cL_law 263 = .ok (.goto 1292, 3) := dq_get dL_law_245_t 14 rfl
theorem dL_law_266 : decode cL_law 266 = .ok (.aload_n 1, 1) := dq_get dL_law_245_t 15 rfl
theorem dL_law_267 : decode cL_law 267 = .ok (.invokevirtual 22, 3) := dq_get dL_law_245_t 16 rfl
theorem dL_law_270 : decode cL_law 270 = .ok (.pop, 1) := dq_get dL_law_245_t 17 rfl
theorem dL_law_271 : decode cL_law 271 = .ok (.aload_n 2, 1) := dq_get dL_law_245_t 18 rfl
theorem dL_law_272 : decode cL_law 272 = .ok (.invokevirtual 26, 3) := dq_get dL_law_245_t 19 rfl
theorem dL_law_275 : decode cL_law 275 = .ok (.pop, 1) := dq_get dL_law_245_t 20 rfl
theorem dL_law_276 : decode cL_law 276 = .ok (.goto 1279, 3) := dq_get dL_law_245_t 21 rfl
theorem dL_law_279 : decode cL_law 279 = .ok (.aload_n 1, 1) := dq_get dL_law_245_t 22 rfl
theorem dL_law_280 : decode cL_law 280 = .ok (.invokevirtual 27, 3) := dq_get dL_law_245_t 23 rfl
theorem dL_law_283 : decode cL_law 283 = .ok (.pop, 1) := dq_get dL_law_245_t 24 rfl
theorem dL_law_284 : decode cL_law 284 = .ok (.aload_n 2, 1) := dq_get dL_law_245_t 25 rfl
theorem dL_law_285 : decode cL_law 285 = .ok (.invokevirtual 30, 3) := dq_get dL_law_245_t 26 rfl
theorem dL_law_288 : decode cL_law 288 = .ok (.pop, 1) := dq_get dL_law_245_t 27 rfl
theorem dL_law_289 : decode cL_law 289 = .ok (.goto 1266, 3) := dq_get dL_law_245_t 28 rfl
theorem dL_law_292 : decode cL_law 292 = .ok (.aload_n 1, 1) := dq_get dL_law_245_t 29 rfl
theorem dL_law_293 : decode cL_law 293 = .ok (.aload_n 0, 1) := dq_get dL_law_245_t 30 rfl
theorem dL_law_294 : decode cL_law 294 = .ok (.iload_n 3, 1) := dq_get dL_law_245_t 31 rfl
theorem dL_law_295 : decode cL_law 295 = .ok (.iconst 1, 1) := dq_get dL_law_245_t 32 rfl
theorem dL_law_296 : decode cL_law 296 = .ok (.iadd, 1) := dq_get dL_law_245_t 33 rfl
theorem dL_law_297 : decode cL_law 297 = .ok (.iaload, 1) := dq_get dL_law_245_t 34 rfl
theorem dL_law_298 : decode cL_law 298 = .ok (.invokevirtual 31, 3) := dq_get dL_law_245_t 35 rfl
theorem dL_law_301 : decode cL_law 301 = .ok (.pop, 1) := dq_get dL_law_245_t 36 rfl
theorem dL_law_302 : decode cL_law 302 = .ok (.aload_n 2, 1) := dq_get dL_law_245_t 37 rfl
theorem dL_law_303 : decode cL_law 303 = .ok (.aload_n 0, 1) := dq_get dL_law_245_t 38 rfl
theorem dL_law_304 : decode cL_law 304 = .ok (.iload_n 3, 1) := dq_get dL_law_245_t 39 rfl
theorem dL_law_305_t : dqK cL_law.data.toList 0 [(305, .iconst 1, 1), (306, .iadd, 1), (307, .iaload, 1), (308, .invokevirtual 34, 3), (311, .pop, 1), (312, .goto 1243, 3), (315, .aload_n 1, 1), (316, .aload_n 0, 1), (317, .iload_n 3, 1), (318, .iconst 1, 1), (319, .iadd, 1), (320, .iaload, 1), (321, .aload_n 0, 1), (322, .iload_n 3, 1), (323, .iconst 2, 1), (324, .iadd, 1), (325, .iaload, 1), (326, .invokevirtual 35, 3), (329, .pop, 1), (330, .aload_n 2, 1), (331, .aload_n 0, 1), (332, .iload_n 3, 1), (333, .iconst 1, 1), (334, .iadd, 1), (335, .iaload, 1), (336, .aload_n 0, 1), (337, .iload_n 3, 1), (338, .iconst 2, 1), (339, .iadd, 1), (340, .iaload, 1), (341, .invokevirtual 39, 3), (344, .pop, 1), (345, .goto 1210, 3), (348, .aload_n 1, 1), (349, .aload_n 0, 1), (350, .iload_n 3, 1), (351, .iconst 1, 1), (352, .iadd, 1), (353, .iaload, 1), (354, .aload_n 0, 1)] = true := by decide +kernel
theorem dL_law_305 : decode cL_law 305 = .ok (.iconst 1, 1) := dq_get dL_law_305_t 0 rfl
theorem dL_law_306 : decode cL_law 306 = .ok (.iadd, 1) := dq_get dL_law_305_t 1 rfl
theorem dL_law_307 : decode cL_law 307 = .ok (.iaload, 1) := dq_get dL_law_305_t 2 rfl
theorem dL_law_308 : decode cL_law 308 = .ok (.invokevirtual 34, 3) := dq_get dL_law_305_t 3 rfl
theorem dL_law_311 : decode cL_law 311 = .ok (.pop, 1) := dq_get dL_law_305_t 4 rfl
theorem dL_law_312 : decode cL_law 312 = .ok (.goto 1243, 3) := dq_get dL_law_305_t 5 rfl
theorem dL_law_315 : decode cL_law 315 = .ok (.aload_n 1, 1) := dq_get dL_law_305_t 6 rfl
theorem dL_law_316 : decode cL_law 316 = .ok (.aload_n 0, 1) := dq_get dL_law_305_t 7 rfl
theorem dL_law_317 : decode cL_law 317 = .ok (.iload_n 3, 1) := dq_get dL_law_305_t 8 rfl
theorem dL_law_318 : decode cL_law 318 = .ok (.iconst 1, 1) := dq_get dL_law_305_t 9 rfl
theorem dL_law_319 : decode cL_law 319 = .ok (.iadd, 1) := dq_get dL_law_305_t 10 rfl
theorem dL_law_320 : decode cL_law 320 = .ok (.iaload, 1) := dq_get dL_law_305_t 11 rfl
theorem dL_law_321 : decode cL_law 321 = .ok (.aload_n 0, 1) := dq_get dL_law_305_t 12 rfl
theorem dL_law_322 : decode cL_law 322 = .ok (.iload_n 3, 1) := dq_get dL_law_305_t 13 rfl
theorem dL_law_323 : decode cL_law 323 = .ok (.iconst 2, 1) := dq_get dL_law_305_t 14 rfl
theorem dL_law_324 : decode cL_law 324 = .ok (.iadd, 1) := dq_get dL_law_305_t 15 rfl
theorem dL_law_325 : decode cL_law 325 = .ok (.iaload, 1) := dq_get dL_law_305_t 16 rfl
theorem dL_law_326 : decode cL_law 326 = .ok (.invokevirtual 35, 3) := dq_get dL_law_305_t 17 rfl
theorem dL_law_329 : decode cL_law 329 = .ok (.pop, 1) := dq_get dL_law_305_t 18 rfl
theorem dL_law_330 : decode cL_law 330 = .ok (.aload_n 2, 1) := dq_get dL_law_305_t 19 rfl
theorem dL_law_331 : decode cL_law 331 = .ok (.aload_n 0, 1) := dq_get dL_law_305_t 20 rfl
theorem dL_law_332 : decode cL_law 332 = .ok (.iload_n 3, 1) := dq_get dL_law_305_t 21 rfl
theorem dL_law_333 : decode cL_law 333 = .ok (.iconst 1, 1) := dq_get dL_law_305_t 22 rfl
theorem dL_law_334 : decode cL_law 334 = .ok (.iadd, 1) := dq_get dL_law_305_t 23 rfl
theorem dL_law_335 : decode cL_law 335 = .ok (.iaload, 1) := dq_get dL_law_305_t 24 rfl
theorem dL_law_336 : decode cL_law 336 = .ok (.aload_n 0, 1) := dq_get dL_law_305_t 25 rfl
theorem dL_law_337 : decode cL_law 337 = .ok (.iload_n 3, 1) := dq_get dL_law_305_t 26 rfl
theorem dL_law_338 : decode cL_law 338 = .ok (.iconst 2, 1) := dq_get dL_law_305_t 27 rfl
theorem dL_law_339 : decode cL_law 339 = .ok (.iadd, 1) := dq_get dL_law_305_t 28 rfl
theorem dL_law_340 : decode cL_law 340 = .ok (.iaload, 1) := dq_get dL_law_305_t 29 rfl
theorem dL_law_341 : decode cL_law 341 = .ok (.invokevirtual 39, 3) := dq_get dL_law_305_t 30 rfl
theorem dL_law_344 : decode cL_law 344 = .ok (.pop, 1) := dq_get dL_law_305_t 31 rfl
theorem dL_law_345 : decode cL_law 345 = .ok (.goto 1210, 3) := dq_get dL_law_305_t 32 rfl
theorem dL_law_348 : decode cL_law 348 = .ok (.aload_n 1, 1) := dq_get dL_law_305_t 33 rfl
theorem dL_law_349 : decode cL_law 349 = .ok (.aload_n 0, 1) := dq_get dL_law_305_t 34 rfl
theorem dL_law_350 : decode cL_law 350 = .ok (.iload_n 3, 1) := dq_get dL_law_305_t 35 rfl
theorem dL_law_351 : decode cL_law 351 = .ok (.iconst 1, 1) := dq_get dL_law_305_t 36 rfl
theorem dL_law_352 : decode cL_law 352 = .ok (.iadd, 1) := dq_get dL_law_305_t 37 rfl
theorem dL_law_353 : decode cL_law 353 = .ok (.iaload, 1) := dq_get dL_law_305_t 38 rfl
theorem dL_law_354 : decode cL_law 354 = .ok (.aload_n 0, 1) := dq_get dL_law_305_t 39 rfl
theorem dL_law_355_t : dqK cL_law.data.toList 0 [(355, .iload_n 3, 1), (356, .iconst 2, 1), (357, .iadd, 1), (358, .iaload, 1), (359, .invokevirtual 40, 3), (362, .pop, 1), (363, .aload_n 2, 1), (364, .aload_n 0, 1), (365, .iload_n 3, 1), (366, .iconst 1, 1), (367, .iadd, 1), (368, .iaload, 1), (369, .aload_n 0, 1), (370, .iload_n 3, 1), (371, .iconst 2, 1), (372, .iadd, 1), (373, .iaload, 1), (374, .invokevirtual 43, 3), (377, .pop, 1), (378, .goto 1177, 3), (381, .aload_n 1, 1), (382, .aload_n 0, 1), (383, .iload_n 3, 1), (384, .iconst 1, 1), (385, .iadd, 1), (386, .iaload, 1), (387, .aload_n 0, 1), (388, .iload_n 3, 1), (389, .iconst 2, 1), (390, .iadd, 1), (391, .iaload, 1), (392, .invokevirtual 44, 3), (395, .pop, 1), (396, .aload_n 2, 1), (397, .aload_n 0, 1), (398, .iload_n 3, 1), (399, .iconst 1, 1), (400, .iadd, 1), (401, .iaload, 1), (402, .aload_n 0, 1)] = true := by decide +kernel
theorem dL_law_355 : decode cL_law 355 = .ok (.iload_n 3, 1) := dq_get dL_law_355_t 0 rfl
theorem dL_law_356 : decode cL_law 356 = .ok (.iconst 2, 1) := dq_get dL_law_355_t 1 rfl
theorem dL_law_357 : decode cL_law 357 = .ok (.iadd, 1) := dq_get dL_law_355_t 2 rfl
theorem dL_law_358 : decode cL_law 358 = .ok (.iaload, 1) := dq_get dL_law_355_t 3 rfl
theorem dL_law_359 : decode cL_law 359 = .ok (.invokevirtual 40, 3) := dq_get dL_law_355_t 4 rfl
theorem dL_law_362 : decode cL_law 362 = .ok (.pop, 1) := dq_get dL_law_355_t 5 rfl
theorem dL_law_363 : decode cL_law 363 = .ok (.aload_n 2, 1) := dq_get dL_law_355_t 6 rfl
theorem dL_law_364 : decode cL_law 364 = .ok (.aload_n 0, 1) := dq_get dL_law_355_t 7 rfl
theorem dL_law_365 : decode cL_law 365 = .ok (.iload_n 3, 1) := dq_get dL_law_355_t 8 rfl
theorem dL_law_366 : decode cL_law 366 = .ok (.iconst 1, 1) := dq_get dL_law_355_t 9 rfl
theorem dL_law_367 : decode cL_law 367 = .ok (.iadd, 1) := dq_get dL_law_355_t 10 rfl
theorem dL_law_368 : decode cL_law 368 = .ok (.iaload, 1) := dq_get dL_law_355_t 11 rfl
theorem dL_law_369 : decode cL_law 369 = .ok (.aload_n 0, 1) := dq_get dL_law_355_t 12 rfl
theorem dL_law_370 : decode cL_law 370 = .ok (.iload_n 3, 1) := dq_get dL_law_355_t 13 rfl
theorem dL_law_371 : decode cL_law 371 = .ok (.iconst 2, 1) := dq_get dL_law_355_t 14 rfl
theorem dL_law_372 : decode cL_law 372 = .ok (.iadd, 1) := dq_get dL_law_355_t 15 rfl
theorem dL_law_373 : decode cL_law 373 = .ok (.iaload, 1) := dq_get dL_law_355_t 16 rfl
theorem dL_law_374 : decode cL_law 374 = .ok (.invokevirtual 43, 3) := dq_get dL_law_355_t 17 rfl
theorem dL_law_377 : decode cL_law 377 = .ok (.pop, 1) := dq_get dL_law_355_t 18 rfl
theorem dL_law_378 : decode cL_law 378 = .ok (.goto 1177, 3) := dq_get dL_law_355_t 19 rfl
theorem dL_law_381 : decode cL_law 381 = .ok (.aload_n 1, 1) := dq_get dL_law_355_t 20 rfl
theorem dL_law_382 : decode cL_law 382 = .ok (.aload_n 0, 1) := dq_get dL_law_355_t 21 rfl
theorem dL_law_383 : decode cL_law 383 = .ok (.iload_n 3, 1) := dq_get dL_law_355_t 22 rfl
theorem dL_law_384 : decode cL_law 384 = .ok (.iconst 1, 1) := dq_get dL_law_355_t 23 rfl
theorem dL_law_385 : decode cL_law 385 = .ok (.iadd, 1) := dq_get dL_law_355_t 24 rfl
theorem dL_law_386 : decode cL_law 386 = .ok (.iaload, 1) := dq_get dL_law_355_t 25 rfl
theorem dL_law_387 : decode cL_law 387 = .ok (.aload_n 0, 1) := dq_get dL_law_355_t 26 rfl
theorem dL_law_388 : decode cL_law 388 = .ok (.iload_n 3, 1) := dq_get dL_law_355_t 27 rfl
theorem dL_law_389 : decode cL_law 389 = .ok (.iconst 2, 1) := dq_get dL_law_355_t 28 rfl
theorem dL_law_390 : decode cL_law 390 = .ok (.iadd, 1) := dq_get dL_law_355_t 29 rfl
theorem dL_law_391 : decode cL_law 391 = .ok (.iaload, 1) := dq_get dL_law_355_t 30 rfl
theorem dL_law_392 : decode cL_law 392 = .ok (.invokevirtual 44, 3) := dq_get dL_law_355_t 31 rfl
theorem dL_law_395 : decode cL_law 395 = .ok (.pop, 1) := dq_get dL_law_355_t 32 rfl
theorem dL_law_396 : decode cL_law 396 = .ok (.aload_n 2, 1) := dq_get dL_law_355_t 33 rfl
theorem dL_law_397 : decode cL_law 397 = .ok (.aload_n 0, 1) := dq_get dL_law_355_t 34 rfl
theorem dL_law_398 : decode cL_law 398 = .ok (.iload_n 3, 1) := dq_get dL_law_355_t 35 rfl
theorem dL_law_399 : decode cL_law 399 = .ok (.iconst 1, 1) := dq_get dL_law_355_t 36 rfl
theorem dL_law_400 : decode cL_law 400 = .ok (.iadd, 1) := dq_get dL_law_355_t 37 rfl
theorem dL_law_401 : decode cL_law 401 = .ok (.iaload, 1) := dq_get dL_law_355_t 38 rfl
theorem dL_law_402 : decode cL_law 402 = .ok (.aload_n 0, 1) := dq_get dL_law_355_t 39 rfl
theorem dL_law_403_t : dqK cL_law.data.toList 0 [(403, .iload_n 3, 1), (404, .iconst 2, 1), (405, .iadd, 1), (406, .iaload, 1), (407, .invokevirtual 47, 3), (410, .pop, 1), (411, .goto 1144, 3), (414, .aload_n 1, 1), (415, .aload_n 0, 1), (416, .iload_n 3, 1), (417, .iconst 1, 1), (418, .iadd, 1), (419, .iaload, 1), (420, .aload_n 0, 1), (421, .iload_n 3, 1), (422, .iconst 2, 1), (423, .iadd, 1), (424, .iaload, 1), (425, .invokevirtual 48, 3), (428, .pop, 1), (429, .aload_n 2, 1), (430, .aload_n 0, 1), (431, .iload_n 3, 1), (432, .iconst 1, 1), (433, .iadd, 1), (434, .iaload, 1), (435, .aload_n 0, 1), (436, .iload_n 3, 1), (437, .iconst 2, 1), (438, .iadd, 1), (439, .iaload, 1), (440, .invokevirtual 51, 3), (443, .pop, 1), (444, .goto 1111, 3), (447, .aload_n 1, 1), (448, .aload_n 0, 1), (449, .iload_n 3, 1), (450, .iconst 1, 1), (451, .iadd, 1), (452, .iaload, 1)] = true := by decide +kernel
theorem dL_law_403 : decode cL_law 403 = .ok (.iload_n 3, 1) := dq_get dL_law_403_t 0 rfl
theorem dL_law_404 : decode cL_law 404 = .ok (.iconst 2, 1) := dq_get dL_law_403_t 1 rfl
theorem dL_law_405 : decode cL_law 405 = .ok (.iadd, 1) := dq_get dL_law_403_t 2 rfl
theorem dL_law_406 : decode cL_law 406 = .ok (.iaload, 1) := dq_get dL_law_403_t 3 rfl
theorem dL_law_407 : decode cL_law 407 = .ok (.invokevirtual 47, 3) := dq_get dL_law_403_t 4 rfl
theorem dL_law_410 : decode cL_law 410 = .ok (.pop, 1) := dq_get dL_law_403_t 5 rfl
theorem dL_law_411 : decode cL_law 411 = .ok (.goto 1144, 3) := dq_get dL_law_403_t 6 rfl
theorem dL_law_414 : decode cL_law 414 = .ok (.aload_n 1, 1) := dq_get dL_law_403_t 7 rfl
theorem dL_law_415 : decode cL_law 415 = .ok (.aload_n 0, 1) := dq_get dL_law_403_t 8 rfl
theorem dL_law_416 : decode cL_law 416 = .ok (.iload_n 3, 1) := dq_get dL_law_403_t 9 rfl
theorem dL_law_417 : decode cL_law 417 = .ok (.iconst 1, 1) := dq_get dL_law_403_t 10 rfl
theorem dL_law_418 : decode cL_law 418 = .ok (.iadd, 1) := dq_get dL_law_403_t 11 rfl
theorem dL_law_419 : decode cL_law 419 = .ok (.iaload, 1) := dq_get dL_law_403_t 12 rfl
theorem dL_law_420 : decode cL_law 420 = .ok (.aload_n 0, 1) := dq_get dL_law_403_t 13 rfl
theorem dL_law_421 : decode cL_law 421 = .ok (.iload_n 3, 1) := dq_get dL_law_403_t 14 rfl
theorem dL_law_422 : decode cL_law 422 = .ok (.iconst 2, 1) := dq_get dL_law_403_t 15 rfl
theorem dL_law_423 : decode cL_law 423 = .ok (.iadd, 1) := dq_get dL_law_403_t 16 rfl
theorem dL_law_424 : decode cL_law 424 = .ok (.iaload, 1) := dq_get dL_law_403_t 17 rfl
theorem dL_law_425 : decode cL_law 425 = .ok (.invokevirtual 48, 3) := dq_get dL_law_403_t 18 rfl
theorem dL_law_428 : decode cL_law 428 = .ok (.pop, 1) := dq_get dL_law_403_t 19 rfl
theorem dL_law_429 : decode cL_law 429 = .ok (.aload_n 2, 1) := dq_get dL_law_403_t 20 rfl
theorem dL_law_430 : decode cL_law 430 = .ok (.aload_n 0, 1) := dq_get dL_law_403_t 21 rfl
theorem dL_law_431 : decode cL_law 431 = .ok (.iload_n 3, 1) := dq_get dL_law_403_t 22 rfl
theorem dL_law_432 : decode cL_law 432 = .ok (.iconst 1, 1) := dq_get dL_law_403_t 23 rfl
theorem dL_law_433 : decode cL_law 433 = .ok (.iadd, 1) := dq_get dL_law_403_t 24 rfl
theorem dL_law_434 : decode cL_law 434 = .ok (.iaload, 1) := dq_get dL_law_403_t 25 rfl
theorem dL_law_435 : decode cL_law 435 = .ok (.aload_n 0, 1) := dq_get dL_law_403_t 26 rfl
theorem dL_law_436 : decode cL_law 436 = .ok (.iload_n 3, 1) := dq_get dL_law_403_t 27 rfl
theorem dL_law_437 : decode cL_law 437 = .ok (.iconst 2, 1) := dq_get dL_law_403_t 28 rfl
theorem dL_law_438 : decode cL_law 438 = .ok (.iadd, 1) := dq_get dL_law_403_t 29 rfl
theorem dL_law_439 : decode cL_law 439 = .ok (.iaload, 1) := dq_get dL_law_403_t 30 rfl
theorem dL_law_440 : decode cL_law 440 = .ok (.invokevirtual 51, 3) := dq_get dL_law_403_t 31 rfl
theorem dL_law_443 : decode cL_law 443 = .ok (.pop, 1) := dq_get dL_law_403_t 32 rfl
theorem dL_law_444 : decode cL_law 444 = .ok (.goto 1111, 3) := dq_get dL_law_403_t 33 rfl
theorem dL_law_447 : decode cL_law 447 = .ok (.aload_n 1, 1) := dq_get dL_law_403_t 34 rfl
theorem dL_law_448 : decode cL_law 448 = .ok (.aload_n 0, 1) := dq_get dL_law_403_t 35 rfl
theorem dL_law_449 : decode cL_law 449 = .ok (.iload_n 3, 1) := dq_get dL_law_403_t 36 rfl
theorem dL_law_450 : decode cL_law 450 = .ok (.iconst 1, 1) := dq_get dL_law_403_t 37 rfl
theorem dL_law_451 : decode cL_law 451 = .ok (.iadd, 1) := dq_get dL_law_403_t 38 rfl
theorem dL_law_452 : decode cL_law 452 = .ok (.iaload, 1) := dq_get dL_law_403_t 39 rfl
theorem dL_law_453_t : dqK cL_law.data.toList 0 [(453, .aload_n 0, 1), (454, .iload_n 3, 1), (455, .iconst 2, 1), (456, .iadd, 1), (457, .iaload, 1), (458, .aload_n 0, 1), (459, .iload_n 3, 1), (460, .iconst 3, 1), (461, .iadd, 1), (462, .iaload, 1), (463, .invokevirtual 52, 3), (466, .pop, 1), (467, .aload_n 2, 1), (468, .aload_n 0, 1), (469, .iload_n 3, 1), (470, .iconst 1, 1), (471, .iadd, 1), (472, .iaload, 1), (473, .aload_n 0, 1), (474, .iload_n 3, 1), (475, .iconst 2, 1), (476, .iadd, 1), (477, .iaload, 1), (478, .aload_n 0, 1), (479, .iload_n 3, 1), (480, .iconst 3, 1), (481, .iadd, 1), (482, .iaload, 1), (483, .invokevirtual 56, 3), (486, .pop, 1), (487, .goto 1068, 3), (490, .aload_n 1, 1), (491, .aload_n 0, 1), (492, .iload_n 3, 1), (493, .iconst 1, 1), (494, .iadd, 1), (495, .iaload, 1), (496, .aload_n 0, 1), (497, .iload_n 3, 1), (498, .iconst 2, 1)] = true := by decide +kernel
theorem dL_law_453 : decode cL_law 453 = .ok (.aload_n 0, 1) := dq_get dL_law_453_t 0 rfl
theorem dL_law_454 : decode cL_law 454 = .ok (.iload_n 3, 1) := dq_get dL_law_453_t 1 rfl
theorem dL_law_455 : decode cL_law 455 = .ok (.iconst 2, 1) := dq_get dL_law_453_t 2 rfl
theorem dL_law_456 : decode cL_law 456 = .ok (.iadd, 1) := dq_get dL_law_453_t 3 rfl
theorem dL_law_457 : decode cL_law 457 = .ok (.iaload, 1) := dq_get dL_law_453_t 4 rfl
theorem dL_law_458 : decode cL_law 458 = .ok (.aload_n 0, 1) := dq_get dL_law_453_t 5 rfl
theorem dL_law_459 : decode cL_law 459 = .ok (.iload_n 3, 1) := dq_get dL_law_453_t 6 rfl
theorem dL_law_460 : decode cL_law 460 = .ok (.iconst 3, 1) := dq_get dL_law_453_t 7 rfl
theorem dL_law_461 : decode cL_law 461 = .ok (.iadd, 1) := dq_get dL_law_453_t 8 rfl
theorem dL_law_462 : decode cL_law 462 = .ok (.iaload, 1) := dq_get dL_law_453_t 9 rfl
theorem dL_law_463 : decode cL_law 463 = .ok (.invokevirtual 52, 3) := dq_get dL_law_453_t 10 rfl
theorem dL_law_466 : decode cL_law 466 = .ok (.pop, 1) := dq_get dL_law_453_t 11 rfl
theorem dL_law_467 : decode cL_law 467 = .ok (.aload_n 2, 1) := dq_get dL_law_453_t 12 rfl
theorem dL_law_468 : decode cL_law 468 = .ok (.aload_n 0, 1) := dq_get dL_law_453_t 13 rfl
theorem dL_law_469 : decode cL_law 469 = .ok (.iload_n 3, 1) := dq_get dL_law_453_t 14 rfl
theorem dL_law_470 : decode cL_law 470 = .ok (.iconst 1, 1) := dq_get dL_law_453_t 15 rfl
theorem dL_law_471 : decode cL_law 471 = .ok (.iadd, 1) := dq_get dL_law_453_t 16 rfl
theorem dL_law_472 : decode cL_law 472 = .ok (.iaload, 1) := dq_get dL_law_453_t 17 rfl
theorem dL_law_473 : decode cL_law 473 = .ok (.aload_n 0, 1) := dq_get dL_law_453_t 18 rfl
theorem dL_law_474 : decode cL_law 474 = .ok (.iload_n 3, 1) := dq_get dL_law_453_t 19 rfl
theorem dL_law_475 : decode cL_law 475 = .ok (.iconst 2, 1) := dq_get dL_law_453_t 20 rfl
theorem dL_law_476 : decode cL_law 476 = .ok (.iadd, 1) := dq_get dL_law_453_t 21 rfl
theorem dL_law_477 : decode cL_law 477 = .ok (.iaload, 1) := dq_get dL_law_453_t 22 rfl
theorem dL_law_478 : decode cL_law 478 = .ok (.aload_n 0, 1) := dq_get dL_law_453_t 23 rfl
theorem dL_law_479 : decode cL_law 479 = .ok (.iload_n 3, 1) := dq_get dL_law_453_t 24 rfl
theorem dL_law_480 : decode cL_law 480 = .ok (.iconst 3, 1) := dq_get dL_law_453_t 25 rfl
theorem dL_law_481 : decode cL_law 481 = .ok (.iadd, 1) := dq_get dL_law_453_t 26 rfl
theorem dL_law_482 : decode cL_law 482 = .ok (.iaload, 1) := dq_get dL_law_453_t 27 rfl
theorem dL_law_483 : decode cL_law 483 = .ok (.invokevirtual 56, 3) := dq_get dL_law_453_t 28 rfl
theorem dL_law_486 : decode cL_law 486 = .ok (.pop, 1) := dq_get dL_law_453_t 29 rfl
theorem dL_law_487 : decode cL_law 487 = .ok (.goto 1068, 3) := dq_get dL_law_453_t 30 rfl
theorem dL_law_490 : decode cL_law 490 = .ok (.aload_n 1, 1) := dq_get dL_law_453_t 31 rfl
theorem dL_law_491 : decode cL_law 491 = .ok (.aload_n 0, 1) := dq_get dL_law_453_t 32 rfl
theorem dL_law_492 : decode cL_law 492 = .ok (.iload_n 3, 1) := dq_get dL_law_453_t 33 rfl
theorem dL_law_493 : decode cL_law 493 = .ok (.iconst 1, 1) := dq_get dL_law_453_t 34 rfl
theorem dL_law_494 : decode cL_law 494 = .ok (.iadd, 1) := dq_get dL_law_453_t 35 rfl
theorem dL_law_495 : decode cL_law 495 = .ok (.iaload, 1) := dq_get dL_law_453_t 36 rfl
theorem dL_law_496 : decode cL_law 496 = .ok (.aload_n 0, 1) := dq_get dL_law_453_t 37 rfl
theorem dL_law_497 : decode cL_law 497 = .ok (.iload_n 3, 1) := dq_get dL_law_453_t 38 rfl
theorem dL_law_498 : decode cL_law 498 = .ok (.iconst 2, 1) := dq_get dL_law_453_t 39 rfl
theorem dL_law_499_t : dqK cL_law.data.toList 0 [(499, .iadd, 1), (500, .iaload, 1), (501, .invokevirtual 57, 3), (504, .pop, 1), (505, .aload_n 2, 1), (506, .aload_n 0, 1), (507, .iload_n 3, 1), (508, .iconst 1, 1), (509, .iadd, 1), (510, .iaload, 1), (511, .aload_n 0, 1), (512, .iload_n 3, 1), (513, .iconst 2, 1), (514, .iadd, 1), (515, .iaload, 1), (516, .invokevirtual 60, 3), (519, .pop, 1), (520, .goto 1035, 3), (523, .aload_n 1, 1), (524, .aload_n 0, 1), (525, .iload_n 3, 1), (526, .iconst 1, 1), (527, .iadd, 1), (528, .iaload, 1), (529, .aload_n 0, 1), (530, .iload_n 3, 1), (531, .iconst 2, 1), (532, .iadd, 1), (533, .iaload, 1), (534, .invokevirtual 61, 3), (537, .pop, 1), (538, .aload_n 2, 1), (539, .aload_n 0, 1), (540, .iload_n 3, 1), (541, .iconst 1, 1), (542, .iadd, 1), (543, .iaload, 1), (544, .aload_n 0, 1), (545, .iload_n 3, 1), (546, .iconst 2, 1)] = true := by decide +kernel
theorem dL_law_499 : decode cL_law 499 = .ok (.iadd, 1) := dq_get dL_law_499_t 0 rfl
theorem dL_law_500 : decode cL_law 500 = .ok (.iaload, 1) := dq_get dL_law_499_t 1 rfl
theorem dL_law_501 : decode cL_law 501 = .ok (.invokevirtual 57, 3) := dq_get dL_law_499_t 2 rfl
theorem dL_law_504 : decode cL_law 504 = .ok (.pop, 1) := dq_get dL_law_499_t 3 rfl
theorem dL_law_505 : decode cL_law 505 = .ok (.aload_n 2, 1) := dq_get dL_law_499_t 4 rfl
theorem dL_law_506 : decode cL_law 506 = .ok (.aload_n 0, 1) := dq_get dL_law_499_t 5 rfl
theorem dL_law_507 : decode cL_law 507 = .ok (.iload_n 3, 1) := dq_get dL_law_499_t 6 rfl
theorem dL_law_508 : decode cL_law 508 = .ok (.iconst 1, 1) := dq_get dL_law_499_t 7 rfl
theorem dL_law_509 : decode cL_law 509 = .ok (.iadd, 1) := dq_get dL_law_499_t 8 rfl
theorem dL_law_510 : decode cL_law 510 = .ok (.iaload, 1) := dq_get dL_law_499_t 9 rfl
theorem dL_law_511 : decode cL_law 511 = .ok (.aload_n 0, 1) := dq_get dL_law_499_t 10 rfl
theorem dL_law_512 : decode cL_law 512 = .ok (.iload_n 3, 1) := dq_get dL_law_499_t 11 rfl
theorem dL_law_513 : decode cL_law 513 = .ok (.iconst 2, 1) := dq_get dL_law_499_t 12 rfl
theorem dL_law_514 : decode cL_law 514 = .ok (.iadd, 1) := dq_get dL_law_499_t 13 rfl
theorem dL_law_515 : decode cL_law 515 = .ok (.iaload, 1) := dq_get dL_law_499_t 14 rfl
theorem dL_law_516 : decode cL_law 516 = .ok (.invokevirtual 60, 3) := dq_get dL_law_499_t 15 rfl
theorem dL_law_519 : decode cL_law 519 = .ok (.pop, 1) := dq_get dL_law_499_t 16 rfl
theorem dL_law_520 : decode cL_law 520 = .ok (.goto 1035, 3) := dq_get dL_law_499_t 17 rfl
theorem dL_law_523 : decode cL_law 523 = .ok (.aload_n 1, 1) := dq_get dL_law_499_t 18 rfl
theorem dL_law_524 : decode cL_law 524 = .ok (.aload_n 0, 1) := dq_get dL_law_499_t 19 rfl
theorem dL_law_525 : decode cL_law 525 = .ok (.iload_n 3, 1) := dq_get dL_law_499_t 20 rfl
theorem dL_law_526 : decode cL_law 526 = .ok (.iconst 1, 1) := dq_get dL_law_499_t 21 rfl
theorem dL_law_527 : decode cL_law 527 = .ok (.iadd, 1) := dq_get dL_law_499_t 22 rfl
theorem dL_law_528 : decode cL_law 528 = .ok (.iaload, 1) := dq_get dL_law_499_t 23 rfl
theorem dL_law_529 : decode cL_law 529 = .ok (.aload_n 0, 1) := dq_get dL_law_499_t 24 rfl
theorem dL_law_530 : decode cL_law 530 = .ok (.iload_n 3, 1) := dq_get dL_law_499_t 25 rfl
theorem dL_law_531 : decode cL_law 531 = .ok (.iconst 2, 1) := dq_get dL_law_499_t 26 rfl
theorem dL_law_532 : decode cL_law 532 = .ok (.iadd, 1) := dq_get dL_law_499_t 27 rfl
theorem dL_law_533 : decode cL_law 533 = .ok (.iaload, 1) := dq_get dL_law_499_t 28 rfl
theorem dL_law_534 : decode cL_law 534 = .ok (.invokevirtual 61, 3) := dq_get dL_law_499_t 29 rfl
theorem dL_law_537 : decode cL_law 537 = .ok (.pop, 1) := dq_get dL_law_499_t 30 rfl
theorem dL_law_538 : decode cL_law 538 = .ok (.aload_n 2, 1) := dq_get dL_law_499_t 31 rfl
theorem dL_law_539 : decode cL_law 539 = .ok (.aload_n 0, 1) := dq_get dL_law_499_t 32 rfl
theorem dL_law_540 : decode cL_law 540 = .ok (.iload_n 3, 1) := dq_get dL_law_499_t 33 rfl
theorem dL_law_541 : decode cL_law 541 = .ok (.iconst 1, 1) := dq_get dL_law_499_t 34 rfl
theorem dL_law_542 : decode cL_law 542 = .ok (.iadd, 1) := dq_get dL_law_499_t 35 rfl
theorem dL_law_543 : decode cL_law 543 = .ok (.iaload, 1) := dq_get dL_law_499_t 36 rfl
theorem dL_law_544 : decode cL_law 544 = .ok (.aload_n 0, 1) := dq_get dL_law_499_t 37 rfl
theorem dL_law_545 : decode cL_law 545 = .ok (.iload_n 3, 1) := dq_get dL_law_499_t 38 rfl
theorem dL_law_546 : decode cL_law 546 = .ok (.iconst 2, 1) := dq_get dL_law_499_t 39 rfl
theorem dL_law_547_t : dqK cL_law.data.toList 0 [(547, .iadd, 1), (548, .iaload, 1), (549, .invokevirtual 64, 3), (552, .pop, 1), (553, .goto 1002, 3), (556, .aload_n 1, 1), (557, .aload_n 0, 1), (558, .iload_n 3, 1), (559, .iconst 1, 1), (560, .iadd, 1), (561, .iaload, 1), (562, .aload_n 0, 1), (563, .iload_n 3, 1), (564, .iconst 2, 1), (565, .iadd, 1), (566, .iaload, 1), (567, .invokevirtual 65, 3), (570, .pop, 1), (571, .aload_n 2, 1), (572, .aload_n 0, 1), (573, .iload_n 3, 1), (574, .iconst 1, 1), (575, .iadd, 1), (576, .iaload, 1), (577, .aload_n 0, 1), (578, .iload_n 3, 1), (579, .iconst 2, 1), (580, .iadd, 1), (581, .iaload, 1), (582, .invokevirtual 68, 3), (585, .pop, 1), (586, .goto 969, 3), (589, .aload_n 1, 1), (590, .aload_n 0, 1), (591, .iload_n 3, 1), (592, .iconst 1, 1), (593, .iadd, 1), (594, .iaload, 1), (595, .aload_n 0, 1), (596, .iload_n 3, 1)] = true := by decide +kernel
theorem dL_law_547 : decode cL_law 547 = .ok (.iadd, 1) := dq_get dL_law_547_t 0 rfl
theorem dL_law_548 : decode cL_law 548 = .ok (.iaload, 1) := dq_get dL_law_547_t 1 rfl
theorem dL_law_549 : decode cL_law 549 = .ok (.invokevirtual 64, 3) := dq_get dL_law_547_t 2 rfl
theorem dL_law_552 : decode cL_law 552 = .ok (.pop, 1) := dq_get dL_law_547_t 3 rfl
theorem dL_law_553 : decode cL_law 553 = .ok (.goto 1002, 3) := dq_get dL_law_547_t 4 rfl
theorem dL_law_556 : decode cL_law 556 = .ok (.aload_n 1, 1) := dq_get dL_law_547_t 5 rfl
theorem dL_law_557 : decode cL_law 557 = .ok (.aload_n 0, 1) := dq_get dL_law_547_t 6 rfl
theorem dL_law_558 : decode cL_law 558 = .ok (.iload_n 3, 1) := dq_get dL_law_547_t 7 rfl
theorem dL_law_559 : decode cL_law 559 = .ok (.iconst 1, 1) := dq_get dL_law_547_t 8 rfl
theorem dL_law_560 : decode cL_law 560 = .ok (.iadd, 1) := dq_get dL_law_547_t 9 rfl
theorem dL_law_561 : decode cL_law 561 = .ok (.iaload, 1) := dq_get dL_law_547_t 10 rfl
theorem dL_law_562 : decode cL_law 562 = .ok (.aload_n 0, 1) := dq_get dL_law_547_t 11 rfl
theorem dL_law_563 : decode cL_law 563 = .ok (.iload_n 3, 1) := dq_get dL_law_547_t 12 rfl
theorem dL_law_564 : decode cL_law 564 = .ok (.iconst 2, 1) := dq_get dL_law_547_t 13 rfl
theorem dL_law_565 : decode cL_law 565 = .ok (.iadd, 1) := dq_get dL_law_547_t 14 rfl
theorem dL_law_566 : decode cL_law 566 = .ok (.iaload, 1) := dq_get dL_law_547_t 15 rfl
theorem dL_law_567 : decode cL_law 567 = .ok (.invokevirtual 65, 3) := dq_get dL_law_547_t 16 rfl
theorem dL_law_570 : decode cL_law 570 = .ok (.pop, 1) := dq_get dL_law_547_t 17 rfl
theorem dL_law_571 : decode cL_law 571 = .ok (.aload_n 2, 1) := dq_get dL_law_547_t 18 rfl
theorem dL_law_572 : decode cL_law 572 = .ok (.aload_n 0, 1) := dq_get dL_law_547_t 19 rfl
theorem dL_law_573 : decode cL_law 573 = .ok (.iload_n 3, 1) := dq_get dL_law_547_t 20 rfl
theorem dL_law_574 : decode cL_law 574 = .ok (.iconst 1, 1) := dq_get dL_law_547_t 21 rfl
theorem dL_law_575 : decode cL_law 575 = .ok (.iadd, 1) := dq_get dL_law_547_t 22 rfl
theorem dL_law_576 : decode cL_law 576 = .ok (.iaload, 1) := dq_get dL_law_547_t 23 rfl
theorem dL_law_577 : decode cL_law 577 = .ok (.aload_n 0, 1) := dq_get dL_law_547_t 24 rfl
theorem dL_law_578 : decode cL_law 578 = .ok (.iload_n 3, 1) := dq_get dL_law_547_t 25 rfl
theorem dL_law_579 : decode cL_law 579 = .ok (.iconst 2, 1) := dq_get dL_law_547_t 26 rfl
theorem dL_law_580 : decode cL_law 580 = .ok (.iadd, 1) := dq_get dL_law_547_t 27 rfl
theorem dL_law_581 : decode cL_law 581 = .ok (.iaload, 1) := dq_get dL_law_547_t 28 rfl
theorem dL_law_582 : decode cL_law 582 = .ok (.invokevirtual 68, 3) := dq_get dL_law_547_t 29 rfl
theorem dL_law_585 : decode cL_law 585 = .ok (.pop, 1) := dq_get dL_law_547_t 30 rfl
theorem dL_law_586 : decode cL_law 586 = .ok (.goto 969, 3) := dq_get dL_law_547_t 31 rfl
theorem dL_law_589 : decode cL_law 589 = .ok (.aload_n 1, 1) := dq_get dL_law_547_t 32 rfl
theorem dL_law_590 : decode cL_law 590 = .ok (.aload_n 0, 1) := dq_get dL_law_547_t 33 rfl
theorem dL_law_591 : decode cL_law 591 = .ok (.iload_n 3, 1) := dq_get dL_law_547_t 34 rfl
theorem dL_law_592 : decode cL_law 592 = .ok (.iconst 1, 1) := dq_get dL_law_547_t 35 rfl
theorem dL_law_593 : decode cL_law 593 = .ok (.iadd, 1) := dq_get dL_law_547_t 36 rfl
theorem dL_law_594 : decode cL_law 594 = .ok (.iaload, 1) := dq_get dL_law_547_t 37 rfl
theorem dL_law_595 : decode cL_law 595 = .ok (.aload_n 0, 1) := dq_get dL_law_547_t 38 rfl
theorem dL_law_596 : decode cL_law 596 = .ok (.iload_n 3, 1) := dq_get dL_law_547_t 39 rfl
theorem dL_law_597_t : dqK cL_law.data.toList 0 [(597, .iconst 2, 1), (598, .iadd, 1), (599, .iaload, 1), (600, .aload_n 0, 1), (601, .iload_n 3, 1), (602, .iconst 3, 1), (603, .iadd, 1), (604, .iaload, 1), (605, .ifCond .eq 7, 3), (608, .iconst 1, 1), (609, .goto 4, 3), (612, .iconst 0, 1), (613, .invokevirtual 69, 3), (616, .pop, 1), (617, .aload_n 2, 1), (618, .aload_n 0, 1), (619, .iload_n 3, 1), (620, .iconst 1, 1), (621, .iadd, 1), (622, .iaload, 1), (623, .aload_n 0, 1), (624, .iload_n 3, 1), (625, .iconst 2, 1), (626, .iadd, 1), (627, .iaload, 1), (628, .aload_n 0, 1), (629, .iload_n 3, 1), (630, .iconst 3, 1), (631, .iadd, 1), (632, .iaload, 1), (633, .ifCond .eq 7, 3), (636, .iconst 1, 1), (637, .goto 4, 3), (640, .iconst 0, 1), (641, .invokevirtual 73, 3), (644, .pop, 1), (645, .goto 910, 3), (648, .aload_n 1, 1), (649, .aload_n 0, 1), (650, .iload_n 3, 1)] = true := by decide +kernel
theorem dL_law_597 : decode cL_law 597 = .ok (.iconst 2, 1) := dq_get dL_law_597_t 0 rfl
theorem dL_law_598 : decode cL_law 598 = .ok (.iadd, 1) := dq_get dL_law_597_t 1 rfl
theorem dL_law_599 : decode cL_law 599 = .ok (.iaload, 1) := dq_get dL_law_597_t 2 rfl
theorem dL_law_600 : decode cL_law 600 = .ok (.aload_n 0, 1) := dq_get dL_law_597_t 3 rfl
theorem dL_law_601 : decode cL_law 601 = .ok (.iload_n 3, 1) := dq_get dL_law_597_t 4 rfl
theorem dL_law_602 : decode cL_law 602 = .ok (.iconst 3, 1) := dq_get dL_law_597_t 5 rfl
theorem dL_law_603 : decode cL_law 603 = .ok (.iadd, 1) := dq_get dL_law_597_t 6 rfl
theorem dL_law_604 : decode cL_law 604 = .ok (.iaload, 1) := dq_get dL_law_597_t 7 rfl
theorem dL_law_605 : decode cL_law 605 = .ok (.ifCond .eq 7, 3) := dq_get dL_law_597_t 8 rfl
theorem dL_law_608 : decode cL_law 608 = .ok (.iconst 1, 1) := dq_get dL_law_597_t 9 rfl
theorem dL_law_609 : decode cL_law 609 = .ok (.goto 4, 3) := dq_get dL_law_597_t 10 rfl
theorem dL_law_612 : decode cL_law 612 = .ok (.iconst 0, 1) := dq_get dL_law_597_t 11 rfl
theorem dL_law_613 : decode cL_law 613 = .ok (.invokevirtual 69, 3) := dq_get dL_law_597_t 12 rfl
theorem dL_law_616 : decode cL_law 616 = .ok (.pop, 1) := dq_get dL_law_597_t 13 rfl
theorem dL_law_617 : decode cL_law 617 = .ok (.aload_n 2, 1) := dq_get dL_law_597_t 14 rfl
theorem dL_law_618 : decode cL_law 618 = .ok (.aload_n 0, 1) := dq_get dL_law_597_t 15 rfl
theorem dL_law_619 : decode cL_law 619 = .ok (.iload_n 3, 1) := dq_get dL_law_597_t 16 rfl
theorem dL_law_620 : decode cL_law 620 = .ok (.iconst 1, 1) := dq_get dL_law_597_t 17 rfl
theorem dL_law_621 : decode cL_law 621 = .ok (.iadd, 1) := dq_get dL_law_597_t 18 rfl
theorem dL_law_622 : decode cL_law 622 = .ok (.iaload, 1) := dq_get dL_law_597_t 19 rfl
theorem dL_law_623 : decode cL_law 623 = .ok (.aload_n 0, 1) := dq_get dL_law_597_t 20 rfl
theorem dL_law_624 : decode cL_law 624 = .ok (.iload_n 3, 1) := dq_get dL_law_597_t 21 rfl
theorem dL_law_625 : decode cL_law 625 = .ok (.iconst 2, 1) := dq_get dL_law_597_t 22 rfl
theorem dL_law_626 : decode cL_law 626 = .ok (.iadd, 1) := dq_get dL_law_597_t 23 rfl
theorem dL_law_627 : decode cL_law 627 = .ok (.iaload, 1) := dq_get dL_law_597_t 24 rfl
theorem dL_law_628 : decode cL_law 628 = .ok (.aload_n 0, 1) := dq_get dL_law_597_t 25 rfl
theorem dL_law_629 : decode cL_law 629 = .ok (.iload_n 3, 1) := dq_get dL_law_597_t 26 rfl
theorem dL_law_630 : decode cL_law 630 = .ok (.iconst 3, 1) := dq_get dL_law_597_t 27 rfl
theorem dL_law_631 : decode cL_law 631 = .ok (.iadd, 1) := dq_get dL_law_597_t 28 rfl
theorem dL_law_632 : decode cL_law 632 = .ok (.iaload, 1) := dq_get dL_law_597_t 29 rfl
theorem dL_law_633 : decode cL_law 633 = .ok (.ifCond .eq 7, 3) := dq_get dL_law_597_t 30 rfl
theorem dL_law_636 : decode cL_law 636 = .ok (.iconst 1, 1) := dq_get dL_law_597_t 31 rfl
theorem dL_law_637 : decode cL_law 637 = .ok (.goto 4, 3) := dq_get dL_law_597_t 32 rfl
theorem dL_law_640 : decode cL_law 640 = .ok (.iconst 0, 1) := dq_get dL_law_597_t 33 rfl
theorem dL_law_641 : decode cL_law 641 = .ok (.invokevirtual 73, 3) := dq_get dL_law_597_t 34 rfl
theorem dL_law_644 : decode cL_law 644 = .ok (.pop, 1) := dq_get dL_law_597_t 35 rfl
theorem dL_law_645 : decode cL_law 645 = .ok (.goto 910, 3) := dq_get dL_law_597_t 36 rfl
theorem dL_law_648 : decode cL_law 648 = .ok (.aload_n 1, 1) := dq_get dL_law_597_t 37 rfl
theorem dL_law_649 : decode cL_law 649 = .ok (.aload_n 0, 1) := dq_get dL_law_597_t 38 rfl
theorem dL_law_650 : decode cL_law 650 = .ok (.iload_n 3, 1) := dq_get dL_law_597_t 39 rfl
theorem dL_law_651_t : dqK cL_law.data.toList 0 [(651, .iconst 1, 1), (652, .iadd, 1), (653, .iaload, 1), (654, .aload_n 0, 1), (655, .iload_n 3, 1), (656, .iconst 2, 1), (657, .iadd, 1), (658, .iaload, 1), (659, .invokevirtual 74, 3), (662, .pop, 1), (663, .aload_n 2, 1), (664, .aload_n 0, 1), (665, .iload_n 3, 1), (666, .iconst 1, 1), (667, .iadd, 1), (668, .iaload, 1), (669, .aload_n 0, 1), (670, .iload_n 3, 1), (671, .iconst 2, 1), (672, .iadd, 1), (673, .iaload, 1), (674, .invokevirtual 77, 3), (677, .pop, 1), (678, .goto 877, 3), (681, .aload_n 1, 1), (682, .aload_n 0, 1), (683, .iload_n 3, 1), (684, .iconst 1, 1), (685, .iadd, 1), (686, .iaload, 1), (687, .aload_n 0, 1), (688, .iload_n 3, 1), (689, .iconst 2, 1), (690, .iadd, 1), (691, .iaload, 1), (692, .aload_n 0, 1), (693, .iload_n 3, 1), (694, .iconst 3, 1), (695, .iadd, 1), (696, .iaload, 1)] = true := by decide +kernel
theorem dL_law_651 : decode cL_law 651 = .ok (.iconst 1, 1) := dq_get dL_law_651_t 0 rfl
theorem dL_law_652 : decode cL_law 652 = .ok (.iadd, 1) := dq_get dL_law_651_t 1 rfl
theorem dL_law_653 : decode cL_law 653 = .ok (.iaload, 1) := dq_get dL_law_651_t 2 rfl
theorem dL_law_654 : decode cL_law 654 = .ok (.aload_n 0, 1) := dq_get dL_law_651_t 3 rfl
theorem dL_law_655 : decode cL_law 655 = .ok (.iload_n 3, 1) := dq_get dL_law_651_t 4 rfl
theorem dL_law_656 : decode cL_law 656 = .ok (.iconst 2, 1) := dq_get dL_law_651_t 5 rfl
theorem dL_law_657 : decode cL_law 657 = .ok (.iadd, 1) := dq_get dL_law_651_t 6 rfl
theorem dL_law_658 : decode cL_law 658 = .ok (.iaload, 1) := dq_get dL_law_651_t 7 rfl
theorem dL_law_659 : decode cL_law 659 = .ok (.invokevirtual 74, 3) := dq_get dL_law_651_t 8 rfl
theorem dL_law_662 : decode cL_law 662 = .ok (.pop, 1) := dq_get dL_law_651_t 9 rfl
theorem dL_law_663 : decode cL_law 663 = .ok (.aload_n 2, 1) := dq_get dL_law_651_t 10 rfl
theorem dL_law_664 : decode cL_law 664 = .ok (.aload_n 0, 1) := dq_get dL_law_651_t 11 rfl
theorem dL_law_665 : decode cL_law 665 = .ok (.iload_n 3, 1) := dq_get dL_law_651_t 12 rfl
theorem dL_law_666 : decode cL_law 666 = .ok (.iconst 1, 1) := dq_get dL_law_651_t 13 rfl
theorem dL_law_667 : decode cL_law 667 = .ok (.iadd, 1) := dq_get dL_law_651_t 14 rfl
theorem dL_law_668 : decode cL_law 668 = .ok (.iaload, 1) := dq_get dL_law_651_t 15 rfl
theorem dL_law_669 : decode cL_law 669 = .ok (.aload_n 0, 1) := dq_get dL_law_651_t 16 rfl
theorem dL_law_670 : decode cL_law 670 = .ok (.iload_n 3, 1) := dq_get dL_law_651_t 17 rfl
theorem dL_law_671 : decode cL_law 671 = .ok (.iconst 2, 1) := dq_get dL_law_651_t 18 rfl
theorem dL_law_672 : decode cL_law 672 = .ok (.iadd, 1) := dq_get dL_law_651_t 19 rfl
theorem dL_law_673 : decode cL_law 673 = .ok (.iaload, 1) := dq_get dL_law_651_t 20 rfl
theorem dL_law_674 : decode cL_law 674 = .ok (.invokevirtual 77, 3) := dq_get dL_law_651_t 21 rfl
theorem dL_law_677 : decode cL_law 677 = .ok (.pop, 1) := dq_get dL_law_651_t 22 rfl
theorem dL_law_678 : decode cL_law 678 = .ok (.goto 877, 3) := dq_get dL_law_651_t 23 rfl
theorem dL_law_681 : decode cL_law 681 = .ok (.aload_n 1, 1) := dq_get dL_law_651_t 24 rfl
theorem dL_law_682 : decode cL_law 682 = .ok (.aload_n 0, 1) := dq_get dL_law_651_t 25 rfl
theorem dL_law_683 : decode cL_law 683 = .ok (.iload_n 3, 1) := dq_get dL_law_651_t 26 rfl
theorem dL_law_684 : decode cL_law 684 = .ok (.iconst 1, 1) := dq_get dL_law_651_t 27 rfl
theorem dL_law_685 : decode cL_law 685 = .ok (.iadd, 1) := dq_get dL_law_651_t 28 rfl
theorem dL_law_686 : decode cL_law 686 = .ok (.iaload, 1) := dq_get dL_law_651_t 29 rfl
theorem dL_law_687 : decode cL_law 687 = .ok (.aload_n 0, 1) := dq_get dL_law_651_t 30 rfl
theorem dL_law_688 : decode cL_law 688 = .ok (.iload_n 3, 1) := dq_get dL_law_651_t 31 rfl
theorem dL_law_689 : decode cL_law 689 = .ok (.iconst 2, 1) := dq_get dL_law_651_t 32 rfl
theorem dL_law_690 : decode cL_law 690 = .ok (.iadd, 1) := dq_get dL_law_651_t 33 rfl
theorem dL_law_691 : decode cL_law 691 = .ok (.iaload, 1) := dq_get dL_law_651_t 34 rfl
theorem dL_law_692 : decode cL_law 692 = .ok (.aload_n 0, 1) := dq_get dL_law_651_t 35 rfl
theorem dL_law_693 : decode cL_law 693 = .ok (.iload_n 3, 1) := dq_get dL_law_651_t 36 rfl
theorem dL_law_694 : decode cL_law 694 = .ok (.iconst 3, 1) := dq_get dL_law_651_t 37 rfl
theorem dL_law_695 : decode cL_law 695 = .ok (.iadd, 1) := dq_get dL_law_651_t 38 rfl
theorem dL_law_696 : decode cL_law 696 = .ok (.iaload, 1) := dq_get dL_law_651_t 39 rfl
theorem dL_law_697_t : dqK cL_law.data.toList 0 [(697, .invokevirtual 78, 3), (700, .pop, 1), (701, .aload_n 2, 1), (702, .aload_n 0, 1), (703, .iload_n 3, 1), (704, .iconst 1, 1), (705, .iadd, 1), (706, .iaload, 1), (707, .aload_n 0, 1), (708, .iload_n 3, 1), (709, .iconst 2, 1), (710, .iadd, 1), (711, .iaload, 1), (712, .aload_n 0, 1), (713, .iload_n 3, 1), (714, .iconst 3, 1), (715, .iadd, 1), (716, .iaload, 1), (717, .invokevirtual 81, 3), (720, .pop, 1), (721, .goto 834, 3), (724, .aload_n 1, 1), (725, .aload_n 0, 1), (726, .iload_n 3, 1), (727, .iconst 1, 1), (728, .iadd, 1), (729, .iaload, 1), (730, .aload_n 0, 1), (731, .iload_n 3, 1), (732, .iconst 2, 1), (733, .iadd, 1), (734, .iaload, 1), (735, .aload_n 0, 1), (736, .iload_n 3, 1), (737, .iconst 3, 1), (738, .iadd, 1), (739, .iaload, 1), (740, .invokevirtual 82, 3), (743, .pop, 1), (744, .aload_n 2, 1)] = true := by decide +kernel
theorem dL_law_697 : decode cL_law 697 = .ok (.invokevirtual 78, 3) := dq_get dL_law_697_t 0 rfl
theorem dL_law_700 : decode cL_law 700 = .ok (.pop, 1) := dq_get dL_law_697_t 1 rfl
theorem dL_law_701 : decode cL_law 701 = .ok (.aload_n 2, 1) := dq_get dL_law_697_t 2 rfl
theorem dL_law_702 : decode cL_law 702 = .ok (.aload_n 0, 1) := dq_get dL_law_697_t 3 rfl
theorem dL_law_703 : decode cL_law 703 = .ok (.iload_n 3, 1) := dq_get dL_law_697_t 4 rfl
theorem dL_law_704 : decode cL_law 704 = .ok (.iconst 1, 1) := dq_get dL_law_697_t 5 rfl
theorem dL_law_705 : decode cL_law 705 = .ok (.iadd, 1) := dq_get dL_law_697_t 6 rfl
theorem dL_law_706 : decode cL_law 706 = .ok (.iaload, 1) := dq_get dL_law_697_t 7 rfl
theorem dL_law_707 : decode cL_law 707 = .ok (.aload_n 0, 1) := dq_get dL_law_697_t 8 rfl
theorem dL_law_708 : decode cL_law 708 = .ok (.iload_n 3, 1) := dq_get dL_law_697_t 9 rfl
theorem dL_law_709 : decode cL_law 709 = .ok (.iconst 2, 1) := dq_get dL_law_697_t 10 rfl
theorem dL_law_710 : decode cL_law 710 = .ok (.iadd, 1) := dq_get dL_law_697_t 11 rfl
theorem dL_law_711 : decode cL_law 711 = .ok (.iaload, 1) := dq_get dL_law_697_t 12 rfl
theorem dL_law_712 : decode cL_law 712 = .ok (.aload_n 0, 1) := dq_get dL_law_697_t 13 rfl
theorem dL_law_713 : decode cL_law 713 = .ok (.iload_n 3, 1) := dq_get dL_law_697_t 14 rfl
theorem dL_law_714 : decode cL_law 714 = .ok (.iconst 3, 1) := dq_get dL_law_697_t 15 rfl
theorem dL_law_715 : decode cL_law 715 = .ok (.iadd, 1) := dq_get dL_law_697_t 16 rfl
theorem dL_law_716 : decode cL_law 716 = .ok (.iaload, 1) := dq_get dL_law_697_t 17 rfl
theorem dL_law_717 : decode cL_law 717 = .ok (.invokevirtual 81, 3) := dq_get dL_law_697_t 18 rfl
theorem dL_law_720 : decode cL_law 720 = .ok (.pop, 1) := dq_get dL_law_697_t 19 rfl
theorem dL_law_721 : decode cL_law 721 = .ok (.goto 834, 3) := dq_get dL_law_697_t 20 rfl
theorem dL_law_724 : decode cL_law 724 = .ok (.aload_n 1, 1) := dq_get dL_law_697_t 21 rfl
theorem dL_law_725 : decode cL_law 725 = .ok (.aload_n 0, 1) := dq_get dL_law_697_t 22 rfl
theorem dL_law_726 : decode cL_law 726 = .ok (.iload_n 3, 1) := dq_get dL_law_697_t 23 rfl
theorem dL_law_727 : decode cL_law 727 = .ok (.iconst 1, 1) := dq_get dL_law_697_t 24 rfl
theorem dL_law_728 : decode cL_law 728 = .ok (.iadd, 1) := dq_get dL_law_697_t 25 rfl
theorem dL_law_729 : decode cL_law 729 = .ok (.iaload, 1) := dq_get dL_law_697_t 26 rfl
theorem dL_law_730 : decode cL_law 730 = .ok (.aload_n 0, 1) := dq_get dL_law_697_t 27 rfl
theorem dL_law_731 : decode cL_law 731 = .ok (.iload_n 3, 1) := dq_get dL_law_697_t 28 rfl
theorem dL_law_732 : decode cL_law 732 = .ok (.iconst 2, 1) := dq_get dL_law_697_t 29 rfl
theorem dL_law_733 : decode cL_law 733 = .ok (.iadd, 1) := dq_get dL_law_697_t 30 rfl
theorem dL_law_734 : decode cL_law 734 = .ok (.iaload, 1) := dq_get dL_law_697_t 31 rfl
theorem dL_law_735 : decode cL_law 735 = .ok (.aload_n 0, 1) := dq_get dL_law_697_t 32 rfl
theorem dL_law_736 : decode cL_law 736 = .ok (.iload_n 3, 1) := dq_get dL_law_697_t 33 rfl
theorem dL_law_737 : decode cL_law 737 = .ok (.iconst 3, 1) := dq_get dL_law_697_t 34 rfl
theorem dL_law_738 : decode cL_law 738 = .ok (.iadd, 1) := dq_get dL_law_697_t 35 rfl
theorem dL_law_739 : decode cL_law 739 = .ok (.iaload, 1) := dq_get dL_law_697_t 36 rfl
theorem dL_law_740 : decode cL_law 740 = .ok (.invokevirtual 82, 3) := dq_get dL_law_697_t 37 rfl
theorem dL_law_743 : decode cL_law 743 = .ok (.pop, 1) := dq_get dL_law_697_t 38 rfl
theorem dL_law_744 : decode cL_law 744 = .ok (.aload_n 2, 1) := dq_get dL_law_697_t 39 rfl
theorem dL_law_745_t : dqK cL_law.data.toList 0 [(745, .aload_n 0, 1), (746, .iload_n 3, 1), (747, .iconst 1, 1), (748, .iadd, 1), (749, .iaload, 1), (750, .aload_n 0, 1), (751, .iload_n 3, 1), (752, .iconst 2, 1), (753, .iadd, 1), (754, .iaload, 1), (755, .aload_n 0, 1), (756, .iload_n 3, 1), (757, .iconst 3, 1), (758, .iadd, 1), (759, .iaload, 1), (760, .invokevirtual 85, 3), (763, .pop, 1), (764, .goto 791, 3), (767, .aload_n 1, 1), (768, .aload_n 0, 1), (769, .iload_n 3, 1), (770, .iconst 1, 1), (771, .iadd, 1), (772, .iaload, 1), (773, .aload_n 0, 1), (774, .iload_n 3, 1), (775, .iconst 2, 1), (776, .iadd, 1), (777, .iaload, 1), (778, .invokevirtual 86, 3), (781, .pop, 1), (782, .aload_n 2, 1), (783, .aload_n 0, 1), (784, .iload_n 3, 1), (785, .iconst 1, 1), (786, .iadd, 1), (787, .iaload, 1), (788, .aload_n 0, 1), (789, .iload_n 3, 1), (790, .iconst 2, 1)] = true := by decide +kernel
theorem dL_law_745 : decode cL_law 745 = .ok (.aload_n 0, 1) := dq_get dL_law_745_t 0 rfl
theorem dL_law_746 : decode cL_law 746 = .ok (.iload_n 3, 1) := dq_get dL_law_745_t 1 rfl
theorem dL_law_747 : decode cL_law 747 = .ok (.iconst 1, 1) := dq_get dL_law_745_t 2 rfl
theorem dL_law_748 : decode cL_law 748 = .ok (.iadd, 1) := dq_get dL_law_745_t 3 rfl
theorem dL_law_749 : decode cL_law 749 = .ok (.iaload, 1) := dq_get dL_law_745_t 4 rfl
theorem dL_law_750 : decode cL_law 750 = .ok (.aload_n 0, 1) := dq_get dL_law_745_t 5 rfl
theorem dL_law_751 : decode cL_law 751 = .ok (.iload_n 3, 1) := dq_get dL_law_745_t 6 rfl
theorem dL_law_752 : decode cL_law 752 = .ok (.iconst 2, 1) := dq_get dL_law_745_t 7 rfl
theorem dL_law_753 : decode cL_law 753 = .ok (.iadd, 1) := dq_get dL_law_745_t 8 rfl
theorem dL_law_754 : decode cL_law 754 = .ok (.iaload, 1) := dq_get dL_law_745_t 9 rfl
theorem dL_law_755 : decode cL_law 755 = .ok (.aload_n 0, 1) := dq_get dL_law_745_t 10 rfl
theorem dL_law_756 : decode cL_law 756 = .ok (.iload_n 3, 1) := dq_get dL_law_745_t 11 rfl
theorem dL_law_757 : decode cL_law 757 = .ok (.iconst 3, 1) := dq_get dL_law_745_t 12 rfl
theorem dL_law_758 : decode cL_law 758 = .ok (.iadd, 1) := dq_get dL_law_745_t 13 rfl
theorem dL_law_759 : decode cL_law 759 = .ok (.iaload, 1) := dq_get dL_law_745_t 14 rfl
theorem dL_law_760 : decode cL_law 760 = .ok (.invokevirtual 85, 3) := dq_get dL_law_745_t 15 rfl
theorem dL_law_763 : decode cL_law 763 = .ok (.pop, 1) := dq_get dL_law_745_t 16 rfl
theorem dL_law_764 : decode cL_law 764 = .ok (.goto 791, 3) := dq_get dL_law_745_t 17 rfl
theorem dL_law_767 : decode cL_law 767 = .ok (.aload_n 1, 1) := dq_get dL_law_745_t 18 rfl
theorem dL_law_768 : decode cL_law 768 = .ok (.aload_n 0, 1) := dq_get dL_law_745_t 19 rfl
theorem dL_law_769 : decode cL_law 769 = .ok (.iload_n 3, 1) := dq_get dL_law_745_t 20 rfl
theorem dL_law_770 : decode cL_law 770 = .ok (.iconst 1, 1) := dq_get dL_law_745_t 21 rfl
theorem dL_law_771 : decode cL_law 771 = .ok (.iadd, 1) := dq_get dL_law_745_t 22 rfl
theorem dL_law_772 : decode cL_law 772 = .ok (.iaload, 1) := dq_get dL_law_745_t 23 rfl
theorem dL_law_773 : decode cL_law 773 = .ok (.aload_n 0, 1) := dq_get dL_law_745_t 24 rfl
theorem dL_law_774 : decode cL_law 774 = .ok (.iload_n 3, 1) := dq_get dL_law_745_t 25 rfl
theorem dL_law_775 : decode cL_law 775 = .ok (.iconst 2, 1) := dq_get dL_law_745_t 26 rfl
theorem dL_law_776 : decode cL_law 776 = .ok (.iadd, 1) := dq_get dL_law_745_t 27 rfl
theorem dL_law_777 : decode cL_law 777 = .ok (.iaload, 1) := dq_get dL_law_745_t 28 rfl
theorem dL_law_778 : decode cL_law 778 = .ok (.invokevirtual 86, 3) := dq_get dL_law_745_t 29 rfl
theorem dL_law_781 : decode cL_law 781 = .ok (.pop, 1) := dq_get dL_law_745_t 30 rfl
theorem dL_law_782 : decode cL_law 782 = .ok (.aload_n 2, 1) := dq_get dL_law_745_t 31 rfl
theorem dL_law_783 : decode cL_law 783 = .ok (.aload_n 0, 1) := dq_get dL_law_745_t 32 rfl
theorem dL_law_784 : decode cL_law 784 = .ok (.iload_n 3, 1) := dq_get dL_law_745_t 33 rfl
theorem dL_law_785 : decode cL_law 785 = .ok (.iconst 1, 1) := dq_get dL_law_745_t 34 rfl
theorem dL_law_786 : decode cL_law 786 = .ok (.iadd, 1) := dq_get dL_law_745_t 35 rfl
theorem dL_law_787 : decode cL_law 787 = .ok (.iaload, 1) := dq_get dL_law_745_t 36 rfl
theorem dL_law_788 : decode cL_law 788 = .ok (.aload_n 0, 1) := dq_get dL_law_745_t 37 rfl
theorem dL_law_789 : decode cL_law 789 = .ok (.iload_n 3, 1) := dq_get dL_law_745_t 38 rfl
theorem dL_law_790 : decode cL_law 790 = .ok (.iconst 2, 1) := dq_get dL_law_745_t 39 rfl
theorem dL_law_791_t : dqK cL_law.data.toList 0 [(791, .iadd, 1), (792, .iaload, 1), (793, .invokevirtual 89, 3), (796, .pop, 1), (797, .goto 758, 3), (800, .aload_n 1, 1), (801, .aload_n 0, 1), (802, .iload_n 3, 1), (803, .iconst 1, 1), (804, .iadd, 1), (805, .iaload, 1), (806, .aload_n 0, 1), (807, .iload_n 3, 1), (808, .iconst 2, 1), (809, .iadd, 1), (810, .iaload, 1), (811, .invokevirtual 90, 3), (814, .pop, 1), (815, .aload_n 2, 1), (816, .aload_n 0, 1), (817, .iload_n 3, 1), (818, .iconst 1, 1), (819, .iadd, 1), (820, .iaload, 1), (821, .aload_n 0, 1), (822, .iload_n 3, 1), (823, .iconst 2, 1), (824, .iadd, 1), (825, .iaload, 1), (826, .invokevirtual 93, 3), (829, .pop, 1), (830, .goto 725, 3), (833, .aload_n 1, 1), (834, .aload_n 0, 1), (835, .iload_n 3, 1), (836, .iconst 1, 1), (837, .iadd, 1), (838, .iaload, 1), (839, .aload_n 0, 1), (840, .iload_n 3, 1)] = true := by decide +kernel
theorem dL_law_791 : decode cL_law 791 = .ok (.iadd, 1) := dq_get dL_law_791_t 0 rfl
theorem dL_law_792 : decode cL_law 792 = .ok (.iaload, 1) := dq_get dL_law_791_t 1 rfl
theorem dL_law_793 : decode cL_law 793 = .ok (.invokevirtual 89, 3) := dq_get dL_law_791_t 2 rfl
theorem dL_law_796 : decode cL_law 796 = .ok (.pop, 1) := dq_get dL_law_791_t 3 rfl
theorem dL_law_797 : decode cL_law 797 = .ok (.goto 758, 3) := dq_get dL_law_791_t 4 rfl
theorem dL_law_800 : decode cL_law 800 = .ok (.aload_n 1, 1) := dq_get dL_law_791_t 5 rfl
theorem dL_law_801 : decode cL_law 801 = .ok (.aload_n 0, 1) := dq_get dL_law_791_t 6 rfl
theorem dL_law_802 : decode cL_law 802 = .ok (.iload_n 3, 1) := dq_get dL_law_791_t 7 rfl
theorem dL_law_803 : decode cL_law 803 = .ok (.iconst 1, 1) := dq_get dL_law_791_t 8 rfl
theorem dL_law_804 : decode cL_law 804 = .ok (.iadd, 1) := dq_get dL_law_791_t 9 rfl
theorem dL_law_805 : decode cL_law 805 = .ok (.iaload, 1) := dq_get dL_law_791_t 10 rfl
theorem dL_law_806 : decode cL_law 806 = .ok (.aload_n 0, 1) := dq_get dL_law_791_t 11 rfl
theorem dL_law_807 : decode cL_law 807 = .ok (.iload_n 3, 1) := dq_get dL_law_791_t 12 rfl
theorem dL_law_808 : decode cL_law 808 = .ok (.iconst 2, 1) := dq_get dL_law_791_t 13 rfl
theorem dL_law_809 : decode cL_law 809 = .ok (.iadd, 1) := dq_get dL_law_791_t 14 rfl
theorem dL_law_810 : decode cL_law 810 = .ok (.iaload, 1) := dq_get dL_law_791_t 15 rfl
theorem dL_law_811 : decode cL_law 811 = .ok (.invokevirtual 90, 3) := dq_get dL_law_791_t 16 rfl
theorem dL_law_814 : decode cL_law 814 = .ok (.pop, 1) := dq_get dL_law_791_t 17 rfl
theorem dL_law_815 : decode cL_law 815 = .ok (.aload_n 2, 1) := dq_get dL_law_791_t 18 rfl
theorem dL_law_816 : decode cL_law 816 = .ok (.aload_n 0, 1) := dq_get dL_law_791_t 19 rfl
theorem dL_law_817 : decode cL_law 817 = .ok (.iload_n 3, 1) := dq_get dL_law_791_t 20 rfl
theorem dL_law_818 : decode cL_law 818 = .ok (.iconst 1, 1) := dq_get dL_law_791_t 21 rfl
theorem dL_law_819 : decode cL_law 819 = .ok (.iadd, 1) := dq_get dL_law_791_t 22 rfl
theorem dL_law_820 : decode cL_law 820 = .ok (.iaload, 1) := dq_get dL_law_791_t 23 rfl
theorem dL_law_821 : decode cL_law 821 = .ok (.aload_n 0, 1) := dq_get dL_law_791_t 24 rfl
theorem dL_law_822 : decode cL_law 822 = .ok (.iload_n 3, 1) := dq_get dL_law_791_t 25 rfl
theorem dL_law_823 : decode cL_law 823 = .ok (.iconst 2, 1) := dq_get dL_law_791_t 26 rfl
theorem dL_law_824 : decode cL_law 824 = .ok (.iadd, 1) := dq_get dL_law_791_t 27 rfl
theorem dL_law_825 : decode cL_law 825 = .ok (.iaload, 1) := dq_get dL_law_791_t 28 rfl
theorem dL_law_826 : decode cL_law 826 = .ok (.invokevirtual 93, 3) := dq_get dL_law_791_t 29 rfl
theorem dL_law_829 : decode cL_law 829 = .ok (.pop, 1) := dq_get dL_law_791_t 30 rfl
theorem dL_law_830 : decode cL_law 830 = .ok (.goto 725, 3) := dq_get dL_law_791_t 31 rfl
theorem dL_law_833 : decode cL_law 833 = .ok (.aload_n 1, 1) := dq_get dL_law_791_t 32 rfl
theorem dL_law_834 : decode cL_law 834 = .ok (.aload_n 0, 1) := dq_get dL_law_791_t 33 rfl
theorem dL_law_835 : decode cL_law 835 = .ok (.iload_n 3, 1) := dq_get dL_law_791_t 34 rfl
theorem dL_law_836 : decode cL_law 836 = .ok (.iconst 1, 1) := dq_get dL_law_791_t 35 rfl
theorem dL_law_837 : decode cL_law 837 = .ok (.iadd, 1) := dq_get dL_law_791_t 36 rfl
theorem dL_law_838 : decode cL_law 838 = .ok (.iaload, 1) := dq_get dL_law_791_t 37 rfl
theorem dL_law_839 : decode cL_law 839 = .ok (.aload_n 0, 1) := dq_get dL_law_791_t 38 rfl
theorem dL_law_840 : decode cL_law 840 = .ok (.iload_n 3, 1) := dq_get dL_law_791_t 39 rfl
theorem dL_law_841_t : dqK cL_law.data.toList 0 [(841, .iconst 2, 1), (842, .iadd, 1), (843, .iaload, 1), (844, .aload_n 0, 1), (845, .iload_n 3, 1), (846, .iconst 3, 1), (847, .iadd, 1), (848, .iaload, 1), (849, .invokevirtual 94, 3), (852, .pop, 1), (853, .aload_n 2, 1), (854, .aload_n 0, 1), (855, .iload_n 3, 1), (856, .iconst 1, 1), (857, .iadd, 1), (858, .iaload, 1), (859, .aload_n 0, 1), (860, .iload_n 3, 1), (861, .iconst 2, 1), (862, .iadd, 1), (863, .iaload, 1), (864, .aload_n 0, 1), (865, .iload_n 3, 1), (866, .iconst 3, 1), (867, .iadd, 1), (868, .iaload, 1), (869, .invokevirtual 97, 3), (872, .pop, 1), (873, .goto 682, 3), (876, .aload_n 1, 1), (877, .invokevirtual 98, 3), (880, .pop, 1), (881, .aload_n 2, 1), (882, .invokevirtual 101, 3), (885, .pop, 1), (886, .goto 669, 3), (889, .aload_n 1, 1), (890, .aload_n 0, 1), (891, .iload_n 3, 1), (892, .iconst 1, 1)] = true := by decide +kernel
theorem dL_law_841 : decode cL_law 841 = .ok (.iconst 2, 1) := dq_get dL_law_841_t 0 rfl
theorem dL_law_842 : decode cL_law 842 = .ok (.iadd, 1) := dq_get dL_law_841_t 1 rfl
theorem dL_law_843 : decode cL_law 843 = .ok (.iaload, 1) := dq_get dL_law_841_t 2 rfl
theorem dL_law_844 : decode cL_law 844 = .ok (.aload_n 0, 1) := dq_get dL_law_841_t 3 rfl
theorem dL_law_845 : decode cL_law 845 = .ok (.iload_n 3, 1) := dq_get dL_law_841_t 4 rfl
theorem dL_law_846 : decode cL_law 846 = .ok (.iconst 3, 1) := dq_get dL_law_841_t 5 rfl
theorem dL_law_847 : decode cL_law 847 = .ok (.iadd, 1) := dq_get dL_law_841_t 6 rfl
theorem dL_law_848 : decode cL_law 848 = .ok (.iaload, 1) := dq_get dL_law_841_t 7 rfl
theorem dL_law_849 : decode cL_law 849 = .ok (.invokevirtual 94, 3) := dq_get dL_law_841_t 8 rfl
theorem dL_law_852 : decode cL_law 852 = .ok (.pop, 1) := dq_get dL_law_841_t 9 rfl
theorem dL_law_853 : decode cL_law 853 = .ok (.aload_n 2, 1) := dq_get dL_law_841_t 10 rfl
theorem dL_law_854 : decode cL_law 854 = .ok (.aload_n 0, 1) := dq_get dL_law_841_t 11 rfl
theorem dL_law_855 : decode cL_law 855 = .ok (.iload_n 3, 1) := dq_get dL_law_841_t 12 rfl
theorem dL_law_856 : decode cL_law 856 = .ok (.iconst 1, 1) := dq_get dL_law_841_t 13 rfl
theorem dL_law_857 : decode cL_law 857 = .ok (.iadd, 1) := dq_get dL_law_841_t 14 rfl
theorem dL_law_858 : decode cL_law 858 = .ok (.iaload, 1) := dq_get dL_law_841_t 15 rfl
theorem dL_law_859 : decode cL_law 859 = .ok (.aload_n 0, 1) := dq_get dL_law_841_t 16 rfl
theorem dL_law_860 : decode cL_law 860 = .ok (.iload_n 3, 1) := dq_get dL_law_841_t 17 rfl
theorem dL_law_861 : decode cL_law 861 = .ok (.iconst 2, 1) := dq_get dL_law_841_t 18 rfl
theorem dL_law_862 : decode cL_law 862 = .ok (.iadd, 1) := dq_get dL_law_841_t 19 rfl
theorem dL_law_863 : decode cL_law 863 = .ok (.iaload, 1) := dq_get dL_law_841_t 20 rfl
theorem dL_law_864 : decode cL_law 864 = .ok (.aload_n 0, 1) := dq_get dL_law_841_t 21 rfl
theorem dL_law_865 : decode cL_law 865 = .ok (.iload_n 3, 1) := dq_get dL_law_841_t 22 rfl
theorem dL_law_866 : decode cL_law 866 = .ok (.iconst 3, 1) := dq_get dL_law_841_t 23 rfl
theorem dL_law_867 : decode cL_law 867 = .ok (.iadd, 1) := dq_get dL_law_841_t 24 rfl
theorem dL_law_868 : decode cL_law 868 = .ok (.iaload, 1) := dq_get dL_law_841_t 25 rfl
theorem dL_law_869 : decode cL_law 869 = .ok (.invokevirtual 97, 3) := dq_get dL_law_841_t 26 rfl
theorem dL_law_872 : decode cL_law 872 = .ok (.pop, 1) := dq_get dL_law_841_t 27 rfl
theorem dL_law_873 : decode cL_law 873 = .ok (.goto 682, 3) := dq_get dL_law_841_t 28 rfl
theorem dL_law_876 : decode cL_law 876 = .ok (.aload_n 1, 1) := dq_get dL_law_841_t 29 rfl
theorem dL_law_877 : decode cL_law 877 = .ok (.invokevirtual 98, 3) := dq_get dL_law_841_t 30 rfl
theorem dL_law_880 : decode cL_law 880 = .ok (.pop, 1) := dq_get dL_law_841_t 31 rfl
theorem dL_law_881 : decode cL_law 881 = .ok (.aload_n 2, 1) := dq_get dL_law_841_t 32 rfl
theorem dL_law_882 : decode cL_law 882 = .ok (.invokevirtual 101, 3) := dq_get dL_law_841_t 33 rfl
theorem dL_law_885 : decode cL_law 885 = .ok (.pop, 1) := dq_get dL_law_841_t 34 rfl
theorem dL_law_886 : decode cL_law 886 = .ok (.goto 669, 3) := dq_get dL_law_841_t 35 rfl
theorem dL_law_889 : decode cL_law 889 = .ok (.aload_n 1, 1) := dq_get dL_law_841_t 36 rfl
theorem dL_law_890 : decode cL_law 890 = .ok (.aload_n 0, 1) := dq_get dL_law_841_t 37 rfl
theorem dL_law_891 : decode cL_law 891 = .ok (.iload_n 3, 1) := dq_get dL_law_841_t 38 rfl
theorem dL_law_892 : decode cL_law 892 = .ok (.iconst 1, 1) := dq_get dL_law_841_t 39 rfl
theorem dL_law_893_t : dqK cL_law.data.toList 0 [(893, .iadd, 1), (894, .iaload, 1), (895, .aload_n 0, 1), (896, .iload_n 3, 1), (897, .iconst 2, 1), (898, .iadd, 1), (899, .iaload, 1), (900, .aload_n 0, 1), (901, .iload_n 3, 1), (902, .iconst 3, 1), (903, .iadd, 1), (904, .iaload, 1), (905, .invokevirtual 102, 3), (908, .pop, 1), (909, .aload_n 2, 1), (910, .aload_n 0, 1), (911, .iload_n 3, 1), (912, .iconst 1, 1), (913, .iadd, 1), (914, .iaload, 1), (915, .aload_n 0, 1), (916, .iload_n 3, 1), (917, .iconst 2, 1), (918, .iadd, 1), (919, .iaload, 1), (920, .aload_n 0, 1), (921, .iload_n 3, 1), (922, .iconst 3, 1), (923, .iadd, 1), (924, .iaload, 1), (925, .invokevirtual 105, 3), (928, .pop, 1), (929, .goto 626, 3), (932, .aload_n 1, 1), (933, .aload_n 0, 1), (934, .iload_n 3, 1), (935, .iconst 1, 1), (936, .iadd, 1), (937, .iaload, 1), (938, .invokevirtual 106, 3)] = true := by decide +kernel
theorem dL_law_893 : decode cL_law 893 = .ok (.iadd, 1) := dq_get dL_law_893_t 0 rfl
theorem dL_law_894 : decode cL_law 894 = .ok (.iaload, 1) := dq_get dL_law_893_t 1 rfl
theorem dL_law_895 : decode cL_law 895 = .ok (.aload_n 0, 1) := dq_get dL_law_893_t 2 rfl
theorem dL_law_896 : decode cL_law 896 = .ok (.iload_n 3, 1) := dq_get dL_law_893_t 3 rfl
theorem dL_law_897 : decode cL_law 897 = .ok (.iconst 2, 1) := dq_get dL_law_893_t 4 rfl
theorem dL_law_898 : decode cL_law 898 = .ok (.iadd, 1) := dq_get dL_law_893_t 5 rfl
theorem dL_law_899 : decode cL_law 899 = .ok (.iaload, 1) := dq_get dL_law_893_t 6 rfl
theorem dL_law_900 : decode cL_law 900 = .ok (.aload_n 0, 1) := dq_get dL_law_893_t 7 rfl
theorem dL_law_901 : decode cL_law 901 = .ok (.iload_n 3, 1) := dq_get dL_law_893_t 8 rfl
theorem dL_law_902 : decode cL_law 902 = .ok (.iconst 3, 1) := dq_get dL_law_893_t 9 rfl
theorem dL_law_903 : decode cL_law 903 = .ok (.iadd, 1) := dq_get dL_law_893_t 10 rfl
theorem dL_law_904 : decode cL_law 904 = .ok (.iaload, 1) := dq_get dL_law_893_t 11 rfl
theorem dL_law_905 : decode cL_law 905 = .ok (.invokevirtual 102, 3) := dq_get dL_law_893_t 12 rfl
theorem dL_law_908 : decode cL_law 908 = .ok (.pop, 1) := dq_get dL_law_893_t 13 rfl
theorem dL_law_909 : decode cL_law 909 = .ok (.aload_n 2, 1) := dq_get dL_law_893_t 14 rfl
theorem dL_law_910 : decode cL_law 910 = .ok (.aload_n 0, 1) := dq_get dL_law_893_t 15 rfl
theorem dL_law_911 : decode cL_law 911 = .ok (.iload_n 3, 1) := dq_get dL_law_893_t 16 rfl
theorem dL_law_912 : decode cL_law 912 = .ok (.iconst 1, 1) := dq_get dL_law_893_t 17 rfl
theorem dL_law_913 : decode cL_law 913 = .ok (.iadd, 1) := dq_get dL_law_893_t 18 rfl
theorem dL_law_914 : decode cL_law 914 = .ok (.iaload, 1) := dq_get dL_law_893_t 19 rfl
theorem dL_law_915 : decode cL_law 915 = .ok (.aload_n 0, 1) := dq_get dL_law_893_t 20 rfl
theorem dL_law_916 : decode cL_law 916 = .ok (.iload_n 3, 1) := dq_get dL_law_893_t 21 rfl
theorem dL_law_917 : decode cL_law 917 = .ok (.iconst 2, 1) := dq_get dL_law_893_t 22 rfl
theorem dL_law_918 : decode cL_law 918 = .ok (.iadd, 1) := dq_get dL_law_893_t 23 rfl
theorem dL_law_919 : decode cL_law 919 = .ok (.iaload, 1) := dq_get dL_law_893_t 24 rfl
theorem dL_law_920 : decode cL_law 920 = .ok (.aload_n 0, 1) := dq_get dL_law_893_t 25 rfl
theorem dL_law_921 : decode cL_law 921 = .ok (.iload_n 3, 1) := dq_get dL_law_893_t 26 rfl
theorem dL_law_922 : decode cL_law 922 = .ok (.iconst 3, 1) := dq_get dL_law_893_t 27 rfl
theorem dL_law_923 : decode cL_law 923 = .ok (.iadd, 1) := dq_get dL_law_893_t 28 rfl
theorem dL_law_924 : decode cL_law 924 = .ok (.iaload, 1) := dq_get dL_law_893_t 29 rfl
theorem dL_law_925 : decode cL_law 925 = .ok (.invokevirtual 105, 3) := dq_get dL_law_893_t 30 rfl
theorem dL_law_928 : decode cL_law 928 = .ok (.pop, 1) := dq_get dL_law_893_t 31 rfl
theorem dL_law_929 : decode cL_law 929 = .ok (.goto 626, 3) := dq_get dL_law_893_t 32 rfl
theorem dL_law_932 : decode cL_law 932 = .ok (.aload_n 1, 1) := dq_get dL_law_893_t 33 rfl
theorem dL_law_933 : decode cL_law 933 = .ok (.aload_n 0, 1) := dq_get dL_law_893_t 34 rfl
theorem dL_law_934 : decode cL_law 934 = .ok (.iload_n 3, 1) := dq_get dL_law_893_t 35 rfl
theorem dL_law_935 : decode cL_law 935 = .ok (.iconst 1, 1) := dq_get dL_law_893_t 36 rfl
theorem dL_law_936 : decode cL_law 936 = .ok (.iadd, 1) := dq_get dL_law_893_t 37 rfl
theorem dL_law_937 : decode cL_law 937 = .ok (.iaload, 1) := dq_get dL_law_893_t 38 rfl
theorem dL_law_938 : decode cL_law 938 = .ok (.invokevirtual 106, 3) := dq_get dL_law_893_t 39 rfl
theorem dL_law_941_t : dqK cL_law.data.toList 0 [(941, .pop, 1), (942, .aload_n 2, 1), (943, .aload_n 0, 1), (944, .iload_n 3, 1), (945, .iconst 1, 1), (946, .iadd, 1), (947, .iaload, 1), (948, .invokevirtual 109, 3), (951, .pop, 1), (952, .goto 603, 3), (955, .aload_n 1, 1), (956, .invokevirtual 110, 3), (959, .pop, 1), (960, .aload_n 2, 1), (961, .invokevirtual 113, 3), (964, .pop, 1), (965, .goto 590, 3), (968, .aload_n 1, 1), (969, .invokevirtual 114, 3), (972, .pop, 1), (973, .aload_n 2, 1), (974, .invokevirtual 117, 3), (977, .pop, 1), (978, .goto 577, 3), (981, .aload_n 1, 1), (982, .aload_n 0, 1), (983, .iload_n 3, 1), (984, .iconst 1, 1), (985, .iadd, 1), (986, .iaload, 1), (987, .invokevirtual 118, 3), (990, .pop, 1), (991, .aload_n 2, 1), (992, .aload_n 0, 1), (993, .iload_n 3, 1), (994, .iconst 1, 1), (995, .iadd, 1), (996, .iaload, 1), (997, .invokevirtual 121, 3), (1000, .pop, 1)] = true := by decide +kernel
theorem dL_law_941 : decode cL_law 941 = .ok (.pop, 1) := dq_get dL_law_941_t 0 rfl
theorem dL_law_942 : decode cL_law 942 = .ok (.aload_n 2, 1) := dq_get dL_law_941_t 1 rfl
theorem dL_law_943 : decode cL_law 943 = .ok (.aload_n 0, 1) := dq_get dL_law_941_t 2 rfl
theorem dL_law_944 : decode cL_law 944 = .ok (.iload_n 3, 1) := dq_get dL_law_941_t 3 rfl
theorem dL_law_945 : decode cL_law 945 = .ok (.iconst 1, 1) := dq_get dL_law_941_t 4 rfl
theorem dL_law_946 : decode cL_law 946 = .ok (.iadd, 1) := dq_get dL_law_941_t 5 rfl
theorem dL_law_947 : decode cL_law 947 = .ok (.iaload, 1) := dq_get dL_law_941_t 6 rfl
theorem dL_law_948 : decode cL_law 948 = .ok (.invokevirtual 109, 3) := dq_get dL_law_941_t 7 rfl
theorem dL_law_951 : decode cL_law 951 = .ok (.pop, 1) := dq_get dL_law_941_t 8 rfl
theorem dL_law_952 : decode cL_law 952 = .ok (.goto 603, 3) := dq_get dL_law_941_t 9 rfl
theorem dL_law_955 : decode cL_law 955 = .ok (.aload_n 1, 1) := dq_get dL_law_941_t 10 rfl
theorem dL_law_956 : decode cL_law 956 = .ok (.invokevirtual 110, 3) := dq_get dL_law_941_t 11 rfl
theorem dL_law_959 : decode cL_law 959 = .ok (.pop, 1) := dq_get dL_law_941_t 12 rfl
theorem dL_law_960 : decode cL_law 960 = .ok (.aload_n 2, 1) := dq_get dL_law_941_t 13 rfl
theorem dL_law_961 : decode cL_law 961 = .ok (.invokevirtual 113, 3) := dq_get dL_law_941_t 14 rfl
theorem dL_law_964 : decode cL_law 964 = .ok (.pop, 1) := dq_get dL_law_941_t 15 rfl
theorem dL_law_965 : decode cL_law 965 = .ok (.goto 590, 3) := dq_get dL_law_941_t 16 rfl
theorem dL_law_968 : decode cL_law 968 = .ok (.aload_n 1, 1) := dq_get dL_law_941_t 17 rfl
theorem dL_law_969 : decode cL_law 969 = .ok (.invokevirtual 114, 3) := dq_get dL_law_941_t 18 rfl
theorem dL_law_972 : decode cL_law 972 = .ok (.pop, 1) := dq_get dL_law_941_t 19 rfl
theorem dL_law_973 : decode cL_law 973 = .ok (.aload_n 2, 1) := dq_get dL_law_941_t 20 rfl
theorem dL_law_974 : decode cL_law 974 = .ok (.invokevirtual 117, 3) := dq_get dL_law_941_t 21 rfl
theorem dL_law_977 : decode cL_law 977 = .ok (.pop, 1) := dq_get dL_law_941_t 22 rfl
theorem dL_law_978 : decode cL_law 978 = .ok (.goto 577, 3) := dq_get dL_law_941_t 23 rfl
theorem dL_law_981 : decode cL_law 981 = .ok (.aload_n 1, 1) := dq_get dL_law_941_t 24 rfl
theorem dL_law_982 : decode cL_law 982 = .ok (.aload_n 0, 1) := dq_get dL_law_941_t 25 rfl
theorem dL_law_983 : decode cL_law 983 = .ok (.iload_n 3, 1) := dq_get dL_law_941_t 26 rfl
theorem dL_law_984 : decode cL_law 984 = .ok (.iconst 1, 1) := dq_get dL_law_941_t 27 rfl
theorem dL_law_985 : decode cL_law 985 = .ok (.iadd, 1) := dq_get dL_law_941_t 28 rfl
theorem dL_law_986 : decode cL_law 986 = .ok (.iaload, 1) := dq_get dL_law_941_t 29 rfl
theorem dL_law_987 : decode cL_law 987 = .ok (.invokevirtual 118, 3) := dq_get dL_law_941_t 30 rfl
theorem dL_law_990 : decode cL_law 990 = .ok (.pop, 1) := dq_get dL_law_941_t 31 rfl
theorem dL_law_991 : decode cL_law 991 = .ok (.aload_n 2, 1) := dq_get dL_law_941_t 32 rfl
theorem dL_law_992 : decode cL_law 992 = .ok (.aload_n 0, 1) := dq_get dL_law_941_t 33 rfl
theorem dL_law_993 : decode cL_law 993 = .ok (.iload_n 3, 1) := dq_get dL_law_941_t 34 rfl
theorem dL_law_994 : decode cL_law 994 = .ok (.iconst 1, 1) := dq_get dL_law_941_t 35 rfl
theorem dL_law_995 : decode cL_law 995 = .ok (.iadd, 1) := dq_get dL_law_941_t 36 rfl
theorem dL_law_996 : decode cL_law 996 = .ok (.iaload, 1) := dq_get dL_law_941_t 37 rfl
theorem dL_law_997 : decode cL_law 997 = .ok (.invokevirtual 121, 3) := dq_get dL_law_941_t 38 rfl
theorem dL_law_1000 : decode cL_law 1000 = .ok (.pop, 1) := dq_get dL_law_941_t 39 rfl
theorem dL_law_1001_t : dqK cL_law.data.toList 0 [(1001, .goto 554, 3), (1004, .aload_n 1, 1), (1005, .aload_n 0, 1), (1006, .iload_n 3, 1), (1007, .iconst 1, 1), (1008, .iadd, 1), (1009, .iaload, 1), (1010, .aload_n 0, 1), (1011, .iload_n 3, 1), (1012, .iconst 2, 1), (1013, .iadd, 1), (1014, .iaload, 1), (1015, .aload_n 0, 1), (1016, .iload_n 3, 1), (1017, .iconst 3, 1), (1018, .iadd, 1), (1019, .iaload, 1), (1020, .invokevirtual 122, 3), (1023, .pop2, 1), (1024, .aload_n 2, 1), (1025, .aload_n 0, 1), (1026, .iload_n 3, 1), (1027, .iconst 1, 1), (1028, .iadd, 1), (1029, .iaload, 1), (1030, .aload_n 0, 1), (1031, .iload_n 3, 1), (1032, .iconst 2, 1), (1033, .iadd, 1), (1034, .iaload, 1), (1035, .aload_n 0, 1), (1036, .iload_n 3, 1), (1037, .iconst 3, 1), (1038, .iadd, 1), (1039, .iaload, 1), (1040, .invokevirtual 126, 3), (1043, .pop2, 1), (1044, .goto 511, 3), (1047, .aload_n 1, 1), (1048, .invokevirtual 127, 3)] = true := by decide +kernel
theorem dL_law_1001 : decode cL_law 1001 = .ok (.goto 554, 3) := dq_get dL_law_1001_t 0 rfl
theorem dL_law_1004 : decode cL_law 1004 = .ok (.aload_n 1, 1) := dq_get dL_law_1001_t 1 rfl
theorem dL_law_1005 : decode cL_law 1005 = .ok (.aload_n 0, 1) := dq_get dL_law_1001_t 2 rfl
theorem dL_law_1006 : decode cL_law 1006 = .ok (.iload_n 3, 1) := dq_get dL_law_1001_t 3 rfl
theorem dL_law_1007 : decode cL_law 1007 = .ok (.iconst 1, 1) := dq_get dL_law_1001_t 4 rfl
theorem dL_law_1008 : decode cL_law 1008 = .ok (.iadd, 1) := dq_get dL_law_1001_t 5 rfl
theorem dL_law_1009 : decode cL_law 1009 = .ok (.iaload, 1) := dq_get dL_law_1001_t 6 rfl
theorem dL_law_1010 : decode cL_law 1010 = .ok (.aload_n 0, 1) := dq_get dL_law_1001_t 7 rfl
theorem dL_law_1011 : decode cL_law 1011 = .ok (.iload_n 3, 1) := dq_get dL_law_1001_t 8 rfl
theorem dL_law_1012 : decode cL_law 1012 = .ok (.iconst 2, 1) := dq_get dL_law_1001_t 9 rfl
theorem dL_law_1013 : decode cL_law 1013 = .ok (.iadd, 1) := dq_get dL_law_1001_t 10 rfl
theorem dL_law_1014 : decode cL_law 1014 = .ok (.iaload, 1) := dq_get dL_law_1001_t 11 rfl
theorem dL_law_1015 : decode cL_law 1015 = .ok (.aload_n 0, 1) := dq_get dL_law_1001_t 12 rfl
theorem dL_law_1016 : decode cL_law 1016 = .ok (.iload_n 3, 1) := dq_get dL_law_1001_t 13 rfl
theorem dL_law_1017 : decode cL_law 1017 = .ok (.iconst 3, 1) := dq_get dL_law_1001_t 14 rfl
theorem dL_law_1018 : decode cL_law 1018 = .ok (.iadd, 1) := dq_get dL_law_1001_t 15 rfl
theorem dL_law_1019 : decode cL_law 1019 = .ok (.iaload, 1) := dq_get dL_law_1001_t 16 rfl
theorem dL_law_1020 : decode cL_law 1020 = .ok (.invokevirtual 122, 3) := dq_get dL_law_1001_t 17 rfl
theorem dL_law_1023 : decode cL_law 1023 = .ok (.pop2, 1) := dq_get dL_law_1001_t 18 rfl
theorem dL_law_1024 : decode cL_law 1024 = .ok (.aload_n 2, 1) := dq_get dL_law_1001_t 19 rfl
theorem dL_law_1025 : decode cL_law 1025 = .ok (.aload_n 0, 1) := dq_get dL_law_1001_t 20 rfl
theorem dL_law_1026 : decode cL_law 1026 = .ok (.iload_n 3, 1) := dq_get dL_law_1001_t 21 rfl
theorem dL_law_1027 : decode cL_law 1027 = .ok (.iconst 1, 1) := dq_get dL_law_1001_t 22 rfl
theorem dL_law_1028 : decode cL_law 1028 = .ok (.iadd, 1) := dq_get dL_law_1001_t 23 rfl
theorem dL_law_1029 : decode cL_law 1029 = .ok (.iaload, 1) := dq_get dL_law_1001_t 24 rfl
theorem dL_law_1030 : decode cL_law 1030 = .ok (.aload_n 0, 1) := dq_get dL_law_1001_t 25 rfl
theorem dL_law_1031 : decode cL_law 1031 = .ok (.iload_n 3, 1) := dq_get dL_law_1001_t 26 rfl
theorem dL_law_1032 : decode cL_law 1032 = .ok (.iconst 2, 1) := dq_get dL_law_1001_t 27 rfl
theorem dL_law_1033 : decode cL_law 1033 = .ok (.iadd, 1) := dq_get dL_law_1001_t 28 rfl
theorem dL_law_1034 : decode cL_law 1034 = .ok (.iaload, 1) := dq_get dL_law_1001_t 29 rfl
theorem dL_law_1035 : decode cL_law 1035 = .ok (.aload_n 0, 1) := dq_get dL_law_1001_t 30 rfl
theorem dL_law_1036 : decode cL_law 1036 = .ok (.iload_n 3, 1) := dq_get dL_law_1001_t 31 rfl
theorem dL_law_1037 : decode cL_law 1037 = .ok (.iconst 3, 1) := dq_get dL_law_1001_t 32 rfl
theorem dL_law_1038 : decode cL_law 1038 = .ok (.iadd, 1) := dq_get dL_law_1001_t 33 rfl
theorem dL_law_1039 : decode cL_law 1039 = .ok (.iaload, 1) := dq_get dL_law_1001_t 34 rfl
theorem dL_law_1040 : decode cL_law 1040 = .ok (.invokevirtual 126, 3) := dq_get dL_law_1001_t 35 rfl
theorem dL_law_1043 : decode cL_law 1043 = .ok (.pop2, 1) := dq_get dL_law_1001_t 36 rfl
theorem dL_law_1044 : decode cL_law 1044 = .ok (.goto 511, 3) := dq_get dL_law_1001_t 37 rfl
theorem dL_law_1047 : decode cL_law 1047 = .ok (.aload_n 1, 1) := dq_get dL_law_1001_t 38 rfl
theorem dL_law_1048 : decode cL_law 1048 = .ok (.invokevirtual 127, 3) := dq_get dL_law_1001_t 39 rfl
theorem dL_law_1051_t : dqK cL_law.data.toList 0 [(1051, .pop, 1), (1052, .aload_n 2, 1), (1053, .invokevirtual 130, 3), (1056, .pop, 1), (1057, .goto 498, 3), (1060, .aload_n 1, 1), (1061, .aload_n 0, 1), (1062, .iload_n 3, 1), (1063, .iconst 1, 1), (1064, .iadd, 1), (1065, .iaload, 1), (1066, .aload_n 0, 1), (1067, .iload_n 3, 1), (1068, .iconst 2, 1), (1069, .iadd, 1), (1070, .iaload, 1), (1071, .invokevirtual 131, 3), (1074, .pop, 1), (1075, .aload_n 2, 1), (1076, .aload_n 0, 1), (1077, .iload_n 3, 1), (1078, .iconst 1, 1), (1079, .iadd, 1), (1080, .iaload, 1), (1081, .aload_n 0, 1), (1082, .iload_n 3, 1), (1083, .iconst 2, 1), (1084, .iadd, 1), (1085, .iaload, 1), (1086, .invokevirtual 134, 3), (1089, .pop, 1), (1090, .goto 465, 3), (1093, .aload_n 1, 1), (1094, .aload_n 0, 1), (1095, .iload_n 3, 1), (1096, .iconst 1, 1), (1097, .iadd, 1), (1098, .iaload, 1), (1099, .invokevirtual 135, 3), (1102, .pop, 1)] = true := by decide +kernel
theorem dL_law_1051 : decode cL_law 1051 = .ok (.pop, 1) := dq_get dL_law_1051_t 0 rfl
theorem dL_law_1052 : decode cL_law 1052 = .ok (.aload_n 2, 1) := dq_get dL_law_1051_t 1 rfl
theorem dL_law_1053 : decode cL_law 1053 = .ok (.invokevirtual 130, 3) := dq_get dL_law_1051_t 2 rfl
theorem dL_law_1056 : decode cL_law 1056 = .ok (.pop, 1) := dq_get dL_law_1051_t 3 rfl
theorem dL_law_1057 : decode cL_law 1057 = .ok (.goto 498, 3) := dq_get dL_law_1051_t 4 rfl
theorem dL_law_1060 : decode cL_law 1060 = .ok (.aload_n 1, 1) := dq_get dL_law_1051_t 5 rfl
theorem dL_law_1061 : decode cL_law 1061 = .ok (.aload_n 0, 1) := dq_get dL_law_1051_t 6 rfl
theorem dL_law_1062 : decode cL_law 1062 = .ok (.iload_n 3, 1) := dq_get dL_law_1051_t 7 rfl
theorem dL_law_1063 : decode cL_law 1063 = .ok (.iconst 1, 1) := dq_get dL_law_1051_t 8 rfl
theorem dL_law_1064 : decode cL_law 1064 = .ok (.iadd, 1) := dq_get dL_law_1051_t 9 rfl
theorem dL_law_1065 : decode cL_law 1065 = .ok (.iaload, 1) := dq_get dL_law_1051_t 10 rfl
theorem dL_law_1066 : decode cL_law 1066 = .ok (.aload_n 0, 1) := dq_get dL_law_1051_t 11 rfl
theorem dL_law_1067 : decode cL_law 1067 = .ok (.iload_n 3, 1) := dq_get dL_law_1051_t 12 rfl
theorem dL_law_1068 : decode cL_law 1068 = .ok (.iconst 2, 1) := dq_get dL_law_1051_t 13 rfl
theorem dL_law_1069 : decode cL_law 1069 = .ok (.iadd, 1) := dq_get dL_law_1051_t 14 rfl
theorem dL_law_1070 : decode cL_law 1070 = .ok (.iaload, 1) := dq_get dL_law_1051_t 15 rfl
theorem dL_law_1071 : decode cL_law 1071 = .ok (.invokevirtual 131, 3) := dq_get dL_law_1051_t 16 rfl
theorem dL_law_1074 : decode cL_law 1074 = .ok (.pop, 1) := dq_get dL_law_1051_t 17 rfl
theorem dL_law_1075 : decode cL_law 1075 = .ok (.aload_n 2, 1) := dq_get dL_law_1051_t 18 rfl
theorem dL_law_1076 : decode cL_law 1076 = .ok (.aload_n 0, 1) := dq_get dL_law_1051_t 19 rfl
theorem dL_law_1077 : decode cL_law 1077 = .ok (.iload_n 3, 1) := dq_get dL_law_1051_t 20 rfl
theorem dL_law_1078 : decode cL_law 1078 = .ok (.iconst 1, 1) := dq_get dL_law_1051_t 21 rfl
theorem dL_law_1079 : decode cL_law 1079 = .ok (.iadd, 1) := dq_get dL_law_1051_t 22 rfl
theorem dL_law_1080 : decode cL_law 1080 = .ok (.iaload, 1) := dq_get dL_law_1051_t 23 rfl
theorem dL_law_1081 : decode cL_law 1081 = .ok (.aload_n 0, 1) := dq_get dL_law_1051_t 24 rfl
theorem dL_law_1082 : decode cL_law 1082 = .ok (.iload_n 3, 1) := dq_get dL_law_1051_t 25 rfl
theorem dL_law_1083 : decode cL_law 1083 = .ok (.iconst 2, 1) := dq_get dL_law_1051_t 26 rfl
theorem dL_law_1084 : decode cL_law 1084 = .ok (.iadd, 1) := dq_get dL_law_1051_t 27 rfl
theorem dL_law_1085 : decode cL_law 1085 = .ok (.iaload, 1) := dq_get dL_law_1051_t 28 rfl
theorem dL_law_1086 : decode cL_law 1086 = .ok (.invokevirtual 134, 3) := dq_get dL_law_1051_t 29 rfl
theorem dL_law_1089 : decode cL_law 1089 = .ok (.pop, 1) := dq_get dL_law_1051_t 30 rfl
theorem dL_law_1090 : decode cL_law 1090 = .ok (.goto 465, 3) := dq_get dL_law_1051_t 31 rfl
theorem dL_law_1093 : decode cL_law 1093 = .ok (.aload_n 1, 1) := dq_get dL_law_1051_t 32 rfl
theorem dL_law_1094 : decode cL_law 1094 = .ok (.aload_n 0, 1) := dq_get dL_law_1051_t 33 rfl
theorem dL_law_1095 : decode cL_law 1095 = .ok (.iload_n 3, 1) := dq_get dL_law_1051_t 34 rfl
theorem dL_law_1096 : decode cL_law 1096 = .ok (.iconst 1, 1) := dq_get dL_law_1051_t 35 rfl
theorem dL_law_1097 : decode cL_law 1097 = .ok (.iadd, 1) := dq_get dL_law_1051_t 36 rfl
theorem dL_law_1098 : decode cL_law 1098 = .ok (.iaload, 1) := dq_get dL_law_1051_t 37 rfl
theorem dL_law_1099 : decode cL_law 1099 = .ok (.invokevirtual 135, 3) := dq_get dL_law_1051_t 38 rfl
theorem dL_law_1102 : decode cL_law 1102 = .ok (.pop, 1) := dq_get dL_law_1051_t 39 rfl
theorem dL_law_1103_t : dqK cL_law.data.toList 0 [(1103, .aload_n 2, 1), (1104, .aload_n 0, 1), (1105, .iload_n 3, 1), (1106, .iconst 1, 1), (1107, .iadd, 1), (1108, .iaload, 1), (1109, .invokevirtual 138, 3), (1112, .pop, 1), (1113, .goto 442, 3), (1116, .aload_n 1, 1), (1117, .aload_n 0, 1), (1118, .iload_n 3, 1), (1119, .iconst 1, 1), (1120, .iadd, 1), (1121, .iaload, 1), (1122, .aload_n 0, 1), (1123, .iload_n 3, 1), (1124, .iconst 2, 1), (1125, .iadd, 1), (1126, .iaload, 1), (1127, .invokevirtual 139, 3), (1130, .pop, 1), (1131, .aload_n 2, 1), (1132, .aload_n 0, 1), (1133, .iload_n 3, 1), (1134, .iconst 1, 1), (1135, .iadd, 1), (1136, .iaload, 1), (1137, .aload_n 0, 1), (1138, .iload_n 3, 1), (1139, .iconst 2, 1), (1140, .iadd, 1), (1141, .iaload, 1), (1142, .invokevirtual 142, 3), (1145, .pop, 1), (1146, .goto 409, 3), (1149, .aload_n 1, 1), (1150, .aload_n 0, 1), (1151, .iload_n 3, 1), (1152, .iconst 1, 1)] = true := by decide +kernel
theorem dL_law_1103 : decode cL_law 1103 = .ok (.aload_n 2, 1) := dq_get dL_law_1103_t 0 rfl
theorem dL_law_1104 : decode cL_law 1104 = .ok (.aload_n 0, 1) := dq_get dL_law_1103_t 1 rfl
theorem dL_law_1105 : decode cL_law 1105 = .ok (.iload_n 3, 1) := dq_get dL_law_1103_t 2 rfl
theorem dL_law_1106 : decode cL_law 1106 = .ok (.iconst 1, 1) := dq_get dL_law_1103_t 3 rfl
theorem dL_law_1107 : decode cL_law 1107 = .ok (.iadd, 1) := dq_get dL_law_1103_t 4 rfl
theorem dL_law_1108 : decode cL_law 1108 = .ok (.iaload, 1) := dq_get dL_law_1103_t 5 rfl
theorem dL_law_1109 : decode cL_law 1109 = .ok (.invokevirtual 138, 3) := dq_get dL_law_1103_t 6 rfl
theorem dL_law_1112 : decode cL_law 1112 = .ok (.pop, 1) := dq_get dL_law_1103_t 7 rfl
theorem dL_law_1113 : decode cL_law 1113 = .ok (.goto 442, 3) := dq_get dL_law_1103_t 8 rfl
theorem dL_law_1116 : decode cL_law 1116 = .ok (.aload_n 1, 1) := dq_get dL_law_1103_t 9 rfl
theorem dL_law_1117 : decode cL_law 1117 = .ok (.aload_n 0, 1) := dq_get dL_law_1103_t 10 rfl
theorem dL_law_1118 : decode cL_law 1118 = .ok (.iload_n 3, 1) := dq_get dL_law_1103_t 11 rfl
theorem dL_law_1119 : decode cL_law 1119 = .ok (.iconst 1, 1) := dq_get dL_law_1103_t 12 rfl
theorem dL_law_1120 : decode cL_law 1120 = .ok (.iadd, 1) := dq_get dL_law_1103_t 13 rfl
theorem dL_law_1121 : decode cL_law 1121 = .ok (.iaload, 1) := dq_get dL_law_1103_t 14 rfl
theorem dL_law_1122 : decode cL_law 1122 = .ok (.aload_n 0, 1) := dq_get dL_law_1103_t 15 rfl
theorem dL_law_1123 : decode cL_law 1123 = .ok (.iload_n 3, 1) := dq_get dL_law_1103_t 16 rfl
theorem dL_law_1124 : decode cL_law 1124 = .ok (.iconst 2, 1) := dq_get dL_law_1103_t 17 rfl
theorem dL_law_1125 : decode cL_law 1125 = .ok (.iadd, 1) := dq_get dL_law_1103_t 18 rfl
theorem dL_law_1126 : decode cL_law 1126 = .ok (.iaload, 1) := dq_get dL_law_1103_t 19 rfl
theorem dL_law_1127 : decode cL_law 1127 = .ok (.invokevirtual 139, 3) := dq_get dL_law_1103_t 20 rfl
theorem dL_law_1130 : decode cL_law 1130 = .ok (.pop, 1) := dq_get dL_law_1103_t 21 rfl
theorem dL_law_1131 : decode cL_law 1131 = .ok (.aload_n 2, 1) := dq_get dL_law_1103_t 22 rfl
theorem dL_law_1132 : decode cL_law 1132 = .ok (.aload_n 0, 1) := dq_get dL_law_1103_t 23 rfl
theorem dL_law_1133 : decode cL_law 1133 = .ok (.iload_n 3, 1) := dq_get dL_law_1103_t 24 rfl
theorem dL_law_1134 : decode cL_law 1134 = .ok (.iconst 1, 1) := dq_get dL_law_1103_t 25 rfl
theorem dL_law_1135 : decode cL_law 1135 = .ok (.iadd, 1) := dq_get dL_law_1103_t 26 rfl
theorem dL_law_1136 : decode cL_law 1136 = .ok (.iaload, 1) := dq_get dL_law_1103_t 27 rfl
theorem dL_law_1137 : decode cL_law 1137 = .ok (.aload_n 0, 1) := dq_get dL_law_1103_t 28 rfl
theorem dL_law_1138 : decode cL_law 1138 = .ok (.iload_n 3, 1) := dq_get dL_law_1103_t 29 rfl
theorem dL_law_1139 : decode cL_law 1139 = .ok (.iconst 2, 1) := dq_get dL_law_1103_t 30 rfl
theorem dL_law_1140 : decode cL_law 1140 = .ok (.iadd, 1) := dq_get dL_law_1103_t 31 rfl
theorem dL_law_1141 : decode cL_law 1141 = .ok (.iaload, 1) := dq_get dL_law_1103_t 32 rfl
theorem dL_law_1142 : decode cL_law 1142 = .ok (.invokevirtual 142, 3) := dq_get dL_law_1103_t 33 rfl
theorem dL_law_1145 : decode cL_law 1145 = .ok (.pop, 1) := dq_get dL_law_1103_t 34 rfl
theorem dL_law_1146 : decode cL_law 1146 = .ok (.goto 409, 3) := dq_get dL_law_1103_t 35 rfl
theorem dL_law_1149 : decode cL_law 1149 = .ok (.aload_n 1, 1) := dq_get dL_law_1103_t 36 rfl
theorem dL_law_1150 : decode cL_law 1150 = .ok (.aload_n 0, 1) := dq_get dL_law_1103_t 37 rfl
theorem dL_law_1151 : decode cL_law 1151 = .ok (.iload_n 3, 1) := dq_get dL_law_1103_t 38 rfl
theorem dL_law_1152 : decode cL_law 1152 = .ok (.iconst 1, 1) := dq_get dL_law_1103_t 39 rfl
theorem dL_law_1153_t : dqK cL_law.data.toList 0 [(1153, .iadd, 1), (1154, .iaload, 1), (1155, .invokevirtual 143, 3), (1158, .pop, 1), (1159, .aload_n 2, 1), (1160, .aload_n 0, 1), (1161, .iload_n 3, 1), (1162, .iconst 1, 1), (1163, .iadd, 1), (1164, .iaload, 1), (1165, .invokevirtual 146, 3), (1168, .pop, 1), (1169, .goto 386, 3), (1172, .aload_n 1, 1), (1173, .aload_n 0, 1), (1174, .iload_n 3, 1), (1175, .iconst 1, 1), (1176, .iadd, 1), (1177, .iaload, 1), (1178, .invokevirtual 147, 3), (1181, .pop, 1), (1182, .aload_n 2, 1), (1183, .aload_n 0, 1), (1184, .iload_n 3, 1), (1185, .iconst 1, 1), (1186, .iadd, 1), (1187, .iaload, 1), (1188, .invokevirtual 150, 3), (1191, .pop, 1), (1192, .goto 363, 3), (1195, .aload_n 1, 1), (1196, .aload_n 0, 1), (1197, .iload_n 3, 1), (1198, .iconst 1, 1), (1199, .iadd, 1), (1200, .iaload, 1), (1201, .aload_n 0, 1), (1202, .iload_n 3, 1), (1203, .iconst 2, 1), (1204, .iadd, 1)] = true := by decide +kernel
theorem dL_law_1153 : decode cL_law 1153 = .ok (.iadd, 1) := dq_get dL_law_1153_t 0 rfl
theorem dL_law_1154 : decode cL_law 1154 = .ok (.iaload, 1) := dq_get dL_law_1153_t 1 rfl
theorem dL_law_1155 : decode cL_law 1155 = .ok (.invokevirtual 143, 3) := dq_get dL_law_1153_t 2 rfl
theorem dL_law_1158 : decode cL_law 1158 = .ok (.pop, 1) := dq_get dL_law_1153_t 3 rfl
theorem dL_law_1159 : decode cL_law 1159 = .ok (.aload_n 2, 1) := dq_get dL_law_1153_t 4 rfl
theorem dL_law_1160 : decode cL_law 1160 = .ok (.aload_n 0, 1) := dq_get dL_law_1153_t 5 rfl
theorem dL_law_1161 : decode cL_law 1161 = .ok (.iload_n 3, 1) := dq_get dL_law_1153_t 6 rfl
theorem dL_law_1162 : decode cL_law 1162 = .ok (.iconst 1, 1) := dq_get dL_law_1153_t 7 rfl
theorem dL_law_1163 : decode cL_law 1163 = .ok (.iadd, 1) := dq_get dL_law_1153_t 8 rfl
theorem dL_law_1164 : decode cL_law 1164 = .ok (.iaload, 1) := dq_get dL_law_1153_t 9 rfl
theorem dL_law_1165 : decode cL_law 1165 = .ok (.invokevirtual 146, 3) := dq_get dL_law_1153_t 10 rfl
theorem dL_law_1168 : decode cL_law 1168 = .ok (.pop, 1) := dq_get dL_law_1153_t 11 rfl
theorem dL_law_1169 : decode cL_law 1169 = .ok (.goto 386, 3) := dq_get dL_law_1153_t 12 rfl
theorem dL_law_1172 : decode cL_law 1172 = .ok (.aload_n 1, 1) := dq_get dL_law_1153_t 13 rfl
theorem dL_law_1173 : decode cL_law 1173 = .ok (.aload_n 0, 1) := dq_get dL_law_1153_t 14 rfl
theorem dL_law_1174 : decode cL_law 1174 = .ok (.iload_n 3, 1) := dq_get dL_law_1153_t 15 rfl
theorem dL_law_1175 : decode cL_law 1175 = .ok (.iconst 1, 1) := dq_get dL_law_1153_t 16 rfl
theorem dL_law_1176 : decode cL_law 1176 = .ok (.iadd, 1) := dq_get dL_law_1153_t 17 rfl
theorem dL_law_1177 : decode cL_law 1177 = .ok (.iaload, 1) := dq_get dL_law_1153_t 18 rfl
theorem dL_law_1178 : decode cL_law 1178 = .ok (.invokevirtual 147, 3) := dq_get dL_law_1153_t 19 rfl
theorem dL_law_1181 : decode cL_law 1181 = .ok (.pop, 1) := dq_get dL_law_1153_t 20 rfl
theorem dL_law_1182 : decode cL_law 1182 = .ok (.aload_n 2, 1) := dq_get dL_law_1153_t 21 rfl
theorem dL_law_1183 : decode cL_law 1183 = .ok (.aload_n 0, 1) := dq_get dL_law_1153_t 22 rfl
theorem dL_law_1184 : decode cL_law 1184 = .ok (.iload_n 3, 1) := dq_get dL_law_1153_t 23 rfl
theorem dL_law_1185 : decode cL_law 1185 = .ok (.iconst 1, 1) := dq_get dL_law_1153_t 24 rfl
theorem dL_law_1186 : decode cL_law 1186 = .ok (.iadd, 1) := dq_get dL_law_1153_t 25 rfl
theorem dL_law_1187 : decode cL_law 1187 = .ok (.iaload, 1) := dq_get dL_law_1153_t 26 rfl
theorem dL_law_1188 : decode cL_law 1188 = .ok (.invokevirtual 150, 3) := dq_get dL_law_1153_t 27 rfl
theorem dL_law_1191 : decode cL_law 1191 = .ok (.pop, 1) := dq_get dL_law_1153_t 28 rfl
theorem dL_law_1192 : decode cL_law 1192 = .ok (.goto 363, 3) := dq_get dL_law_1153_t 29 rfl
theorem dL_law_1195 : decode cL_law 1195 = .ok (.aload_n 1, 1) := dq_get dL_law_1153_t 30 rfl
theorem dL_law_1196 : decode cL_law 1196 = .ok (.aload_n 0, 1) := dq_get dL_law_1153_t 31 rfl
theorem dL_law_1197 : decode cL_law 1197 = .ok (.iload_n 3, 1) := dq_get dL_law_1153_t 32 rfl
theorem dL_law_1198 : decode cL_law 1198 = .ok (.iconst 1, 1) := dq_get dL_law_1153_t 33 rfl
theorem dL_law_1199 : decode cL_law 1199 = .ok (.iadd, 1) := dq_get dL_law_1153_t 34 rfl
theorem dL_law_1200 : decode cL_law 1200 = .ok (.iaload, 1) := dq_get dL_law_1153_t 35 rfl
theorem dL_law_1201 : decode cL_law 1201 = .ok (.aload_n 0, 1) := dq_get dL_law_1153_t 36 rfl
theorem dL_law_1202 : decode cL_law 1202 = .ok (.iload_n 3, 1) := dq_get dL_law_1153_t 37 rfl
theorem dL_law_1203 : decode cL_law 1203 = .ok (.iconst 2, 1) := dq_get dL_law_1153_t 38 rfl
theorem dL_law_1204 : decode cL_law 1204 = .ok (.iadd, 1) := dq_get dL_law_1153_t 39 rfl
theorem dL_law_1205_t : dqK cL_law.data.toList 0 [(1205, .iaload, 1), (1206, .aload_n 0, 1), (1207, .iload_n 3, 1), (1208, .iconst 3, 1), (1209, .iadd, 1), (1210, .iaload, 1), (1211, .aload_n 0, 1), (1212, .iload_n 3, 1), (1213, .iconst 4, 1), (1214, .iadd, 1), (1215, .iaload, 1), (1216, .invokevirtual 151, 3), (1219, .pop2, 1), (1220, .aload_n 2, 1), (1221, .aload_n 0, 1), (1222, .iload_n 3, 1), (1223, .iconst 1, 1), (1224, .iadd, 1), (1225, .iaload, 1), (1226, .aload_n 0, 1), (1227, .iload_n 3, 1), (1228, .iconst 2, 1), (1229, .iadd, 1), (1230, .iaload, 1), (1231, .aload_n 0, 1), (1232, .iload_n 3, 1), (1233, .iconst 3, 1), (1234, .iadd, 1), (1235, .iaload, 1), (1236, .aload_n 0, 1), (1237, .iload_n 3, 1), (1238, .iconst 4, 1), (1239, .iadd, 1), (1240, .iaload, 1), (1241, .invokevirtual 155, 3), (1244, .pop2, 1), (1245, .goto 310, 3), (1248, .aload_n 1, 1), (1249, .aload_n 0, 1), (1250, .iload_n 3, 1)] = true := by decide +kernel
theorem dL_law_1205 : decode cL_law 1205 = .ok (.iaload, 1) := dq_get dL_law_1205_t 0 rfl
theorem dL_law_1206 : decode cL_law 1206 = .ok (.aload_n 0, 1) := dq_get dL_law_1205_t 1 rfl
theorem dL_law_1207 : decode cL_law 1207 = .ok (.iload_n 3, 1) := dq_get dL_law_1205_t 2 rfl
theorem dL_law_1208 : decode cL_law 1208 = .ok (.iconst 3, 1) := dq_get dL_law_1205_t 3 rfl
theorem dL_law_1209 : decode cL_law 1209 = .ok (.iadd, 1) := dq_get dL_law_1205_t 4 rfl
theorem dL_law_1210 : decode cL_law 1210 = .ok (.iaload, 1) := dq_get dL_law_1205_t 5 rfl
theorem dL_law_1211 : decode cL_law 1211 = .ok (.aload_n 0, 1) := dq_get dL_law_1205_t 6 rfl
theorem dL_law_1212 : decode cL_law 1212 = .ok (.iload_n 3, 1) := dq_get dL_law_1205_t 7 rfl
theorem dL_law_1213 : decode cL_law 1213 = .ok (.iconst 4, 1) := dq_get dL_law_1205_t 8 rfl
theorem dL_law_1214 : decode cL_law 1214 = .ok (.iadd, 1) := dq_get dL_law_1205_t 9 rfl
theorem dL_law_1215 : decode cL_law 1215 = .ok (.iaload, 1) := dq_get dL_law_1205_t 10 rfl
theorem dL_law_1216 : decode cL_law 1216 = .ok (.invokevirtual 151, 3) := dq_get dL_law_1205_t 11 rfl
theorem dL_law_1219 : decode cL_law 1219 = .ok (.pop2, 1) := dq_get dL_law_1205_t 12 rfl
theorem dL_law_1220 : decode cL_law 1220 = .ok (.aload_n 2, 1) := dq_get dL_law_1205_t 13 rfl
theorem dL_law_1221 : decode cL_law 1221 = .ok (.aload_n 0, 1) := dq_get dL_law_1205_t 14 rfl
theorem dL_law_1222 : decode cL_law 1222 = .ok (.iload_n 3, 1) := dq_get dL_law_1205_t 15 rfl
theorem dL_law_1223 : decode cL_law 1223 = .ok (.iconst 1, 1) := dq_get dL_law_1205_t 16 rfl
theorem dL_law_1224 : decode cL_law 1224 = .ok (.iadd, 1) := dq_get dL_law_1205_t 17 rfl
theorem dL_law_1225 : decode cL_law 1225 = .ok (.iaload, 1) := dq_get dL_law_1205_t 18 rfl
theorem dL_law_1226 : decode cL_law 1226 = .ok (.aload_n 0, 1) := dq_get dL_law_1205_t 19 rfl
theorem dL_law_1227 : decode cL_law 1227 = .ok (.iload_n 3, 1) := dq_get dL_law_1205_t 20 rfl
theorem dL_law_1228 : decode cL_law 1228 = .ok (.iconst 2, 1) := dq_get dL_law_1205_t 21 rfl
theorem dL_law_1229 : decode cL_law 1229 = .ok (.iadd, 1) := dq_get dL_law_1205_t 22 rfl
theorem dL_law_1230 : decode cL_law 1230 = .ok (.iaload, 1) := dq_get dL_law_1205_t 23 rfl
theorem dL_law_1231 : decode cL_law 1231 = .ok (.aload_n 0, 1) := dq_get dL_law_1205_t 24 rfl
theorem dL_law_1232 : decode cL_law 1232 = .ok (.iload_n 3, 1) := dq_get dL_law_1205_t 25 rfl
theorem dL_law_1233 : decode cL_law 1233 = .ok (.iconst 3, 1) := dq_get dL_law_1205_t 26 rfl
theorem dL_law_1234 : decode cL_law 1234 = .ok (.iadd, 1) := dq_get dL_law_1205_t 27 rfl
theorem dL_law_1235 : decode cL_law 1235 = .ok (.iaload, 1) := dq_get dL_law_1205_t 28 rfl
theorem dL_law_1236 : decode cL_law 1236 = .ok (.aload_n 0, 1) := dq_get dL_law_1205_t 29 rfl
theorem dL_law_1237 : decode cL_law 1237 = .ok (.iload_n 3, 1) := dq_get dL_law_1205_t 30 rfl
theorem dL_law_1238 : decode cL_law 1238 = .ok (.iconst 4, 1) := dq_get dL_law_1205_t 31 rfl
theorem dL_law_1239 : decode cL_law 1239 = .ok (.iadd, 1) := dq_get dL_law_1205_t 32 rfl
theorem dL_law_1240 : decode cL_law 1240 = .ok (.iaload, 1) := dq_get dL_law_1205_t 33 rfl
theorem dL_law_1241 : decode cL_law 1241 = .ok (.invokevirtual 155, 3) := dq_get dL_law_1205_t 34 rfl
theorem dL_law_1244 : decode cL_law 1244 = .ok (.pop2, 1) := dq_get dL_law_1205_t 35 rfl
theorem dL_law_1245 : decode cL_law 1245 = .ok (.goto 310, 3) := dq_get dL_law_1205_t 36 rfl
theorem dL_law_1248 : decode cL_law 1248 = .ok (.aload_n 1, 1) := dq_get dL_law_1205_t 37 rfl
theorem dL_law_1249 : decode cL_law 1249 = .ok (.aload_n 0, 1) := dq_get dL_law_1205_t 38 rfl
theorem dL_law_1250 : decode cL_law 1250 = .ok (.iload_n 3, 1) := dq_get dL_law_1205_t 39 rfl
theorem dL_law_1251_t : dqK cL_law.data.toList 0 [(1251, .iconst 1, 1), (1252, .iadd, 1), (1253, .iaload, 1), (1254, .aload_n 0, 1), (1255, .iload_n 3, 1), (1256, .iconst 2, 1), (1257, .iadd, 1), (1258, .iaload, 1), (1259, .aload_n 0, 1), (1260, .iload_n 3, 1), (1261, .iconst 3, 1), (1262, .iadd, 1), (1263, .iaload, 1), (1264, .invokevirtual 156, 3), (1267, .pop2, 1), (1268, .aload_n 2, 1), (1269, .aload_n 0, 1), (1270, .iload_n 3, 1), (1271, .iconst 1, 1), (1272, .iadd, 1), (1273, .iaload, 1), (1274, .aload_n 0, 1), (1275, .iload_n 3, 1), (1276, .iconst 2, 1), (1277, .iadd, 1), (1278, .iaload, 1), (1279, .aload_n 0, 1), (1280, .iload_n 3, 1), (1281, .iconst 3, 1), (1282, .iadd, 1), (1283, .iaload, 1), (1284, .invokevirtual 159, 3), (1287, .pop2, 1), (1288, .goto 267, 3), (1291, .aload_n 1, 1), (1292, .aload_n 0, 1), (1293, .iload_n 3, 1), (1294, .iconst 1, 1), (1295, .iadd, 1), (1296, .iaload, 1)] = true := by decide +kernel
theorem dL_law_1251 : decode cL_law 1251 = .ok (.iconst 1, 1) := dq_get dL_law_1251_t 0 rfl
theorem dL_law_1252 : decode cL_law 1252 = .ok (.iadd, 1) := dq_get dL_law_1251_t 1 rfl
theorem dL_law_1253 : decode cL_law 1253 = .ok (.iaload, 1) := dq_get dL_law_1251_t 2 rfl
theorem dL_law_1254 : decode cL_law 1254 = .ok (.aload_n 0, 1) := dq_get dL_law_1251_t 3 rfl
theorem dL_law_1255 : decode cL_law 1255 = .ok (.iload_n 3, 1) := dq_get dL_law_1251_t 4 rfl
theorem dL_law_1256 : decode cL_law 1256 = .ok (.iconst 2, 1) := dq_get dL_law_1251_t 5 rfl
theorem dL_law_1257 : decode cL_law 1257 = .ok (.iadd, 1) := dq_get dL_law_1251_t 6 rfl
theorem dL_law_1258 : decode cL_law 1258 = .ok (.iaload, 1) := dq_get dL_law_1251_t 7 rfl
theorem dL_law_1259 : decode cL_law 1259 = .ok (.aload_n 0, 1) := dq_get dL_law_1251_t 8 rfl
theorem dL_law_1260 : decode cL_law 1260 = .ok (.iload_n 3, 1) := dq_get dL_law_1251_t 9 rfl
theorem dL_law_1261 : decode cL_law 1261 = .ok (.iconst 3, 1) := dq_get dL_law_1251_t 10 rfl
theorem dL_law_1262 : decode cL_law 1262 = .ok (.iadd, 1) := dq_get dL_law_1251_t 11 rfl
theorem dL_law_1263 : decode cL_law 1263 = .ok (.iaload, 1) := dq_get dL_law_1251_t 12 rfl
theorem dL_law_1264 : decode cL_law 1264 = .ok (.invokevirtual 156, 3) := dq_get dL_law_1251_t 13 rfl
theorem dL_law_1267 : decode cL_law 1267 = .ok (.pop2, 1) := dq_get dL_law_1251_t 14 rfl
theorem dL_law_1268 : decode cL_law 1268 = .ok (.aload_n 2, 1) := dq_get dL_law_1251_t 15 rfl
theorem dL_law_1269 : decode cL_law 1269 = .ok (.aload_n 0, 1) := dq_get dL_law_1251_t 16 rfl
theorem dL_law_1270 : decode cL_law 1270 = .ok (.iload_n 3, 1) := dq_get dL_law_1251_t 17 rfl
theorem dL_law_1271 : decode cL_law 1271 = .ok (.iconst 1, 1) := dq_get dL_law_1251_t 18 rfl
theorem dL_law_1272 : decode cL_law 1272 = .ok (.iadd, 1) := dq_get dL_law_1251_t 19 rfl
theorem dL_law_1273 : decode cL_law 1273 = .ok (.iaload, 1) := dq_get dL_law_1251_t 20 rfl
theorem dL_law_1274 : decode cL_law 1274 = .ok (.aload_n 0, 1) := dq_get dL_law_1251_t 21 rfl
theorem dL_law_1275 : decode cL_law 1275 = .ok (.iload_n 3, 1) := dq_get dL_law_1251_t 22 rfl
theorem dL_law_1276 : decode cL_law 1276 = .ok (.iconst 2, 1) := dq_get dL_law_1251_t 23 rfl
theorem dL_law_1277 : decode cL_law 1277 = .ok (.iadd, 1) := dq_get dL_law_1251_t 24 rfl
theorem dL_law_1278 : decode cL_law 1278 = .ok (.iaload, 1) := dq_get dL_law_1251_t 25 rfl
theorem dL_law_1279 : decode cL_law 1279 = .ok (.aload_n 0, 1) := dq_get dL_law_1251_t 26 rfl
theorem dL_law_1280 : decode cL_law 1280 = .ok (.iload_n 3, 1) := dq_get dL_law_1251_t 27 rfl
theorem dL_law_1281 : decode cL_law 1281 = .ok (.iconst 3, 1) := dq_get dL_law_1251_t 28 rfl
theorem dL_law_1282 : decode cL_law 1282 = .ok (.iadd, 1) := dq_get dL_law_1251_t 29 rfl
theorem dL_law_1283 : decode cL_law 1283 = .ok (.iaload, 1) := dq_get dL_law_1251_t 30 rfl
theorem dL_law_1284 : decode cL_law 1284 = .ok (.invokevirtual 159, 3) := dq_get dL_law_1251_t 31 rfl
theorem dL_law_1287 : decode cL_law 1287 = .ok (.pop2, 1) := dq_get dL_law_1251_t 32 rfl
theorem dL_law_1288 : decode cL_law 1288 = .ok (.goto 267, 3) := dq_get dL_law_1251_t 33 rfl
theorem dL_law_1291 : decode cL_law 1291 = .ok (.aload_n 1, 1) := dq_get dL_law_1251_t 34 rfl
theorem dL_law_1292 : decode cL_law 1292 = .ok (.aload_n 0, 1) := dq_get dL_law_1251_t 35 rfl
theorem dL_law_1293 : decode cL_law 1293 = .ok (.iload_n 3, 1) := dq_get dL_law_1251_t 36 rfl
theorem dL_law_1294 : decode cL_law 1294 = .ok (.iconst 1, 1) := dq_get dL_law_1251_t 37 rfl
theorem dL_law_1295 : decode cL_law 1295 = .ok (.iadd, 1) := dq_get dL_law_1251_t 38 rfl
theorem dL_law_1296 : decode cL_law 1296 = .ok (.iaload, 1) := dq_get dL_law_1251_t 39 rfl
theorem dL_law_1297_t : dqK cL_law.data.toList 0 [(1297, .aload_n 0, 1), (1298, .iload_n 3, 1), (1299, .iconst 2, 1), (1300, .iadd, 1), (1301, .iaload, 1), (1302, .aload_n 0, 1), (1303, .iload_n 3, 1), (1304, .iconst 3, 1), (1305, .iadd, 1), (1306, .iaload, 1), (1307, .invokevirtual 160, 3), (1310, .pop, 1), (1311, .aload_n 2, 1), (1312, .aload_n 0, 1), (1313, .iload_n 3, 1), (1314, .iconst 1, 1), (1315, .iadd, 1), (1316, .iaload, 1), (1317, .aload_n 0, 1), (1318, .iload_n 3, 1), (1319, .iconst 2, 1), (1320, .iadd, 1), (1321, .iaload, 1), (1322, .aload_n 0, 1), (1323, .iload_n 3, 1), (1324, .iconst 3, 1), (1325, .iadd, 1), (1326, .iaload, 1), (1327, .invokevirtual 163, 3), (1330, .pop, 1), (1331, .goto 224, 3), (1334, .aload_n 1, 1), (1335, .aload_n 0, 1), (1336, .iload_n 3, 1), (1337, .iconst 1, 1), (1338, .iadd, 1), (1339, .iaload, 1), (1340, .invokevirtual 164, 3), (1343, .pop, 1), (1344, .aload_n 2, 1)] = true := by decide +kernel
theorem dL_law_1297 : decode cL_law 1297 = .ok (.aload_n 0, 1) := dq_get dL_law_1297_t 0 rfl
theorem dL_law_1298 : decode cL_law 1298 = .ok (.iload_n 3, 1) := dq_get dL_law_1297_t 1 rfl
theorem dL_law_1299 : decode cL_law 1299 = .ok (.iconst 2, 1) := dq_get dL_law_1297_t 2 rfl
theorem dL_law_1300 : decode cL_law 1300 = .ok (.iadd, 1) := dq_get dL_law_1297_t 3 rfl
theorem dL_law_1301 : decode cL_law 1301 = .ok (.iaload, 1) := dq_get dL_law_1297_t 4 rfl
theorem dL_law_1302 : decode cL_law 1302 = .ok (.aload_n 0, 1) := dq_get dL_law_1297_t 5 rfl
theorem dL_law_1303 : decode cL_law 1303 = .ok (.iload_n 3, 1) := dq_get dL_law_1297_t 6 rfl
theorem dL_law_1304 : decode cL_law 1304 = .ok (.iconst 3, 1) := dq_get dL_law_1297_t 7 rfl
theorem dL_law_1305 : decode cL_law 1305 = .ok (.iadd, 1) := dq_get dL_law_1297_t 8 rfl
theorem dL_law_1306 : decode cL_law 1306 = .ok (.iaload, 1) := dq_get dL_law_1297_t 9 rfl
theorem dL_law_1307 : decode cL_law 1307 = .ok (.invokevirtual 160, 3) := dq_get dL_law_1297_t 10 rfl
theorem dL_law_1310 : decode cL_law 1310 = .ok (.pop, 1) := dq_get dL_law_1297_t 11 rfl
theorem dL_law_1311 : decode cL_law 1311 = .ok (.aload_n 2, 1) := dq_get dL_law_1297_t 12 rfl
theorem dL_law_1312 : decode cL_law 1312 = .ok (.aload_n 0, 1) := dq_get dL_law_1297_t 13 rfl
theorem dL_law_1313 : decode cL_law 1313 = .ok (.iload_n 3, 1) := dq_get dL_law_1297_t 14 rfl
theorem dL_law_1314 : decode cL_law 1314 = .ok (.iconst 1, 1) := dq_get dL_law_1297_t 15 rfl
theorem dL_law_1315 : decode cL_law 1315 = .ok (.iadd, 1) := dq_get dL_law_1297_t 16 rfl
theorem dL_law_1316 : decode cL_law 1316 = .ok (.iaload, 1) := dq_get dL_law_1297_t 17 rfl
theorem dL_law_1317 : decode cL_law 1317 = .ok (.aload_n 0, 1) := dq_get dL_law_1297_t 18 rfl
theorem dL_law_1318 : decode cL_law 1318 = .ok (.iload_n 3, 1) := dq_get dL_law_1297_t 19 rfl
theorem dL_law_1319 : decode cL_law 1319 = .ok (.iconst 2, 1) := dq_get dL_law_1297_t 20 rfl
theorem dL_law_1320 : decode cL_law 1320 = .ok (.iadd, 1) := dq_get dL_law_1297_t 21 rfl
theorem dL_law_1321 : decode cL_law 1321 = .ok (.iaload, 1) := dq_get dL_law_1297_t 22 rfl
theorem dL_law_1322 : decode cL_law 1322 = .ok (.aload_n 0, 1) := dq_get dL_law_1297_t 23 rfl
theorem dL_law_1323 : decode cL_law 1323 = .ok (.iload_n 3, 1) := dq_get dL_law_1297_t 24 rfl
theorem dL_law_1324 : decode cL_law 1324 = .ok (.iconst 3, 1) := dq_get dL_law_1297_t 25 rfl
theorem dL_law_1325 : decode cL_law 1325 = .ok (.iadd, 1) := dq_get dL_law_1297_t 26 rfl
theorem dL_law_1326 : decode cL_law 1326 = .ok (.iaload, 1) := dq_get dL_law_1297_t 27 rfl
theorem dL_law_1327 : decode cL_law 1327 = .ok (.invokevirtual 163, 3) := dq_get dL_law_1297_t 28 rfl
theorem dL_law_1330 : decode cL_law 1330 = .ok (.pop, 1) := dq_get dL_law_1297_t 29 rfl
theorem dL_law_1331 : decode cL_law 1331 = .ok (.goto 224, 3) := dq_get dL_law_1297_t 30 rfl
theorem dL_law_1334 : decode cL_law 1334 = .ok (.aload_n 1, 1) := dq_get dL_law_1297_t 31 rfl
theorem dL_law_1335 : decode cL_law 1335 = .ok (.aload_n 0, 1) := dq_get dL_law_1297_t 32 rfl
theorem dL_law_1336 : decode cL_law 1336 = .ok (.iload_n 3, 1) := dq_get dL_law_1297_t 33 rfl
theorem dL_law_1337 : decode cL_law 1337 = .ok (.iconst 1, 1) := dq_get dL_law_1297_t 34 rfl
theorem dL_law_1338 : decode cL_law 1338 = .ok (.iadd, 1) := dq_get dL_law_1297_t 35 rfl
theorem dL_law_1339 : decode cL_law 1339 = .ok (.iaload, 1) := dq_get dL_law_1297_t 36 rfl
theorem dL_law_1340 : decode cL_law 1340 = .ok (.invokevirtual 164, 3) := dq_get dL_law_1297_t 37 rfl
theorem dL_law_1343 : decode cL_law 1343 = .ok (.pop, 1) := dq_get dL_law_1297_t 38 rfl
theorem dL_law_1344 : decode cL_law 1344 = .ok (.aload_n 2, 1) := dq_get dL_law_1297_t 39 rfl
theorem dL_law_1345_t : dqK cL_law.data.toList 0 [(1345, .aload_n 0, 1), (1346, .iload_n 3, 1), (1347, .iconst 1, 1), (1348, .iadd, 1), (1349, .iaload, 1), (1350, .invokevirtual 167, 3), (1353, .pop, 1), (1354, .goto 201, 3), (1357, .aload_n 1, 1), (1358, .aload_n 0, 1), (1359, .iload_n 3, 1), (1360, .iconst 1, 1), (1361, .iadd, 1), (1362, .iaload, 1), (1363, .invokevirtual 168, 3), (1366, .pop, 1), (1367, .aload_n 2, 1), (1368, .aload_n 0, 1), (1369, .iload_n 3, 1), (1370, .iconst 1, 1), (1371, .iadd, 1), (1372, .iaload, 1), (1373, .invokevirtual 171, 3), (1376, .pop, 1), (1377, .goto 178, 3), (1380, .aload_n 1, 1), (1381, .aload_n 0, 1), (1382, .iload_n 3, 1), (1383, .iconst 1, 1), (1384, .iadd, 1), (1385, .iaload, 1), (1386, .aload_n 0, 1), (1387, .iload_n 3, 1), (1388, .iconst 2, 1), (1389, .iadd, 1), (1390, .iaload, 1), (1391, .aload_n 0, 1), (1392, .iload_n 3, 1), (1393, .iconst 3, 1), (1394, .iadd, 1)] = true := by decide +kernel
theorem dL_law_1345 : decode cL_law 1345 = .ok (.aload_n 0, 1) := dq_get dL_law_1345_t 0 rfl
theorem dL_law_1346 : decode cL_law 1346 = .ok (.iload_n 3, 1) := dq_get dL_law_1345_t 1 rfl
theorem dL_law_1347 : decode cL_law 1347 = .ok (.iconst 1, 1) := dq_get dL_law_1345_t 2 rfl
theorem dL_law_1348 : decode cL_law 1348 = .ok (.iadd, 1) := dq_get dL_law_1345_t 3 rfl
theorem dL_law_1349 : decode cL_law 1349 = .ok (.iaload, 1) := dq_get dL_law_1345_t 4 rfl
theorem dL_law_1350 : decode cL_law 1350 = .ok (.invokevirtual 167, 3) := dq_get dL_law_1345_t 5 rfl
theorem dL_law_1353 : decode cL_law 1353 = .ok (.pop, 1) := dq_get dL_law_1345_t 6 rfl
theorem dL_law_1354 : decode cL_law 1354 = .ok (.goto 201, 3) := dq_get dL_law_1345_t 7 rfl
theorem dL_law_1357 : decode cL_law 1357 = .ok (.aload_n 1, 1) := dq_get dL_law_1345_t 8 rfl
theorem dL_law_1358 : decode cL_law 1358 = .ok (.aload_n 0, 1) := dq_get dL_law_1345_t 9 rfl
theorem dL_law_1359 : decode cL_law 1359 = .ok (.iload_n 3, 1) := dq_get dL_law_1345_t 10 rfl
theorem dL_law_1360 : decode cL_law 1360 = .ok (.iconst 1, 1) := dq_get dL_law_1345_t 11 rfl
theorem dL_law_1361 : decode cL_law 1361 = .ok (.iadd, 1) := dq_get dL_law_1345_t 12 rfl
theorem dL_law_1362 : decode cL_law 1362 = .ok (.iaload, 1) := dq_get dL_law_1345_t 13 rfl
theorem dL_law_1363 : decode cL_law 1363 = .ok (.invokevirtual 168, 3) := dq_get dL_law_1345_t 14 rfl
theorem dL_law_1366 : decode cL_law 1366 = .ok (.pop, 1) := dq_get dL_law_1345_t 15 rfl
theorem dL_law_1367 : decode cL_law 1367 = .ok (.aload_n 2, 1) := dq_get dL_law_1345_t 16 rfl
theorem dL_law_1368 : decode cL_law 1368 = .ok (.aload_n 0, 1) := dq_get dL_law_1345_t 17 rfl
theorem dL_law_1369 : decode cL_law 1369 = .ok (.iload_n 3, 1) := dq_get dL_law_1345_t 18 rfl
theorem dL_law_1370 : decode cL_law 1370 = .ok (.iconst 1, 1) := dq_get dL_law_1345_t 19 rfl
theorem dL_law_1371 : decode cL_law 1371 = .ok (.iadd, 1) := dq_get dL_law_1345_t 20 rfl
theorem dL_law_1372 : decode cL_law 1372 = .ok (.iaload, 1) := dq_get dL_law_1345_t 21 rfl
theorem dL_law_1373 : decode cL_law 1373 = .ok (.invokevirtual 171, 3) := dq_get dL_law_1345_t 22 rfl
theorem dL_law_1376 : decode cL_law 1376 = .ok (.pop, 1) := dq_get dL_law_1345_t 23 rfl
theorem dL_law_1377 : decode cL_law 1377 = .ok (.goto 178, 3) := dq_get dL_law_1345_t 24 rfl
theorem dL_law_1380 : decode cL_law 1380 = .ok (.aload_n 1, 1) := dq_get dL_law_1345_t 25 rfl
theorem dL_law_1381 : decode cL_law 1381 = .ok (.aload_n 0, 1) := dq_get dL_law_1345_t 26 rfl
theorem dL_law_1382 : decode cL_law 1382 = .ok (.iload_n 3, 1) := dq_get dL_law_1345_t 27 rfl
theorem dL_law_1383 : decode cL_law 1383 = .ok (.iconst 1, 1) := dq_get dL_law_1345_t 28 rfl
theorem dL_law_1384 : decode cL_law 1384 = .ok (.iadd, 1) := dq_get dL_law_1345_t 29 rfl
theorem dL_law_1385 : decode cL_law 1385 = .ok (.iaload, 1) := dq_get dL_law_1345_t 30 rfl
theorem dL_law_1386 : decode cL_law 1386 = .ok (.aload_n 0, 1) := dq_get dL_law_1345_t 31 rfl
theorem dL_law_1387 : decode cL_law 1387 = .ok (.iload_n 3, 1) := dq_get dL_law_1345_t 32 rfl
theorem dL_law_1388 : decode cL_law 1388 = .ok (.iconst 2, 1) := dq_get dL_law_1345_t 33 rfl
theorem dL_law_1389 : decode cL_law 1389 = .ok (.iadd, 1) := dq_get dL_law_1345_t 34 rfl
theorem dL_law_1390 : decode cL_law 1390 = .ok (.iaload, 1) := dq_get dL_law_1345_t 35 rfl
theorem dL_law_1391 : decode cL_law 1391 = .ok (.aload_n 0, 1) := dq_get dL_law_1345_t 36 rfl
theorem dL_law_1392 : decode cL_law 1392 = .ok (.iload_n 3, 1) := dq_get dL_law_1345_t 37 rfl
theorem dL_law_1393 : decode cL_law 1393 = .ok (.iconst 3, 1) := dq_get dL_law_1345_t 38 rfl
theorem dL_law_1394 : decode cL_law 1394 = .ok (.iadd, 1) := dq_get dL_law_1345_t 39 rfl
theorem dL_law_1395_t : dqK cL_law.data.toList 0 [(1395, .iaload, 1), (1396, .invokevirtual 172, 3), (1399, .pop, 1), (1400, .aload_n 2, 1), (1401, .aload_n 0, 1), (1402, .iload_n 3, 1), (1403, .iconst 1, 1), (1404, .iadd, 1), (1405, .iaload, 1), (1406, .aload_n 0, 1), (1407, .iload_n 3, 1), (1408, .iconst 2, 1), (1409, .iadd, 1), (1410, .iaload, 1), (1411, .aload_n 0, 1), (1412, .iload_n 3, 1), (1413, .iconst 3, 1), (1414, .iadd, 1), (1415, .iaload, 1), (1416, .invokevirtual 175, 3), (1419, .pop, 1), (1420, .goto 135, 3), (1423, .aload_n 1, 1), (1424, .aload_n 0, 1), (1425, .iload_n 3, 1), (1426, .iconst 1, 1), (1427, .iadd, 1), (1428, .iaload, 1), (1429, .aload_n 0, 1), (1430, .iload_n 3, 1), (1431, .iconst 2, 1), (1432, .iadd, 1), (1433, .iaload, 1), (1434, .aload_n 0, 1), (1435, .iload_n 3, 1), (1436, .iconst 3, 1), (1437, .iadd, 1), (1438, .iaload, 1), (1439, .invokevirtual 176, 3), (1442, .pop, 1)] = true := by decide +kernel
theorem dL_law_1395 : decode cL_law 1395 = .ok (.iaload, 1) := dq_get dL_law_1395_t 0 rfl
theorem dL_law_1396 : decode cL_law 1396 = .ok (.invokevirtual 172, 3) := dq_get dL_law_1395_t 1 rfl
theorem dL_law_1399 : decode cL_law 1399 = .ok (.pop, 1) := dq_get dL_law_1395_t 2 rfl
theorem dL_law_1400 : decode cL_law 1400 = .ok (.aload_n 2, 1) := dq_get dL_law_1395_t 3 rfl
theorem dL_law_1401 : decode cL_law 1401 = .ok (.aload_n 0, 1) := dq_get dL_law_1395_t 4 rfl
theorem dL_law_1402 : decode cL_law 1402 = .ok (.iload_n 3, 1) := dq_get dL_law_1395_t 5 rfl
theorem dL_law_1403 : decode cL_law 1403 = .ok (.iconst 1, 1) := dq_get dL_law_1395_t 6 rfl
theorem dL_law_1404 : decode cL_law 1404 = .ok (.iadd, 1) := dq_get dL_law_1395_t 7 rfl
theorem dL_law_1405 : decode cL_law 1405 = .ok (.iaload, 1) := dq_get dL_law_1395_t 8 rfl
theorem dL_law_1406 : decode cL_law 1406 = .ok (.aload_n 0, 1) := dq_get dL_law_1395_t 9 rfl
theorem dL_law_1407 : decode cL_law 1407 = .ok (.iload_n 3, 1) := dq_get dL_law_1395_t 10 rfl
theorem dL_law_1408 : decode cL_law 1408 = .ok (.iconst 2, 1) := dq_get dL_law_1395_t 11 rfl
theorem dL_law_1409 : decode cL_law 1409 = .ok (.iadd, 1) := dq_get dL_law_1395_t 12 rfl
theorem dL_law_1410 : decode cL_law 1410 = .ok (.iaload, 1) := dq_get dL_law_1395_t 13 rfl
theorem dL_law_1411 : decode cL_law 1411 = .ok (.aload_n 0, 1) := dq_get dL_law_1395_t 14 rfl
theorem dL_law_1412 : decode cL_law 1412 = .ok (.iload_n 3, 1) := dq_get dL_law_1395_t 15 rfl
theorem dL_law_1413 : decode cL_law 1413 = .ok (.iconst 3, 1) := dq_get dL_law_1395_t 16 rfl
theorem dL_law_1414 : decode cL_law 1414 = .ok (.iadd, 1) := dq_get dL_law_1395_t 17 rfl
theorem dL_law_1415 : decode cL_law 1415 = .ok (.iaload, 1) := dq_get dL_law_1395_t 18 rfl
theorem dL_law_1416 : decode cL_law 1416 = .ok (.invokevirtual 175, 3) := dq_get dL_law_1395_t 19 rfl
theorem dL_law_1419 : decode cL_law 1419 = .ok (.pop, 1) := dq_get dL_law_1395_t 20 rfl
theorem dL_law_1420 : decode cL_law 1420 = .ok (.goto 135, 3) := dq_get dL_law_1395_t 21 rfl
theorem dL_law_1423 : decode cL_law 1423 = .ok (.aload_n 1, 1) := dq_get dL_law_1395_t 22 rfl
theorem dL_law_1424 : decode cL_law 1424 = .ok (.aload_n 0, 1) := dq_get dL_law_1395_t 23 rfl
theorem dL_law_1425 : decode cL_law 1425 = .ok (.iload_n 3, 1) := dq_get dL_law_1395_t 24 rfl
theorem dL_law_1426 : decode cL_law 1426 = .ok (.iconst 1, 1) := dq_get dL_law_1395_t 25 rfl
theorem dL_law_1427 : decode cL_law 1427 = .ok (.iadd, 1) := dq_get dL_law_1395_t 26 rfl
theorem dL_law_1428 : decode cL_law 1428 = .ok (.iaload, 1) := dq_get dL_law_1395_t 27 rfl
theorem dL_law_1429 : decode cL_law 1429 = .ok (.aload_n 0, 1) := dq_get dL_law_1395_t 28 rfl
theorem dL_law_1430 : decode cL_law 1430 = .ok (.iload_n 3, 1) := dq_get dL_law_1395_t 29 rfl
theorem dL_law_1431 : decode cL_law 1431 = .ok (.iconst 2, 1) := dq_get dL_law_1395_t 30 rfl
theorem dL_law_1432 : decode cL_law 1432 = .ok (.iadd, 1) := dq_get dL_law_1395_t 31 rfl
theorem dL_law_1433 : decode cL_law 1433 = .ok (.iaload, 1) := dq_get dL_law_1395_t 32 rfl
theorem dL_law_1434 : decode cL_law 1434 = .ok (.aload_n 0, 1) := dq_get dL_law_1395_t 33 rfl
theorem dL_law_1435 : decode cL_law 1435 = .ok (.iload_n 3, 1) := dq_get dL_law_1395_t 34 rfl
theorem dL_law_1436 : decode cL_law 1436 = .ok (.iconst 3, 1) := dq_get dL_law_1395_t 35 rfl
theorem dL_law_1437 : decode cL_law 1437 = .ok (.iadd, 1) := dq_get dL_law_1395_t 36 rfl
theorem dL_law_1438 : decode cL_law 1438 = .ok (.iaload, 1) := dq_get dL_law_1395_t 37 rfl
theorem dL_law_1439 : decode cL_law 1439 = .ok (.invokevirtual 176, 3) := dq_get dL_law_1395_t 38 rfl
theorem dL_law_1442 : decode cL_law 1442 = .ok (.pop, 1) := dq_get dL_law_1395_t 39 rfl
theorem dL_law_1443_t : dqK cL_law.data.toList 0 [(1443, .aload_n 2, 1), (1444, .aload_n 0, 1), (1445, .iload_n 3, 1), (1446, .iconst 1, 1), (1447, .iadd, 1), (1448, .iaload, 1), (1449, .aload_n 0, 1), (1450, .iload_n 3, 1), (1451, .iconst 2, 1), (1452, .iadd, 1), (1453, .iaload, 1), (1454, .aload_n 0, 1), (1455, .iload_n 3, 1), (1456, .iconst 3, 1), (1457, .iadd, 1), (1458, .iaload, 1), (1459, .invokevirtual 179, 3), (1462, .pop, 1), (1463, .goto 92, 3), (1466, .aload_n 1, 1), (1467, .aload_n 0, 1), (1468, .iload_n 3, 1), (1469, .iconst 1, 1), (1470, .iadd, 1), (1471, .iaload, 1), (1472, .aload_n 0, 1), (1473, .iload_n 3, 1), (1474, .iconst 2, 1), (1475, .iadd, 1), (1476, .iaload, 1), (1477, .aload_n 0, 1), (1478, .iload_n 3, 1), (1479, .iconst 3, 1), (1480, .iadd, 1), (1481, .iaload, 1), (1482, .aload_n 0, 1), (1483, .iload_n 3, 1), (1484, .iconst 4, 1), (1485, .iadd, 1), (1486, .iaload, 1)] = true := by decide +kernel
theorem dL_law_1443 : decode cL_law 1443 = .ok (.aload_n 2, 1) := dq_get dL_law_1443_t 0 rfl
theorem dL_law_1444 : decode cL_law 1444 = .ok (.aload_n 0, 1) := dq_get dL_law_1443_t 1 rfl
theorem dL_law_1445 : decode cL_law 1445 = .ok (.iload_n 3, 1) := dq_get dL_law_1443_t 2 rfl
theorem dL_law_1446 : decode cL_law 1446 = .ok (.iconst 1, 1) := dq_get dL_law_1443_t 3 rfl
theorem dL_law_1447 : decode cL_law 1447 = .ok (.iadd, 1) := dq_get dL_law_1443_t 4 rfl
theorem dL_law_1448 : decode cL_law 1448 = .ok (.iaload, 1) := dq_get dL_law_1443_t 5 rfl
theorem dL_law_1449 : decode cL_law 1449 = .ok (.aload_n 0, 1) := dq_get dL_law_1443_t 6 rfl
theorem dL_law_1450 : decode cL_law 1450 = .ok (.iload_n 3, 1) := dq_get dL_law_1443_t 7 rfl
theorem dL_law_1451 : decode cL_law 1451 = .ok (.iconst 2, 1) := dq_get dL_law_1443_t 8 rfl
theorem dL_law_1452 : decode cL_law 1452 = .ok (.iadd, 1) := dq_get dL_law_1443_t 9 rfl
theorem dL_law_1453 : decode cL_law 1453 = .ok (.iaload, 1) := dq_get dL_law_1443_t 10 rfl
theorem dL_law_1454 : decode cL_law 1454 = .ok (.aload_n 0, 1) := dq_get dL_law_1443_t 11 rfl
theorem dL_law_1455 : decode cL_law 1455 = .ok (.iload_n 3, 1) := dq_get dL_law_1443_t 12 rfl
theorem dL_law_1456 : decode cL_law 1456 = .ok (.iconst 3, 1) := dq_get dL_law_1443_t 13 rfl
theorem dL_law_1457 : decode cL_law 1457 = .ok (.iadd, 1) := dq_get dL_law_1443_t 14 rfl
theorem dL_law_1458 : decode cL_law 1458 = .ok (.iaload, 1) := dq_get dL_law_1443_t 15 rfl
theorem dL_law_1459 : decode cL_law 1459 = .ok (.invokevirtual 179, 3) := dq_get dL_law_1443_t 16 rfl
theorem dL_law_1462 : decode cL_law 1462 = .ok (.pop, 1) := dq_get dL_law_1443_t 17 rfl
theorem dL_law_1463 : decode cL_law 1463 = .ok (.goto 92, 3) := dq_get dL_law_1443_t 18 rfl
theorem dL_law_1466 : decode cL_law 1466 = .ok (.aload_n 1, 1) := dq_get dL_law_1443_t 19 rfl
theorem dL_law_1467 : decode cL_law 1467 = .ok (.aload_n 0, 1) := dq_get dL_law_1443_t 20 rfl
theorem dL_law_1468 : decode cL_law 1468 = .ok (.iload_n 3, 1) := dq_get dL_law_1443_t 21 rfl
theorem dL_law_1469 : decode cL_law 1469 = .ok (.iconst 1, 1) := dq_get dL_law_1443_t 22 rfl
theorem dL_law_1470 : decode cL_law 1470 = .ok (.iadd, 1) := dq_get dL_law_1443_t 23 rfl
theorem dL_law_1471 : decode cL_law 1471 = .ok (.iaload, 1) := dq_get dL_law_1443_t 24 rfl
theorem dL_law_1472 : decode cL_law 1472 = .ok (.aload_n 0, 1) := dq_get dL_law_1443_t 25 rfl
theorem dL_law_1473 : decode cL_law 1473 = .ok (.iload_n 3, 1) := dq_get dL_law_1443_t 26 rfl
theorem dL_law_1474 : decode cL_law 1474 = .ok (.iconst 2, 1) := dq_get dL_law_1443_t 27 rfl
theorem dL_law_1475 : decode cL_law 1475 = .ok (.iadd, 1) := dq_get dL_law_1443_t 28 rfl
theorem dL_law_1476 : decode cL_law 1476 = .ok (.iaload, 1) := dq_get dL_law_1443_t 29 rfl
theorem dL_law_1477 : decode cL_law 1477 = .ok (.aload_n 0, 1) := dq_get dL_law_1443_t 30 rfl
theorem dL_law_1478 : decode cL_law 1478 = .ok (.iload_n 3, 1) := dq_get dL_law_1443_t 31 rfl
theorem dL_law_1479 : decode cL_law 1479 = .ok (.iconst 3, 1) := dq_get dL_law_1443_t 32 rfl
theorem dL_law_1480 : decode cL_law 1480 = .ok (.iadd, 1) := dq_get dL_law_1443_t 33 rfl
theorem dL_law_1481 : decode cL_law 1481 = .ok (.iaload, 1) := dq_get dL_law_1443_t 34 rfl
theorem dL_law_1482 : decode cL_law 1482 = .ok (.aload_n 0, 1) := dq_get dL_law_1443_t 35 rfl
theorem dL_law_1483 : decode cL_law 1483 = .ok (.iload_n 3, 1) := dq_get dL_law_1443_t 36 rfl
theorem dL_law_1484 : decode cL_law 1484 = .ok (.iconst 4, 1) := dq_get dL_law_1443_t 37 rfl
theorem dL_law_1485 : decode cL_law 1485 = .ok (.iadd, 1) := dq_get dL_law_1443_t 38 rfl
theorem dL_law_1486 : decode cL_law 1486 = .ok (.iaload, 1) := dq_get dL_law_1443_t 39 rfl
theorem dL_law_1487_t : dqK cL_law.data.toList 0 [(1487, .invokevirtual 180, 3), (1490, .aload_n 2, 1), (1491, .aload_n 0, 1), (1492, .iload_n 3, 1), (1493, .iconst 1, 1), (1494, .iadd, 1), (1495, .iaload, 1), (1496, .aload_n 0, 1), (1497, .iload_n 3, 1), (1498, .iconst 2, 1), (1499, .iadd, 1), (1500, .iaload, 1), (1501, .aload_n 0, 1), (1502, .iload_n 3, 1), (1503, .iconst 3, 1), (1504, .iadd, 1), (1505, .iaload, 1), (1506, .aload_n 0, 1), (1507, .iload_n 3, 1), (1508, .iconst 4, 1), (1509, .iadd, 1), (1510, .iaload, 1), (1511, .invokevirtual 184, 3), (1514, .if_icmp .eq 41, 3), (1517, .iconst 0, 1), (1518, .ireturn, 1), (1519, .aload_n 1, 1), (1520, .invokevirtual 185, 3), (1523, .pop, 1), (1524, .aload_n 2, 1), (1525, .invokevirtual 188, 3), (1528, .pop, 1), (1529, .goto 26, 3), (1532, .aload_n 1, 1), (1533, .aload_n 0, 1), (1534, .iload_n 3, 1), (1535, .iconst 1, 1), (1536, .iadd, 1), (1537, .iaload, 1), (1538, .invokevirtual 189, 3)] = true := by decide +kernel
theorem dL_law_1487 : decode cL_law 1487 = .ok (.invokevirtual 180, 3) := dq_get dL_law_1487_t 0 rfl
theorem dL_law_1490 : decode cL_law 1490 = .ok (.aload_n 2, 1) := dq_get dL_law_1487_t 1 rfl
theorem dL_law_1491 : decode cL_law 1491 = .ok (.aload_n 0, 1) := dq_get dL_law_1487_t 2 rfl
theorem dL_law_1492 : decode cL_law 1492 = .ok (.iload_n 3, 1) := dq_get dL_law_1487_t 3 rfl
theorem dL_law_1493 : decode cL_law 1493 = .ok (.iconst 1, 1) := dq_get dL_law_1487_t 4 rfl
theorem dL_law_1494 : decode cL_law 1494 = .ok (.iadd, 1) := dq_get dL_law_1487_t 5 rfl
theorem dL_law_1495 : decode cL_law 1495 = .ok (.iaload, 1) := dq_get dL_law_1487_t 6 rfl
theorem dL_law_1496 : decode cL_law 1496 = .ok (.aload_n 0, 1) := dq_get dL_law_1487_t 7 rfl
theorem dL_law_1497 : decode cL_law 1497 = .ok (.iload_n 3, 1) := dq_get dL_law_1487_t 8 rfl
theorem dL_law_1498 : decode cL_law 1498 = .ok (.iconst 2, 1) := dq_get dL_law_1487_t 9 rfl
theorem dL_law_1499 : decode cL_law 1499 = .ok (.iadd, 1) := dq_get dL_law_1487_t 10 rfl
theorem dL_law_1500 : decode cL_law 1500 = .ok (.iaload, 1) := dq_get dL_law_1487_t 11 rfl
theorem dL_law_1501 : decode cL_law 1501 = .ok (.aload_n 0, 1) := dq_get dL_law_1487_t 12 rfl
theorem dL_law_1502 : decode cL_law 1502 = .ok (.iload_n 3, 1) := dq_get dL_law_1487_t 13 rfl
theorem dL_law_1503 : decode cL_law 1503 = .ok (.iconst 3, 1) := dq_get dL_law_1487_t 14 rfl
theorem dL_law_1504 : decode cL_law 1504 = .ok (.iadd, 1) := dq_get dL_law_1487_t 15 rfl
theorem dL_law_1505 : decode cL_law 1505 = .ok (.iaload, 1) := dq_get dL_law_1487_t 16 rfl
theorem dL_law_1506 : decode cL_law 1506 = .ok (.aload_n 0, 1) := dq_get dL_law_1487_t 17 rfl
theorem dL_law_1507 : decode cL_law 1507 = .ok (.iload_n 3, 1) := dq_get dL_law_1487_t 18 rfl
theorem dL_law_1508 : decode cL_law 1508 = .ok (.iconst 4, 1) := dq_get dL_law_1487_t 19 rfl
theorem dL_law_1509 : decode cL_law 1509 = .ok (.iadd, 1) := dq_get dL_law_1487_t 20 rfl
theorem dL_law_1510 : decode cL_law 1510 = .ok (.iaload, 1) := dq_get dL_law_1487_t 21 rfl
theorem dL_law_1511 : decode cL_law 1511 = .ok (.invokevirtual 184, 3) := dq_get dL_law_1487_t 22 rfl
theorem dL_law_1514 : decode cL_law 1514 = .ok (.if_icmp .eq 41, 3) := dq_get dL_law_1487_t 23 rfl
theorem dL_law_1517 : decode cL_law 1517 = .ok (.iconst 0, 1) := dq_get dL_law_1487_t 24 rfl
theorem dL_law_1518 : decode cL_law 1518 = .ok (.ireturn, 1) := dq_get dL_law_1487_t 25 rfl
theorem dL_law_1519 : decode cL_law 1519 = .ok (.aload_n 1, 1) := dq_get dL_law_1487_t 26 rfl
theorem dL_law_1520 : decode cL_law 1520 = .ok (.invokevirtual 185, 3) := dq_get dL_law_1487_t 27 rfl
theorem dL_law_1523 : decode cL_law 1523 = .ok (.pop, 1) := dq_get dL_law_1487_t 28 rfl
theorem dL_law_1524 : decode cL_law 1524 = .ok (.aload_n 2, 1) := dq_get dL_law_1487_t 29 rfl
theorem dL_law_1525 : decode cL_law 1525 = .ok (.invokevirtual 188, 3) := dq_get dL_law_1487_t 30 rfl
theorem dL_law_1528 : decode cL_law 1528 = .ok (.pop, 1) := dq_get dL_law_1487_t 31 rfl
theorem dL_law_1529 : decode cL_law 1529 = .ok (.goto 26, 3) := dq_get dL_law_1487_t 32 rfl
theorem dL_law_1532 : decode cL_law 1532 = .ok (.aload_n 1, 1) := dq_get dL_law_1487_t 33 rfl
theorem dL_law_1533 : decode cL_law 1533 = .ok (.aload_n 0, 1) := dq_get dL_law_1487_t 34 rfl
theorem dL_law_1534 : decode cL_law 1534 = .ok (.iload_n 3, 1) := dq_get dL_law_1487_t 35 rfl
theorem dL_law_1535 : decode cL_law 1535 = .ok (.iconst 1, 1) := dq_get dL_law_1487_t 36 rfl
theorem dL_law_1536 : decode cL_law 1536 = .ok (.iadd, 1) := dq_get dL_law_1487_t 37 rfl
theorem dL_law_1537 : decode cL_law 1537 = .ok (.iaload, 1) := dq_get dL_law_1487_t 38 rfl
theorem dL_law_1538 : decode cL_law 1538 = .ok (.invokevirtual 189, 3) := dq_get dL_law_1487_t 39 rfl
theorem dL_law_1541_t : dqK cL_law.data.toList 0 [(1541, .pop, 1), (1542, .aload_n 2, 1), (1543, .aload_n 0, 1), (1544, .iload_n 3, 1), (1545, .iconst 1, 1), (1546, .iadd, 1), (1547, .iaload, 1), (1548, .invokevirtual 192, 3), (1551, .pop, 1), (1552, .goto 3, 3), (1555, .iinc 3 5, 3), (1558, .goto (-1540), 3), (1561, .iconst 1, 1), (1562, .ireturn, 1)] = true := by decide +kernel
theorem dL_law_1541 : decode cL_law 1541 = .ok (.pop, 1) := dq_get dL_law_1541_t 0 rfl
theorem dL_law_1542 : decode cL_law 1542 = .ok (.aload_n 2, 1) := dq_get dL_law_1541_t 1 rfl
theorem dL_law_1543 : decode cL_law 1543 = .ok (.aload_n 0, 1) := dq_get dL_law_1541_t 2 rfl
theorem dL_law_1544 : decode cL_law 1544 = .ok (.iload_n 3, 1) := dq_get dL_law_1541_t 3 rfl
theorem dL_law_1545 : decode cL_law 1545 = .ok (.iconst 1, 1) := dq_get dL_law_1541_t 4 rfl
theorem dL_law_1546 : decode cL_law 1546 = .ok (.iadd, 1) := dq_get dL_law_1541_t 5 rfl
theorem dL_law_1547 : decode cL_law 1547 = .ok (.iaload, 1) := dq_get dL_law_1541_t 6 rfl
theorem dL_law_1548 : decode cL_law 1548 = .ok (.invokevirtual 192, 3) := dq_get dL_law_1541_t 7 rfl
theorem dL_law_1551 : decode cL_law 1551 = .ok (.pop, 1) := dq_get dL_law_1541_t 8 rfl
theorem dL_law_1552 : decode cL_law 1552 = .ok (.goto 3, 3) := dq_get dL_law_1541_t 9 rfl
theorem dL_law_1555 : decode cL_law 1555 = .ok (.iinc 3 5, 3) := dq_get dL_law_1541_t 10 rfl
theorem dL_law_1558 : decode cL_law 1558 = .ok (.goto (-1540), 3) := dq_get dL_law_1541_t 11 rfl
theorem dL_law_1561 : decode cL_law 1561 = .ok (.iconst 1, 1) := dq_get dL_law_1541_t 12 rfl
theorem dL_law_1562 : decode cL_law 1562 = .ok (.ireturn, 1) := dq_get dL_law_1541_t 13 rfl
