theorem dt_get {cc : ByteArray} {tab : DT} (h : dtOK cc tab = true) (i : Nat) {q : Nat × Instr × Nat} (hq : tab[i]? = some q) : decode cc q.1 = .ok q.2 := dt_ok h q (List.mem_of_getElem? hq)
def D_lw_0 : DT := [(0, .new 8, 3), (3, .dup, 1), (4, .invokespecial 19, 3), (7, .astore_n 1, 1), (8, .new 20, 3), (11, .dup, 1), (12, .invokespecial 22, 3), (15, .astore_n 2, 1), (16, .iconst 1, 1), (17, .newarray .long, 2), (19, .astore_n 3, 1), (20, .iconst 0, 1), (21, .istore 4, 2), (23, .iload 4, 2), (25, .aload_n 0, 1), (26, .arraylength, 1), (27, .bipush 10, 2), (29, .isub, 1), (30, .if_icmp .gt 2168, 3), (33, .aload_n 0, 1), (34, .iload 4, 2), (36, .iaload, 1), (37, .bipush 63, 2), (39, .iand, 1), (40, .tableswitch 2152 0 47 #[208, 233, 258, 271, 311, 348, 385, 446, 495, 544, 593, 630, 667, 704, 765, 814, 827, 840, 853, 890, 903, 940, 989, 1038, 1075, 1136, 1161, 1198, 1235, 1272, 1341, 1378, 1415, 1440, 1513, 1538, 1587, 1600, 1727, 1916, 1941, 2010, 2023, 2036, 2049, 2074, 2099, 2124], 208), (248, .aload_n 1, 1), (249, .aload_n 0, 1), (250, .iload 4, 2), (252, .iconst 1, 1), (253, .iadd, 1), (254, .iaload, 1), (255, .invokevirtual 23, 3), (258, .pop, 1), (259, .aload_n 2, 1), (260, .aload_n 0, 1), (261, .iload 4, 2), (263, .iconst 1, 1), (264, .iadd, 1), (265, .iaload, 1), (266, .invokevirtual 27, 3)]
theorem D_lw_0_ok : dtOK code D_lw_0 = true := by decide +kernel
theorem d_lw_0 : decode code 0 = .ok (.new 8, 3) := dt_get (q := (0, .new 8, 3)) D_lw_0_ok 0 rfl
theorem d_lw_3 : decode code 3 = .ok (.dup, 1) := dt_get (q := (3, .dup, 1)) D_lw_0_ok 1 rfl
theorem d_lw_4 : decode code 4 = .ok (.invokespecial 19, 3) := dt_get (q := (4, .invokespecial 19, 3)) D_lw_0_ok 2 rfl
theorem d_lw_7 : decode code 7 = .ok (.astore_n 1, 1) := dt_get (q := (7, .astore_n 1, 1)) D_lw_0_ok 3 rfl
theorem d_lw_8 : decode code 8 = .ok (.new 20, 3) := dt_get (q := (8, .new 20, 3)) D_lw_0_ok 4 rfl
theorem d_lw_11 : decode code 11 = .ok (.dup, 1) := dt_get (q := (11, .dup, 1)) D_lw_0_ok 5 rfl
theorem d_lw_12 : decode code 12 = .ok (.invokespecial 22, 3) := dt_get (q := (12, .invokespecial 22, 3)) D_lw_0_ok 6 rfl
theorem d_lw_15 : decode code 15 = .ok (.astore_n 2, 1) := dt_get (q := (15, .astore_n 2, 1)) D_lw_0_ok 7 rfl
theorem d_lw_16 : decode code 16 = .ok (.iconst 1, 1) := dt_get (q := (16, .iconst 1, 1)) D_lw_0_ok 8 rfl
theorem d_lw_17 : decode code 17 = .ok (.newarray .long, 2) := dt_get (q := (17, .newarray .long, 2)) D_lw_0_ok 9 rfl
theorem d_lw_19 : decode code 19 = .ok (.astore_n 3, 1) := dt_get (q := (19, .astore_n 3, 1)) D_lw_0_ok 10 rfl
theorem d_lw_20 : decode code 20 = .ok (.iconst 0, 1) := dt_get (q := (20, .iconst 0, 1)) D_lw_0_ok 11 rfl
theorem d_lw_21 : decode code 21 = .ok (.istore 4, 2) := dt_get (q := (21, .istore 4, 2)) D_lw_0_ok 12 rfl
theorem d_lw_23 : decode code 23 = .ok (.iload 4, 2) := dt_get (q := (23, .iload 4, 2)) D_lw_0_ok 13 rfl
theorem d_lw_25 : decode code 25 = .ok (.aload_n 0, 1) := dt_get (q := (25, .aload_n 0, 1)) D_lw_0_ok 14 rfl
theorem d_lw_26 : decode code 26 = .ok (.arraylength, 1) := dt_get (q := (26, .arraylength, 1)) D_lw_0_ok 15 rfl
theorem d_lw_27 : decode code 27 = .ok (.bipush 10, 2) := dt_get (q := (27, .bipush 10, 2)) D_lw_0_ok 16 rfl
theorem d_lw_29 : decode code 29 = .ok (.isub, 1) := dt_get (q := (29, .isub, 1)) D_lw_0_ok 17 rfl
theorem d_lw_30 : decode code 30 = .ok (.if_icmp .gt 2168, 3) := dt_get (q := (30, .if_icmp .gt 2168, 3)) D_lw_0_ok 18 rfl
theorem d_lw_33 : decode code 33 = .ok (.aload_n 0, 1) := dt_get (q := (33, .aload_n 0, 1)) D_lw_0_ok 19 rfl
theorem d_lw_34 : decode code 34 = .ok (.iload 4, 2) := dt_get (q := (34, .iload 4, 2)) D_lw_0_ok 20 rfl
theorem d_lw_36 : decode code 36 = .ok (.iaload, 1) := dt_get (q := (36, .iaload, 1)) D_lw_0_ok 21 rfl
theorem d_lw_37 : decode code 37 = .ok (.bipush 63, 2) := dt_get (q := (37, .bipush 63, 2)) D_lw_0_ok 22 rfl
theorem d_lw_39 : decode code 39 = .ok (.iand, 1) := dt_get (q := (39, .iand, 1)) D_lw_0_ok 23 rfl
theorem d_lw_40 : decode code 40 = .ok (.tableswitch 2152 0 47 #[208, 233, 258, 271, 311, 348, 385, 446, 495, 544, 593, 630, 667, 704, 765, 814, 827, 840, 853, 890, 903, 940, 989, 1038, 1075, 1136, 1161, 1198, 1235, 1272, 1341, 1378, 1415, 1440, 1513, 1538, 1587, 1600, 1727, 1916, 1941, 2010, 2023, 2036, 2049, 2074, 2099, 2124], 208) := dt_get (q := (40, .tableswitch 2152 0 47 #[208, 233, 258, 271, 311, 348, 385, 446, 495, 544, 593, 630, 667, 704, 765, 814, 827, 840, 853, 890, 903, 940, 989, 1038, 1075, 1136, 1161, 1198, 1235, 1272, 1341, 1378, 1415, 1440, 1513, 1538, 1587, 1600, 1727, 1916, 1941, 2010, 2023, 2036, 2049, 2074, 2099, 2124], 208)) D_lw_0_ok 24 rfl
theorem d_lw_248 : decode code 248 = .ok (.aload_n 1, 1) := dt_get (q := (248, .aload_n 1, 1)) D_lw_0_ok 25 rfl
theorem d_lw_249 : decode code 249 = .ok (.aload_n 0, 1) := dt_get (q := (249, .aload_n 0, 1)) D_lw_0_ok 26 rfl
theorem d_lw_250 : decode code 250 = .ok (.iload 4, 2) := dt_get (q := (250, .iload 4, 2)) D_lw_0_ok 27 rfl
theorem d_lw_252 : decode code 252 = .ok (.iconst 1, 1) := dt_get (q := (252, .iconst 1, 1)) D_lw_0_ok 28 rfl
theorem d_lw_253 : decode code 253 = .ok (.iadd, 1) := dt_get (q := (253, .iadd, 1)) D_lw_0_ok 29 rfl
theorem d_lw_254 : decode code 254 = .ok (.iaload, 1) := dt_get (q := (254, .iaload, 1)) D_lw_0_ok 30 rfl
theorem d_lw_255 : decode code 255 = .ok (.invokevirtual 23, 3) := dt_get (q := (255, .invokevirtual 23, 3)) D_lw_0_ok 31 rfl
theorem d_lw_258 : decode code 258 = .ok (.pop, 1) := dt_get (q := (258, .pop, 1)) D_lw_0_ok 32 rfl
theorem d_lw_259 : decode code 259 = .ok (.aload_n 2, 1) := dt_get (q := (259, .aload_n 2, 1)) D_lw_0_ok 33 rfl
theorem d_lw_260 : decode code 260 = .ok (.aload_n 0, 1) := dt_get (q := (260, .aload_n 0, 1)) D_lw_0_ok 34 rfl
theorem d_lw_261 : decode code 261 = .ok (.iload 4, 2) := dt_get (q := (261, .iload 4, 2)) D_lw_0_ok 35 rfl
theorem d_lw_263 : decode code 263 = .ok (.iconst 1, 1) := dt_get (q := (263, .iconst 1, 1)) D_lw_0_ok 36 rfl
theorem d_lw_264 : decode code 264 = .ok (.iadd, 1) := dt_get (q := (264, .iadd, 1)) D_lw_0_ok 37 rfl
theorem d_lw_265 : decode code 265 = .ok (.iaload, 1) := dt_get (q := (265, .iaload, 1)) D_lw_0_ok 38 rfl
theorem d_lw_266 : decode code 266 = .ok (.invokevirtual 27, 3) := dt_get (q := (266, .invokevirtual 27, 3)) D_lw_0_ok 39 rfl
def D_lw_1 : DT := [(269, .pop, 1), (270, .goto 1922, 3), (273, .aload_n 1, 1), (274, .aload_n 0, 1), (275, .iload 4, 2), (277, .iconst 1, 1), (278, .iadd, 1), (279, .iaload, 1), (280, .invokevirtual 28, 3), (283, .pop, 1), (284, .aload_n 2, 1), (285, .aload_n 0, 1), (286, .iload 4, 2), (288, .iconst 1, 1), (289, .iadd, 1), (290, .iaload, 1), (291, .invokevirtual 32, 3), (294, .pop, 1), (295, .goto 1897, 3), (298, .aload_n 1, 1), (299, .invokevirtual 33, 3), (302, .pop, 1), (303, .aload_n 2, 1), (304, .invokevirtual 37, 3), (307, .pop, 1), (308, .goto 1884, 3), (311, .aload_n 1, 1), (312, .aload_n 0, 1), (313, .iload 4, 2), (315, .iconst 1, 1), (316, .iadd, 1), (317, .iaload, 1), (318, .aload_n 0, 1), (319, .iload 4, 2), (321, .iconst 2, 1), (322, .iadd, 1), (323, .iaload, 1), (324, .aload_n 3, 1), (325, .invokestatic 38, 3), (328, .istore 5, 2)]
theorem D_lw_1_ok : dtOK code D_lw_1 = true := by decide +kernel
theorem d_lw_269 : decode code 269 = .ok (.pop, 1) := dt_get (q := (269, .pop, 1)) D_lw_1_ok 0 rfl
theorem d_lw_270 : decode code 270 = .ok (.goto 1922, 3) := dt_get (q := (270, .goto 1922, 3)) D_lw_1_ok 1 rfl
theorem d_lw_273 : decode code 273 = .ok (.aload_n 1, 1) := dt_get (q := (273, .aload_n 1, 1)) D_lw_1_ok 2 rfl
theorem d_lw_274 : decode code 274 = .ok (.aload_n 0, 1) := dt_get (q := (274, .aload_n 0, 1)) D_lw_1_ok 3 rfl
theorem d_lw_275 : decode code 275 = .ok (.iload 4, 2) := dt_get (q := (275, .iload 4, 2)) D_lw_1_ok 4 rfl
theorem d_lw_277 : decode code 277 = .ok (.iconst 1, 1) := dt_get (q := (277, .iconst 1, 1)) D_lw_1_ok 5 rfl
theorem d_lw_278 : decode code 278 = .ok (.iadd, 1) := dt_get (q := (278, .iadd, 1)) D_lw_1_ok 6 rfl
theorem d_lw_279 : decode code 279 = .ok (.iaload, 1) := dt_get (q := (279, .iaload, 1)) D_lw_1_ok 7 rfl
theorem d_lw_280 : decode code 280 = .ok (.invokevirtual 28, 3) := dt_get (q := (280, .invokevirtual 28, 3)) D_lw_1_ok 8 rfl
theorem d_lw_283 : decode code 283 = .ok (.pop, 1) := dt_get (q := (283, .pop, 1)) D_lw_1_ok 9 rfl
theorem d_lw_284 : decode code 284 = .ok (.aload_n 2, 1) := dt_get (q := (284, .aload_n 2, 1)) D_lw_1_ok 10 rfl
theorem d_lw_285 : decode code 285 = .ok (.aload_n 0, 1) := dt_get (q := (285, .aload_n 0, 1)) D_lw_1_ok 11 rfl
theorem d_lw_286 : decode code 286 = .ok (.iload 4, 2) := dt_get (q := (286, .iload 4, 2)) D_lw_1_ok 12 rfl
theorem d_lw_288 : decode code 288 = .ok (.iconst 1, 1) := dt_get (q := (288, .iconst 1, 1)) D_lw_1_ok 13 rfl
theorem d_lw_289 : decode code 289 = .ok (.iadd, 1) := dt_get (q := (289, .iadd, 1)) D_lw_1_ok 14 rfl
theorem d_lw_290 : decode code 290 = .ok (.iaload, 1) := dt_get (q := (290, .iaload, 1)) D_lw_1_ok 15 rfl
theorem d_lw_291 : decode code 291 = .ok (.invokevirtual 32, 3) := dt_get (q := (291, .invokevirtual 32, 3)) D_lw_1_ok 16 rfl
theorem d_lw_294 : decode code 294 = .ok (.pop, 1) := dt_get (q := (294, .pop, 1)) D_lw_1_ok 17 rfl
theorem d_lw_295 : decode code 295 = .ok (.goto 1897, 3) := dt_get (q := (295, .goto 1897, 3)) D_lw_1_ok 18 rfl
theorem d_lw_298 : decode code 298 = .ok (.aload_n 1, 1) := dt_get (q := (298, .aload_n 1, 1)) D_lw_1_ok 19 rfl
theorem d_lw_299 : decode code 299 = .ok (.invokevirtual 33, 3) := dt_get (q := (299, .invokevirtual 33, 3)) D_lw_1_ok 20 rfl
theorem d_lw_302 : decode code 302 = .ok (.pop, 1) := dt_get (q := (302, .pop, 1)) D_lw_1_ok 21 rfl
theorem d_lw_303 : decode code 303 = .ok (.aload_n 2, 1) := dt_get (q := (303, .aload_n 2, 1)) D_lw_1_ok 22 rfl
theorem d_lw_304 : decode code 304 = .ok (.invokevirtual 37, 3) := dt_get (q := (304, .invokevirtual 37, 3)) D_lw_1_ok 23 rfl
theorem d_lw_307 : decode code 307 = .ok (.pop, 1) := dt_get (q := (307, .pop, 1)) D_lw_1_ok 24 rfl
theorem d_lw_308 : decode code 308 = .ok (.goto 1884, 3) := dt_get (q := (308, .goto 1884, 3)) D_lw_1_ok 25 rfl
theorem d_lw_311 : decode code 311 = .ok (.aload_n 1, 1) := dt_get (q := (311, .aload_n 1, 1)) D_lw_1_ok 26 rfl
theorem d_lw_312 : decode code 312 = .ok (.aload_n 0, 1) := dt_get (q := (312, .aload_n 0, 1)) D_lw_1_ok 27 rfl
theorem d_lw_313 : decode code 313 = .ok (.iload 4, 2) := dt_get (q := (313, .iload 4, 2)) D_lw_1_ok 28 rfl
theorem d_lw_315 : decode code 315 = .ok (.iconst 1, 1) := dt_get (q := (315, .iconst 1, 1)) D_lw_1_ok 29 rfl
theorem d_lw_316 : decode code 316 = .ok (.iadd, 1) := dt_get (q := (316, .iadd, 1)) D_lw_1_ok 30 rfl
theorem d_lw_317 : decode code 317 = .ok (.iaload, 1) := dt_get (q := (317, .iaload, 1)) D_lw_1_ok 31 rfl
theorem d_lw_318 : decode code 318 = .ok (.aload_n 0, 1) := dt_get (q := (318, .aload_n 0, 1)) D_lw_1_ok 32 rfl
theorem d_lw_319 : decode code 319 = .ok (.iload 4, 2) := dt_get (q := (319, .iload 4, 2)) D_lw_1_ok 33 rfl
theorem d_lw_321 : decode code 321 = .ok (.iconst 2, 1) := dt_get (q := (321, .iconst 2, 1)) D_lw_1_ok 34 rfl
theorem d_lw_322 : decode code 322 = .ok (.iadd, 1) := dt_get (q := (322, .iadd, 1)) D_lw_1_ok 35 rfl
theorem d_lw_323 : decode code 323 = .ok (.iaload, 1) := dt_get (q := (323, .iaload, 1)) D_lw_1_ok 36 rfl
theorem d_lw_324 : decode code 324 = .ok (.aload_n 3, 1) := dt_get (q := (324, .aload_n 3, 1)) D_lw_1_ok 37 rfl
theorem d_lw_325 : decode code 325 = .ok (.invokestatic 38, 3) := dt_get (q := (325, .invokestatic 38, 3)) D_lw_1_ok 38 rfl
theorem d_lw_328 : decode code 328 = .ok (.istore 5, 2) := dt_get (q := (328, .istore 5, 2)) D_lw_1_ok 39 rfl
def D_lw_2 : DT := [(330, .aload_n 2, 1), (331, .aload_n 0, 1), (332, .iload 4, 2), (334, .iconst 1, 1), (335, .iadd, 1), (336, .iaload, 1), (337, .aload_n 0, 1), (338, .iload 4, 2), (340, .iconst 2, 1), (341, .iadd, 1), (342, .iaload, 1), (343, .invokevirtual 43, 3), (346, .istore 6, 2), (348, .goto 1844, 3), (351, .aload_n 1, 1), (352, .aload_n 0, 1), (353, .iload 4, 2), (355, .iconst 1, 1), (356, .iadd, 1), (357, .iaload, 1), (358, .aload_n 0, 1), (359, .iload 4, 2), (361, .iconst 2, 1), (362, .iadd, 1), (363, .iaload, 1), (364, .invokevirtual 44, 3), (367, .pop, 1), (368, .aload_n 2, 1), (369, .aload_n 0, 1), (370, .iload 4, 2), (372, .iconst 1, 1), (373, .iadd, 1), (374, .iaload, 1), (375, .aload_n 0, 1), (376, .iload 4, 2), (378, .iconst 2, 1), (379, .iadd, 1), (380, .iaload, 1), (381, .invokevirtual 47, 3), (384, .pop, 1)]
theorem D_lw_2_ok : dtOK code D_lw_2 = true := by decide +kernel
theorem d_lw_330 : decode code 330 = .ok (.aload_n 2, 1) := dt_get (q := (330, .aload_n 2, 1)) D_lw_2_ok 0 rfl
theorem d_lw_331 : decode code 331 = .ok (.aload_n 0, 1) := dt_get (q := (331, .aload_n 0, 1)) D_lw_2_ok 1 rfl
theorem d_lw_332 : decode code 332 = .ok (.iload 4, 2) := dt_get (q := (332, .iload 4, 2)) D_lw_2_ok 2 rfl
theorem d_lw_334 : decode code 334 = .ok (.iconst 1, 1) := dt_get (q := (334, .iconst 1, 1)) D_lw_2_ok 3 rfl
theorem d_lw_335 : decode code 335 = .ok (.iadd, 1) := dt_get (q := (335, .iadd, 1)) D_lw_2_ok 4 rfl
theorem d_lw_336 : decode code 336 = .ok (.iaload, 1) := dt_get (q := (336, .iaload, 1)) D_lw_2_ok 5 rfl
theorem d_lw_337 : decode code 337 = .ok (.aload_n 0, 1) := dt_get (q := (337, .aload_n 0, 1)) D_lw_2_ok 6 rfl
theorem d_lw_338 : decode code 338 = .ok (.iload 4, 2) := dt_get (q := (338, .iload 4, 2)) D_lw_2_ok 7 rfl
theorem d_lw_340 : decode code 340 = .ok (.iconst 2, 1) := dt_get (q := (340, .iconst 2, 1)) D_lw_2_ok 8 rfl
theorem d_lw_341 : decode code 341 = .ok (.iadd, 1) := dt_get (q := (341, .iadd, 1)) D_lw_2_ok 9 rfl
theorem d_lw_342 : decode code 342 = .ok (.iaload, 1) := dt_get (q := (342, .iaload, 1)) D_lw_2_ok 10 rfl
theorem d_lw_343 : decode code 343 = .ok (.invokevirtual 43, 3) := dt_get (q := (343, .invokevirtual 43, 3)) D_lw_2_ok 11 rfl
theorem d_lw_346 : decode code 346 = .ok (.istore 6, 2) := dt_get (q := (346, .istore 6, 2)) D_lw_2_ok 12 rfl
theorem d_lw_348 : decode code 348 = .ok (.goto 1844, 3) := dt_get (q := (348, .goto 1844, 3)) D_lw_2_ok 13 rfl
theorem d_lw_351 : decode code 351 = .ok (.aload_n 1, 1) := dt_get (q := (351, .aload_n 1, 1)) D_lw_2_ok 14 rfl
theorem d_lw_352 : decode code 352 = .ok (.aload_n 0, 1) := dt_get (q := (352, .aload_n 0, 1)) D_lw_2_ok 15 rfl
theorem d_lw_353 : decode code 353 = .ok (.iload 4, 2) := dt_get (q := (353, .iload 4, 2)) D_lw_2_ok 16 rfl
theorem d_lw_355 : decode code 355 = .ok (.iconst 1, 1) := dt_get (q := (355, .iconst 1, 1)) D_lw_2_ok 17 rfl
theorem d_lw_356 : decode code 356 = .ok (.iadd, 1) := dt_get (q := (356, .iadd, 1)) D_lw_2_ok 18 rfl
theorem d_lw_357 : decode code 357 = .ok (.iaload, 1) := dt_get (q := (357, .iaload, 1)) D_lw_2_ok 19 rfl
theorem d_lw_358 : decode code 358 = .ok (.aload_n 0, 1) := dt_get (q := (358, .aload_n 0, 1)) D_lw_2_ok 20 rfl
theorem d_lw_359 : decode code 359 = .ok (.iload 4, 2) := dt_get (q := (359, .iload 4, 2)) D_lw_2_ok 21 rfl
theorem d_lw_361 : decode code 361 = .ok (.iconst 2, 1) := dt_get (q := (361, .iconst 2, 1)) D_lw_2_ok 22 rfl
theorem d_lw_362 : decode code 362 = .ok (.iadd, 1) := dt_get (q := (362, .iadd, 1)) D_lw_2_ok 23 rfl
theorem d_lw_363 : decode code 363 = .ok (.iaload, 1) := dt_get (q := (363, .iaload, 1)) D_lw_2_ok 24 rfl
theorem d_lw_364 : decode code 364 = .ok (.invokevirtual 44, 3) := dt_get (q := (364, .invokevirtual 44, 3)) D_lw_2_ok 25 rfl
theorem d_lw_367 : decode code 367 = .ok (.pop, 1) := dt_get (q := (367, .pop, 1)) D_lw_2_ok 26 rfl
theorem d_lw_368 : decode code 368 = .ok (.aload_n 2, 1) := dt_get (q := (368, .aload_n 2, 1)) D_lw_2_ok 27 rfl
theorem d_lw_369 : decode code 369 = .ok (.aload_n 0, 1) := dt_get (q := (369, .aload_n 0, 1)) D_lw_2_ok 28 rfl
theorem d_lw_370 : decode code 370 = .ok (.iload 4, 2) := dt_get (q := (370, .iload 4, 2)) D_lw_2_ok 29 rfl
theorem d_lw_372 : decode code 372 = .ok (.iconst 1, 1) := dt_get (q := (372, .iconst 1, 1)) D_lw_2_ok 30 rfl
theorem d_lw_373 : decode code 373 = .ok (.iadd, 1) := dt_get (q := (373, .iadd, 1)) D_lw_2_ok 31 rfl
theorem d_lw_374 : decode code 374 = .ok (.iaload, 1) := dt_get (q := (374, .iaload, 1)) D_lw_2_ok 32 rfl
theorem d_lw_375 : decode code 375 = .ok (.aload_n 0, 1) := dt_get (q := (375, .aload_n 0, 1)) D_lw_2_ok 33 rfl
theorem d_lw_376 : decode code 376 = .ok (.iload 4, 2) := dt_get (q := (376, .iload 4, 2)) D_lw_2_ok 34 rfl
theorem d_lw_378 : decode code 378 = .ok (.iconst 2, 1) := dt_get (q := (378, .iconst 2, 1)) D_lw_2_ok 35 rfl
theorem d_lw_379 : decode code 379 = .ok (.iadd, 1) := dt_get (q := (379, .iadd, 1)) D_lw_2_ok 36 rfl
theorem d_lw_380 : decode code 380 = .ok (.iaload, 1) := dt_get (q := (380, .iaload, 1)) D_lw_2_ok 37 rfl
theorem d_lw_381 : decode code 381 = .ok (.invokevirtual 47, 3) := dt_get (q := (381, .invokevirtual 47, 3)) D_lw_2_ok 38 rfl
theorem d_lw_384 : decode code 384 = .ok (.pop, 1) := dt_get (q := (384, .pop, 1)) D_lw_2_ok 39 rfl
def D_lw_3 : DT := [(385, .goto 1807, 3), (388, .aload_n 1, 1), (389, .aload_n 0, 1), (390, .iload 4, 2), (392, .iconst 1, 1), (393, .iadd, 1), (394, .iaload, 1), (395, .aload_n 0, 1), (396, .iload 4, 2), (398, .iconst 2, 1), (399, .iadd, 1), (400, .iaload, 1), (401, .invokevirtual 48, 3), (404, .pop, 1), (405, .aload_n 2, 1), (406, .aload_n 0, 1), (407, .iload 4, 2), (409, .iconst 1, 1), (410, .iadd, 1), (411, .iaload, 1), (412, .aload_n 0, 1), (413, .iload 4, 2), (415, .iconst 2, 1), (416, .iadd, 1), (417, .iaload, 1), (418, .invokevirtual 51, 3), (421, .pop, 1), (422, .goto 1770, 3), (425, .aload_n 1, 1), (426, .aload_n 0, 1), (427, .iload 4, 2), (429, .iconst 1, 1), (430, .iadd, 1), (431, .iaload, 1), (432, .aload_n 0, 1), (433, .iload 4, 2), (435, .iconst 2, 1), (436, .iadd, 1), (437, .iaload, 1), (438, .aload_n 0, 1)]
theorem D_lw_3_ok : dtOK code D_lw_3 = true := by decide +kernel
theorem d_lw_385 : decode code 385 = .ok (.goto 1807, 3) := dt_get (q := (385, .goto 1807, 3)) D_lw_3_ok 0 rfl
theorem d_lw_388 : decode code 388 = .ok (.aload_n 1, 1) := dt_get (q := (388, .aload_n 1, 1)) D_lw_3_ok 1 rfl
theorem d_lw_389 : decode code 389 = .ok (.aload_n 0, 1) := dt_get (q := (389, .aload_n 0, 1)) D_lw_3_ok 2 rfl
theorem d_lw_390 : decode code 390 = .ok (.iload 4, 2) := dt_get (q := (390, .iload 4, 2)) D_lw_3_ok 3 rfl
theorem d_lw_392 : decode code 392 = .ok (.iconst 1, 1) := dt_get (q := (392, .iconst 1, 1)) D_lw_3_ok 4 rfl
theorem d_lw_393 : decode code 393 = .ok (.iadd, 1) := dt_get (q := (393, .iadd, 1)) D_lw_3_ok 5 rfl
theorem d_lw_394 : decode code 394 = .ok (.iaload, 1) := dt_get (q := (394, .iaload, 1)) D_lw_3_ok 6 rfl
theorem d_lw_395 : decode code 395 = .ok (.aload_n 0, 1) := dt_get (q := (395, .aload_n 0, 1)) D_lw_3_ok 7 rfl
theorem d_lw_396 : decode code 396 = .ok (.iload 4, 2) := dt_get (q := (396, .iload 4, 2)) D_lw_3_ok 8 rfl
theorem d_lw_398 : decode code 398 = .ok (.iconst 2, 1) := dt_get (q := (398, .iconst 2, 1)) D_lw_3_ok 9 rfl
theorem d_lw_399 : decode code 399 = .ok (.iadd, 1) := dt_get (q := (399, .iadd, 1)) D_lw_3_ok 10 rfl
theorem d_lw_400 : decode code 400 = .ok (.iaload, 1) := dt_get (q := (400, .iaload, 1)) D_lw_3_ok 11 rfl
theorem d_lw_401 : decode code 401 = .ok (.invokevirtual 48, 3) := dt_get (q := (401, .invokevirtual 48, 3)) D_lw_3_ok 12 rfl
theorem d_lw_404 : decode code 404 = .ok (.pop, 1) := dt_get (q := (404, .pop, 1)) D_lw_3_ok 13 rfl
theorem d_lw_405 : decode code 405 = .ok (.aload_n 2, 1) := dt_get (q := (405, .aload_n 2, 1)) D_lw_3_ok 14 rfl
theorem d_lw_406 : decode code 406 = .ok (.aload_n 0, 1) := dt_get (q := (406, .aload_n 0, 1)) D_lw_3_ok 15 rfl
theorem d_lw_407 : decode code 407 = .ok (.iload 4, 2) := dt_get (q := (407, .iload 4, 2)) D_lw_3_ok 16 rfl
theorem d_lw_409 : decode code 409 = .ok (.iconst 1, 1) := dt_get (q := (409, .iconst 1, 1)) D_lw_3_ok 17 rfl
theorem d_lw_410 : decode code 410 = .ok (.iadd, 1) := dt_get (q := (410, .iadd, 1)) D_lw_3_ok 18 rfl
theorem d_lw_411 : decode code 411 = .ok (.iaload, 1) := dt_get (q := (411, .iaload, 1)) D_lw_3_ok 19 rfl
theorem d_lw_412 : decode code 412 = .ok (.aload_n 0, 1) := dt_get (q := (412, .aload_n 0, 1)) D_lw_3_ok 20 rfl
theorem d_lw_413 : decode code 413 = .ok (.iload 4, 2) := dt_get (q := (413, .iload 4, 2)) D_lw_3_ok 21 rfl
theorem d_lw_415 : decode code 415 = .ok (.iconst 2, 1) := dt_get (q := (415, .iconst 2, 1)) D_lw_3_ok 22 rfl
theorem d_lw_416 : decode code 416 = .ok (.iadd, 1) := dt_get (q := (416, .iadd, 1)) D_lw_3_ok 23 rfl
theorem d_lw_417 : decode code 417 = .ok (.iaload, 1) := dt_get (q := (417, .iaload, 1)) D_lw_3_ok 24 rfl
theorem d_lw_418 : decode code 418 = .ok (.invokevirtual 51, 3) := dt_get (q := (418, .invokevirtual 51, 3)) D_lw_3_ok 25 rfl
theorem d_lw_421 : decode code 421 = .ok (.pop, 1) := dt_get (q := (421, .pop, 1)) D_lw_3_ok 26 rfl
theorem d_lw_422 : decode code 422 = .ok (.goto 1770, 3) := dt_get (q := (422, .goto 1770, 3)) D_lw_3_ok 27 rfl
theorem d_lw_425 : decode code 425 = .ok (.aload_n 1, 1) := dt_get (q := (425, .aload_n 1, 1)) D_lw_3_ok 28 rfl
theorem d_lw_426 : decode code 426 = .ok (.aload_n 0, 1) := dt_get (q := (426, .aload_n 0, 1)) D_lw_3_ok 29 rfl
theorem d_lw_427 : decode code 427 = .ok (.iload 4, 2) := dt_get (q := (427, .iload 4, 2)) D_lw_3_ok 30 rfl
theorem d_lw_429 : decode code 429 = .ok (.iconst 1, 1) := dt_get (q := (429, .iconst 1, 1)) D_lw_3_ok 31 rfl
theorem d_lw_430 : decode code 430 = .ok (.iadd, 1) := dt_get (q := (430, .iadd, 1)) D_lw_3_ok 32 rfl
theorem d_lw_431 : decode code 431 = .ok (.iaload, 1) := dt_get (q := (431, .iaload, 1)) D_lw_3_ok 33 rfl
theorem d_lw_432 : decode code 432 = .ok (.aload_n 0, 1) := dt_get (q := (432, .aload_n 0, 1)) D_lw_3_ok 34 rfl
theorem d_lw_433 : decode code 433 = .ok (.iload 4, 2) := dt_get (q := (433, .iload 4, 2)) D_lw_3_ok 35 rfl
theorem d_lw_435 : decode code 435 = .ok (.iconst 2, 1) := dt_get (q := (435, .iconst 2, 1)) D_lw_3_ok 36 rfl
theorem d_lw_436 : decode code 436 = .ok (.iadd, 1) := dt_get (q := (436, .iadd, 1)) D_lw_3_ok 37 rfl
theorem d_lw_437 : decode code 437 = .ok (.iaload, 1) := dt_get (q := (437, .iaload, 1)) D_lw_3_ok 38 rfl
theorem d_lw_438 : decode code 438 = .ok (.aload_n 0, 1) := dt_get (q := (438, .aload_n 0, 1)) D_lw_3_ok 39 rfl
def D_lw_4 : DT := [(439, .iload 4, 2), (441, .iconst 3, 1), (442, .iadd, 1), (443, .iaload, 1), (444, .aload_n 0, 1), (445, .iload 4, 2), (447, .iconst 4, 1), (448, .iadd, 1), (449, .iaload, 1), (450, .invokevirtual 52, 3), (453, .pop, 1), (454, .aload_n 2, 1), (455, .aload_n 0, 1), (456, .iload 4, 2), (458, .iconst 1, 1), (459, .iadd, 1), (460, .iaload, 1), (461, .aload_n 0, 1), (462, .iload 4, 2), (464, .iconst 2, 1), (465, .iadd, 1), (466, .iaload, 1), (467, .aload_n 0, 1), (468, .iload 4, 2), (470, .iconst 3, 1), (471, .iadd, 1), (472, .iaload, 1), (473, .aload_n 0, 1), (474, .iload 4, 2), (476, .iconst 4, 1), (477, .iadd, 1), (478, .iaload, 1), (479, .invokevirtual 56, 3), (482, .pop, 1), (483, .goto 1709, 3), (486, .aload_n 1, 1), (487, .aload_n 0, 1), (488, .iload 4, 2), (490, .iconst 1, 1), (491, .iadd, 1)]
theorem D_lw_4_ok : dtOK code D_lw_4 = true := by decide +kernel
theorem d_lw_439 : decode code 439 = .ok (.iload 4, 2) := dt_get (q := (439, .iload 4, 2)) D_lw_4_ok 0 rfl
theorem d_lw_441 : decode code 441 = .ok (.iconst 3, 1) := dt_get (q := (441, .iconst 3, 1)) D_lw_4_ok 1 rfl
theorem d_lw_442 : decode code 442 = .ok (.iadd, 1) := dt_get (q := (442, .iadd, 1)) D_lw_4_ok 2 rfl
theorem d_lw_443 : decode code 443 = .ok (.iaload, 1) := dt_get (q := (443, .iaload, 1)) D_lw_4_ok 3 rfl
theorem d_lw_444 : decode code 444 = .ok (.aload_n 0, 1) := dt_get (q := (444, .aload_n 0, 1)) D_lw_4_ok 4 rfl
theorem d_lw_445 : decode code 445 = .ok (.iload 4, 2) := dt_get (q := (445, .iload 4, 2)) D_lw_4_ok 5 rfl
theorem d_lw_447 : decode code 447 = .ok (.iconst 4, 1) := dt_get (q := (447, .iconst 4, 1)) D_lw_4_ok 6 rfl
theorem d_lw_448 : decode code 448 = .ok (.iadd, 1) := dt_get (q := (448, .iadd, 1)) D_lw_4_ok 7 rfl
theorem d_lw_449 : decode code 449 = .ok (.iaload, 1) := dt_get (q := (449, .iaload, 1)) D_lw_4_ok 8 rfl
theorem d_lw_450 : decode code 450 = .ok (.invokevirtual 52, 3) := dt_get (q := (450, .invokevirtual 52, 3)) D_lw_4_ok 9 rfl
theorem d_lw_453 : decode code 453 = .ok (.pop, 1) := dt_get (q := (453, .pop, 1)) D_lw_4_ok 10 rfl
theorem d_lw_454 : decode code 454 = .ok (.aload_n 2, 1) := dt_get (q := (454, .aload_n 2, 1)) D_lw_4_ok 11 rfl
theorem d_lw_455 : decode code 455 = .ok (.aload_n 0, 1) := dt_get (q := (455, .aload_n 0, 1)) D_lw_4_ok 12 rfl
theorem d_lw_456 : decode code 456 = .ok (.iload 4, 2) := dt_get (q := (456, .iload 4, 2)) D_lw_4_ok 13 rfl
theorem d_lw_458 : decode code 458 = .ok (.iconst 1, 1) := dt_get (q := (458, .iconst 1, 1)) D_lw_4_ok 14 rfl
theorem d_lw_459 : decode code 459 = .ok (.iadd, 1) := dt_get (q := (459, .iadd, 1)) D_lw_4_ok 15 rfl
theorem d_lw_460 : decode code 460 = .ok (.iaload, 1) := dt_get (q := (460, .iaload, 1)) D_lw_4_ok 16 rfl
theorem d_lw_461 : decode code 461 = .ok (.aload_n 0, 1) := dt_get (q := (461, .aload_n 0, 1)) D_lw_4_ok 17 rfl
theorem d_lw_462 : decode code 462 = .ok (.iload 4, 2) := dt_get (q := (462, .iload 4, 2)) D_lw_4_ok 18 rfl
theorem d_lw_464 : decode code 464 = .ok (.iconst 2, 1) := dt_get (q := (464, .iconst 2, 1)) D_lw_4_ok 19 rfl
theorem d_lw_465 : decode code 465 = .ok (.iadd, 1) := dt_get (q := (465, .iadd, 1)) D_lw_4_ok 20 rfl
theorem d_lw_466 : decode code 466 = .ok (.iaload, 1) := dt_get (q := (466, .iaload, 1)) D_lw_4_ok 21 rfl
theorem d_lw_467 : decode code 467 = .ok (.aload_n 0, 1) := dt_get (q := (467, .aload_n 0, 1)) D_lw_4_ok 22 rfl
theorem d_lw_468 : decode code 468 = .ok (.iload 4, 2) := dt_get (q := (468, .iload 4, 2)) D_lw_4_ok 23 rfl
theorem d_lw_470 : decode code 470 = .ok (.iconst 3, 1) := dt_get (q := (470, .iconst 3, 1)) D_lw_4_ok 24 rfl
theorem d_lw_471 : decode code 471 = .ok (.iadd, 1) := dt_get (q := (471, .iadd, 1)) D_lw_4_ok 25 rfl
theorem d_lw_472 : decode code 472 = .ok (.iaload, 1) := dt_get (q := (472, .iaload, 1)) D_lw_4_ok 26 rfl
theorem d_lw_473 : decode code 473 = .ok (.aload_n 0, 1) := dt_get (q := (473, .aload_n 0, 1)) D_lw_4_ok 27 rfl
theorem d_lw_474 : decode code 474 = .ok (.iload 4, 2) := dt_get (q := (474, .iload 4, 2)) D_lw_4_ok 28 rfl
theorem d_lw_476 : decode code 476 = .ok (.iconst 4, 1) := dt_get (q := (476, .iconst 4, 1)) D_lw_4_ok 29 rfl
theorem d_lw_477 : decode code 477 = .ok (.iadd, 1) := dt_get (q := (477, .iadd, 1)) D_lw_4_ok 30 rfl
theorem d_lw_478 : decode code 478 = .ok (.iaload, 1) := dt_get (q := (478, .iaload, 1)) D_lw_4_ok 31 rfl
theorem d_lw_479 : decode code 479 = .ok (.invokevirtual 56, 3) := dt_get (q := (479, .invokevirtual 56, 3)) D_lw_4_ok 32 rfl
theorem d_lw_482 : decode code 482 = .ok (.pop, 1) := dt_get (q := (482, .pop, 1)) D_lw_4_ok 33 rfl
theorem d_lw_483 : decode code 483 = .ok (.goto 1709, 3) := dt_get (q := (483, .goto 1709, 3)) D_lw_4_ok 34 rfl
theorem d_lw_486 : decode code 486 = .ok (.aload_n 1, 1) := dt_get (q := (486, .aload_n 1, 1)) D_lw_4_ok 35 rfl
theorem d_lw_487 : decode code 487 = .ok (.aload_n 0, 1) := dt_get (q := (487, .aload_n 0, 1)) D_lw_4_ok 36 rfl
theorem d_lw_488 : decode code 488 = .ok (.iload 4, 2) := dt_get (q := (488, .iload 4, 2)) D_lw_4_ok 37 rfl
theorem d_lw_490 : decode code 490 = .ok (.iconst 1, 1) := dt_get (q := (490, .iconst 1, 1)) D_lw_4_ok 38 rfl
theorem d_lw_491 : decode code 491 = .ok (.iadd, 1) := dt_get (q := (491, .iadd, 1)) D_lw_4_ok 39 rfl
def D_lw_5 : DT := [(492, .iaload, 1), (493, .aload_n 0, 1), (494, .iload 4, 2), (496, .iconst 2, 1), (497, .iadd, 1), (498, .iaload, 1), (499, .aload_n 0, 1), (500, .iload 4, 2), (502, .iconst 3, 1), (503, .iadd, 1), (504, .iaload, 1), (505, .invokevirtual 57, 3), (508, .pop, 1), (509, .aload_n 2, 1), (510, .aload_n 0, 1), (511, .iload 4, 2), (513, .iconst 1, 1), (514, .iadd, 1), (515, .iaload, 1), (516, .aload_n 0, 1), (517, .iload 4, 2), (519, .iconst 2, 1), (520, .iadd, 1), (521, .iaload, 1), (522, .aload_n 0, 1), (523, .iload 4, 2), (525, .iconst 3, 1), (526, .iadd, 1), (527, .iaload, 1), (528, .invokevirtual 61, 3), (531, .pop, 1), (532, .goto 1660, 3), (535, .aload_n 1, 1), (536, .aload_n 0, 1), (537, .iload 4, 2), (539, .iconst 1, 1), (540, .iadd, 1), (541, .iaload, 1), (542, .aload_n 0, 1), (543, .iload 4, 2)]
theorem D_lw_5_ok : dtOK code D_lw_5 = true := by decide +kernel
theorem d_lw_492 : decode code 492 = .ok (.iaload, 1) := dt_get (q := (492, .iaload, 1)) D_lw_5_ok 0 rfl
theorem d_lw_493 : decode code 493 = .ok (.aload_n 0, 1) := dt_get (q := (493, .aload_n 0, 1)) D_lw_5_ok 1 rfl
theorem d_lw_494 : decode code 494 = .ok (.iload 4, 2) := dt_get (q := (494, .iload 4, 2)) D_lw_5_ok 2 rfl
theorem d_lw_496 : decode code 496 = .ok (.iconst 2, 1) := dt_get (q := (496, .iconst 2, 1)) D_lw_5_ok 3 rfl
theorem d_lw_497 : decode code 497 = .ok (.iadd, 1) := dt_get (q := (497, .iadd, 1)) D_lw_5_ok 4 rfl
theorem d_lw_498 : decode code 498 = .ok (.iaload, 1) := dt_get (q := (498, .iaload, 1)) D_lw_5_ok 5 rfl
theorem d_lw_499 : decode code 499 = .ok (.aload_n 0, 1) := dt_get (q := (499, .aload_n 0, 1)) D_lw_5_ok 6 rfl
theorem d_lw_500 : decode code 500 = .ok (.iload 4, 2) := dt_get (q := (500, .iload 4, 2)) D_lw_5_ok 7 rfl
theorem d_lw_502 : decode code 502 = .ok (.iconst 3, 1) := dt_get (q := (502, .iconst 3, 1)) D_lw_5_ok 8 rfl
theorem d_lw_503 : decode code 503 = .ok (.iadd, 1) := dt_get (q := (503, .iadd, 1)) D_lw_5_ok 9 rfl
theorem d_lw_504 : decode code 504 = .ok (.iaload, 1) := dt_get (q := (504, .iaload, 1)) D_lw_5_ok 10 rfl
theorem d_lw_505 : decode code 505 = .ok (.invokevirtual 57, 3) := dt_get (q := (505, .invokevirtual 57, 3)) D_lw_5_ok 11 rfl
theorem d_lw_508 : decode code 508 = .ok (.pop, 1) := dt_get (q := (508, .pop, 1)) D_lw_5_ok 12 rfl
theorem d_lw_509 : decode code 509 = .ok (.aload_n 2, 1) := dt_get (q := (509, .aload_n 2, 1)) D_lw_5_ok 13 rfl
theorem d_lw_510 : decode code 510 = .ok (.aload_n 0, 1) := dt_get (q := (510, .aload_n 0, 1)) D_lw_5_ok 14 rfl
theorem d_lw_511 : decode code 511 = .ok (.iload 4, 2) := dt_get (q := (511, .iload 4, 2)) D_lw_5_ok 15 rfl
theorem d_lw_513 : decode code 513 = .ok (.iconst 1, 1) := dt_get (q := (513, .iconst 1, 1)) D_lw_5_ok 16 rfl
theorem d_lw_514 : decode code 514 = .ok (.iadd, 1) := dt_get (q := (514, .iadd, 1)) D_lw_5_ok 17 rfl
theorem d_lw_515 : decode code 515 = .ok (.iaload, 1) := dt_get (q := (515, .iaload, 1)) D_lw_5_ok 18 rfl
theorem d_lw_516 : decode code 516 = .ok (.aload_n 0, 1) := dt_get (q := (516, .aload_n 0, 1)) D_lw_5_ok 19 rfl
theorem d_lw_517 : decode code 517 = .ok (.iload 4, 2) := dt_get (q := (517, .iload 4, 2)) D_lw_5_ok 20 rfl
theorem d_lw_519 : decode code 519 = .ok (.iconst 2, 1) := dt_get (q := (519, .iconst 2, 1)) D_lw_5_ok 21 rfl
theorem d_lw_520 : decode code 520 = .ok (.iadd, 1) := dt_get (q := (520, .iadd, 1)) D_lw_5_ok 22 rfl
theorem d_lw_521 : decode code 521 = .ok (.iaload, 1) := dt_get (q := (521, .iaload, 1)) D_lw_5_ok 23 rfl
theorem d_lw_522 : decode code 522 = .ok (.aload_n 0, 1) := dt_get (q := (522, .aload_n 0, 1)) D_lw_5_ok 24 rfl
theorem d_lw_523 : decode code 523 = .ok (.iload 4, 2) := dt_get (q := (523, .iload 4, 2)) D_lw_5_ok 25 rfl
theorem d_lw_525 : decode code 525 = .ok (.iconst 3, 1) := dt_get (q := (525, .iconst 3, 1)) D_lw_5_ok 26 rfl
theorem d_lw_526 : decode code 526 = .ok (.iadd, 1) := dt_get (q := (526, .iadd, 1)) D_lw_5_ok 27 rfl
theorem d_lw_527 : decode code 527 = .ok (.iaload, 1) := dt_get (q := (527, .iaload, 1)) D_lw_5_ok 28 rfl
theorem d_lw_528 : decode code 528 = .ok (.invokevirtual 61, 3) := dt_get (q := (528, .invokevirtual 61, 3)) D_lw_5_ok 29 rfl
theorem d_lw_531 : decode code 531 = .ok (.pop, 1) := dt_get (q := (531, .pop, 1)) D_lw_5_ok 30 rfl
theorem d_lw_532 : decode code 532 = .ok (.goto 1660, 3) := dt_get (q := (532, .goto 1660, 3)) D_lw_5_ok 31 rfl
theorem d_lw_535 : decode code 535 = .ok (.aload_n 1, 1) := dt_get (q := (535, .aload_n 1, 1)) D_lw_5_ok 32 rfl
theorem d_lw_536 : decode code 536 = .ok (.aload_n 0, 1) := dt_get (q := (536, .aload_n 0, 1)) D_lw_5_ok 33 rfl
theorem d_lw_537 : decode code 537 = .ok (.iload 4, 2) := dt_get (q := (537, .iload 4, 2)) D_lw_5_ok 34 rfl
theorem d_lw_539 : decode code 539 = .ok (.iconst 1, 1) := dt_get (q := (539, .iconst 1, 1)) D_lw_5_ok 35 rfl
theorem d_lw_540 : decode code 540 = .ok (.iadd, 1) := dt_get (q := (540, .iadd, 1)) D_lw_5_ok 36 rfl
theorem d_lw_541 : decode code 541 = .ok (.iaload, 1) := dt_get (q := (541, .iaload, 1)) D_lw_5_ok 37 rfl
theorem d_lw_542 : decode code 542 = .ok (.aload_n 0, 1) := dt_get (q := (542, .aload_n 0, 1)) D_lw_5_ok 38 rfl
theorem d_lw_543 : decode code 543 = .ok (.iload 4, 2) := dt_get (q := (543, .iload 4, 2)) D_lw_5_ok 39 rfl
def D_lw_6 : DT := [(545, .iconst 2, 1), (546, .iadd, 1), (547, .iaload, 1), (548, .aload_n 0, 1), (549, .iload 4, 2), (551, .iconst 3, 1), (552, .iadd, 1), (553, .iaload, 1), (554, .invokevirtual 62, 3), (557, .pop, 1), (558, .aload_n 2, 1), (559, .aload_n 0, 1), (560, .iload 4, 2), (562, .iconst 1, 1), (563, .iadd, 1), (564, .iaload, 1), (565, .aload_n 0, 1), (566, .iload 4, 2), (568, .iconst 2, 1), (569, .iadd, 1), (570, .iaload, 1), (571, .aload_n 0, 1), (572, .iload 4, 2), (574, .iconst 3, 1), (575, .iadd, 1), (576, .iaload, 1), (577, .invokevirtual 66, 3), (580, .pop, 1), (581, .goto 1611, 3), (584, .aload_n 1, 1), (585, .aload_n 0, 1), (586, .iload 4, 2), (588, .iconst 1, 1), (589, .iadd, 1), (590, .iaload, 1), (591, .aload_n 0, 1), (592, .iload 4, 2), (594, .iconst 2, 1), (595, .iadd, 1), (596, .iaload, 1)]
theorem D_lw_6_ok : dtOK code D_lw_6 = true := by decide +kernel
theorem d_lw_545 : decode code 545 = .ok (.iconst 2, 1) := dt_get (q := (545, .iconst 2, 1)) D_lw_6_ok 0 rfl
theorem d_lw_546 : decode code 546 = .ok (.iadd, 1) := dt_get (q := (546, .iadd, 1)) D_lw_6_ok 1 rfl
theorem d_lw_547 : decode code 547 = .ok (.iaload, 1) := dt_get (q := (547, .iaload, 1)) D_lw_6_ok 2 rfl
theorem d_lw_548 : decode code 548 = .ok (.aload_n 0, 1) := dt_get (q := (548, .aload_n 0, 1)) D_lw_6_ok 3 rfl
theorem d_lw_549 : decode code 549 = .ok (.iload 4, 2) := dt_get (q := (549, .iload 4, 2)) D_lw_6_ok 4 rfl
theorem d_lw_551 : decode code 551 = .ok (.iconst 3, 1) := dt_get (q := (551, .iconst 3, 1)) D_lw_6_ok 5 rfl
theorem d_lw_552 : decode code 552 = .ok (.iadd, 1) := dt_get (q := (552, .iadd, 1)) D_lw_6_ok 6 rfl
theorem d_lw_553 : decode code 553 = .ok (.iaload, 1) := dt_get (q := (553, .iaload, 1)) D_lw_6_ok 7 rfl
theorem d_lw_554 : decode code 554 = .ok (.invokevirtual 62, 3) := dt_get (q := (554, .invokevirtual 62, 3)) D_lw_6_ok 8 rfl
theorem d_lw_557 : decode code 557 = .ok (.pop, 1) := dt_get (q := (557, .pop, 1)) D_lw_6_ok 9 rfl
theorem d_lw_558 : decode code 558 = .ok (.aload_n 2, 1) := dt_get (q := (558, .aload_n 2, 1)) D_lw_6_ok 10 rfl
theorem d_lw_559 : decode code 559 = .ok (.aload_n 0, 1) := dt_get (q := (559, .aload_n 0, 1)) D_lw_6_ok 11 rfl
theorem d_lw_560 : decode code 560 = .ok (.iload 4, 2) := dt_get (q := (560, .iload 4, 2)) D_lw_6_ok 12 rfl
theorem d_lw_562 : decode code 562 = .ok (.iconst 1, 1) := dt_get (q := (562, .iconst 1, 1)) D_lw_6_ok 13 rfl
theorem d_lw_563 : decode code 563 = .ok (.iadd, 1) := dt_get (q := (563, .iadd, 1)) D_lw_6_ok 14 rfl
theorem d_lw_564 : decode code 564 = .ok (.iaload, 1) := dt_get (q := (564, .iaload, 1)) D_lw_6_ok 15 rfl
theorem d_lw_565 : decode code 565 = .ok (.aload_n 0, 1) := dt_get (q := (565, .aload_n 0, 1)) D_lw_6_ok 16 rfl
theorem d_lw_566 : decode code 566 = .ok (.iload 4, 2) := dt_get (q := (566, .iload 4, 2)) D_lw_6_ok 17 rfl
theorem d_lw_568 : decode code 568 = .ok (.iconst 2, 1) := dt_get (q := (568, .iconst 2, 1)) D_lw_6_ok 18 rfl
theorem d_lw_569 : decode code 569 = .ok (.iadd, 1) := dt_get (q := (569, .iadd, 1)) D_lw_6_ok 19 rfl
theorem d_lw_570 : decode code 570 = .ok (.iaload, 1) := dt_get (q := (570, .iaload, 1)) D_lw_6_ok 20 rfl
theorem d_lw_571 : decode code 571 = .ok (.aload_n 0, 1) := dt_get (q := (571, .aload_n 0, 1)) D_lw_6_ok 21 rfl
theorem d_lw_572 : decode code 572 = .ok (.iload 4, 2) := dt_get (q := (572, .iload 4, 2)) D_lw_6_ok 22 rfl
theorem d_lw_574 : decode code 574 = .ok (.iconst 3, 1) := dt_get (q := (574, .iconst 3, 1)) D_lw_6_ok 23 rfl
theorem d_lw_575 : decode code 575 = .ok (.iadd, 1) := dt_get (q := (575, .iadd, 1)) D_lw_6_ok 24 rfl
theorem d_lw_576 : decode code 576 = .ok (.iaload, 1) := dt_get (q := (576, .iaload, 1)) D_lw_6_ok 25 rfl
theorem d_lw_577 : decode code 577 = .ok (.invokevirtual 66, 3) := dt_get (q := (577, .invokevirtual 66, 3)) D_lw_6_ok 26 rfl
theorem d_lw_580 : decode code 580 = .ok (.pop, 1) := dt_get (q := (580, .pop, 1)) D_lw_6_ok 27 rfl
theorem d_lw_581 : decode code 581 = .ok (.goto 1611, 3) := dt_get (q := (581, .goto 1611, 3)) D_lw_6_ok 28 rfl
theorem d_lw_584 : decode code 584 = .ok (.aload_n 1, 1) := dt_get (q := (584, .aload_n 1, 1)) D_lw_6_ok 29 rfl
theorem d_lw_585 : decode code 585 = .ok (.aload_n 0, 1) := dt_get (q := (585, .aload_n 0, 1)) D_lw_6_ok 30 rfl
theorem d_lw_586 : decode code 586 = .ok (.iload 4, 2) := dt_get (q := (586, .iload 4, 2)) D_lw_6_ok 31 rfl
theorem d_lw_588 : decode code 588 = .ok (.iconst 1, 1) := dt_get (q := (588, .iconst 1, 1)) D_lw_6_ok 32 rfl
theorem d_lw_589 : decode code 589 = .ok (.iadd, 1) := dt_get (q := (589, .iadd, 1)) D_lw_6_ok 33 rfl
theorem d_lw_590 : decode code 590 = .ok (.iaload, 1) := dt_get (q := (590, .iaload, 1)) D_lw_6_ok 34 rfl
theorem d_lw_591 : decode code 591 = .ok (.aload_n 0, 1) := dt_get (q := (591, .aload_n 0, 1)) D_lw_6_ok 35 rfl
theorem d_lw_592 : decode code 592 = .ok (.iload 4, 2) := dt_get (q := (592, .iload 4, 2)) D_lw_6_ok 36 rfl
theorem d_lw_594 : decode code 594 = .ok (.iconst 2, 1) := dt_get (q := (594, .iconst 2, 1)) D_lw_6_ok 37 rfl
theorem d_lw_595 : decode code 595 = .ok (.iadd, 1) := dt_get (q := (595, .iadd, 1)) D_lw_6_ok 38 rfl
theorem d_lw_596 : decode code 596 = .ok (.iaload, 1) := dt_get (q := (596, .iaload, 1)) D_lw_6_ok 39 rfl
def D_lw_7 : DT := [(597, .aload_n 0, 1), (598, .iload 4, 2), (600, .iconst 3, 1), (601, .iadd, 1), (602, .iaload, 1), (603, .invokevirtual 67, 3), (606, .pop, 1), (607, .aload_n 2, 1), (608, .aload_n 0, 1), (609, .iload 4, 2), (611, .iconst 1, 1), (612, .iadd, 1), (613, .iaload, 1), (614, .aload_n 0, 1), (615, .iload 4, 2), (617, .iconst 2, 1), (618, .iadd, 1), (619, .iaload, 1), (620, .aload_n 0, 1), (621, .iload 4, 2), (623, .iconst 3, 1), (624, .iadd, 1), (625, .iaload, 1), (626, .invokevirtual 70, 3), (629, .pop, 1), (630, .goto 1562, 3), (633, .aload_n 1, 1), (634, .aload_n 0, 1), (635, .iload 4, 2), (637, .iconst 1, 1), (638, .iadd, 1), (639, .iaload, 1), (640, .aload_n 0, 1), (641, .iload 4, 2), (643, .iconst 2, 1), (644, .iadd, 1), (645, .iaload, 1), (646, .invokevirtual 71, 3), (649, .pop, 1), (650, .aload_n 2, 1)]
theorem D_lw_7_ok : dtOK code D_lw_7 = true := by decide +kernel
theorem d_lw_597 : decode code 597 = .ok (.aload_n 0, 1) := dt_get (q := (597, .aload_n 0, 1)) D_lw_7_ok 0 rfl
theorem d_lw_598 : decode code 598 = .ok (.iload 4, 2) := dt_get (q := (598, .iload 4, 2)) D_lw_7_ok 1 rfl
theorem d_lw_600 : decode code 600 = .ok (.iconst 3, 1) := dt_get (q := (600, .iconst 3, 1)) D_lw_7_ok 2 rfl
theorem d_lw_601 : decode code 601 = .ok (.iadd, 1) := dt_get (q := (601, .iadd, 1)) D_lw_7_ok 3 rfl
theorem d_lw_602 : decode code 602 = .ok (.iaload, 1) := dt_get (q := (602, .iaload, 1)) D_lw_7_ok 4 rfl
theorem d_lw_603 : decode code 603 = .ok (.invokevirtual 67, 3) := dt_get (q := (603, .invokevirtual 67, 3)) D_lw_7_ok 5 rfl
theorem d_lw_606 : decode code 606 = .ok (.pop, 1) := dt_get (q := (606, .pop, 1)) D_lw_7_ok 6 rfl
theorem d_lw_607 : decode code 607 = .ok (.aload_n 2, 1) := dt_get (q := (607, .aload_n 2, 1)) D_lw_7_ok 7 rfl
theorem d_lw_608 : decode code 608 = .ok (.aload_n 0, 1) := dt_get (q := (608, .aload_n 0, 1)) D_lw_7_ok 8 rfl
theorem d_lw_609 : decode code 609 = .ok (.iload 4, 2) := dt_get (q := (609, .iload 4, 2)) D_lw_7_ok 9 rfl
theorem d_lw_611 : decode code 611 = .ok (.iconst 1, 1) := dt_get (q := (611, .iconst 1, 1)) D_lw_7_ok 10 rfl
theorem d_lw_612 : decode code 612 = .ok (.iadd, 1) := dt_get (q := (612, .iadd, 1)) D_lw_7_ok 11 rfl
theorem d_lw_613 : decode code 613 = .ok (.iaload, 1) := dt_get (q := (613, .iaload, 1)) D_lw_7_ok 12 rfl
theorem d_lw_614 : decode code 614 = .ok (.aload_n 0, 1) := dt_get (q := (614, .aload_n 0, 1)) D_lw_7_ok 13 rfl
theorem d_lw_615 : decode code 615 = .ok (.iload 4, 2) := dt_get (q := (615, .iload 4, 2)) D_lw_7_ok 14 rfl
theorem d_lw_617 : decode code 617 = .ok (.iconst 2, 1) := dt_get (q := (617, .iconst 2, 1)) D_lw_7_ok 15 rfl
theorem d_lw_618 : decode code 618 = .ok (.iadd, 1) := dt_get (q := (618, .iadd, 1)) D_lw_7_ok 16 rfl
theorem d_lw_619 : decode code 619 = .ok (.iaload, 1) := dt_get (q := (619, .iaload, 1)) D_lw_7_ok 17 rfl
theorem d_lw_620 : decode code 620 = .ok (.aload_n 0, 1) := dt_get (q := (620, .aload_n 0, 1)) D_lw_7_ok 18 rfl
theorem d_lw_621 : decode code 621 = .ok (.iload 4, 2) := dt_get (q := (621, .iload 4, 2)) D_lw_7_ok 19 rfl
theorem d_lw_623 : decode code 623 = .ok (.iconst 3, 1) := dt_get (q := (623, .iconst 3, 1)) D_lw_7_ok 20 rfl
theorem d_lw_624 : decode code 624 = .ok (.iadd, 1) := dt_get (q := (624, .iadd, 1)) D_lw_7_ok 21 rfl
theorem d_lw_625 : decode code 625 = .ok (.iaload, 1) := dt_get (q := (625, .iaload, 1)) D_lw_7_ok 22 rfl
theorem d_lw_626 : decode code 626 = .ok (.invokevirtual 70, 3) := dt_get (q := (626, .invokevirtual 70, 3)) D_lw_7_ok 23 rfl
theorem d_lw_629 : decode code 629 = .ok (.pop, 1) := dt_get (q := (629, .pop, 1)) D_lw_7_ok 24 rfl
theorem d_lw_630 : decode code 630 = .ok (.goto 1562, 3) := dt_get (q := (630, .goto 1562, 3)) D_lw_7_ok 25 rfl
theorem d_lw_633 : decode code 633 = .ok (.aload_n 1, 1) := dt_get (q := (633, .aload_n 1, 1)) D_lw_7_ok 26 rfl
theorem d_lw_634 : decode code 634 = .ok (.aload_n 0, 1) := dt_get (q := (634, .aload_n 0, 1)) D_lw_7_ok 27 rfl
theorem d_lw_635 : decode code 635 = .ok (.iload 4, 2) := dt_get (q := (635, .iload 4, 2)) D_lw_7_ok 28 rfl
theorem d_lw_637 : decode code 637 = .ok (.iconst 1, 1) := dt_get (q := (637, .iconst 1, 1)) D_lw_7_ok 29 rfl
theorem d_lw_638 : decode code 638 = .ok (.iadd, 1) := dt_get (q := (638, .iadd, 1)) D_lw_7_ok 30 rfl
theorem d_lw_639 : decode code 639 = .ok (.iaload, 1) := dt_get (q := (639, .iaload, 1)) D_lw_7_ok 31 rfl
theorem d_lw_640 : decode code 640 = .ok (.aload_n 0, 1) := dt_get (q := (640, .aload_n 0, 1)) D_lw_7_ok 32 rfl
theorem d_lw_641 : decode code 641 = .ok (.iload 4, 2) := dt_get (q := (641, .iload 4, 2)) D_lw_7_ok 33 rfl
theorem d_lw_643 : decode code 643 = .ok (.iconst 2, 1) := dt_get (q := (643, .iconst 2, 1)) D_lw_7_ok 34 rfl
theorem d_lw_644 : decode code 644 = .ok (.iadd, 1) := dt_get (q := (644, .iadd, 1)) D_lw_7_ok 35 rfl
theorem d_lw_645 : decode code 645 = .ok (.iaload, 1) := dt_get (q := (645, .iaload, 1)) D_lw_7_ok 36 rfl
theorem d_lw_646 : decode code 646 = .ok (.invokevirtual 71, 3) := dt_get (q := (646, .invokevirtual 71, 3)) D_lw_7_ok 37 rfl
theorem d_lw_649 : decode code 649 = .ok (.pop, 1) := dt_get (q := (649, .pop, 1)) D_lw_7_ok 38 rfl
theorem d_lw_650 : decode code 650 = .ok (.aload_n 2, 1) := dt_get (q := (650, .aload_n 2, 1)) D_lw_7_ok 39 rfl
def D_lw_8 : DT := [(651, .aload_n 0, 1), (652, .iload 4, 2), (654, .iconst 1, 1), (655, .iadd, 1), (656, .iaload, 1), (657, .aload_n 0, 1), (658, .iload 4, 2), (660, .iconst 2, 1), (661, .iadd, 1), (662, .iaload, 1), (663, .invokevirtual 75, 3), (666, .pop, 1), (667, .goto 1525, 3), (670, .aload_n 1, 1), (671, .aload_n 0, 1), (672, .iload 4, 2), (674, .iconst 1, 1), (675, .iadd, 1), (676, .iaload, 1), (677, .aload_n 0, 1), (678, .iload 4, 2), (680, .iconst 2, 1), (681, .iadd, 1), (682, .iaload, 1), (683, .invokevirtual 76, 3), (686, .pop, 1), (687, .aload_n 2, 1), (688, .aload_n 0, 1), (689, .iload 4, 2), (691, .iconst 1, 1), (692, .iadd, 1), (693, .iaload, 1), (694, .aload_n 0, 1), (695, .iload 4, 2), (697, .iconst 2, 1), (698, .iadd, 1), (699, .iaload, 1), (700, .invokevirtual 79, 3), (703, .pop, 1), (704, .goto 1488, 3)]
theorem D_lw_8_ok : dtOK code D_lw_8 = true := by decide +kernel
theorem d_lw_651 : decode code 651 = .ok (.aload_n 0, 1) := dt_get (q := (651, .aload_n 0, 1)) D_lw_8_ok 0 rfl
theorem d_lw_652 : decode code 652 = .ok (.iload 4, 2) := dt_get (q := (652, .iload 4, 2)) D_lw_8_ok 1 rfl
theorem d_lw_654 : decode code 654 = .ok (.iconst 1, 1) := dt_get (q := (654, .iconst 1, 1)) D_lw_8_ok 2 rfl
theorem d_lw_655 : decode code 655 = .ok (.iadd, 1) := dt_get (q := (655, .iadd, 1)) D_lw_8_ok 3 rfl
theorem d_lw_656 : decode code 656 = .ok (.iaload, 1) := dt_get (q := (656, .iaload, 1)) D_lw_8_ok 4 rfl
theorem d_lw_657 : decode code 657 = .ok (.aload_n 0, 1) := dt_get (q := (657, .aload_n 0, 1)) D_lw_8_ok 5 rfl
theorem d_lw_658 : decode code 658 = .ok (.iload 4, 2) := dt_get (q := (658, .iload 4, 2)) D_lw_8_ok 6 rfl
theorem d_lw_660 : decode code 660 = .ok (.iconst 2, 1) := dt_get (q := (660, .iconst 2, 1)) D_lw_8_ok 7 rfl
theorem d_lw_661 : decode code 661 = .ok (.iadd, 1) := dt_get (q := (661, .iadd, 1)) D_lw_8_ok 8 rfl
theorem d_lw_662 : decode code 662 = .ok (.iaload, 1) := dt_get (q := (662, .iaload, 1)) D_lw_8_ok 9 rfl
theorem d_lw_663 : decode code 663 = .ok (.invokevirtual 75, 3) := dt_get (q := (663, .invokevirtual 75, 3)) D_lw_8_ok 10 rfl
theorem d_lw_666 : decode code 666 = .ok (.pop, 1) := dt_get (q := (666, .pop, 1)) D_lw_8_ok 11 rfl
theorem d_lw_667 : decode code 667 = .ok (.goto 1525, 3) := dt_get (q := (667, .goto 1525, 3)) D_lw_8_ok 12 rfl
theorem d_lw_670 : decode code 670 = .ok (.aload_n 1, 1) := dt_get (q := (670, .aload_n 1, 1)) D_lw_8_ok 13 rfl
theorem d_lw_671 : decode code 671 = .ok (.aload_n 0, 1) := dt_get (q := (671, .aload_n 0, 1)) D_lw_8_ok 14 rfl
theorem d_lw_672 : decode code 672 = .ok (.iload 4, 2) := dt_get (q := (672, .iload 4, 2)) D_lw_8_ok 15 rfl
theorem d_lw_674 : decode code 674 = .ok (.iconst 1, 1) := dt_get (q := (674, .iconst 1, 1)) D_lw_8_ok 16 rfl
theorem d_lw_675 : decode code 675 = .ok (.iadd, 1) := dt_get (q := (675, .iadd, 1)) D_lw_8_ok 17 rfl
theorem d_lw_676 : decode code 676 = .ok (.iaload, 1) := dt_get (q := (676, .iaload, 1)) D_lw_8_ok 18 rfl
theorem d_lw_677 : decode code 677 = .ok (.aload_n 0, 1) := dt_get (q := (677, .aload_n 0, 1)) D_lw_8_ok 19 rfl
theorem d_lw_678 : decode code 678 = .ok (.iload 4, 2) := dt_get (q := (678, .iload 4, 2)) D_lw_8_ok 20 rfl
theorem d_lw_680 : decode code 680 = .ok (.iconst 2, 1) := dt_get (q := (680, .iconst 2, 1)) D_lw_8_ok 21 rfl
theorem d_lw_681 : decode code 681 = .ok (.iadd, 1) := dt_get (q := (681, .iadd, 1)) D_lw_8_ok 22 rfl
theorem d_lw_682 : decode code 682 = .ok (.iaload, 1) := dt_get (q := (682, .iaload, 1)) D_lw_8_ok 23 rfl
theorem d_lw_683 : decode code 683 = .ok (.invokevirtual 76, 3) := dt_get (q := (683, .invokevirtual 76, 3)) D_lw_8_ok 24 rfl
theorem d_lw_686 : decode code 686 = .ok (.pop, 1) := dt_get (q := (686, .pop, 1)) D_lw_8_ok 25 rfl
theorem d_lw_687 : decode code 687 = .ok (.aload_n 2, 1) := dt_get (q := (687, .aload_n 2, 1)) D_lw_8_ok 26 rfl
theorem d_lw_688 : decode code 688 = .ok (.aload_n 0, 1) := dt_get (q := (688, .aload_n 0, 1)) D_lw_8_ok 27 rfl
theorem d_lw_689 : decode code 689 = .ok (.iload 4, 2) := dt_get (q := (689, .iload 4, 2)) D_lw_8_ok 28 rfl
theorem d_lw_691 : decode code 691 = .ok (.iconst 1, 1) := dt_get (q := (691, .iconst 1, 1)) D_lw_8_ok 29 rfl
theorem d_lw_692 : decode code 692 = .ok (.iadd, 1) := dt_get (q := (692, .iadd, 1)) D_lw_8_ok 30 rfl
theorem d_lw_693 : decode code 693 = .ok (.iaload, 1) := dt_get (q := (693, .iaload, 1)) D_lw_8_ok 31 rfl
theorem d_lw_694 : decode code 694 = .ok (.aload_n 0, 1) := dt_get (q := (694, .aload_n 0, 1)) D_lw_8_ok 32 rfl
theorem d_lw_695 : decode code 695 = .ok (.iload 4, 2) := dt_get (q := (695, .iload 4, 2)) D_lw_8_ok 33 rfl
theorem d_lw_697 : decode code 697 = .ok (.iconst 2, 1) := dt_get (q := (697, .iconst 2, 1)) D_lw_8_ok 34 rfl
theorem d_lw_698 : decode code 698 = .ok (.iadd, 1) := dt_get (q := (698, .iadd, 1)) D_lw_8_ok 35 rfl
theorem d_lw_699 : decode code 699 = .ok (.iaload, 1) := dt_get (q := (699, .iaload, 1)) D_lw_8_ok 36 rfl
theorem d_lw_700 : decode code 700 = .ok (.invokevirtual 79, 3) := dt_get (q := (700, .invokevirtual 79, 3)) D_lw_8_ok 37 rfl
theorem d_lw_703 : decode code 703 = .ok (.pop, 1) := dt_get (q := (703, .pop, 1)) D_lw_8_ok 38 rfl
theorem d_lw_704 : decode code 704 = .ok (.goto 1488, 3) := dt_get (q := (704, .goto 1488, 3)) D_lw_8_ok 39 rfl
def D_lw_9 : DT := [(707, .aload_n 1, 1), (708, .aload_n 0, 1), (709, .iload 4, 2), (711, .iconst 1, 1), (712, .iadd, 1), (713, .iaload, 1), (714, .aload_n 0, 1), (715, .iload 4, 2), (717, .iconst 2, 1), (718, .iadd, 1), (719, .iaload, 1), (720, .invokevirtual 80, 3), (723, .pop, 1), (724, .aload_n 2, 1), (725, .aload_n 0, 1), (726, .iload 4, 2), (728, .iconst 1, 1), (729, .iadd, 1), (730, .iaload, 1), (731, .aload_n 0, 1), (732, .iload 4, 2), (734, .iconst 2, 1), (735, .iadd, 1), (736, .iaload, 1), (737, .invokevirtual 83, 3), (740, .pop, 1), (741, .goto 1451, 3), (744, .aload_n 1, 1), (745, .aload_n 0, 1), (746, .iload 4, 2), (748, .iconst 1, 1), (749, .iadd, 1), (750, .iaload, 1), (751, .aload_n 0, 1), (752, .iload 4, 2), (754, .iconst 2, 1), (755, .iadd, 1), (756, .iaload, 1), (757, .aload_n 0, 1), (758, .iload 4, 2)]
theorem D_lw_9_ok : dtOK code D_lw_9 = true := by decide +kernel
theorem d_lw_707 : decode code 707 = .ok (.aload_n 1, 1) := dt_get (q := (707, .aload_n 1, 1)) D_lw_9_ok 0 rfl
theorem d_lw_708 : decode code 708 = .ok (.aload_n 0, 1) := dt_get (q := (708, .aload_n 0, 1)) D_lw_9_ok 1 rfl
theorem d_lw_709 : decode code 709 = .ok (.iload 4, 2) := dt_get (q := (709, .iload 4, 2)) D_lw_9_ok 2 rfl
theorem d_lw_711 : decode code 711 = .ok (.iconst 1, 1) := dt_get (q := (711, .iconst 1, 1)) D_lw_9_ok 3 rfl
theorem d_lw_712 : decode code 712 = .ok (.iadd, 1) := dt_get (q := (712, .iadd, 1)) D_lw_9_ok 4 rfl
theorem d_lw_713 : decode code 713 = .ok (.iaload, 1) := dt_get (q := (713, .iaload, 1)) D_lw_9_ok 5 rfl
theorem d_lw_714 : decode code 714 = .ok (.aload_n 0, 1) := dt_get (q := (714, .aload_n 0, 1)) D_lw_9_ok 6 rfl
theorem d_lw_715 : decode code 715 = .ok (.iload 4, 2) := dt_get (q := (715, .iload 4, 2)) D_lw_9_ok 7 rfl
theorem d_lw_717 : decode code 717 = .ok (.iconst 2, 1) := dt_get (q := (717, .iconst 2, 1)) D_lw_9_ok 8 rfl
theorem d_lw_718 : decode code 718 = .ok (.iadd, 1) := dt_get (q := (718, .iadd, 1)) D_lw_9_ok 9 rfl
theorem d_lw_719 : decode code 719 = .ok (.iaload, 1) := dt_get (q := (719, .iaload, 1)) D_lw_9_ok 10 rfl
theorem d_lw_720 : decode code 720 = .ok (.invokevirtual 80, 3) := dt_get (q := (720, .invokevirtual 80, 3)) D_lw_9_ok 11 rfl
theorem d_lw_723 : decode code 723 = .ok (.pop, 1) := dt_get (q := (723, .pop, 1)) D_lw_9_ok 12 rfl
theorem d_lw_724 : decode code 724 = .ok (.aload_n 2, 1) := dt_get (q := (724, .aload_n 2, 1)) D_lw_9_ok 13 rfl
theorem d_lw_725 : decode code 725 = .ok (.aload_n 0, 1) := dt_get (q := (725, .aload_n 0, 1)) D_lw_9_ok 14 rfl
theorem d_lw_726 : decode code 726 = .ok (.iload 4, 2) := dt_get (q := (726, .iload 4, 2)) D_lw_9_ok 15 rfl
theorem d_lw_728 : decode code 728 = .ok (.iconst 1, 1) := dt_get (q := (728, .iconst 1, 1)) D_lw_9_ok 16 rfl
theorem d_lw_729 : decode code 729 = .ok (.iadd, 1) := dt_get (q := (729, .iadd, 1)) D_lw_9_ok 17 rfl
theorem d_lw_730 : decode code 730 = .ok (.iaload, 1) := dt_get (q := (730, .iaload, 1)) D_lw_9_ok 18 rfl
theorem d_lw_731 : decode code 731 = .ok (.aload_n 0, 1) := dt_get (q := (731, .aload_n 0, 1)) D_lw_9_ok 19 rfl
theorem d_lw_732 : decode code 732 = .ok (.iload 4, 2) := dt_get (q := (732, .iload 4, 2)) D_lw_9_ok 20 rfl
theorem d_lw_734 : decode code 734 = .ok (.iconst 2, 1) := dt_get (q := (734, .iconst 2, 1)) D_lw_9_ok 21 rfl
theorem d_lw_735 : decode code 735 = .ok (.iadd, 1) := dt_get (q := (735, .iadd, 1)) D_lw_9_ok 22 rfl
theorem d_lw_736 : decode code 736 = .ok (.iaload, 1) := dt_get (q := (736, .iaload, 1)) D_lw_9_ok 23 rfl
theorem d_lw_737 : decode code 737 = .ok (.invokevirtual 83, 3) := dt_get (q := (737, .invokevirtual 83, 3)) D_lw_9_ok 24 rfl
theorem d_lw_740 : decode code 740 = .ok (.pop, 1) := dt_get (q := (740, .pop, 1)) D_lw_9_ok 25 rfl
theorem d_lw_741 : decode code 741 = .ok (.goto 1451, 3) := dt_get (q := (741, .goto 1451, 3)) D_lw_9_ok 26 rfl
theorem d_lw_744 : decode code 744 = .ok (.aload_n 1, 1) := dt_get (q := (744, .aload_n 1, 1)) D_lw_9_ok 27 rfl
theorem d_lw_745 : decode code 745 = .ok (.aload_n 0, 1) := dt_get (q := (745, .aload_n 0, 1)) D_lw_9_ok 28 rfl
theorem d_lw_746 : decode code 746 = .ok (.iload 4, 2) := dt_get (q := (746, .iload 4, 2)) D_lw_9_ok 29 rfl
theorem d_lw_748 : decode code 748 = .ok (.iconst 1, 1) := dt_get (q := (748, .iconst 1, 1)) D_lw_9_ok 30 rfl
theorem d_lw_749 : decode code 749 = .ok (.iadd, 1) := dt_get (q := (749, .iadd, 1)) D_lw_9_ok 31 rfl
theorem d_lw_750 : decode code 750 = .ok (.iaload, 1) := dt_get (q := (750, .iaload, 1)) D_lw_9_ok 32 rfl
theorem d_lw_751 : decode code 751 = .ok (.aload_n 0, 1) := dt_get (q := (751, .aload_n 0, 1)) D_lw_9_ok 33 rfl
theorem d_lw_752 : decode code 752 = .ok (.iload 4, 2) := dt_get (q := (752, .iload 4, 2)) D_lw_9_ok 34 rfl
theorem d_lw_754 : decode code 754 = .ok (.iconst 2, 1) := dt_get (q := (754, .iconst 2, 1)) D_lw_9_ok 35 rfl
theorem d_lw_755 : decode code 755 = .ok (.iadd, 1) := dt_get (q := (755, .iadd, 1)) D_lw_9_ok 36 rfl
theorem d_lw_756 : decode code 756 = .ok (.iaload, 1) := dt_get (q := (756, .iaload, 1)) D_lw_9_ok 37 rfl
theorem d_lw_757 : decode code 757 = .ok (.aload_n 0, 1) := dt_get (q := (757, .aload_n 0, 1)) D_lw_9_ok 38 rfl
theorem d_lw_758 : decode code 758 = .ok (.iload 4, 2) := dt_get (q := (758, .iload 4, 2)) D_lw_9_ok 39 rfl
def D_lw_10 : DT := [(760, .iconst 3, 1), (761, .iadd, 1), (762, .iaload, 1), (763, .aload_n 0, 1), (764, .iload 4, 2), (766, .iconst 4, 1), (767, .iadd, 1), (768, .iaload, 1), (769, .invokevirtual 84, 3), (772, .pop, 1), (773, .aload_n 2, 1), (774, .aload_n 0, 1), (775, .iload 4, 2), (777, .iconst 1, 1), (778, .iadd, 1), (779, .iaload, 1), (780, .aload_n 0, 1), (781, .iload 4, 2), (783, .iconst 2, 1), (784, .iadd, 1), (785, .iaload, 1), (786, .aload_n 0, 1), (787, .iload 4, 2), (789, .iconst 3, 1), (790, .iadd, 1), (791, .iaload, 1), (792, .aload_n 0, 1), (793, .iload 4, 2), (795, .iconst 4, 1), (796, .iadd, 1), (797, .iaload, 1), (798, .invokevirtual 87, 3), (801, .pop, 1), (802, .goto 1390, 3), (805, .aload_n 1, 1), (806, .aload_n 0, 1), (807, .iload 4, 2), (809, .iconst 1, 1), (810, .iadd, 1), (811, .iaload, 1)]
theorem D_lw_10_ok : dtOK code D_lw_10 = true := by decide +kernel
theorem d_lw_760 : decode code 760 = .ok (.iconst 3, 1) := dt_get (q := (760, .iconst 3, 1)) D_lw_10_ok 0 rfl
theorem d_lw_761 : decode code 761 = .ok (.iadd, 1) := dt_get (q := (761, .iadd, 1)) D_lw_10_ok 1 rfl
theorem d_lw_762 : decode code 762 = .ok (.iaload, 1) := dt_get (q := (762, .iaload, 1)) D_lw_10_ok 2 rfl
theorem d_lw_763 : decode code 763 = .ok (.aload_n 0, 1) := dt_get (q := (763, .aload_n 0, 1)) D_lw_10_ok 3 rfl
theorem d_lw_764 : decode code 764 = .ok (.iload 4, 2) := dt_get (q := (764, .iload 4, 2)) D_lw_10_ok 4 rfl
theorem d_lw_766 : decode code 766 = .ok (.iconst 4, 1) := dt_get (q := (766, .iconst 4, 1)) D_lw_10_ok 5 rfl
theorem d_lw_767 : decode code 767 = .ok (.iadd, 1) := dt_get (q := (767, .iadd, 1)) D_lw_10_ok 6 rfl
theorem d_lw_768 : decode code 768 = .ok (.iaload, 1) := dt_get (q := (768, .iaload, 1)) D_lw_10_ok 7 rfl
theorem d_lw_769 : decode code 769 = .ok (.invokevirtual 84, 3) := dt_get (q := (769, .invokevirtual 84, 3)) D_lw_10_ok 8 rfl
theorem d_lw_772 : decode code 772 = .ok (.pop, 1) := dt_get (q := (772, .pop, 1)) D_lw_10_ok 9 rfl
theorem d_lw_773 : decode code 773 = .ok (.aload_n 2, 1) := dt_get (q := (773, .aload_n 2, 1)) D_lw_10_ok 10 rfl
theorem d_lw_774 : decode code 774 = .ok (.aload_n 0, 1) := dt_get (q := (774, .aload_n 0, 1)) D_lw_10_ok 11 rfl
theorem d_lw_775 : decode code 775 = .ok (.iload 4, 2) := dt_get (q := (775, .iload 4, 2)) D_lw_10_ok 12 rfl
theorem d_lw_777 : decode code 777 = .ok (.iconst 1, 1) := dt_get (q := (777, .iconst 1, 1)) D_lw_10_ok 13 rfl
theorem d_lw_778 : decode code 778 = .ok (.iadd, 1) := dt_get (q := (778, .iadd, 1)) D_lw_10_ok 14 rfl
theorem d_lw_779 : decode code 779 = .ok (.iaload, 1) := dt_get (q := (779, .iaload, 1)) D_lw_10_ok 15 rfl
theorem d_lw_780 : decode code 780 = .ok (.aload_n 0, 1) := dt_get (q := (780, .aload_n 0, 1)) D_lw_10_ok 16 rfl
theorem d_lw_781 : decode code 781 = .ok (.iload 4, 2) := dt_get (q := (781, .iload 4, 2)) D_lw_10_ok 17 rfl
theorem d_lw_783 : decode code 783 = .ok (.iconst 2, 1) := dt_get (q := (783, .iconst 2, 1)) D_lw_10_ok 18 rfl
theorem d_lw_784 : decode code 784 = .ok (.iadd, 1) := dt_get (q := (784, .iadd, 1)) D_lw_10_ok 19 rfl
theorem d_lw_785 : decode code 785 = .ok (.iaload, 1) := dt_get (q := (785, .iaload, 1)) D_lw_10_ok 20 rfl
theorem d_lw_786 : decode code 786 = .ok (.aload_n 0, 1) := dt_get (q := (786, .aload_n 0, 1)) D_lw_10_ok 21 rfl
theorem d_lw_787 : decode code 787 = .ok (.iload 4, 2) := dt_get (q := (787, .iload 4, 2)) D_lw_10_ok 22 rfl
theorem d_lw_789 : decode code 789 = .ok (.iconst 3, 1) := dt_get (q := (789, .iconst 3, 1)) D_lw_10_ok 23 rfl
theorem d_lw_790 : decode code 790 = .ok (.iadd, 1) := dt_get (q := (790, .iadd, 1)) D_lw_10_ok 24 rfl
theorem d_lw_791 : decode code 791 = .ok (.iaload, 1) := dt_get (q := (791, .iaload, 1)) D_lw_10_ok 25 rfl
theorem d_lw_792 : decode code 792 = .ok (.aload_n 0, 1) := dt_get (q := (792, .aload_n 0, 1)) D_lw_10_ok 26 rfl
theorem d_lw_793 : decode code 793 = .ok (.iload 4, 2) := dt_get (q := (793, .iload 4, 2)) D_lw_10_ok 27 rfl
theorem d_lw_795 : decode code 795 = .ok (.iconst 4, 1) := dt_get (q := (795, .iconst 4, 1)) D_lw_10_ok 28 rfl
theorem d_lw_796 : decode code 796 = .ok (.iadd, 1) := dt_get (q := (796, .iadd, 1)) D_lw_10_ok 29 rfl
theorem d_lw_797 : decode code 797 = .ok (.iaload, 1) := dt_get (q := (797, .iaload, 1)) D_lw_10_ok 30 rfl
theorem d_lw_798 : decode code 798 = .ok (.invokevirtual 87, 3) := dt_get (q := (798, .invokevirtual 87, 3)) D_lw_10_ok 31 rfl
theorem d_lw_801 : decode code 801 = .ok (.pop, 1) := dt_get (q := (801, .pop, 1)) D_lw_10_ok 32 rfl
theorem d_lw_802 : decode code 802 = .ok (.goto 1390, 3) := dt_get (q := (802, .goto 1390, 3)) D_lw_10_ok 33 rfl
theorem d_lw_805 : decode code 805 = .ok (.aload_n 1, 1) := dt_get (q := (805, .aload_n 1, 1)) D_lw_10_ok 34 rfl
theorem d_lw_806 : decode code 806 = .ok (.aload_n 0, 1) := dt_get (q := (806, .aload_n 0, 1)) D_lw_10_ok 35 rfl
theorem d_lw_807 : decode code 807 = .ok (.iload 4, 2) := dt_get (q := (807, .iload 4, 2)) D_lw_10_ok 36 rfl
theorem d_lw_809 : decode code 809 = .ok (.iconst 1, 1) := dt_get (q := (809, .iconst 1, 1)) D_lw_10_ok 37 rfl
theorem d_lw_810 : decode code 810 = .ok (.iadd, 1) := dt_get (q := (810, .iadd, 1)) D_lw_10_ok 38 rfl
theorem d_lw_811 : decode code 811 = .ok (.iaload, 1) := dt_get (q := (811, .iaload, 1)) D_lw_10_ok 39 rfl
def D_lw_11 : DT := [(812, .aload_n 0, 1), (813, .iload 4, 2), (815, .iconst 2, 1), (816, .iadd, 1), (817, .iaload, 1), (818, .aload_n 0, 1), (819, .iload 4, 2), (821, .iconst 3, 1), (822, .iadd, 1), (823, .iaload, 1), (824, .invokevirtual 88, 3), (827, .pop, 1), (828, .aload_n 2, 1), (829, .aload_n 0, 1), (830, .iload 4, 2), (832, .iconst 1, 1), (833, .iadd, 1), (834, .iaload, 1), (835, .aload_n 0, 1), (836, .iload 4, 2), (838, .iconst 2, 1), (839, .iadd, 1), (840, .iaload, 1), (841, .aload_n 0, 1), (842, .iload 4, 2), (844, .iconst 3, 1), (845, .iadd, 1), (846, .iaload, 1), (847, .invokevirtual 91, 3), (850, .pop, 1), (851, .goto 1341, 3), (854, .aload_n 1, 1), (855, .invokevirtual 92, 3), (858, .pop, 1), (859, .aload_n 2, 1), (860, .invokevirtual 95, 3), (863, .pop, 1), (864, .goto 1328, 3), (867, .aload_n 1, 1), (868, .invokevirtual 96, 3)]
theorem D_lw_11_ok : dtOK code D_lw_11 = true := by decide +kernel
theorem d_lw_812 : decode code 812 = .ok (.aload_n 0, 1) := dt_get (q := (812, .aload_n 0, 1)) D_lw_11_ok 0 rfl
theorem d_lw_813 : decode code 813 = .ok (.iload 4, 2) := dt_get (q := (813, .iload 4, 2)) D_lw_11_ok 1 rfl
theorem d_lw_815 : decode code 815 = .ok (.iconst 2, 1) := dt_get (q := (815, .iconst 2, 1)) D_lw_11_ok 2 rfl
theorem d_lw_816 : decode code 816 = .ok (.iadd, 1) := dt_get (q := (816, .iadd, 1)) D_lw_11_ok 3 rfl
theorem d_lw_817 : decode code 817 = .ok (.iaload, 1) := dt_get (q := (817, .iaload, 1)) D_lw_11_ok 4 rfl
theorem d_lw_818 : decode code 818 = .ok (.aload_n 0, 1) := dt_get (q := (818, .aload_n 0, 1)) D_lw_11_ok 5 rfl
theorem d_lw_819 : decode code 819 = .ok (.iload 4, 2) := dt_get (q := (819, .iload 4, 2)) D_lw_11_ok 6 rfl
theorem d_lw_821 : decode code 821 = .ok (.iconst 3, 1) := dt_get (q := (821, .iconst 3, 1)) D_lw_11_ok 7 rfl
theorem d_lw_822 : decode code 822 = .ok (.iadd, 1) := dt_get (q := (822, .iadd, 1)) D_lw_11_ok 8 rfl
theorem d_lw_823 : decode code 823 = .ok (.iaload, 1) := dt_get (q := (823, .iaload, 1)) D_lw_11_ok 9 rfl
theorem d_lw_824 : decode code 824 = .ok (.invokevirtual 88, 3) := dt_get (q := (824, .invokevirtual 88, 3)) D_lw_11_ok 10 rfl
theorem d_lw_827 : decode code 827 = .ok (.pop, 1) := dt_get (q := (827, .pop, 1)) D_lw_11_ok 11 rfl
theorem d_lw_828 : decode code 828 = .ok (.aload_n 2, 1) := dt_get (q := (828, .aload_n 2, 1)) D_lw_11_ok 12 rfl
theorem d_lw_829 : decode code 829 = .ok (.aload_n 0, 1) := dt_get (q := (829, .aload_n 0, 1)) D_lw_11_ok 13 rfl
theorem d_lw_830 : decode code 830 = .ok (.iload 4, 2) := dt_get (q := (830, .iload 4, 2)) D_lw_11_ok 14 rfl
theorem d_lw_832 : decode code 832 = .ok (.iconst 1, 1) := dt_get (q := (832, .iconst 1, 1)) D_lw_11_ok 15 rfl
theorem d_lw_833 : decode code 833 = .ok (.iadd, 1) := dt_get (q := (833, .iadd, 1)) D_lw_11_ok 16 rfl
theorem d_lw_834 : decode code 834 = .ok (.iaload, 1) := dt_get (q := (834, .iaload, 1)) D_lw_11_ok 17 rfl
theorem d_lw_835 : decode code 835 = .ok (.aload_n 0, 1) := dt_get (q := (835, .aload_n 0, 1)) D_lw_11_ok 18 rfl
theorem d_lw_836 : decode code 836 = .ok (.iload 4, 2) := dt_get (q := (836, .iload 4, 2)) D_lw_11_ok 19 rfl
theorem d_lw_838 : decode code 838 = .ok (.iconst 2, 1) := dt_get (q := (838, .iconst 2, 1)) D_lw_11_ok 20 rfl
theorem d_lw_839 : decode code 839 = .ok (.iadd, 1) := dt_get (q := (839, .iadd, 1)) D_lw_11_ok 21 rfl
theorem d_lw_840 : decode code 840 = .ok (.iaload, 1) := dt_get (q := (840, .iaload, 1)) D_lw_11_ok 22 rfl
theorem d_lw_841 : decode code 841 = .ok (.aload_n 0, 1) := dt_get (q := (841, .aload_n 0, 1)) D_lw_11_ok 23 rfl
theorem d_lw_842 : decode code 842 = .ok (.iload 4, 2) := dt_get (q := (842, .iload 4, 2)) D_lw_11_ok 24 rfl
theorem d_lw_844 : decode code 844 = .ok (.iconst 3, 1) := dt_get (q := (844, .iconst 3, 1)) D_lw_11_ok 25 rfl
theorem d_lw_845 : decode code 845 = .ok (.iadd, 1) := dt_get (q := (845, .iadd, 1)) D_lw_11_ok 26 rfl
theorem d_lw_846 : decode code 846 = .ok (.iaload, 1) := dt_get (q := (846, .iaload, 1)) D_lw_11_ok 27 rfl
theorem d_lw_847 : decode code 847 = .ok (.invokevirtual 91, 3) := dt_get (q := (847, .invokevirtual 91, 3)) D_lw_11_ok 28 rfl
theorem d_lw_850 : decode code 850 = .ok (.pop, 1) := dt_get (q := (850, .pop, 1)) D_lw_11_ok 29 rfl
theorem d_lw_851 : decode code 851 = .ok (.goto 1341, 3) := dt_get (q := (851, .goto 1341, 3)) D_lw_11_ok 30 rfl
theorem d_lw_854 : decode code 854 = .ok (.aload_n 1, 1) := dt_get (q := (854, .aload_n 1, 1)) D_lw_11_ok 31 rfl
theorem d_lw_855 : decode code 855 = .ok (.invokevirtual 92, 3) := dt_get (q := (855, .invokevirtual 92, 3)) D_lw_11_ok 32 rfl
theorem d_lw_858 : decode code 858 = .ok (.pop, 1) := dt_get (q := (858, .pop, 1)) D_lw_11_ok 33 rfl
theorem d_lw_859 : decode code 859 = .ok (.aload_n 2, 1) := dt_get (q := (859, .aload_n 2, 1)) D_lw_11_ok 34 rfl
theorem d_lw_860 : decode code 860 = .ok (.invokevirtual 95, 3) := dt_get (q := (860, .invokevirtual 95, 3)) D_lw_11_ok 35 rfl
theorem d_lw_863 : decode code 863 = .ok (.pop, 1) := dt_get (q := (863, .pop, 1)) D_lw_11_ok 36 rfl
theorem d_lw_864 : decode code 864 = .ok (.goto 1328, 3) := dt_get (q := (864, .goto 1328, 3)) D_lw_11_ok 37 rfl
theorem d_lw_867 : decode code 867 = .ok (.aload_n 1, 1) := dt_get (q := (867, .aload_n 1, 1)) D_lw_11_ok 38 rfl
theorem d_lw_868 : decode code 868 = .ok (.invokevirtual 96, 3) := dt_get (q := (868, .invokevirtual 96, 3)) D_lw_11_ok 39 rfl
def D_lw_12 : DT := [(871, .pop, 1), (872, .aload_n 2, 1), (873, .invokevirtual 99, 3), (876, .pop, 1), (877, .goto 1315, 3), (880, .aload_n 1, 1), (881, .invokevirtual 100, 3), (884, .pop, 1), (885, .aload_n 2, 1), (886, .invokevirtual 103, 3), (889, .pop, 1), (890, .goto 1302, 3), (893, .aload_n 1, 1), (894, .aload_n 0, 1), (895, .iload 4, 2), (897, .iconst 1, 1), (898, .iadd, 1), (899, .iaload, 1), (900, .aload_n 0, 1), (901, .iload 4, 2), (903, .iconst 2, 1), (904, .iadd, 1), (905, .iaload, 1), (906, .invokevirtual 104, 3), (909, .aload_n 2, 1), (910, .aload_n 0, 1), (911, .iload 4, 2), (913, .iconst 1, 1), (914, .iadd, 1), (915, .iaload, 1), (916, .aload_n 0, 1), (917, .iload 4, 2), (919, .iconst 2, 1), (920, .iadd, 1), (921, .iaload, 1), (922, .invokevirtual 107, 3), (925, .if_icmp .eq 1267, 3), (928, .iconst 0, 1), (929, .ireturn, 1), (930, .aload_n 1, 1)]
theorem D_lw_12_ok : dtOK code D_lw_12 = true := by decide +kernel
theorem d_lw_871 : decode code 871 = .ok (.pop, 1) := dt_get (q := (871, .pop, 1)) D_lw_12_ok 0 rfl
theorem d_lw_872 : decode code 872 = .ok (.aload_n 2, 1) := dt_get (q := (872, .aload_n 2, 1)) D_lw_12_ok 1 rfl
theorem d_lw_873 : decode code 873 = .ok (.invokevirtual 99, 3) := dt_get (q := (873, .invokevirtual 99, 3)) D_lw_12_ok 2 rfl
theorem d_lw_876 : decode code 876 = .ok (.pop, 1) := dt_get (q := (876, .pop, 1)) D_lw_12_ok 3 rfl
theorem d_lw_877 : decode code 877 = .ok (.goto 1315, 3) := dt_get (q := (877, .goto 1315, 3)) D_lw_12_ok 4 rfl
theorem d_lw_880 : decode code 880 = .ok (.aload_n 1, 1) := dt_get (q := (880, .aload_n 1, 1)) D_lw_12_ok 5 rfl
theorem d_lw_881 : decode code 881 = .ok (.invokevirtual 100, 3) := dt_get (q := (881, .invokevirtual 100, 3)) D_lw_12_ok 6 rfl
theorem d_lw_884 : decode code 884 = .ok (.pop, 1) := dt_get (q := (884, .pop, 1)) D_lw_12_ok 7 rfl
theorem d_lw_885 : decode code 885 = .ok (.aload_n 2, 1) := dt_get (q := (885, .aload_n 2, 1)) D_lw_12_ok 8 rfl
theorem d_lw_886 : decode code 886 = .ok (.invokevirtual 103, 3) := dt_get (q := (886, .invokevirtual 103, 3)) D_lw_12_ok 9 rfl
theorem d_lw_889 : decode code 889 = .ok (.pop, 1) := dt_get (q := (889, .pop, 1)) D_lw_12_ok 10 rfl
theorem d_lw_890 : decode code 890 = .ok (.goto 1302, 3) := dt_get (q := (890, .goto 1302, 3)) D_lw_12_ok 11 rfl
theorem d_lw_893 : decode code 893 = .ok (.aload_n 1, 1) := dt_get (q := (893, .aload_n 1, 1)) D_lw_12_ok 12 rfl
theorem d_lw_894 : decode code 894 = .ok (.aload_n 0, 1) := dt_get (q := (894, .aload_n 0, 1)) D_lw_12_ok 13 rfl
theorem d_lw_895 : decode code 895 = .ok (.iload 4, 2) := dt_get (q := (895, .iload 4, 2)) D_lw_12_ok 14 rfl
theorem d_lw_897 : decode code 897 = .ok (.iconst 1, 1) := dt_get (q := (897, .iconst 1, 1)) D_lw_12_ok 15 rfl
theorem d_lw_898 : decode code 898 = .ok (.iadd, 1) := dt_get (q := (898, .iadd, 1)) D_lw_12_ok 16 rfl
theorem d_lw_899 : decode code 899 = .ok (.iaload, 1) := dt_get (q := (899, .iaload, 1)) D_lw_12_ok 17 rfl
theorem d_lw_900 : decode code 900 = .ok (.aload_n 0, 1) := dt_get (q := (900, .aload_n 0, 1)) D_lw_12_ok 18 rfl
theorem d_lw_901 : decode code 901 = .ok (.iload 4, 2) := dt_get (q := (901, .iload 4, 2)) D_lw_12_ok 19 rfl
theorem d_lw_903 : decode code 903 = .ok (.iconst 2, 1) := dt_get (q := (903, .iconst 2, 1)) D_lw_12_ok 20 rfl
theorem d_lw_904 : decode code 904 = .ok (.iadd, 1) := dt_get (q := (904, .iadd, 1)) D_lw_12_ok 21 rfl
theorem d_lw_905 : decode code 905 = .ok (.iaload, 1) := dt_get (q := (905, .iaload, 1)) D_lw_12_ok 22 rfl
theorem d_lw_906 : decode code 906 = .ok (.invokevirtual 104, 3) := dt_get (q := (906, .invokevirtual 104, 3)) D_lw_12_ok 23 rfl
theorem d_lw_909 : decode code 909 = .ok (.aload_n 2, 1) := dt_get (q := (909, .aload_n 2, 1)) D_lw_12_ok 24 rfl
theorem d_lw_910 : decode code 910 = .ok (.aload_n 0, 1) := dt_get (q := (910, .aload_n 0, 1)) D_lw_12_ok 25 rfl
theorem d_lw_911 : decode code 911 = .ok (.iload 4, 2) := dt_get (q := (911, .iload 4, 2)) D_lw_12_ok 26 rfl
theorem d_lw_913 : decode code 913 = .ok (.iconst 1, 1) := dt_get (q := (913, .iconst 1, 1)) D_lw_12_ok 27 rfl
theorem d_lw_914 : decode code 914 = .ok (.iadd, 1) := dt_get (q := (914, .iadd, 1)) D_lw_12_ok 28 rfl
theorem d_lw_915 : decode code 915 = .ok (.iaload, 1) := dt_get (q := (915, .iaload, 1)) D_lw_12_ok 29 rfl
theorem d_lw_916 : decode code 916 = .ok (.aload_n 0, 1) := dt_get (q := (916, .aload_n 0, 1)) D_lw_12_ok 30 rfl
theorem d_lw_917 : decode code 917 = .ok (.iload 4, 2) := dt_get (q := (917, .iload 4, 2)) D_lw_12_ok 31 rfl
theorem d_lw_919 : decode code 919 = .ok (.iconst 2, 1) := dt_get (q := (919, .iconst 2, 1)) D_lw_12_ok 32 rfl
theorem d_lw_920 : decode code 920 = .ok (.iadd, 1) := dt_get (q := (920, .iadd, 1)) D_lw_12_ok 33 rfl
theorem d_lw_921 : decode code 921 = .ok (.iaload, 1) := dt_get (q := (921, .iaload, 1)) D_lw_12_ok 34 rfl
theorem d_lw_922 : decode code 922 = .ok (.invokevirtual 107, 3) := dt_get (q := (922, .invokevirtual 107, 3)) D_lw_12_ok 35 rfl
theorem d_lw_925 : decode code 925 = .ok (.if_icmp .eq 1267, 3) := dt_get (q := (925, .if_icmp .eq 1267, 3)) D_lw_12_ok 36 rfl
theorem d_lw_928 : decode code 928 = .ok (.iconst 0, 1) := dt_get (q := (928, .iconst 0, 1)) D_lw_12_ok 37 rfl
theorem d_lw_929 : decode code 929 = .ok (.ireturn, 1) := dt_get (q := (929, .ireturn, 1)) D_lw_12_ok 38 rfl
theorem d_lw_930 : decode code 930 = .ok (.aload_n 1, 1) := dt_get (q := (930, .aload_n 1, 1)) D_lw_12_ok 39 rfl
def D_lw_13 : DT := [(931, .invokevirtual 108, 3), (934, .pop, 1), (935, .aload_n 2, 1), (936, .invokevirtual 111, 3), (939, .pop, 1), (940, .goto 1252, 3), (943, .aload_n 1, 1), (944, .aload_n 0, 1), (945, .iload 4, 2), (947, .iconst 1, 1), (948, .iadd, 1), (949, .iaload, 1), (950, .aload_n 0, 1), (951, .iload 4, 2), (953, .iconst 2, 1), (954, .iadd, 1), (955, .iaload, 1), (956, .invokevirtual 112, 3), (959, .pop, 1), (960, .aload_n 2, 1), (961, .aload_n 0, 1), (962, .iload 4, 2), (964, .iconst 1, 1), (965, .iadd, 1), (966, .iaload, 1), (967, .aload_n 0, 1), (968, .iload 4, 2), (970, .iconst 2, 1), (971, .iadd, 1), (972, .iaload, 1), (973, .invokevirtual 115, 3), (976, .pop, 1), (977, .goto 1215, 3), (980, .aload_n 1, 1), (981, .aload_n 0, 1), (982, .iload 4, 2), (984, .iconst 1, 1), (985, .iadd, 1), (986, .iaload, 1), (987, .aload_n 0, 1)]
theorem D_lw_13_ok : dtOK code D_lw_13 = true := by decide +kernel
theorem d_lw_931 : decode code 931 = .ok (.invokevirtual 108, 3) := dt_get (q := (931, .invokevirtual 108, 3)) D_lw_13_ok 0 rfl
theorem d_lw_934 : decode code 934 = .ok (.pop, 1) := dt_get (q := (934, .pop, 1)) D_lw_13_ok 1 rfl
theorem d_lw_935 : decode code 935 = .ok (.aload_n 2, 1) := dt_get (q := (935, .aload_n 2, 1)) D_lw_13_ok 2 rfl
theorem d_lw_936 : decode code 936 = .ok (.invokevirtual 111, 3) := dt_get (q := (936, .invokevirtual 111, 3)) D_lw_13_ok 3 rfl
theorem d_lw_939 : decode code 939 = .ok (.pop, 1) := dt_get (q := (939, .pop, 1)) D_lw_13_ok 4 rfl
theorem d_lw_940 : decode code 940 = .ok (.goto 1252, 3) := dt_get (q := (940, .goto 1252, 3)) D_lw_13_ok 5 rfl
theorem d_lw_943 : decode code 943 = .ok (.aload_n 1, 1) := dt_get (q := (943, .aload_n 1, 1)) D_lw_13_ok 6 rfl
theorem d_lw_944 : decode code 944 = .ok (.aload_n 0, 1) := dt_get (q := (944, .aload_n 0, 1)) D_lw_13_ok 7 rfl
theorem d_lw_945 : decode code 945 = .ok (.iload 4, 2) := dt_get (q := (945, .iload 4, 2)) D_lw_13_ok 8 rfl
theorem d_lw_947 : decode code 947 = .ok (.iconst 1, 1) := dt_get (q := (947, .iconst 1, 1)) D_lw_13_ok 9 rfl
theorem d_lw_948 : decode code 948 = .ok (.iadd, 1) := dt_get (q := (948, .iadd, 1)) D_lw_13_ok 10 rfl
theorem d_lw_949 : decode code 949 = .ok (.iaload, 1) := dt_get (q := (949, .iaload, 1)) D_lw_13_ok 11 rfl
theorem d_lw_950 : decode code 950 = .ok (.aload_n 0, 1) := dt_get (q := (950, .aload_n 0, 1)) D_lw_13_ok 12 rfl
theorem d_lw_951 : decode code 951 = .ok (.iload 4, 2) := dt_get (q := (951, .iload 4, 2)) D_lw_13_ok 13 rfl
theorem d_lw_953 : decode code 953 = .ok (.iconst 2, 1) := dt_get (q := (953, .iconst 2, 1)) D_lw_13_ok 14 rfl
theorem d_lw_954 : decode code 954 = .ok (.iadd, 1) := dt_get (q := (954, .iadd, 1)) D_lw_13_ok 15 rfl
theorem d_lw_955 : decode code 955 = .ok (.iaload, 1) := dt_get (q := (955, .iaload, 1)) D_lw_13_ok 16 rfl
theorem d_lw_956 : decode code 956 = .ok (.invokevirtual 112, 3) := dt_get (q := (956, .invokevirtual 112, 3)) D_lw_13_ok 17 rfl
theorem d_lw_959 : decode code 959 = .ok (.pop, 1) := dt_get (q := (959, .pop, 1)) D_lw_13_ok 18 rfl
theorem d_lw_960 : decode code 960 = .ok (.aload_n 2, 1) := dt_get (q := (960, .aload_n 2, 1)) D_lw_13_ok 19 rfl
theorem d_lw_961 : decode code 961 = .ok (.aload_n 0, 1) := dt_get (q := (961, .aload_n 0, 1)) D_lw_13_ok 20 rfl
theorem d_lw_962 : decode code 962 = .ok (.iload 4, 2) := dt_get (q := (962, .iload 4, 2)) D_lw_13_ok 21 rfl
theorem d_lw_964 : decode code 964 = .ok (.iconst 1, 1) := dt_get (q := (964, .iconst 1, 1)) D_lw_13_ok 22 rfl
theorem d_lw_965 : decode code 965 = .ok (.iadd, 1) := dt_get (q := (965, .iadd, 1)) D_lw_13_ok 23 rfl
theorem d_lw_966 : decode code 966 = .ok (.iaload, 1) := dt_get (q := (966, .iaload, 1)) D_lw_13_ok 24 rfl
theorem d_lw_967 : decode code 967 = .ok (.aload_n 0, 1) := dt_get (q := (967, .aload_n 0, 1)) D_lw_13_ok 25 rfl
theorem d_lw_968 : decode code 968 = .ok (.iload 4, 2) := dt_get (q := (968, .iload 4, 2)) D_lw_13_ok 26 rfl
theorem d_lw_970 : decode code 970 = .ok (.iconst 2, 1) := dt_get (q := (970, .iconst 2, 1)) D_lw_13_ok 27 rfl
theorem d_lw_971 : decode code 971 = .ok (.iadd, 1) := dt_get (q := (971, .iadd, 1)) D_lw_13_ok 28 rfl
theorem d_lw_972 : decode code 972 = .ok (.iaload, 1) := dt_get (q := (972, .iaload, 1)) D_lw_13_ok 29 rfl
theorem d_lw_973 : decode code 973 = .ok (.invokevirtual 115, 3) := dt_get (q := (973, .invokevirtual 115, 3)) D_lw_13_ok 30 rfl
theorem d_lw_976 : decode code 976 = .ok (.pop, 1) := dt_get (q := (976, .pop, 1)) D_lw_13_ok 31 rfl
theorem d_lw_977 : decode code 977 = .ok (.goto 1215, 3) := dt_get (q := (977, .goto 1215, 3)) D_lw_13_ok 32 rfl
theorem d_lw_980 : decode code 980 = .ok (.aload_n 1, 1) := dt_get (q := (980, .aload_n 1, 1)) D_lw_13_ok 33 rfl
theorem d_lw_981 : decode code 981 = .ok (.aload_n 0, 1) := dt_get (q := (981, .aload_n 0, 1)) D_lw_13_ok 34 rfl
theorem d_lw_982 : decode code 982 = .ok (.iload 4, 2) := dt_get (q := (982, .iload 4, 2)) D_lw_13_ok 35 rfl
theorem d_lw_984 : decode code 984 = .ok (.iconst 1, 1) := dt_get (q := (984, .iconst 1, 1)) D_lw_13_ok 36 rfl
theorem d_lw_985 : decode code 985 = .ok (.iadd, 1) := dt_get (q := (985, .iadd, 1)) D_lw_13_ok 37 rfl
theorem d_lw_986 : decode code 986 = .ok (.iaload, 1) := dt_get (q := (986, .iaload, 1)) D_lw_13_ok 38 rfl
theorem d_lw_987 : decode code 987 = .ok (.aload_n 0, 1) := dt_get (q := (987, .aload_n 0, 1)) D_lw_13_ok 39 rfl
def D_lw_14 : DT := [(988, .iload 4, 2), (990, .iconst 2, 1), (991, .iadd, 1), (992, .iaload, 1), (993, .aload_n 0, 1), (994, .iload 4, 2), (996, .iconst 3, 1), (997, .iadd, 1), (998, .iaload, 1), (999, .invokevirtual 116, 3), (1002, .pop, 1), (1003, .aload_n 2, 1), (1004, .aload_n 0, 1), (1005, .iload 4, 2), (1007, .iconst 1, 1), (1008, .iadd, 1), (1009, .iaload, 1), (1010, .aload_n 0, 1), (1011, .iload 4, 2), (1013, .iconst 2, 1), (1014, .iadd, 1), (1015, .iaload, 1), (1016, .aload_n 0, 1), (1017, .iload 4, 2), (1019, .iconst 3, 1), (1020, .iadd, 1), (1021, .iaload, 1), (1022, .invokevirtual 119, 3), (1025, .pop, 1), (1026, .goto 1166, 3), (1029, .aload_n 1, 1), (1030, .aload_n 0, 1), (1031, .iload 4, 2), (1033, .iconst 1, 1), (1034, .iadd, 1), (1035, .iaload, 1), (1036, .aload_n 0, 1), (1037, .iload 4, 2), (1039, .iconst 2, 1), (1040, .iadd, 1)]
theorem D_lw_14_ok : dtOK code D_lw_14 = true := by decide +kernel
theorem d_lw_988 : decode code 988 = .ok (.iload 4, 2) := dt_get (q := (988, .iload 4, 2)) D_lw_14_ok 0 rfl
theorem d_lw_990 : decode code 990 = .ok (.iconst 2, 1) := dt_get (q := (990, .iconst 2, 1)) D_lw_14_ok 1 rfl
theorem d_lw_991 : decode code 991 = .ok (.iadd, 1) := dt_get (q := (991, .iadd, 1)) D_lw_14_ok 2 rfl
theorem d_lw_992 : decode code 992 = .ok (.iaload, 1) := dt_get (q := (992, .iaload, 1)) D_lw_14_ok 3 rfl
theorem d_lw_993 : decode code 993 = .ok (.aload_n 0, 1) := dt_get (q := (993, .aload_n 0, 1)) D_lw_14_ok 4 rfl
theorem d_lw_994 : decode code 994 = .ok (.iload 4, 2) := dt_get (q := (994, .iload 4, 2)) D_lw_14_ok 5 rfl
theorem d_lw_996 : decode code 996 = .ok (.iconst 3, 1) := dt_get (q := (996, .iconst 3, 1)) D_lw_14_ok 6 rfl
theorem d_lw_997 : decode code 997 = .ok (.iadd, 1) := dt_get (q := (997, .iadd, 1)) D_lw_14_ok 7 rfl
theorem d_lw_998 : decode code 998 = .ok (.iaload, 1) := dt_get (q := (998, .iaload, 1)) D_lw_14_ok 8 rfl
theorem d_lw_999 : decode code 999 = .ok (.invokevirtual 116, 3) := dt_get (q := (999, .invokevirtual 116, 3)) D_lw_14_ok 9 rfl
theorem d_lw_1002 : decode code 1002 = .ok (.pop, 1) := dt_get (q := (1002, .pop, 1)) D_lw_14_ok 10 rfl
theorem d_lw_1003 : decode code 1003 = .ok (.aload_n 2, 1) := dt_get (q := (1003, .aload_n 2, 1)) D_lw_14_ok 11 rfl
theorem d_lw_1004 : decode code 1004 = .ok (.aload_n 0, 1) := dt_get (q := (1004, .aload_n 0, 1)) D_lw_14_ok 12 rfl
theorem d_lw_1005 : decode code 1005 = .ok (.iload 4, 2) := dt_get (q := (1005, .iload 4, 2)) D_lw_14_ok 13 rfl
theorem d_lw_1007 : decode code 1007 = .ok (.iconst 1, 1) := dt_get (q := (1007, .iconst 1, 1)) D_lw_14_ok 14 rfl
theorem d_lw_1008 : decode code 1008 = .ok (.iadd, 1) := dt_get (q := (1008, .iadd, 1)) D_lw_14_ok 15 rfl
theorem d_lw_1009 : decode code 1009 = .ok (.iaload, 1) := dt_get (q := (1009, .iaload, 1)) D_lw_14_ok 16 rfl
theorem d_lw_1010 : decode code 1010 = .ok (.aload_n 0, 1) := dt_get (q := (1010, .aload_n 0, 1)) D_lw_14_ok 17 rfl
theorem d_lw_1011 : decode code 1011 = .ok (.iload 4, 2) := dt_get (q := (1011, .iload 4, 2)) D_lw_14_ok 18 rfl
theorem d_lw_1013 : decode code 1013 = .ok (.iconst 2, 1) := dt_get (q := (1013, .iconst 2, 1)) D_lw_14_ok 19 rfl
theorem d_lw_1014 : decode code 1014 = .ok (.iadd, 1) := dt_get (q := (1014, .iadd, 1)) D_lw_14_ok 20 rfl
theorem d_lw_1015 : decode code 1015 = .ok (.iaload, 1) := dt_get (q := (1015, .iaload, 1)) D_lw_14_ok 21 rfl
theorem d_lw_1016 : decode code 1016 = .ok (.aload_n 0, 1) := dt_get (q := (1016, .aload_n 0, 1)) D_lw_14_ok 22 rfl
theorem d_lw_1017 : decode code 1017 = .ok (.iload 4, 2) := dt_get (q := (1017, .iload 4, 2)) D_lw_14_ok 23 rfl
theorem d_lw_1019 : decode code 1019 = .ok (.iconst 3, 1) := dt_get (q := (1019, .iconst 3, 1)) D_lw_14_ok 24 rfl
theorem d_lw_1020 : decode code 1020 = .ok (.iadd, 1) := dt_get (q := (1020, .iadd, 1)) D_lw_14_ok 25 rfl
theorem d_lw_1021 : decode code 1021 = .ok (.iaload, 1) := dt_get (q := (1021, .iaload, 1)) D_lw_14_ok 26 rfl
theorem d_lw_1022 : decode code 1022 = .ok (.invokevirtual 119, 3) := dt_get (q := (1022, .invokevirtual 119, 3)) D_lw_14_ok 27 rfl
theorem d_lw_1025 : decode code 1025 = .ok (.pop, 1) := dt_get (q := (1025, .pop, 1)) D_lw_14_ok 28 rfl
theorem d_lw_1026 : decode code 1026 = .ok (.goto 1166, 3) := dt_get (q := (1026, .goto 1166, 3)) D_lw_14_ok 29 rfl
theorem d_lw_1029 : decode code 1029 = .ok (.aload_n 1, 1) := dt_get (q := (1029, .aload_n 1, 1)) D_lw_14_ok 30 rfl
theorem d_lw_1030 : decode code 1030 = .ok (.aload_n 0, 1) := dt_get (q := (1030, .aload_n 0, 1)) D_lw_14_ok 31 rfl
theorem d_lw_1031 : decode code 1031 = .ok (.iload 4, 2) := dt_get (q := (1031, .iload 4, 2)) D_lw_14_ok 32 rfl
theorem d_lw_1033 : decode code 1033 = .ok (.iconst 1, 1) := dt_get (q := (1033, .iconst 1, 1)) D_lw_14_ok 33 rfl
theorem d_lw_1034 : decode code 1034 = .ok (.iadd, 1) := dt_get (q := (1034, .iadd, 1)) D_lw_14_ok 34 rfl
theorem d_lw_1035 : decode code 1035 = .ok (.iaload, 1) := dt_get (q := (1035, .iaload, 1)) D_lw_14_ok 35 rfl
theorem d_lw_1036 : decode code 1036 = .ok (.aload_n 0, 1) := dt_get (q := (1036, .aload_n 0, 1)) D_lw_14_ok 36 rfl
theorem d_lw_1037 : decode code 1037 = .ok (.iload 4, 2) := dt_get (q := (1037, .iload 4, 2)) D_lw_14_ok 37 rfl
theorem d_lw_1039 : decode code 1039 = .ok (.iconst 2, 1) := dt_get (q := (1039, .iconst 2, 1)) D_lw_14_ok 38 rfl
theorem d_lw_1040 : decode code 1040 = .ok (.iadd, 1) := dt_get (q := (1040, .iadd, 1)) D_lw_14_ok 39 rfl
def D_lw_15 : DT := [(1041, .iaload, 1), (1042, .aload_n 0, 1), (1043, .iload 4, 2), (1045, .iconst 3, 1), (1046, .iadd, 1), (1047, .iaload, 1), (1048, .invokevirtual 120, 3), (1051, .pop, 1), (1052, .aload_n 2, 1), (1053, .aload_n 0, 1), (1054, .iload 4, 2), (1056, .iconst 1, 1), (1057, .iadd, 1), (1058, .iaload, 1), (1059, .aload_n 0, 1), (1060, .iload 4, 2), (1062, .iconst 2, 1), (1063, .iadd, 1), (1064, .iaload, 1), (1065, .aload_n 0, 1), (1066, .iload 4, 2), (1068, .iconst 3, 1), (1069, .iadd, 1), (1070, .iaload, 1), (1071, .invokevirtual 123, 3), (1074, .pop, 1), (1075, .goto 1117, 3), (1078, .aload_n 1, 1), (1079, .aload_n 0, 1), (1080, .iload 4, 2), (1082, .iconst 1, 1), (1083, .iadd, 1), (1084, .iaload, 1), (1085, .aload_n 0, 1), (1086, .iload 4, 2), (1088, .iconst 2, 1), (1089, .iadd, 1), (1090, .iaload, 1), (1091, .invokevirtual 124, 3), (1094, .pop, 1)]
theorem D_lw_15_ok : dtOK code D_lw_15 = true := by decide +kernel
theorem d_lw_1041 : decode code 1041 = .ok (.iaload, 1) := dt_get (q := (1041, .iaload, 1)) D_lw_15_ok 0 rfl
theorem d_lw_1042 : decode code 1042 = .ok (.aload_n 0, 1) := dt_get (q := (1042, .aload_n 0, 1)) D_lw_15_ok 1 rfl
theorem d_lw_1043 : decode code 1043 = .ok (.iload 4, 2) := dt_get (q := (1043, .iload 4, 2)) D_lw_15_ok 2 rfl
theorem d_lw_1045 : decode code 1045 = .ok (.iconst 3, 1) := dt_get (q := (1045, .iconst 3, 1)) D_lw_15_ok 3 rfl
theorem d_lw_1046 : decode code 1046 = .ok (.iadd, 1) := dt_get (q := (1046, .iadd, 1)) D_lw_15_ok 4 rfl
theorem d_lw_1047 : decode code 1047 = .ok (.iaload, 1) := dt_get (q := (1047, .iaload, 1)) D_lw_15_ok 5 rfl
theorem d_lw_1048 : decode code 1048 = .ok (.invokevirtual 120, 3) := dt_get (q := (1048, .invokevirtual 120, 3)) D_lw_15_ok 6 rfl
theorem d_lw_1051 : decode code 1051 = .ok (.pop, 1) := dt_get (q := (1051, .pop, 1)) D_lw_15_ok 7 rfl
theorem d_lw_1052 : decode code 1052 = .ok (.aload_n 2, 1) := dt_get (q := (1052, .aload_n 2, 1)) D_lw_15_ok 8 rfl
theorem d_lw_1053 : decode code 1053 = .ok (.aload_n 0, 1) := dt_get (q := (1053, .aload_n 0, 1)) D_lw_15_ok 9 rfl
theorem d_lw_1054 : decode code 1054 = .ok (.iload 4, 2) := dt_get (q := (1054, .iload 4, 2)) D_lw_15_ok 10 rfl
theorem d_lw_1056 : decode code 1056 = .ok (.iconst 1, 1) := dt_get (q := (1056, .iconst 1, 1)) D_lw_15_ok 11 rfl
theorem d_lw_1057 : decode code 1057 = .ok (.iadd, 1) := dt_get (q := (1057, .iadd, 1)) D_lw_15_ok 12 rfl
theorem d_lw_1058 : decode code 1058 = .ok (.iaload, 1) := dt_get (q := (1058, .iaload, 1)) D_lw_15_ok 13 rfl
theorem d_lw_1059 : decode code 1059 = .ok (.aload_n 0, 1) := dt_get (q := (1059, .aload_n 0, 1)) D_lw_15_ok 14 rfl
theorem d_lw_1060 : decode code 1060 = .ok (.iload 4, 2) := dt_get (q := (1060, .iload 4, 2)) D_lw_15_ok 15 rfl
theorem d_lw_1062 : decode code 1062 = .ok (.iconst 2, 1) := dt_get (q := (1062, .iconst 2, 1)) D_lw_15_ok 16 rfl
theorem d_lw_1063 : decode code 1063 = .ok (.iadd, 1) := dt_get (q := (1063, .iadd, 1)) D_lw_15_ok 17 rfl
theorem d_lw_1064 : decode code 1064 = .ok (.iaload, 1) := dt_get (q := (1064, .iaload, 1)) D_lw_15_ok 18 rfl
theorem d_lw_1065 : decode code 1065 = .ok (.aload_n 0, 1) := dt_get (q := (1065, .aload_n 0, 1)) D_lw_15_ok 19 rfl
theorem d_lw_1066 : decode code 1066 = .ok (.iload 4, 2) := dt_get (q := (1066, .iload 4, 2)) D_lw_15_ok 20 rfl
theorem d_lw_1068 : decode code 1068 = .ok (.iconst 3, 1) := dt_get (q := (1068, .iconst 3, 1)) D_lw_15_ok 21 rfl
theorem d_lw_1069 : decode code 1069 = .ok (.iadd, 1) := dt_get (q := (1069, .iadd, 1)) D_lw_15_ok 22 rfl
theorem d_lw_1070 : decode code 1070 = .ok (.iaload, 1) := dt_get (q := (1070, .iaload, 1)) D_lw_15_ok 23 rfl
theorem d_lw_1071 : decode code 1071 = .ok (.invokevirtual 123, 3) := dt_get (q := (1071, .invokevirtual 123, 3)) D_lw_15_ok 24 rfl
theorem d_lw_1074 : decode code 1074 = .ok (.pop, 1) := dt_get (q := (1074, .pop, 1)) D_lw_15_ok 25 rfl
theorem d_lw_1075 : decode code 1075 = .ok (.goto 1117, 3) := dt_get (q := (1075, .goto 1117, 3)) D_lw_15_ok 26 rfl
theorem d_lw_1078 : decode code 1078 = .ok (.aload_n 1, 1) := dt_get (q := (1078, .aload_n 1, 1)) D_lw_15_ok 27 rfl
theorem d_lw_1079 : decode code 1079 = .ok (.aload_n 0, 1) := dt_get (q := (1079, .aload_n 0, 1)) D_lw_15_ok 28 rfl
theorem d_lw_1080 : decode code 1080 = .ok (.iload 4, 2) := dt_get (q := (1080, .iload 4, 2)) D_lw_15_ok 29 rfl
theorem d_lw_1082 : decode code 1082 = .ok (.iconst 1, 1) := dt_get (q := (1082, .iconst 1, 1)) D_lw_15_ok 30 rfl
theorem d_lw_1083 : decode code 1083 = .ok (.iadd, 1) := dt_get (q := (1083, .iadd, 1)) D_lw_15_ok 31 rfl
theorem d_lw_1084 : decode code 1084 = .ok (.iaload, 1) := dt_get (q := (1084, .iaload, 1)) D_lw_15_ok 32 rfl
theorem d_lw_1085 : decode code 1085 = .ok (.aload_n 0, 1) := dt_get (q := (1085, .aload_n 0, 1)) D_lw_15_ok 33 rfl
theorem d_lw_1086 : decode code 1086 = .ok (.iload 4, 2) := dt_get (q := (1086, .iload 4, 2)) D_lw_15_ok 34 rfl
theorem d_lw_1088 : decode code 1088 = .ok (.iconst 2, 1) := dt_get (q := (1088, .iconst 2, 1)) D_lw_15_ok 35 rfl
theorem d_lw_1089 : decode code 1089 = .ok (.iadd, 1) := dt_get (q := (1089, .iadd, 1)) D_lw_15_ok 36 rfl
theorem d_lw_1090 : decode code 1090 = .ok (.iaload, 1) := dt_get (q := (1090, .iaload, 1)) D_lw_15_ok 37 rfl
theorem d_lw_1091 : decode code 1091 = .ok (.invokevirtual 124, 3) := dt_get (q := (1091, .invokevirtual 124, 3)) D_lw_15_ok 38 rfl
theorem d_lw_1094 : decode code 1094 = .ok (.pop, 1) := dt_get (q := (1094, .pop, 1)) D_lw_15_ok 39 rfl
def D_lw_16 : DT := [(1095, .aload_n 2, 1), (1096, .aload_n 0, 1), (1097, .iload 4, 2), (1099, .iconst 1, 1), (1100, .iadd, 1), (1101, .iaload, 1), (1102, .aload_n 0, 1), (1103, .iload 4, 2), (1105, .iconst 2, 1), (1106, .iadd, 1), (1107, .iaload, 1), (1108, .invokevirtual 127, 3), (1111, .pop, 1), (1112, .goto 1080, 3), (1115, .aload_n 1, 1), (1116, .aload_n 0, 1), (1117, .iload 4, 2), (1119, .iconst 1, 1), (1120, .iadd, 1), (1121, .iaload, 1), (1122, .aload_n 0, 1), (1123, .iload 4, 2), (1125, .iconst 2, 1), (1126, .iadd, 1), (1127, .iaload, 1), (1128, .aload_n 0, 1), (1129, .iload 4, 2), (1131, .iconst 3, 1), (1132, .iadd, 1), (1133, .iaload, 1), (1134, .aload_n 0, 1), (1135, .iload 4, 2), (1137, .iconst 4, 1), (1138, .iadd, 1), (1139, .iaload, 1), (1140, .invokevirtual 128, 3), (1143, .pop, 1), (1144, .aload_n 2, 1), (1145, .aload_n 0, 1), (1146, .iload 4, 2)]
theorem D_lw_16_ok : dtOK code D_lw_16 = true := by decide +kernel
theorem d_lw_1095 : decode code 1095 = .ok (.aload_n 2, 1) := dt_get (q := (1095, .aload_n 2, 1)) D_lw_16_ok 0 rfl
theorem d_lw_1096 : decode code 1096 = .ok (.aload_n 0, 1) := dt_get (q := (1096, .aload_n 0, 1)) D_lw_16_ok 1 rfl
theorem d_lw_1097 : decode code 1097 = .ok (.iload 4, 2) := dt_get (q := (1097, .iload 4, 2)) D_lw_16_ok 2 rfl
theorem d_lw_1099 : decode code 1099 = .ok (.iconst 1, 1) := dt_get (q := (1099, .iconst 1, 1)) D_lw_16_ok 3 rfl
theorem d_lw_1100 : decode code 1100 = .ok (.iadd, 1) := dt_get (q := (1100, .iadd, 1)) D_lw_16_ok 4 rfl
theorem d_lw_1101 : decode code 1101 = .ok (.iaload, 1) := dt_get (q := (1101, .iaload, 1)) D_lw_16_ok 5 rfl
theorem d_lw_1102 : decode code 1102 = .ok (.aload_n 0, 1) := dt_get (q := (1102, .aload_n 0, 1)) D_lw_16_ok 6 rfl
theorem d_lw_1103 : decode code 1103 = .ok (.iload 4, 2) := dt_get (q := (1103, .iload 4, 2)) D_lw_16_ok 7 rfl
theorem d_lw_1105 : decode code 1105 = .ok (.iconst 2, 1) := dt_get (q := (1105, .iconst 2, 1)) D_lw_16_ok 8 rfl
theorem d_lw_1106 : decode code 1106 = .ok (.iadd, 1) := dt_get (q := (1106, .iadd, 1)) D_lw_16_ok 9 rfl
theorem d_lw_1107 : decode code 1107 = .ok (.iaload, 1) := dt_get (q := (1107, .iaload, 1)) D_lw_16_ok 10 rfl
theorem d_lw_1108 : decode code 1108 = .ok (.invokevirtual 127, 3) := dt_get (q := (1108, .invokevirtual 127, 3)) D_lw_16_ok 11 rfl
theorem d_lw_1111 : decode code 1111 = .ok (.pop, 1) := dt_get (q := (1111, .pop, 1)) D_lw_16_ok 12 rfl
theorem d_lw_1112 : decode code 1112 = .ok (.goto 1080, 3) := dt_get (q := (1112, .goto 1080, 3)) D_lw_16_ok 13 rfl
theorem d_lw_1115 : decode code 1115 = .ok (.aload_n 1, 1) := dt_get (q := (1115, .aload_n 1, 1)) D_lw_16_ok 14 rfl
theorem d_lw_1116 : decode code 1116 = .ok (.aload_n 0, 1) := dt_get (q := (1116, .aload_n 0, 1)) D_lw_16_ok 15 rfl
theorem d_lw_1117 : decode code 1117 = .ok (.iload 4, 2) := dt_get (q := (1117, .iload 4, 2)) D_lw_16_ok 16 rfl
theorem d_lw_1119 : decode code 1119 = .ok (.iconst 1, 1) := dt_get (q := (1119, .iconst 1, 1)) D_lw_16_ok 17 rfl
theorem d_lw_1120 : decode code 1120 = .ok (.iadd, 1) := dt_get (q := (1120, .iadd, 1)) D_lw_16_ok 18 rfl
theorem d_lw_1121 : decode code 1121 = .ok (.iaload, 1) := dt_get (q := (1121, .iaload, 1)) D_lw_16_ok 19 rfl
theorem d_lw_1122 : decode code 1122 = .ok (.aload_n 0, 1) := dt_get (q := (1122, .aload_n 0, 1)) D_lw_16_ok 20 rfl
theorem d_lw_1123 : decode code 1123 = .ok (.iload 4, 2) := dt_get (q := (1123, .iload 4, 2)) D_lw_16_ok 21 rfl
theorem d_lw_1125 : decode code 1125 = .ok (.iconst 2, 1) := dt_get (q := (1125, .iconst 2, 1)) D_lw_16_ok 22 rfl
theorem d_lw_1126 : decode code 1126 = .ok (.iadd, 1) := dt_get (q := (1126, .iadd, 1)) D_lw_16_ok 23 rfl
theorem d_lw_1127 : decode code 1127 = .ok (.iaload, 1) := dt_get (q := (1127, .iaload, 1)) D_lw_16_ok 24 rfl
theorem d_lw_1128 : decode code 1128 = .ok (.aload_n 0, 1) := dt_get (q := (1128, .aload_n 0, 1)) D_lw_16_ok 25 rfl
theorem d_lw_1129 : decode code 1129 = .ok (.iload 4, 2) := dt_get (q := (1129, .iload 4, 2)) D_lw_16_ok 26 rfl
theorem d_lw_1131 : decode code 1131 = .ok (.iconst 3, 1) := dt_get (q := (1131, .iconst 3, 1)) D_lw_16_ok 27 rfl
theorem d_lw_1132 : decode code 1132 = .ok (.iadd, 1) := dt_get (q := (1132, .iadd, 1)) D_lw_16_ok 28 rfl
theorem d_lw_1133 : decode code 1133 = .ok (.iaload, 1) := dt_get (q := (1133, .iaload, 1)) D_lw_16_ok 29 rfl
theorem d_lw_1134 : decode code 1134 = .ok (.aload_n 0, 1) := dt_get (q := (1134, .aload_n 0, 1)) D_lw_16_ok 30 rfl
theorem d_lw_1135 : decode code 1135 = .ok (.iload 4, 2) := dt_get (q := (1135, .iload 4, 2)) D_lw_16_ok 31 rfl
theorem d_lw_1137 : decode code 1137 = .ok (.iconst 4, 1) := dt_get (q := (1137, .iconst 4, 1)) D_lw_16_ok 32 rfl
theorem d_lw_1138 : decode code 1138 = .ok (.iadd, 1) := dt_get (q := (1138, .iadd, 1)) D_lw_16_ok 33 rfl
theorem d_lw_1139 : decode code 1139 = .ok (.iaload, 1) := dt_get (q := (1139, .iaload, 1)) D_lw_16_ok 34 rfl
theorem d_lw_1140 : decode code 1140 = .ok (.invokevirtual 128, 3) := dt_get (q := (1140, .invokevirtual 128, 3)) D_lw_16_ok 35 rfl
theorem d_lw_1143 : decode code 1143 = .ok (.pop, 1) := dt_get (q := (1143, .pop, 1)) D_lw_16_ok 36 rfl
theorem d_lw_1144 : decode code 1144 = .ok (.aload_n 2, 1) := dt_get (q := (1144, .aload_n 2, 1)) D_lw_16_ok 37 rfl
theorem d_lw_1145 : decode code 1145 = .ok (.aload_n 0, 1) := dt_get (q := (1145, .aload_n 0, 1)) D_lw_16_ok 38 rfl
theorem d_lw_1146 : decode code 1146 = .ok (.iload 4, 2) := dt_get (q := (1146, .iload 4, 2)) D_lw_16_ok 39 rfl
def D_lw_17 : DT := [(1148, .iconst 1, 1), (1149, .iadd, 1), (1150, .iaload, 1), (1151, .aload_n 0, 1), (1152, .iload 4, 2), (1154, .iconst 2, 1), (1155, .iadd, 1), (1156, .iaload, 1), (1157, .aload_n 0, 1), (1158, .iload 4, 2), (1160, .iconst 3, 1), (1161, .iadd, 1), (1162, .iaload, 1), (1163, .aload_n 0, 1), (1164, .iload 4, 2), (1166, .iconst 4, 1), (1167, .iadd, 1), (1168, .iaload, 1), (1169, .invokevirtual 131, 3), (1172, .pop, 1), (1173, .goto 1019, 3), (1176, .aload_n 1, 1), (1177, .aload_n 0, 1), (1178, .iload 4, 2), (1180, .iconst 1, 1), (1181, .iadd, 1), (1182, .iaload, 1), (1183, .invokevirtual 132, 3), (1186, .pop2, 1), (1187, .aload_n 2, 1), (1188, .aload_n 0, 1), (1189, .iload 4, 2), (1191, .iconst 1, 1), (1192, .iadd, 1), (1193, .iaload, 1), (1194, .invokevirtual 135, 3), (1197, .pop2, 1), (1198, .goto 994, 3), (1201, .aload_n 1, 1), (1202, .aload_n 0, 1)]
theorem D_lw_17_ok : dtOK code D_lw_17 = true := by decide +kernel
theorem d_lw_1148 : decode code 1148 = .ok (.iconst 1, 1) := dt_get (q := (1148, .iconst 1, 1)) D_lw_17_ok 0 rfl
theorem d_lw_1149 : decode code 1149 = .ok (.iadd, 1) := dt_get (q := (1149, .iadd, 1)) D_lw_17_ok 1 rfl
theorem d_lw_1150 : decode code 1150 = .ok (.iaload, 1) := dt_get (q := (1150, .iaload, 1)) D_lw_17_ok 2 rfl
theorem d_lw_1151 : decode code 1151 = .ok (.aload_n 0, 1) := dt_get (q := (1151, .aload_n 0, 1)) D_lw_17_ok 3 rfl
theorem d_lw_1152 : decode code 1152 = .ok (.iload 4, 2) := dt_get (q := (1152, .iload 4, 2)) D_lw_17_ok 4 rfl
theorem d_lw_1154 : decode code 1154 = .ok (.iconst 2, 1) := dt_get (q := (1154, .iconst 2, 1)) D_lw_17_ok 5 rfl
theorem d_lw_1155 : decode code 1155 = .ok (.iadd, 1) := dt_get (q := (1155, .iadd, 1)) D_lw_17_ok 6 rfl
theorem d_lw_1156 : decode code 1156 = .ok (.iaload, 1) := dt_get (q := (1156, .iaload, 1)) D_lw_17_ok 7 rfl
theorem d_lw_1157 : decode code 1157 = .ok (.aload_n 0, 1) := dt_get (q := (1157, .aload_n 0, 1)) D_lw_17_ok 8 rfl
theorem d_lw_1158 : decode code 1158 = .ok (.iload 4, 2) := dt_get (q := (1158, .iload 4, 2)) D_lw_17_ok 9 rfl
theorem d_lw_1160 : decode code 1160 = .ok (.iconst 3, 1) := dt_get (q := (1160, .iconst 3, 1)) D_lw_17_ok 10 rfl
theorem d_lw_1161 : decode code 1161 = .ok (.iadd, 1) := dt_get (q := (1161, .iadd, 1)) D_lw_17_ok 11 rfl
theorem d_lw_1162 : decode code 1162 = .ok (.iaload, 1) := dt_get (q := (1162, .iaload, 1)) D_lw_17_ok 12 rfl
theorem d_lw_1163 : decode code 1163 = .ok (.aload_n 0, 1) := dt_get (q := (1163, .aload_n 0, 1)) D_lw_17_ok 13 rfl
theorem d_lw_1164 : decode code 1164 = .ok (.iload 4, 2) := dt_get (q := (1164, .iload 4, 2)) D_lw_17_ok 14 rfl
theorem d_lw_1166 : decode code 1166 = .ok (.iconst 4, 1) := dt_get (q := (1166, .iconst 4, 1)) D_lw_17_ok 15 rfl
theorem d_lw_1167 : decode code 1167 = .ok (.iadd, 1) := dt_get (q := (1167, .iadd, 1)) D_lw_17_ok 16 rfl
theorem d_lw_1168 : decode code 1168 = .ok (.iaload, 1) := dt_get (q := (1168, .iaload, 1)) D_lw_17_ok 17 rfl
theorem d_lw_1169 : decode code 1169 = .ok (.invokevirtual 131, 3) := dt_get (q := (1169, .invokevirtual 131, 3)) D_lw_17_ok 18 rfl
theorem d_lw_1172 : decode code 1172 = .ok (.pop, 1) := dt_get (q := (1172, .pop, 1)) D_lw_17_ok 19 rfl
theorem d_lw_1173 : decode code 1173 = .ok (.goto 1019, 3) := dt_get (q := (1173, .goto 1019, 3)) D_lw_17_ok 20 rfl
theorem d_lw_1176 : decode code 1176 = .ok (.aload_n 1, 1) := dt_get (q := (1176, .aload_n 1, 1)) D_lw_17_ok 21 rfl
theorem d_lw_1177 : decode code 1177 = .ok (.aload_n 0, 1) := dt_get (q := (1177, .aload_n 0, 1)) D_lw_17_ok 22 rfl
theorem d_lw_1178 : decode code 1178 = .ok (.iload 4, 2) := dt_get (q := (1178, .iload 4, 2)) D_lw_17_ok 23 rfl
theorem d_lw_1180 : decode code 1180 = .ok (.iconst 1, 1) := dt_get (q := (1180, .iconst 1, 1)) D_lw_17_ok 24 rfl
theorem d_lw_1181 : decode code 1181 = .ok (.iadd, 1) := dt_get (q := (1181, .iadd, 1)) D_lw_17_ok 25 rfl
theorem d_lw_1182 : decode code 1182 = .ok (.iaload, 1) := dt_get (q := (1182, .iaload, 1)) D_lw_17_ok 26 rfl
theorem d_lw_1183 : decode code 1183 = .ok (.invokevirtual 132, 3) := dt_get (q := (1183, .invokevirtual 132, 3)) D_lw_17_ok 27 rfl
theorem d_lw_1186 : decode code 1186 = .ok (.pop2, 1) := dt_get (q := (1186, .pop2, 1)) D_lw_17_ok 28 rfl
theorem d_lw_1187 : decode code 1187 = .ok (.aload_n 2, 1) := dt_get (q := (1187, .aload_n 2, 1)) D_lw_17_ok 29 rfl
theorem d_lw_1188 : decode code 1188 = .ok (.aload_n 0, 1) := dt_get (q := (1188, .aload_n 0, 1)) D_lw_17_ok 30 rfl
theorem d_lw_1189 : decode code 1189 = .ok (.iload 4, 2) := dt_get (q := (1189, .iload 4, 2)) D_lw_17_ok 31 rfl
theorem d_lw_1191 : decode code 1191 = .ok (.iconst 1, 1) := dt_get (q := (1191, .iconst 1, 1)) D_lw_17_ok 32 rfl
theorem d_lw_1192 : decode code 1192 = .ok (.iadd, 1) := dt_get (q := (1192, .iadd, 1)) D_lw_17_ok 33 rfl
theorem d_lw_1193 : decode code 1193 = .ok (.iaload, 1) := dt_get (q := (1193, .iaload, 1)) D_lw_17_ok 34 rfl
theorem d_lw_1194 : decode code 1194 = .ok (.invokevirtual 135, 3) := dt_get (q := (1194, .invokevirtual 135, 3)) D_lw_17_ok 35 rfl
theorem d_lw_1197 : decode code 1197 = .ok (.pop2, 1) := dt_get (q := (1197, .pop2, 1)) D_lw_17_ok 36 rfl
theorem d_lw_1198 : decode code 1198 = .ok (.goto 994, 3) := dt_get (q := (1198, .goto 994, 3)) D_lw_17_ok 37 rfl
theorem d_lw_1201 : decode code 1201 = .ok (.aload_n 1, 1) := dt_get (q := (1201, .aload_n 1, 1)) D_lw_17_ok 38 rfl
theorem d_lw_1202 : decode code 1202 = .ok (.aload_n 0, 1) := dt_get (q := (1202, .aload_n 0, 1)) D_lw_17_ok 39 rfl
def D_lw_18 : DT := [(1203, .iload 4, 2), (1205, .iconst 1, 1), (1206, .iadd, 1), (1207, .iaload, 1), (1208, .aload_n 0, 1), (1209, .iload 4, 2), (1211, .iconst 2, 1), (1212, .iadd, 1), (1213, .iaload, 1), (1214, .invokevirtual 136, 3), (1217, .pop2, 1), (1218, .aload_n 2, 1), (1219, .aload_n 0, 1), (1220, .iload 4, 2), (1222, .iconst 1, 1), (1223, .iadd, 1), (1224, .iaload, 1), (1225, .aload_n 0, 1), (1226, .iload 4, 2), (1228, .iconst 2, 1), (1229, .iadd, 1), (1230, .iaload, 1), (1231, .invokevirtual 140, 3), (1234, .pop2, 1), (1235, .goto 957, 3), (1238, .aload_n 1, 1), (1239, .aload_n 0, 1), (1240, .iload 4, 2), (1242, .iconst 1, 1), (1243, .iadd, 1), (1244, .iaload, 1), (1245, .aload_n 0, 1), (1246, .iload 4, 2), (1248, .iconst 2, 1), (1249, .iadd, 1), (1250, .iaload, 1), (1251, .invokevirtual 141, 3), (1254, .pop2, 1), (1255, .aload_n 2, 1), (1256, .aload_n 0, 1)]
theorem D_lw_18_ok : dtOK code D_lw_18 = true := by decide +kernel
theorem d_lw_1203 : decode code 1203 = .ok (.iload 4, 2) := dt_get (q := (1203, .iload 4, 2)) D_lw_18_ok 0 rfl
theorem d_lw_1205 : decode code 1205 = .ok (.iconst 1, 1) := dt_get (q := (1205, .iconst 1, 1)) D_lw_18_ok 1 rfl
theorem d_lw_1206 : decode code 1206 = .ok (.iadd, 1) := dt_get (q := (1206, .iadd, 1)) D_lw_18_ok 2 rfl
theorem d_lw_1207 : decode code 1207 = .ok (.iaload, 1) := dt_get (q := (1207, .iaload, 1)) D_lw_18_ok 3 rfl
theorem d_lw_1208 : decode code 1208 = .ok (.aload_n 0, 1) := dt_get (q := (1208, .aload_n 0, 1)) D_lw_18_ok 4 rfl
theorem d_lw_1209 : decode code 1209 = .ok (.iload 4, 2) := dt_get (q := (1209, .iload 4, 2)) D_lw_18_ok 5 rfl
theorem d_lw_1211 : decode code 1211 = .ok (.iconst 2, 1) := dt_get (q := (1211, .iconst 2, 1)) D_lw_18_ok 6 rfl
theorem d_lw_1212 : decode code 1212 = .ok (.iadd, 1) := dt_get (q := (1212, .iadd, 1)) D_lw_18_ok 7 rfl
theorem d_lw_1213 : decode code 1213 = .ok (.iaload, 1) := dt_get (q := (1213, .iaload, 1)) D_lw_18_ok 8 rfl
theorem d_lw_1214 : decode code 1214 = .ok (.invokevirtual 136, 3) := dt_get (q := (1214, .invokevirtual 136, 3)) D_lw_18_ok 9 rfl
theorem d_lw_1217 : decode code 1217 = .ok (.pop2, 1) := dt_get (q := (1217, .pop2, 1)) D_lw_18_ok 10 rfl
theorem d_lw_1218 : decode code 1218 = .ok (.aload_n 2, 1) := dt_get (q := (1218, .aload_n 2, 1)) D_lw_18_ok 11 rfl
theorem d_lw_1219 : decode code 1219 = .ok (.aload_n 0, 1) := dt_get (q := (1219, .aload_n 0, 1)) D_lw_18_ok 12 rfl
theorem d_lw_1220 : decode code 1220 = .ok (.iload 4, 2) := dt_get (q := (1220, .iload 4, 2)) D_lw_18_ok 13 rfl
theorem d_lw_1222 : decode code 1222 = .ok (.iconst 1, 1) := dt_get (q := (1222, .iconst 1, 1)) D_lw_18_ok 14 rfl
theorem d_lw_1223 : decode code 1223 = .ok (.iadd, 1) := dt_get (q := (1223, .iadd, 1)) D_lw_18_ok 15 rfl
theorem d_lw_1224 : decode code 1224 = .ok (.iaload, 1) := dt_get (q := (1224, .iaload, 1)) D_lw_18_ok 16 rfl
theorem d_lw_1225 : decode code 1225 = .ok (.aload_n 0, 1) := dt_get (q := (1225, .aload_n 0, 1)) D_lw_18_ok 17 rfl
theorem d_lw_1226 : decode code 1226 = .ok (.iload 4, 2) := dt_get (q := (1226, .iload 4, 2)) D_lw_18_ok 18 rfl
theorem d_lw_1228 : decode code 1228 = .ok (.iconst 2, 1) := dt_get (q := (1228, .iconst 2, 1)) D_lw_18_ok 19 rfl
theorem d_lw_1229 : decode code 1229 = .ok (.iadd, 1) := dt_get (q := (1229, .iadd, 1)) D_lw_18_ok 20 rfl
theorem d_lw_1230 : decode code 1230 = .ok (.iaload, 1) := dt_get (q := (1230, .iaload, 1)) D_lw_18_ok 21 rfl
theorem d_lw_1231 : decode code 1231 = .ok (.invokevirtual 140, 3) := dt_get (q := (1231, .invokevirtual 140, 3)) D_lw_18_ok 22 rfl
theorem d_lw_1234 : decode code 1234 = .ok (.pop2, 1) := dt_get (q := (1234, .pop2, 1)) D_lw_18_ok 23 rfl
theorem d_lw_1235 : decode code 1235 = .ok (.goto 957, 3) := dt_get (q := (1235, .goto 957, 3)) D_lw_18_ok 24 rfl
theorem d_lw_1238 : decode code 1238 = .ok (.aload_n 1, 1) := dt_get (q := (1238, .aload_n 1, 1)) D_lw_18_ok 25 rfl
theorem d_lw_1239 : decode code 1239 = .ok (.aload_n 0, 1) := dt_get (q := (1239, .aload_n 0, 1)) D_lw_18_ok 26 rfl
theorem d_lw_1240 : decode code 1240 = .ok (.iload 4, 2) := dt_get (q := (1240, .iload 4, 2)) D_lw_18_ok 27 rfl
theorem d_lw_1242 : decode code 1242 = .ok (.iconst 1, 1) := dt_get (q := (1242, .iconst 1, 1)) D_lw_18_ok 28 rfl
theorem d_lw_1243 : decode code 1243 = .ok (.iadd, 1) := dt_get (q := (1243, .iadd, 1)) D_lw_18_ok 29 rfl
theorem d_lw_1244 : decode code 1244 = .ok (.iaload, 1) := dt_get (q := (1244, .iaload, 1)) D_lw_18_ok 30 rfl
theorem d_lw_1245 : decode code 1245 = .ok (.aload_n 0, 1) := dt_get (q := (1245, .aload_n 0, 1)) D_lw_18_ok 31 rfl
theorem d_lw_1246 : decode code 1246 = .ok (.iload 4, 2) := dt_get (q := (1246, .iload 4, 2)) D_lw_18_ok 32 rfl
theorem d_lw_1248 : decode code 1248 = .ok (.iconst 2, 1) := dt_get (q := (1248, .iconst 2, 1)) D_lw_18_ok 33 rfl
theorem d_lw_1249 : decode code 1249 = .ok (.iadd, 1) := dt_get (q := (1249, .iadd, 1)) D_lw_18_ok 34 rfl
theorem d_lw_1250 : decode code 1250 = .ok (.iaload, 1) := dt_get (q := (1250, .iaload, 1)) D_lw_18_ok 35 rfl
theorem d_lw_1251 : decode code 1251 = .ok (.invokevirtual 141, 3) := dt_get (q := (1251, .invokevirtual 141, 3)) D_lw_18_ok 36 rfl
theorem d_lw_1254 : decode code 1254 = .ok (.pop2, 1) := dt_get (q := (1254, .pop2, 1)) D_lw_18_ok 37 rfl
theorem d_lw_1255 : decode code 1255 = .ok (.aload_n 2, 1) := dt_get (q := (1255, .aload_n 2, 1)) D_lw_18_ok 38 rfl
theorem d_lw_1256 : decode code 1256 = .ok (.aload_n 0, 1) := dt_get (q := (1256, .aload_n 0, 1)) D_lw_18_ok 39 rfl
def D_lw_19 : DT := [(1257, .iload 4, 2), (1259, .iconst 1, 1), (1260, .iadd, 1), (1261, .iaload, 1), (1262, .aload_n 0, 1), (1263, .iload 4, 2), (1265, .iconst 2, 1), (1266, .iadd, 1), (1267, .iaload, 1), (1268, .invokevirtual 144, 3), (1271, .pop2, 1), (1272, .goto 920, 3), (1275, .aload_n 1, 1), (1276, .aload_n 0, 1), (1277, .iload 4, 2), (1279, .iconst 1, 1), (1280, .iadd, 1), (1281, .iaload, 1), (1282, .aload_n 0, 1), (1283, .iload 4, 2), (1285, .iconst 2, 1), (1286, .iadd, 1), (1287, .iaload, 1), (1288, .invokevirtual 145, 3), (1291, .pop2, 1), (1292, .aload_n 2, 1), (1293, .aload_n 0, 1), (1294, .iload 4, 2), (1296, .iconst 1, 1), (1297, .iadd, 1), (1298, .iaload, 1), (1299, .aload_n 0, 1), (1300, .iload 4, 2), (1302, .iconst 2, 1), (1303, .iadd, 1), (1304, .iaload, 1), (1305, .invokevirtual 148, 3), (1308, .pop2, 1), (1309, .goto 883, 3), (1312, .aload_n 1, 1)]
theorem D_lw_19_ok : dtOK code D_lw_19 = true := by decide +kernel
theorem d_lw_1257 : decode code 1257 = .ok (.iload 4, 2) := dt_get (q := (1257, .iload 4, 2)) D_lw_19_ok 0 rfl
theorem d_lw_1259 : decode code 1259 = .ok (.iconst 1, 1) := dt_get (q := (1259, .iconst 1, 1)) D_lw_19_ok 1 rfl
theorem d_lw_1260 : decode code 1260 = .ok (.iadd, 1) := dt_get (q := (1260, .iadd, 1)) D_lw_19_ok 2 rfl
theorem d_lw_1261 : decode code 1261 = .ok (.iaload, 1) := dt_get (q := (1261, .iaload, 1)) D_lw_19_ok 3 rfl
theorem d_lw_1262 : decode code 1262 = .ok (.aload_n 0, 1) := dt_get (q := (1262, .aload_n 0, 1)) D_lw_19_ok 4 rfl
theorem d_lw_1263 : decode code 1263 = .ok (.iload 4, 2) := dt_get (q := (1263, .iload 4, 2)) D_lw_19_ok 5 rfl
theorem d_lw_1265 : decode code 1265 = .ok (.iconst 2, 1) := dt_get (q := (1265, .iconst 2, 1)) D_lw_19_ok 6 rfl
theorem d_lw_1266 : decode code 1266 = .ok (.iadd, 1) := dt_get (q := (1266, .iadd, 1)) D_lw_19_ok 7 rfl
theorem d_lw_1267 : decode code 1267 = .ok (.iaload, 1) := dt_get (q := (1267, .iaload, 1)) D_lw_19_ok 8 rfl
theorem d_lw_1268 : decode code 1268 = .ok (.invokevirtual 144, 3) := dt_get (q := (1268, .invokevirtual 144, 3)) D_lw_19_ok 9 rfl
theorem d_lw_1271 : decode code 1271 = .ok (.pop2, 1) := dt_get (q := (1271, .pop2, 1)) D_lw_19_ok 10 rfl
theorem d_lw_1272 : decode code 1272 = .ok (.goto 920, 3) := dt_get (q := (1272, .goto 920, 3)) D_lw_19_ok 11 rfl
theorem d_lw_1275 : decode code 1275 = .ok (.aload_n 1, 1) := dt_get (q := (1275, .aload_n 1, 1)) D_lw_19_ok 12 rfl
theorem d_lw_1276 : decode code 1276 = .ok (.aload_n 0, 1) := dt_get (q := (1276, .aload_n 0, 1)) D_lw_19_ok 13 rfl
theorem d_lw_1277 : decode code 1277 = .ok (.iload 4, 2) := dt_get (q := (1277, .iload 4, 2)) D_lw_19_ok 14 rfl
theorem d_lw_1279 : decode code 1279 = .ok (.iconst 1, 1) := dt_get (q := (1279, .iconst 1, 1)) D_lw_19_ok 15 rfl
theorem d_lw_1280 : decode code 1280 = .ok (.iadd, 1) := dt_get (q := (1280, .iadd, 1)) D_lw_19_ok 16 rfl
theorem d_lw_1281 : decode code 1281 = .ok (.iaload, 1) := dt_get (q := (1281, .iaload, 1)) D_lw_19_ok 17 rfl
theorem d_lw_1282 : decode code 1282 = .ok (.aload_n 0, 1) := dt_get (q := (1282, .aload_n 0, 1)) D_lw_19_ok 18 rfl
theorem d_lw_1283 : decode code 1283 = .ok (.iload 4, 2) := dt_get (q := (1283, .iload 4, 2)) D_lw_19_ok 19 rfl
theorem d_lw_1285 : decode code 1285 = .ok (.iconst 2, 1) := dt_get (q := (1285, .iconst 2, 1)) D_lw_19_ok 20 rfl
theorem d_lw_1286 : decode code 1286 = .ok (.iadd, 1) := dt_get (q := (1286, .iadd, 1)) D_lw_19_ok 21 rfl
theorem d_lw_1287 : decode code 1287 = .ok (.iaload, 1) := dt_get (q := (1287, .iaload, 1)) D_lw_19_ok 22 rfl
theorem d_lw_1288 : decode code 1288 = .ok (.invokevirtual 145, 3) := dt_get (q := (1288, .invokevirtual 145, 3)) D_lw_19_ok 23 rfl
theorem d_lw_1291 : decode code 1291 = .ok (.pop2, 1) := dt_get (q := (1291, .pop2, 1)) D_lw_19_ok 24 rfl
theorem d_lw_1292 : decode code 1292 = .ok (.aload_n 2, 1) := dt_get (q := (1292, .aload_n 2, 1)) D_lw_19_ok 25 rfl
theorem d_lw_1293 : decode code 1293 = .ok (.aload_n 0, 1) := dt_get (q := (1293, .aload_n 0, 1)) D_lw_19_ok 26 rfl
theorem d_lw_1294 : decode code 1294 = .ok (.iload 4, 2) := dt_get (q := (1294, .iload 4, 2)) D_lw_19_ok 27 rfl
theorem d_lw_1296 : decode code 1296 = .ok (.iconst 1, 1) := dt_get (q := (1296, .iconst 1, 1)) D_lw_19_ok 28 rfl
theorem d_lw_1297 : decode code 1297 = .ok (.iadd, 1) := dt_get (q := (1297, .iadd, 1)) D_lw_19_ok 29 rfl
theorem d_lw_1298 : decode code 1298 = .ok (.iaload, 1) := dt_get (q := (1298, .iaload, 1)) D_lw_19_ok 30 rfl
theorem d_lw_1299 : decode code 1299 = .ok (.aload_n 0, 1) := dt_get (q := (1299, .aload_n 0, 1)) D_lw_19_ok 31 rfl
theorem d_lw_1300 : decode code 1300 = .ok (.iload 4, 2) := dt_get (q := (1300, .iload 4, 2)) D_lw_19_ok 32 rfl
theorem d_lw_1302 : decode code 1302 = .ok (.iconst 2, 1) := dt_get (q := (1302, .iconst 2, 1)) D_lw_19_ok 33 rfl
theorem d_lw_1303 : decode code 1303 = .ok (.iadd, 1) := dt_get (q := (1303, .iadd, 1)) D_lw_19_ok 34 rfl
theorem d_lw_1304 : decode code 1304 = .ok (.iaload, 1) := dt_get (q := (1304, .iaload, 1)) D_lw_19_ok 35 rfl
theorem d_lw_1305 : decode code 1305 = .ok (.invokevirtual 148, 3) := dt_get (q := (1305, .invokevirtual 148, 3)) D_lw_19_ok 36 rfl
theorem d_lw_1308 : decode code 1308 = .ok (.pop2, 1) := dt_get (q := (1308, .pop2, 1)) D_lw_19_ok 37 rfl
theorem d_lw_1309 : decode code 1309 = .ok (.goto 883, 3) := dt_get (q := (1309, .goto 883, 3)) D_lw_19_ok 38 rfl
theorem d_lw_1312 : decode code 1312 = .ok (.aload_n 1, 1) := dt_get (q := (1312, .aload_n 1, 1)) D_lw_19_ok 39 rfl
def D_lw_20 : DT := [(1313, .aload_n 0, 1), (1314, .iload 4, 2), (1316, .iconst 1, 1), (1317, .iadd, 1), (1318, .iaload, 1), (1319, .aload_n 0, 1), (1320, .iload 4, 2), (1322, .iconst 2, 1), (1323, .iadd, 1), (1324, .iaload, 1), (1325, .i2l, 1), (1326, .bipush 32, 2), (1328, .lshl, 1), (1329, .aload_n 0, 1), (1330, .iload 4, 2), (1332, .iconst 3, 1), (1333, .iadd, 1), (1334, .iaload, 1), (1335, .i2l, 1), (1336, .ldc2_w 149, 3), (1339, .land, 1), (1340, .lor, 1), (1341, .invokevirtual 151, 3), (1344, .pop, 1), (1345, .aload_n 2, 1), (1346, .aload_n 0, 1), (1347, .iload 4, 2), (1349, .iconst 1, 1), (1350, .iadd, 1), (1351, .iaload, 1), (1352, .aload_n 0, 1), (1353, .iload 4, 2), (1355, .iconst 2, 1), (1356, .iadd, 1), (1357, .iaload, 1), (1358, .i2l, 1), (1359, .bipush 32, 2), (1361, .lshl, 1), (1362, .aload_n 0, 1), (1363, .iload 4, 2)]
theorem D_lw_20_ok : dtOK code D_lw_20 = true := by decide +kernel
theorem d_lw_1313 : decode code 1313 = .ok (.aload_n 0, 1) := dt_get (q := (1313, .aload_n 0, 1)) D_lw_20_ok 0 rfl
theorem d_lw_1314 : decode code 1314 = .ok (.iload 4, 2) := dt_get (q := (1314, .iload 4, 2)) D_lw_20_ok 1 rfl
theorem d_lw_1316 : decode code 1316 = .ok (.iconst 1, 1) := dt_get (q := (1316, .iconst 1, 1)) D_lw_20_ok 2 rfl
theorem d_lw_1317 : decode code 1317 = .ok (.iadd, 1) := dt_get (q := (1317, .iadd, 1)) D_lw_20_ok 3 rfl
theorem d_lw_1318 : decode code 1318 = .ok (.iaload, 1) := dt_get (q := (1318, .iaload, 1)) D_lw_20_ok 4 rfl
theorem d_lw_1319 : decode code 1319 = .ok (.aload_n 0, 1) := dt_get (q := (1319, .aload_n 0, 1)) D_lw_20_ok 5 rfl
theorem d_lw_1320 : decode code 1320 = .ok (.iload 4, 2) := dt_get (q := (1320, .iload 4, 2)) D_lw_20_ok 6 rfl
theorem d_lw_1322 : decode code 1322 = .ok (.iconst 2, 1) := dt_get (q := (1322, .iconst 2, 1)) D_lw_20_ok 7 rfl
theorem d_lw_1323 : decode code 1323 = .ok (.iadd, 1) := dt_get (q := (1323, .iadd, 1)) D_lw_20_ok 8 rfl
theorem d_lw_1324 : decode code 1324 = .ok (.iaload, 1) := dt_get (q := (1324, .iaload, 1)) D_lw_20_ok 9 rfl
theorem d_lw_1325 : decode code 1325 = .ok (.i2l, 1) := dt_get (q := (1325, .i2l, 1)) D_lw_20_ok 10 rfl
theorem d_lw_1326 : decode code 1326 = .ok (.bipush 32, 2) := dt_get (q := (1326, .bipush 32, 2)) D_lw_20_ok 11 rfl
theorem d_lw_1328 : decode code 1328 = .ok (.lshl, 1) := dt_get (q := (1328, .lshl, 1)) D_lw_20_ok 12 rfl
theorem d_lw_1329 : decode code 1329 = .ok (.aload_n 0, 1) := dt_get (q := (1329, .aload_n 0, 1)) D_lw_20_ok 13 rfl
theorem d_lw_1330 : decode code 1330 = .ok (.iload 4, 2) := dt_get (q := (1330, .iload 4, 2)) D_lw_20_ok 14 rfl
theorem d_lw_1332 : decode code 1332 = .ok (.iconst 3, 1) := dt_get (q := (1332, .iconst 3, 1)) D_lw_20_ok 15 rfl
theorem d_lw_1333 : decode code 1333 = .ok (.iadd, 1) := dt_get (q := (1333, .iadd, 1)) D_lw_20_ok 16 rfl
theorem d_lw_1334 : decode code 1334 = .ok (.iaload, 1) := dt_get (q := (1334, .iaload, 1)) D_lw_20_ok 17 rfl
theorem d_lw_1335 : decode code 1335 = .ok (.i2l, 1) := dt_get (q := (1335, .i2l, 1)) D_lw_20_ok 18 rfl
theorem d_lw_1336 : decode code 1336 = .ok (.ldc2_w 149, 3) := dt_get (q := (1336, .ldc2_w 149, 3)) D_lw_20_ok 19 rfl
theorem d_lw_1339 : decode code 1339 = .ok (.land, 1) := dt_get (q := (1339, .land, 1)) D_lw_20_ok 20 rfl
theorem d_lw_1340 : decode code 1340 = .ok (.lor, 1) := dt_get (q := (1340, .lor, 1)) D_lw_20_ok 21 rfl
theorem d_lw_1341 : decode code 1341 = .ok (.invokevirtual 151, 3) := dt_get (q := (1341, .invokevirtual 151, 3)) D_lw_20_ok 22 rfl
theorem d_lw_1344 : decode code 1344 = .ok (.pop, 1) := dt_get (q := (1344, .pop, 1)) D_lw_20_ok 23 rfl
theorem d_lw_1345 : decode code 1345 = .ok (.aload_n 2, 1) := dt_get (q := (1345, .aload_n 2, 1)) D_lw_20_ok 24 rfl
theorem d_lw_1346 : decode code 1346 = .ok (.aload_n 0, 1) := dt_get (q := (1346, .aload_n 0, 1)) D_lw_20_ok 25 rfl
theorem d_lw_1347 : decode code 1347 = .ok (.iload 4, 2) := dt_get (q := (1347, .iload 4, 2)) D_lw_20_ok 26 rfl
theorem d_lw_1349 : decode code 1349 = .ok (.iconst 1, 1) := dt_get (q := (1349, .iconst 1, 1)) D_lw_20_ok 27 rfl
theorem d_lw_1350 : decode code 1350 = .ok (.iadd, 1) := dt_get (q := (1350, .iadd, 1)) D_lw_20_ok 28 rfl
theorem d_lw_1351 : decode code 1351 = .ok (.iaload, 1) := dt_get (q := (1351, .iaload, 1)) D_lw_20_ok 29 rfl
theorem d_lw_1352 : decode code 1352 = .ok (.aload_n 0, 1) := dt_get (q := (1352, .aload_n 0, 1)) D_lw_20_ok 30 rfl
theorem d_lw_1353 : decode code 1353 = .ok (.iload 4, 2) := dt_get (q := (1353, .iload 4, 2)) D_lw_20_ok 31 rfl
theorem d_lw_1355 : decode code 1355 = .ok (.iconst 2, 1) := dt_get (q := (1355, .iconst 2, 1)) D_lw_20_ok 32 rfl
theorem d_lw_1356 : decode code 1356 = .ok (.iadd, 1) := dt_get (q := (1356, .iadd, 1)) D_lw_20_ok 33 rfl
theorem d_lw_1357 : decode code 1357 = .ok (.iaload, 1) := dt_get (q := (1357, .iaload, 1)) D_lw_20_ok 34 rfl
theorem d_lw_1358 : decode code 1358 = .ok (.i2l, 1) := dt_get (q := (1358, .i2l, 1)) D_lw_20_ok 35 rfl
theorem d_lw_1359 : decode code 1359 = .ok (.bipush 32, 2) := dt_get (q := (1359, .bipush 32, 2)) D_lw_20_ok 36 rfl
theorem d_lw_1361 : decode code 1361 = .ok (.lshl, 1) := dt_get (q := (1361, .lshl, 1)) D_lw_20_ok 37 rfl
theorem d_lw_1362 : decode code 1362 = .ok (.aload_n 0, 1) := dt_get (q := (1362, .aload_n 0, 1)) D_lw_20_ok 38 rfl
theorem d_lw_1363 : decode code 1363 = .ok (.iload 4, 2) := dt_get (q := (1363, .iload 4, 2)) D_lw_20_ok 39 rfl
def D_lw_21 : DT := [(1365, .iconst 3, 1), (1366, .iadd, 1), (1367, .iaload, 1), (1368, .i2l, 1), (1369, .ldc2_w 149, 3), (1372, .land, 1), (1373, .lor, 1), (1374, .invokevirtual 155, 3), (1377, .pop, 1), (1378, .goto 814, 3), (1381, .aload_n 1, 1), (1382, .aload_n 0, 1), (1383, .iload 4, 2), (1385, .iconst 1, 1), (1386, .iadd, 1), (1387, .iaload, 1), (1388, .aload_n 0, 1), (1389, .iload 4, 2), (1391, .iconst 2, 1), (1392, .iadd, 1), (1393, .iaload, 1), (1394, .invokevirtual 156, 3), (1397, .pop2, 1), (1398, .aload_n 2, 1), (1399, .aload_n 0, 1), (1400, .iload 4, 2), (1402, .iconst 1, 1), (1403, .iadd, 1), (1404, .iaload, 1), (1405, .aload_n 0, 1), (1406, .iload 4, 2), (1408, .iconst 2, 1), (1409, .iadd, 1), (1410, .iaload, 1), (1411, .invokevirtual 159, 3), (1414, .pop2, 1), (1415, .goto 777, 3), (1418, .aload_n 1, 1), (1419, .aload_n 0, 1), (1420, .iload 4, 2)]
theorem D_lw_21_ok : dtOK code D_lw_21 = true := by decide +kernel
theorem d_lw_1365 : decode code 1365 = .ok (.iconst 3, 1) := dt_get (q := (1365, .iconst 3, 1)) D_lw_21_ok 0 rfl
theorem d_lw_1366 : decode code 1366 = .ok (.iadd, 1) := dt_get (q := (1366, .iadd, 1)) D_lw_21_ok 1 rfl
theorem d_lw_1367 : decode code 1367 = .ok (.iaload, 1) := dt_get (q := (1367, .iaload, 1)) D_lw_21_ok 2 rfl
theorem d_lw_1368 : decode code 1368 = .ok (.i2l, 1) := dt_get (q := (1368, .i2l, 1)) D_lw_21_ok 3 rfl
theorem d_lw_1369 : decode code 1369 = .ok (.ldc2_w 149, 3) := dt_get (q := (1369, .ldc2_w 149, 3)) D_lw_21_ok 4 rfl
theorem d_lw_1372 : decode code 1372 = .ok (.land, 1) := dt_get (q := (1372, .land, 1)) D_lw_21_ok 5 rfl
theorem d_lw_1373 : decode code 1373 = .ok (.lor, 1) := dt_get (q := (1373, .lor, 1)) D_lw_21_ok 6 rfl
theorem d_lw_1374 : decode code 1374 = .ok (.invokevirtual 155, 3) := dt_get (q := (1374, .invokevirtual 155, 3)) D_lw_21_ok 7 rfl
theorem d_lw_1377 : decode code 1377 = .ok (.pop, 1) := dt_get (q := (1377, .pop, 1)) D_lw_21_ok 8 rfl
theorem d_lw_1378 : decode code 1378 = .ok (.goto 814, 3) := dt_get (q := (1378, .goto 814, 3)) D_lw_21_ok 9 rfl
theorem d_lw_1381 : decode code 1381 = .ok (.aload_n 1, 1) := dt_get (q := (1381, .aload_n 1, 1)) D_lw_21_ok 10 rfl
theorem d_lw_1382 : decode code 1382 = .ok (.aload_n 0, 1) := dt_get (q := (1382, .aload_n 0, 1)) D_lw_21_ok 11 rfl
theorem d_lw_1383 : decode code 1383 = .ok (.iload 4, 2) := dt_get (q := (1383, .iload 4, 2)) D_lw_21_ok 12 rfl
theorem d_lw_1385 : decode code 1385 = .ok (.iconst 1, 1) := dt_get (q := (1385, .iconst 1, 1)) D_lw_21_ok 13 rfl
theorem d_lw_1386 : decode code 1386 = .ok (.iadd, 1) := dt_get (q := (1386, .iadd, 1)) D_lw_21_ok 14 rfl
theorem d_lw_1387 : decode code 1387 = .ok (.iaload, 1) := dt_get (q := (1387, .iaload, 1)) D_lw_21_ok 15 rfl
theorem d_lw_1388 : decode code 1388 = .ok (.aload_n 0, 1) := dt_get (q := (1388, .aload_n 0, 1)) D_lw_21_ok 16 rfl
theorem d_lw_1389 : decode code 1389 = .ok (.iload 4, 2) := dt_get (q := (1389, .iload 4, 2)) D_lw_21_ok 17 rfl
theorem d_lw_1391 : decode code 1391 = .ok (.iconst 2, 1) := dt_get (q := (1391, .iconst 2, 1)) D_lw_21_ok 18 rfl
theorem d_lw_1392 : decode code 1392 = .ok (.iadd, 1) := dt_get (q := (1392, .iadd, 1)) D_lw_21_ok 19 rfl
theorem d_lw_1393 : decode code 1393 = .ok (.iaload, 1) := dt_get (q := (1393, .iaload, 1)) D_lw_21_ok 20 rfl
theorem d_lw_1394 : decode code 1394 = .ok (.invokevirtual 156, 3) := dt_get (q := (1394, .invokevirtual 156, 3)) D_lw_21_ok 21 rfl
theorem d_lw_1397 : decode code 1397 = .ok (.pop2, 1) := dt_get (q := (1397, .pop2, 1)) D_lw_21_ok 22 rfl
theorem d_lw_1398 : decode code 1398 = .ok (.aload_n 2, 1) := dt_get (q := (1398, .aload_n 2, 1)) D_lw_21_ok 23 rfl
theorem d_lw_1399 : decode code 1399 = .ok (.aload_n 0, 1) := dt_get (q := (1399, .aload_n 0, 1)) D_lw_21_ok 24 rfl
theorem d_lw_1400 : decode code 1400 = .ok (.iload 4, 2) := dt_get (q := (1400, .iload 4, 2)) D_lw_21_ok 25 rfl
theorem d_lw_1402 : decode code 1402 = .ok (.iconst 1, 1) := dt_get (q := (1402, .iconst 1, 1)) D_lw_21_ok 26 rfl
theorem d_lw_1403 : decode code 1403 = .ok (.iadd, 1) := dt_get (q := (1403, .iadd, 1)) D_lw_21_ok 27 rfl
theorem d_lw_1404 : decode code 1404 = .ok (.iaload, 1) := dt_get (q := (1404, .iaload, 1)) D_lw_21_ok 28 rfl
theorem d_lw_1405 : decode code 1405 = .ok (.aload_n 0, 1) := dt_get (q := (1405, .aload_n 0, 1)) D_lw_21_ok 29 rfl
theorem d_lw_1406 : decode code 1406 = .ok (.iload 4, 2) := dt_get (q := (1406, .iload 4, 2)) D_lw_21_ok 30 rfl
theorem d_lw_1408 : decode code 1408 = .ok (.iconst 2, 1) := dt_get (q := (1408, .iconst 2, 1)) D_lw_21_ok 31 rfl
theorem d_lw_1409 : decode code 1409 = .ok (.iadd, 1) := dt_get (q := (1409, .iadd, 1)) D_lw_21_ok 32 rfl
theorem d_lw_1410 : decode code 1410 = .ok (.iaload, 1) := dt_get (q := (1410, .iaload, 1)) D_lw_21_ok 33 rfl
theorem d_lw_1411 : decode code 1411 = .ok (.invokevirtual 159, 3) := dt_get (q := (1411, .invokevirtual 159, 3)) D_lw_21_ok 34 rfl
theorem d_lw_1414 : decode code 1414 = .ok (.pop2, 1) := dt_get (q := (1414, .pop2, 1)) D_lw_21_ok 35 rfl
theorem d_lw_1415 : decode code 1415 = .ok (.goto 777, 3) := dt_get (q := (1415, .goto 777, 3)) D_lw_21_ok 36 rfl
theorem d_lw_1418 : decode code 1418 = .ok (.aload_n 1, 1) := dt_get (q := (1418, .aload_n 1, 1)) D_lw_21_ok 37 rfl
theorem d_lw_1419 : decode code 1419 = .ok (.aload_n 0, 1) := dt_get (q := (1419, .aload_n 0, 1)) D_lw_21_ok 38 rfl
theorem d_lw_1420 : decode code 1420 = .ok (.iload 4, 2) := dt_get (q := (1420, .iload 4, 2)) D_lw_21_ok 39 rfl
def D_lw_22 : DT := [(1422, .iconst 1, 1), (1423, .iadd, 1), (1424, .iaload, 1), (1425, .aload_n 0, 1), (1426, .iload 4, 2), (1428, .iconst 2, 1), (1429, .iadd, 1), (1430, .iaload, 1), (1431, .invokevirtual 160, 3), (1434, .pop, 1), (1435, .aload_n 2, 1), (1436, .aload_n 0, 1), (1437, .iload 4, 2), (1439, .iconst 1, 1), (1440, .iadd, 1), (1441, .iaload, 1), (1442, .aload_n 0, 1), (1443, .iload 4, 2), (1445, .iconst 2, 1), (1446, .iadd, 1), (1447, .iaload, 1), (1448, .invokevirtual 163, 3), (1451, .pop, 1), (1452, .goto 740, 3), (1455, .aload_n 1, 1), (1456, .aload_n 0, 1), (1457, .iload 4, 2), (1459, .iconst 1, 1), (1460, .iadd, 1), (1461, .iaload, 1), (1462, .invokevirtual 164, 3), (1465, .pop, 1), (1466, .aload_n 2, 1), (1467, .aload_n 0, 1), (1468, .iload 4, 2), (1470, .iconst 1, 1), (1471, .iadd, 1), (1472, .iaload, 1), (1473, .invokevirtual 167, 3), (1476, .pop, 1)]
theorem D_lw_22_ok : dtOK code D_lw_22 = true := by decide +kernel
theorem d_lw_1422 : decode code 1422 = .ok (.iconst 1, 1) := dt_get (q := (1422, .iconst 1, 1)) D_lw_22_ok 0 rfl
theorem d_lw_1423 : decode code 1423 = .ok (.iadd, 1) := dt_get (q := (1423, .iadd, 1)) D_lw_22_ok 1 rfl
theorem d_lw_1424 : decode code 1424 = .ok (.iaload, 1) := dt_get (q := (1424, .iaload, 1)) D_lw_22_ok 2 rfl
theorem d_lw_1425 : decode code 1425 = .ok (.aload_n 0, 1) := dt_get (q := (1425, .aload_n 0, 1)) D_lw_22_ok 3 rfl
theorem d_lw_1426 : decode code 1426 = .ok (.iload 4, 2) := dt_get (q := (1426, .iload 4, 2)) D_lw_22_ok 4 rfl
theorem d_lw_1428 : decode code 1428 = .ok (.iconst 2, 1) := dt_get (q := (1428, .iconst 2, 1)) D_lw_22_ok 5 rfl
theorem d_lw_1429 : decode code 1429 = .ok (.iadd, 1) := dt_get (q := (1429, .iadd, 1)) D_lw_22_ok 6 rfl
theorem d_lw_1430 : decode code 1430 = .ok (.iaload, 1) := dt_get (q := (1430, .iaload, 1)) D_lw_22_ok 7 rfl
theorem d_lw_1431 : decode code 1431 = .ok (.invokevirtual 160, 3) := dt_get (q := (1431, .invokevirtual 160, 3)) D_lw_22_ok 8 rfl
theorem d_lw_1434 : decode code 1434 = .ok (.pop, 1) := dt_get (q := (1434, .pop, 1)) D_lw_22_ok 9 rfl
theorem d_lw_1435 : decode code 1435 = .ok (.aload_n 2, 1) := dt_get (q := (1435, .aload_n 2, 1)) D_lw_22_ok 10 rfl
theorem d_lw_1436 : decode code 1436 = .ok (.aload_n 0, 1) := dt_get (q := (1436, .aload_n 0, 1)) D_lw_22_ok 11 rfl
theorem d_lw_1437 : decode code 1437 = .ok (.iload 4, 2) := dt_get (q := (1437, .iload 4, 2)) D_lw_22_ok 12 rfl
theorem d_lw_1439 : decode code 1439 = .ok (.iconst 1, 1) := dt_get (q := (1439, .iconst 1, 1)) D_lw_22_ok 13 rfl
theorem d_lw_1440 : decode code 1440 = .ok (.iadd, 1) := dt_get (q := (1440, .iadd, 1)) D_lw_22_ok 14 rfl
theorem d_lw_1441 : decode code 1441 = .ok (.iaload, 1) := dt_get (q := (1441, .iaload, 1)) D_lw_22_ok 15 rfl
theorem d_lw_1442 : decode code 1442 = .ok (.aload_n 0, 1) := dt_get (q := (1442, .aload_n 0, 1)) D_lw_22_ok 16 rfl
theorem d_lw_1443 : decode code 1443 = .ok (.iload 4, 2) := dt_get (q := (1443, .iload 4, 2)) D_lw_22_ok 17 rfl
theorem d_lw_1445 : decode code 1445 = .ok (.iconst 2, 1) := dt_get (q := (1445, .iconst 2, 1)) D_lw_22_ok 18 rfl
theorem d_lw_1446 : decode code 1446 = .ok (.iadd, 1) := dt_get (q := (1446, .iadd, 1)) D_lw_22_ok 19 rfl
theorem d_lw_1447 : decode code 1447 = .ok (.iaload, 1) := dt_get (q := (1447, .iaload, 1)) D_lw_22_ok 20 rfl
theorem d_lw_1448 : decode code 1448 = .ok (.invokevirtual 163, 3) := dt_get (q := (1448, .invokevirtual 163, 3)) D_lw_22_ok 21 rfl
theorem d_lw_1451 : decode code 1451 = .ok (.pop, 1) := dt_get (q := (1451, .pop, 1)) D_lw_22_ok 22 rfl
theorem d_lw_1452 : decode code 1452 = .ok (.goto 740, 3) := dt_get (q := (1452, .goto 740, 3)) D_lw_22_ok 23 rfl
theorem d_lw_1455 : decode code 1455 = .ok (.aload_n 1, 1) := dt_get (q := (1455, .aload_n 1, 1)) D_lw_22_ok 24 rfl
theorem d_lw_1456 : decode code 1456 = .ok (.aload_n 0, 1) := dt_get (q := (1456, .aload_n 0, 1)) D_lw_22_ok 25 rfl
theorem d_lw_1457 : decode code 1457 = .ok (.iload 4, 2) := dt_get (q := (1457, .iload 4, 2)) D_lw_22_ok 26 rfl
theorem d_lw_1459 : decode code 1459 = .ok (.iconst 1, 1) := dt_get (q := (1459, .iconst 1, 1)) D_lw_22_ok 27 rfl
theorem d_lw_1460 : decode code 1460 = .ok (.iadd, 1) := dt_get (q := (1460, .iadd, 1)) D_lw_22_ok 28 rfl
theorem d_lw_1461 : decode code 1461 = .ok (.iaload, 1) := dt_get (q := (1461, .iaload, 1)) D_lw_22_ok 29 rfl
theorem d_lw_1462 : decode code 1462 = .ok (.invokevirtual 164, 3) := dt_get (q := (1462, .invokevirtual 164, 3)) D_lw_22_ok 30 rfl
theorem d_lw_1465 : decode code 1465 = .ok (.pop, 1) := dt_get (q := (1465, .pop, 1)) D_lw_22_ok 31 rfl
theorem d_lw_1466 : decode code 1466 = .ok (.aload_n 2, 1) := dt_get (q := (1466, .aload_n 2, 1)) D_lw_22_ok 32 rfl
theorem d_lw_1467 : decode code 1467 = .ok (.aload_n 0, 1) := dt_get (q := (1467, .aload_n 0, 1)) D_lw_22_ok 33 rfl
theorem d_lw_1468 : decode code 1468 = .ok (.iload 4, 2) := dt_get (q := (1468, .iload 4, 2)) D_lw_22_ok 34 rfl
theorem d_lw_1470 : decode code 1470 = .ok (.iconst 1, 1) := dt_get (q := (1470, .iconst 1, 1)) D_lw_22_ok 35 rfl
theorem d_lw_1471 : decode code 1471 = .ok (.iadd, 1) := dt_get (q := (1471, .iadd, 1)) D_lw_22_ok 36 rfl
theorem d_lw_1472 : decode code 1472 = .ok (.iaload, 1) := dt_get (q := (1472, .iaload, 1)) D_lw_22_ok 37 rfl
theorem d_lw_1473 : decode code 1473 = .ok (.invokevirtual 167, 3) := dt_get (q := (1473, .invokevirtual 167, 3)) D_lw_22_ok 38 rfl
theorem d_lw_1476 : decode code 1476 = .ok (.pop, 1) := dt_get (q := (1476, .pop, 1)) D_lw_22_ok 39 rfl
def D_lw_23 : DT := [(1477, .goto 715, 3), (1480, .aload_n 1, 1), (1481, .aload_n 0, 1), (1482, .iload 4, 2), (1484, .iconst 1, 1), (1485, .iadd, 1), (1486, .iaload, 1), (1487, .aload_n 0, 1), (1488, .iload 4, 2), (1490, .iconst 2, 1), (1491, .iadd, 1), (1492, .iaload, 1), (1493, .aload_n 0, 1), (1494, .iload 4, 2), (1496, .iconst 3, 1), (1497, .iadd, 1), (1498, .iaload, 1), (1499, .aload_n 0, 1), (1500, .iload 4, 2), (1502, .iconst 4, 1), (1503, .iadd, 1), (1504, .iaload, 1), (1505, .aload_n 0, 1), (1506, .iload 4, 2), (1508, .iconst 5, 1), (1509, .iadd, 1), (1510, .iaload, 1), (1511, .invokevirtual 168, 3), (1514, .pop, 1), (1515, .aload_n 2, 1), (1516, .aload_n 0, 1), (1517, .iload 4, 2), (1519, .iconst 1, 1), (1520, .iadd, 1), (1521, .iaload, 1), (1522, .aload_n 0, 1), (1523, .iload 4, 2), (1525, .iconst 2, 1), (1526, .iadd, 1), (1527, .iaload, 1)]
theorem D_lw_23_ok : dtOK code D_lw_23 = true := by decide +kernel
theorem d_lw_1477 : decode code 1477 = .ok (.goto 715, 3) := dt_get (q := (1477, .goto 715, 3)) D_lw_23_ok 0 rfl
theorem d_lw_1480 : decode code 1480 = .ok (.aload_n 1, 1) := dt_get (q := (1480, .aload_n 1, 1)) D_lw_23_ok 1 rfl
theorem d_lw_1481 : decode code 1481 = .ok (.aload_n 0, 1) := dt_get (q := (1481, .aload_n 0, 1)) D_lw_23_ok 2 rfl
theorem d_lw_1482 : decode code 1482 = .ok (.iload 4, 2) := dt_get (q := (1482, .iload 4, 2)) D_lw_23_ok 3 rfl
theorem d_lw_1484 : decode code 1484 = .ok (.iconst 1, 1) := dt_get (q := (1484, .iconst 1, 1)) D_lw_23_ok 4 rfl
theorem d_lw_1485 : decode code 1485 = .ok (.iadd, 1) := dt_get (q := (1485, .iadd, 1)) D_lw_23_ok 5 rfl
theorem d_lw_1486 : decode code 1486 = .ok (.iaload, 1) := dt_get (q := (1486, .iaload, 1)) D_lw_23_ok 6 rfl
theorem d_lw_1487 : decode code 1487 = .ok (.aload_n 0, 1) := dt_get (q := (1487, .aload_n 0, 1)) D_lw_23_ok 7 rfl
theorem d_lw_1488 : decode code 1488 = .ok (.iload 4, 2) := dt_get (q := (1488, .iload 4, 2)) D_lw_23_ok 8 rfl
theorem d_lw_1490 : decode code 1490 = .ok (.iconst 2, 1) := dt_get (q := (1490, .iconst 2, 1)) D_lw_23_ok 9 rfl
theorem d_lw_1491 : decode code 1491 = .ok (.iadd, 1) := dt_get (q := (1491, .iadd, 1)) D_lw_23_ok 10 rfl
theorem d_lw_1492 : decode code 1492 = .ok (.iaload, 1) := dt_get (q := (1492, .iaload, 1)) D_lw_23_ok 11 rfl
theorem d_lw_1493 : decode code 1493 = .ok (.aload_n 0, 1) := dt_get (q := (1493, .aload_n 0, 1)) D_lw_23_ok 12 rfl
theorem d_lw_1494 : decode code 1494 = .ok (.iload 4, 2) := dt_get (q := (1494, .iload 4, 2)) D_lw_23_ok 13 rfl
theorem d_lw_1496 : decode code 1496 = .ok (.iconst 3, 1) := dt_get (q := (1496, .iconst 3, 1)) D_lw_23_ok 14 rfl
theorem d_lw_1497 : decode code 1497 = .ok (.iadd, 1) := dt_get (q := (1497, .iadd, 1)) D_lw_23_ok 15 rfl
theorem d_lw_1498 : decode code 1498 = .ok (.iaload, 1) := dt_get (q := (1498, .iaload, 1)) D_lw_23_ok 16 rfl
theorem d_lw_1499 : decode code 1499 = .ok (.aload_n 0, 1) := dt_get (q := (1499, .aload_n 0, 1)) D_lw_23_ok 17 rfl
theorem d_lw_1500 : decode code 1500 = .ok (.iload 4, 2) := dt_get (q := (1500, .iload 4, 2)) D_lw_23_ok 18 rfl
theorem d_lw_1502 : decode code 1502 = .ok (.iconst 4, 1) := dt_get (q := (1502, .iconst 4, 1)) D_lw_23_ok 19 rfl
theorem d_lw_1503 : decode code 1503 = .ok (.iadd, 1) := dt_get (q := (1503, .iadd, 1)) D_lw_23_ok 20 rfl
theorem d_lw_1504 : decode code 1504 = .ok (.iaload, 1) := dt_get (q := (1504, .iaload, 1)) D_lw_23_ok 21 rfl
theorem d_lw_1505 : decode code 1505 = .ok (.aload_n 0, 1) := dt_get (q := (1505, .aload_n 0, 1)) D_lw_23_ok 22 rfl
theorem d_lw_1506 : decode code 1506 = .ok (.iload 4, 2) := dt_get (q := (1506, .iload 4, 2)) D_lw_23_ok 23 rfl
theorem d_lw_1508 : decode code 1508 = .ok (.iconst 5, 1) := dt_get (q := (1508, .iconst 5, 1)) D_lw_23_ok 24 rfl
theorem d_lw_1509 : decode code 1509 = .ok (.iadd, 1) := dt_get (q := (1509, .iadd, 1)) D_lw_23_ok 25 rfl
theorem d_lw_1510 : decode code 1510 = .ok (.iaload, 1) := dt_get (q := (1510, .iaload, 1)) D_lw_23_ok 26 rfl
theorem d_lw_1511 : decode code 1511 = .ok (.invokevirtual 168, 3) := dt_get (q := (1511, .invokevirtual 168, 3)) D_lw_23_ok 27 rfl
theorem d_lw_1514 : decode code 1514 = .ok (.pop, 1) := dt_get (q := (1514, .pop, 1)) D_lw_23_ok 28 rfl
theorem d_lw_1515 : decode code 1515 = .ok (.aload_n 2, 1) := dt_get (q := (1515, .aload_n 2, 1)) D_lw_23_ok 29 rfl
theorem d_lw_1516 : decode code 1516 = .ok (.aload_n 0, 1) := dt_get (q := (1516, .aload_n 0, 1)) D_lw_23_ok 30 rfl
theorem d_lw_1517 : decode code 1517 = .ok (.iload 4, 2) := dt_get (q := (1517, .iload 4, 2)) D_lw_23_ok 31 rfl
theorem d_lw_1519 : decode code 1519 = .ok (.iconst 1, 1) := dt_get (q := (1519, .iconst 1, 1)) D_lw_23_ok 32 rfl
theorem d_lw_1520 : decode code 1520 = .ok (.iadd, 1) := dt_get (q := (1520, .iadd, 1)) D_lw_23_ok 33 rfl
theorem d_lw_1521 : decode code 1521 = .ok (.iaload, 1) := dt_get (q := (1521, .iaload, 1)) D_lw_23_ok 34 rfl
theorem d_lw_1522 : decode code 1522 = .ok (.aload_n 0, 1) := dt_get (q := (1522, .aload_n 0, 1)) D_lw_23_ok 35 rfl
theorem d_lw_1523 : decode code 1523 = .ok (.iload 4, 2) := dt_get (q := (1523, .iload 4, 2)) D_lw_23_ok 36 rfl
theorem d_lw_1525 : decode code 1525 = .ok (.iconst 2, 1) := dt_get (q := (1525, .iconst 2, 1)) D_lw_23_ok 37 rfl
theorem d_lw_1526 : decode code 1526 = .ok (.iadd, 1) := dt_get (q := (1526, .iadd, 1)) D_lw_23_ok 38 rfl
theorem d_lw_1527 : decode code 1527 = .ok (.iaload, 1) := dt_get (q := (1527, .iaload, 1)) D_lw_23_ok 39 rfl
def D_lw_24 : DT := [(1528, .aload_n 0, 1), (1529, .iload 4, 2), (1531, .iconst 3, 1), (1532, .iadd, 1), (1533, .iaload, 1), (1534, .aload_n 0, 1), (1535, .iload 4, 2), (1537, .iconst 4, 1), (1538, .iadd, 1), (1539, .iaload, 1), (1540, .aload_n 0, 1), (1541, .iload 4, 2), (1543, .iconst 5, 1), (1544, .iadd, 1), (1545, .iaload, 1), (1546, .invokevirtual 172, 3), (1549, .pop, 1), (1550, .goto 642, 3), (1553, .aload_n 1, 1), (1554, .aload_n 0, 1), (1555, .iload 4, 2), (1557, .iconst 1, 1), (1558, .iadd, 1), (1559, .iaload, 1), (1560, .invokevirtual 173, 3), (1563, .pop2, 1), (1564, .aload_n 2, 1), (1565, .aload_n 0, 1), (1566, .iload 4, 2), (1568, .iconst 1, 1), (1569, .iadd, 1), (1570, .iaload, 1), (1571, .invokevirtual 176, 3), (1574, .pop2, 1), (1575, .goto 617, 3), (1578, .aload_n 1, 1), (1579, .aload_n 0, 1), (1580, .iload 4, 2), (1582, .iconst 1, 1), (1583, .iadd, 1)]
theorem D_lw_24_ok : dtOK code D_lw_24 = true := by decide +kernel
theorem d_lw_1528 : decode code 1528 = .ok (.aload_n 0, 1) := dt_get (q := (1528, .aload_n 0, 1)) D_lw_24_ok 0 rfl
theorem d_lw_1529 : decode code 1529 = .ok (.iload 4, 2) := dt_get (q := (1529, .iload 4, 2)) D_lw_24_ok 1 rfl
theorem d_lw_1531 : decode code 1531 = .ok (.iconst 3, 1) := dt_get (q := (1531, .iconst 3, 1)) D_lw_24_ok 2 rfl
theorem d_lw_1532 : decode code 1532 = .ok (.iadd, 1) := dt_get (q := (1532, .iadd, 1)) D_lw_24_ok 3 rfl
theorem d_lw_1533 : decode code 1533 = .ok (.iaload, 1) := dt_get (q := (1533, .iaload, 1)) D_lw_24_ok 4 rfl
theorem d_lw_1534 : decode code 1534 = .ok (.aload_n 0, 1) := dt_get (q := (1534, .aload_n 0, 1)) D_lw_24_ok 5 rfl
theorem d_lw_1535 : decode code 1535 = .ok (.iload 4, 2) := dt_get (q := (1535, .iload 4, 2)) D_lw_24_ok 6 rfl
theorem d_lw_1537 : decode code 1537 = .ok (.iconst 4, 1) := dt_get (q := (1537, .iconst 4, 1)) D_lw_24_ok 7 rfl
theorem d_lw_1538 : decode code 1538 = .ok (.iadd, 1) := dt_get (q := (1538, .iadd, 1)) D_lw_24_ok 8 rfl
theorem d_lw_1539 : decode code 1539 = .ok (.iaload, 1) := dt_get (q := (1539, .iaload, 1)) D_lw_24_ok 9 rfl
theorem d_lw_1540 : decode code 1540 = .ok (.aload_n 0, 1) := dt_get (q := (1540, .aload_n 0, 1)) D_lw_24_ok 10 rfl
theorem d_lw_1541 : decode code 1541 = .ok (.iload 4, 2) := dt_get (q := (1541, .iload 4, 2)) D_lw_24_ok 11 rfl
theorem d_lw_1543 : decode code 1543 = .ok (.iconst 5, 1) := dt_get (q := (1543, .iconst 5, 1)) D_lw_24_ok 12 rfl
theorem d_lw_1544 : decode code 1544 = .ok (.iadd, 1) := dt_get (q := (1544, .iadd, 1)) D_lw_24_ok 13 rfl
theorem d_lw_1545 : decode code 1545 = .ok (.iaload, 1) := dt_get (q := (1545, .iaload, 1)) D_lw_24_ok 14 rfl
theorem d_lw_1546 : decode code 1546 = .ok (.invokevirtual 172, 3) := dt_get (q := (1546, .invokevirtual 172, 3)) D_lw_24_ok 15 rfl
theorem d_lw_1549 : decode code 1549 = .ok (.pop, 1) := dt_get (q := (1549, .pop, 1)) D_lw_24_ok 16 rfl
theorem d_lw_1550 : decode code 1550 = .ok (.goto 642, 3) := dt_get (q := (1550, .goto 642, 3)) D_lw_24_ok 17 rfl
theorem d_lw_1553 : decode code 1553 = .ok (.aload_n 1, 1) := dt_get (q := (1553, .aload_n 1, 1)) D_lw_24_ok 18 rfl
theorem d_lw_1554 : decode code 1554 = .ok (.aload_n 0, 1) := dt_get (q := (1554, .aload_n 0, 1)) D_lw_24_ok 19 rfl
theorem d_lw_1555 : decode code 1555 = .ok (.iload 4, 2) := dt_get (q := (1555, .iload 4, 2)) D_lw_24_ok 20 rfl
theorem d_lw_1557 : decode code 1557 = .ok (.iconst 1, 1) := dt_get (q := (1557, .iconst 1, 1)) D_lw_24_ok 21 rfl
theorem d_lw_1558 : decode code 1558 = .ok (.iadd, 1) := dt_get (q := (1558, .iadd, 1)) D_lw_24_ok 22 rfl
theorem d_lw_1559 : decode code 1559 = .ok (.iaload, 1) := dt_get (q := (1559, .iaload, 1)) D_lw_24_ok 23 rfl
theorem d_lw_1560 : decode code 1560 = .ok (.invokevirtual 173, 3) := dt_get (q := (1560, .invokevirtual 173, 3)) D_lw_24_ok 24 rfl
theorem d_lw_1563 : decode code 1563 = .ok (.pop2, 1) := dt_get (q := (1563, .pop2, 1)) D_lw_24_ok 25 rfl
theorem d_lw_1564 : decode code 1564 = .ok (.aload_n 2, 1) := dt_get (q := (1564, .aload_n 2, 1)) D_lw_24_ok 26 rfl
theorem d_lw_1565 : decode code 1565 = .ok (.aload_n 0, 1) := dt_get (q := (1565, .aload_n 0, 1)) D_lw_24_ok 27 rfl
theorem d_lw_1566 : decode code 1566 = .ok (.iload 4, 2) := dt_get (q := (1566, .iload 4, 2)) D_lw_24_ok 28 rfl
theorem d_lw_1568 : decode code 1568 = .ok (.iconst 1, 1) := dt_get (q := (1568, .iconst 1, 1)) D_lw_24_ok 29 rfl
theorem d_lw_1569 : decode code 1569 = .ok (.iadd, 1) := dt_get (q := (1569, .iadd, 1)) D_lw_24_ok 30 rfl
theorem d_lw_1570 : decode code 1570 = .ok (.iaload, 1) := dt_get (q := (1570, .iaload, 1)) D_lw_24_ok 31 rfl
theorem d_lw_1571 : decode code 1571 = .ok (.invokevirtual 176, 3) := dt_get (q := (1571, .invokevirtual 176, 3)) D_lw_24_ok 32 rfl
theorem d_lw_1574 : decode code 1574 = .ok (.pop2, 1) := dt_get (q := (1574, .pop2, 1)) D_lw_24_ok 33 rfl
theorem d_lw_1575 : decode code 1575 = .ok (.goto 617, 3) := dt_get (q := (1575, .goto 617, 3)) D_lw_24_ok 34 rfl
theorem d_lw_1578 : decode code 1578 = .ok (.aload_n 1, 1) := dt_get (q := (1578, .aload_n 1, 1)) D_lw_24_ok 35 rfl
theorem d_lw_1579 : decode code 1579 = .ok (.aload_n 0, 1) := dt_get (q := (1579, .aload_n 0, 1)) D_lw_24_ok 36 rfl
theorem d_lw_1580 : decode code 1580 = .ok (.iload 4, 2) := dt_get (q := (1580, .iload 4, 2)) D_lw_24_ok 37 rfl
theorem d_lw_1582 : decode code 1582 = .ok (.iconst 1, 1) := dt_get (q := (1582, .iconst 1, 1)) D_lw_24_ok 38 rfl
theorem d_lw_1583 : decode code 1583 = .ok (.iadd, 1) := dt_get (q := (1583, .iadd, 1)) D_lw_24_ok 39 rfl
def D_lw_25 : DT := [(1584, .iaload, 1), (1585, .aload_n 0, 1), (1586, .iload 4, 2), (1588, .iconst 2, 1), (1589, .iadd, 1), (1590, .iaload, 1), (1591, .aload_n 0, 1), (1592, .iload 4, 2), (1594, .iconst 3, 1), (1595, .iadd, 1), (1596, .iaload, 1), (1597, .invokevirtual 177, 3), (1600, .pop, 1), (1601, .aload_n 2, 1), (1602, .aload_n 0, 1), (1603, .iload 4, 2), (1605, .iconst 1, 1), (1606, .iadd, 1), (1607, .iaload, 1), (1608, .aload_n 0, 1), (1609, .iload 4, 2), (1611, .iconst 2, 1), (1612, .iadd, 1), (1613, .iaload, 1), (1614, .aload_n 0, 1), (1615, .iload 4, 2), (1617, .iconst 3, 1), (1618, .iadd, 1), (1619, .iaload, 1), (1620, .invokevirtual 180, 3), (1623, .pop, 1), (1624, .goto 568, 3), (1627, .aload_n 1, 1), (1628, .invokevirtual 181, 3), (1631, .pop2, 1), (1632, .aload_n 2, 1), (1633, .invokevirtual 185, 3), (1636, .pop2, 1), (1637, .goto 555, 3), (1640, .aload_n 1, 1)]
theorem D_lw_25_ok : dtOK code D_lw_25 = true := by decide +kernel
theorem d_lw_1584 : decode code 1584 = .ok (.iaload, 1) := dt_get (q := (1584, .iaload, 1)) D_lw_25_ok 0 rfl
theorem d_lw_1585 : decode code 1585 = .ok (.aload_n 0, 1) := dt_get (q := (1585, .aload_n 0, 1)) D_lw_25_ok 1 rfl
theorem d_lw_1586 : decode code 1586 = .ok (.iload 4, 2) := dt_get (q := (1586, .iload 4, 2)) D_lw_25_ok 2 rfl
theorem d_lw_1588 : decode code 1588 = .ok (.iconst 2, 1) := dt_get (q := (1588, .iconst 2, 1)) D_lw_25_ok 3 rfl
theorem d_lw_1589 : decode code 1589 = .ok (.iadd, 1) := dt_get (q := (1589, .iadd, 1)) D_lw_25_ok 4 rfl
theorem d_lw_1590 : decode code 1590 = .ok (.iaload, 1) := dt_get (q := (1590, .iaload, 1)) D_lw_25_ok 5 rfl
theorem d_lw_1591 : decode code 1591 = .ok (.aload_n 0, 1) := dt_get (q := (1591, .aload_n 0, 1)) D_lw_25_ok 6 rfl
theorem d_lw_1592 : decode code 1592 = .ok (.iload 4, 2) := dt_get (q := (1592, .iload 4, 2)) D_lw_25_ok 7 rfl
theorem d_lw_1594 : decode code 1594 = .ok (.iconst 3, 1) := dt_get (q := (1594, .iconst 3, 1)) D_lw_25_ok 8 rfl
theorem d_lw_1595 : decode code 1595 = .ok (.iadd, 1) := dt_get (q := (1595, .iadd, 1)) D_lw_25_ok 9 rfl
theorem d_lw_1596 : decode code 1596 = .ok (.iaload, 1) := dt_get (q := (1596, .iaload, 1)) D_lw_25_ok 10 rfl
theorem d_lw_1597 : decode code 1597 = .ok (.invokevirtual 177, 3) := dt_get (q := (1597, .invokevirtual 177, 3)) D_lw_25_ok 11 rfl
theorem d_lw_1600 : decode code 1600 = .ok (.pop, 1) := dt_get (q := (1600, .pop, 1)) D_lw_25_ok 12 rfl
theorem d_lw_1601 : decode code 1601 = .ok (.aload_n 2, 1) := dt_get (q := (1601, .aload_n 2, 1)) D_lw_25_ok 13 rfl
theorem d_lw_1602 : decode code 1602 = .ok (.aload_n 0, 1) := dt_get (q := (1602, .aload_n 0, 1)) D_lw_25_ok 14 rfl
theorem d_lw_1603 : decode code 1603 = .ok (.iload 4, 2) := dt_get (q := (1603, .iload 4, 2)) D_lw_25_ok 15 rfl
theorem d_lw_1605 : decode code 1605 = .ok (.iconst 1, 1) := dt_get (q := (1605, .iconst 1, 1)) D_lw_25_ok 16 rfl
theorem d_lw_1606 : decode code 1606 = .ok (.iadd, 1) := dt_get (q := (1606, .iadd, 1)) D_lw_25_ok 17 rfl
theorem d_lw_1607 : decode code 1607 = .ok (.iaload, 1) := dt_get (q := (1607, .iaload, 1)) D_lw_25_ok 18 rfl
theorem d_lw_1608 : decode code 1608 = .ok (.aload_n 0, 1) := dt_get (q := (1608, .aload_n 0, 1)) D_lw_25_ok 19 rfl
theorem d_lw_1609 : decode code 1609 = .ok (.iload 4, 2) := dt_get (q := (1609, .iload 4, 2)) D_lw_25_ok 20 rfl
theorem d_lw_1611 : decode code 1611 = .ok (.iconst 2, 1) := dt_get (q := (1611, .iconst 2, 1)) D_lw_25_ok 21 rfl
theorem d_lw_1612 : decode code 1612 = .ok (.iadd, 1) := dt_get (q := (1612, .iadd, 1)) D_lw_25_ok 22 rfl
theorem d_lw_1613 : decode code 1613 = .ok (.iaload, 1) := dt_get (q := (1613, .iaload, 1)) D_lw_25_ok 23 rfl
theorem d_lw_1614 : decode code 1614 = .ok (.aload_n 0, 1) := dt_get (q := (1614, .aload_n 0, 1)) D_lw_25_ok 24 rfl
theorem d_lw_1615 : decode code 1615 = .ok (.iload 4, 2) := dt_get (q := (1615, .iload 4, 2)) D_lw_25_ok 25 rfl
theorem d_lw_1617 : decode code 1617 = .ok (.iconst 3, 1) := dt_get (q := (1617, .iconst 3, 1)) D_lw_25_ok 26 rfl
theorem d_lw_1618 : decode code 1618 = .ok (.iadd, 1) := dt_get (q := (1618, .iadd, 1)) D_lw_25_ok 27 rfl
theorem d_lw_1619 : decode code 1619 = .ok (.iaload, 1) := dt_get (q := (1619, .iaload, 1)) D_lw_25_ok 28 rfl
theorem d_lw_1620 : decode code 1620 = .ok (.invokevirtual 180, 3) := dt_get (q := (1620, .invokevirtual 180, 3)) D_lw_25_ok 29 rfl
theorem d_lw_1623 : decode code 1623 = .ok (.pop, 1) := dt_get (q := (1623, .pop, 1)) D_lw_25_ok 30 rfl
theorem d_lw_1624 : decode code 1624 = .ok (.goto 568, 3) := dt_get (q := (1624, .goto 568, 3)) D_lw_25_ok 31 rfl
theorem d_lw_1627 : decode code 1627 = .ok (.aload_n 1, 1) := dt_get (q := (1627, .aload_n 1, 1)) D_lw_25_ok 32 rfl
theorem d_lw_1628 : decode code 1628 = .ok (.invokevirtual 181, 3) := dt_get (q := (1628, .invokevirtual 181, 3)) D_lw_25_ok 33 rfl
theorem d_lw_1631 : decode code 1631 = .ok (.pop2, 1) := dt_get (q := (1631, .pop2, 1)) D_lw_25_ok 34 rfl
theorem d_lw_1632 : decode code 1632 = .ok (.aload_n 2, 1) := dt_get (q := (1632, .aload_n 2, 1)) D_lw_25_ok 35 rfl
theorem d_lw_1633 : decode code 1633 = .ok (.invokevirtual 185, 3) := dt_get (q := (1633, .invokevirtual 185, 3)) D_lw_25_ok 36 rfl
theorem d_lw_1636 : decode code 1636 = .ok (.pop2, 1) := dt_get (q := (1636, .pop2, 1)) D_lw_25_ok 37 rfl
theorem d_lw_1637 : decode code 1637 = .ok (.goto 555, 3) := dt_get (q := (1637, .goto 555, 3)) D_lw_25_ok 38 rfl
theorem d_lw_1640 : decode code 1640 = .ok (.aload_n 1, 1) := dt_get (q := (1640, .aload_n 1, 1)) D_lw_25_ok 39 rfl
def D_lw_26 : DT := [(1641, .aload_n 0, 1), (1642, .iload 4, 2), (1644, .iconst 1, 1), (1645, .iadd, 1), (1646, .iaload, 1), (1647, .aload_n 0, 1), (1648, .iload 4, 2), (1650, .iconst 2, 1), (1651, .iadd, 1), (1652, .iaload, 1), (1653, .i2l, 1), (1654, .bipush 32, 2), (1656, .lshl, 1), (1657, .aload_n 0, 1), (1658, .iload 4, 2), (1660, .iconst 3, 1), (1661, .iadd, 1), (1662, .iaload, 1), (1663, .i2l, 1), (1664, .ldc2_w 149, 3), (1667, .land, 1), (1668, .lor, 1), (1669, .aload_n 0, 1), (1670, .iload 4, 2), (1672, .iconst 4, 1), (1673, .iadd, 1), (1674, .iaload, 1), (1675, .aload_n 0, 1), (1676, .iload 4, 2), (1678, .iconst 5, 1), (1679, .iadd, 1), (1680, .iaload, 1), (1681, .i2l, 1), (1682, .bipush 32, 2), (1684, .lshl, 1), (1685, .aload_n 0, 1), (1686, .iload 4, 2), (1688, .bipush 6, 2), (1690, .iadd, 1), (1691, .iaload, 1)]
theorem D_lw_26_ok : dtOK code D_lw_26 = true := by decide +kernel
theorem d_lw_1641 : decode code 1641 = .ok (.aload_n 0, 1) := dt_get (q := (1641, .aload_n 0, 1)) D_lw_26_ok 0 rfl
theorem d_lw_1642 : decode code 1642 = .ok (.iload 4, 2) := dt_get (q := (1642, .iload 4, 2)) D_lw_26_ok 1 rfl
theorem d_lw_1644 : decode code 1644 = .ok (.iconst 1, 1) := dt_get (q := (1644, .iconst 1, 1)) D_lw_26_ok 2 rfl
theorem d_lw_1645 : decode code 1645 = .ok (.iadd, 1) := dt_get (q := (1645, .iadd, 1)) D_lw_26_ok 3 rfl
theorem d_lw_1646 : decode code 1646 = .ok (.iaload, 1) := dt_get (q := (1646, .iaload, 1)) D_lw_26_ok 4 rfl
theorem d_lw_1647 : decode code 1647 = .ok (.aload_n 0, 1) := dt_get (q := (1647, .aload_n 0, 1)) D_lw_26_ok 5 rfl
theorem d_lw_1648 : decode code 1648 = .ok (.iload 4, 2) := dt_get (q := (1648, .iload 4, 2)) D_lw_26_ok 6 rfl
theorem d_lw_1650 : decode code 1650 = .ok (.iconst 2, 1) := dt_get (q := (1650, .iconst 2, 1)) D_lw_26_ok 7 rfl
theorem d_lw_1651 : decode code 1651 = .ok (.iadd, 1) := dt_get (q := (1651, .iadd, 1)) D_lw_26_ok 8 rfl
theorem d_lw_1652 : decode code 1652 = .ok (.iaload, 1) := dt_get (q := (1652, .iaload, 1)) D_lw_26_ok 9 rfl
theorem d_lw_1653 : decode code 1653 = .ok (.i2l, 1) := dt_get (q := (1653, .i2l, 1)) D_lw_26_ok 10 rfl
theorem d_lw_1654 : decode code 1654 = .ok (.bipush 32, 2) := dt_get (q := (1654, .bipush 32, 2)) D_lw_26_ok 11 rfl
theorem d_lw_1656 : decode code 1656 = .ok (.lshl, 1) := dt_get (q := (1656, .lshl, 1)) D_lw_26_ok 12 rfl
theorem d_lw_1657 : decode code 1657 = .ok (.aload_n 0, 1) := dt_get (q := (1657, .aload_n 0, 1)) D_lw_26_ok 13 rfl
theorem d_lw_1658 : decode code 1658 = .ok (.iload 4, 2) := dt_get (q := (1658, .iload 4, 2)) D_lw_26_ok 14 rfl
theorem d_lw_1660 : decode code 1660 = .ok (.iconst 3, 1) := dt_get (q := (1660, .iconst 3, 1)) D_lw_26_ok 15 rfl
theorem d_lw_1661 : decode code 1661 = .ok (.iadd, 1) := dt_get (q := (1661, .iadd, 1)) D_lw_26_ok 16 rfl
theorem d_lw_1662 : decode code 1662 = .ok (.iaload, 1) := dt_get (q := (1662, .iaload, 1)) D_lw_26_ok 17 rfl
theorem d_lw_1663 : decode code 1663 = .ok (.i2l, 1) := dt_get (q := (1663, .i2l, 1)) D_lw_26_ok 18 rfl
theorem d_lw_1664 : decode code 1664 = .ok (.ldc2_w 149, 3) := dt_get (q := (1664, .ldc2_w 149, 3)) D_lw_26_ok 19 rfl
theorem d_lw_1667 : decode code 1667 = .ok (.land, 1) := dt_get (q := (1667, .land, 1)) D_lw_26_ok 20 rfl
theorem d_lw_1668 : decode code 1668 = .ok (.lor, 1) := dt_get (q := (1668, .lor, 1)) D_lw_26_ok 21 rfl
theorem d_lw_1669 : decode code 1669 = .ok (.aload_n 0, 1) := dt_get (q := (1669, .aload_n 0, 1)) D_lw_26_ok 22 rfl
theorem d_lw_1670 : decode code 1670 = .ok (.iload 4, 2) := dt_get (q := (1670, .iload 4, 2)) D_lw_26_ok 23 rfl
theorem d_lw_1672 : decode code 1672 = .ok (.iconst 4, 1) := dt_get (q := (1672, .iconst 4, 1)) D_lw_26_ok 24 rfl
theorem d_lw_1673 : decode code 1673 = .ok (.iadd, 1) := dt_get (q := (1673, .iadd, 1)) D_lw_26_ok 25 rfl
theorem d_lw_1674 : decode code 1674 = .ok (.iaload, 1) := dt_get (q := (1674, .iaload, 1)) D_lw_26_ok 26 rfl
theorem d_lw_1675 : decode code 1675 = .ok (.aload_n 0, 1) := dt_get (q := (1675, .aload_n 0, 1)) D_lw_26_ok 27 rfl
theorem d_lw_1676 : decode code 1676 = .ok (.iload 4, 2) := dt_get (q := (1676, .iload 4, 2)) D_lw_26_ok 28 rfl
theorem d_lw_1678 : decode code 1678 = .ok (.iconst 5, 1) := dt_get (q := (1678, .iconst 5, 1)) D_lw_26_ok 29 rfl
theorem d_lw_1679 : decode code 1679 = .ok (.iadd, 1) := dt_get (q := (1679, .iadd, 1)) D_lw_26_ok 30 rfl
theorem d_lw_1680 : decode code 1680 = .ok (.iaload, 1) := dt_get (q := (1680, .iaload, 1)) D_lw_26_ok 31 rfl
theorem d_lw_1681 : decode code 1681 = .ok (.i2l, 1) := dt_get (q := (1681, .i2l, 1)) D_lw_26_ok 32 rfl
theorem d_lw_1682 : decode code 1682 = .ok (.bipush 32, 2) := dt_get (q := (1682, .bipush 32, 2)) D_lw_26_ok 33 rfl
theorem d_lw_1684 : decode code 1684 = .ok (.lshl, 1) := dt_get (q := (1684, .lshl, 1)) D_lw_26_ok 34 rfl
theorem d_lw_1685 : decode code 1685 = .ok (.aload_n 0, 1) := dt_get (q := (1685, .aload_n 0, 1)) D_lw_26_ok 35 rfl
theorem d_lw_1686 : decode code 1686 = .ok (.iload 4, 2) := dt_get (q := (1686, .iload 4, 2)) D_lw_26_ok 36 rfl
theorem d_lw_1688 : decode code 1688 = .ok (.bipush 6, 2) := dt_get (q := (1688, .bipush 6, 2)) D_lw_26_ok 37 rfl
theorem d_lw_1690 : decode code 1690 = .ok (.iadd, 1) := dt_get (q := (1690, .iadd, 1)) D_lw_26_ok 38 rfl
theorem d_lw_1691 : decode code 1691 = .ok (.iaload, 1) := dt_get (q := (1691, .iaload, 1)) D_lw_26_ok 39 rfl
def D_lw_27 : DT := [(1692, .i2l, 1), (1693, .ldc2_w 149, 3), (1696, .land, 1), (1697, .lor, 1), (1698, .invokevirtual 186, 3), (1701, .pop, 1), (1702, .aload_n 2, 1), (1703, .aload_n 0, 1), (1704, .iload 4, 2), (1706, .iconst 1, 1), (1707, .iadd, 1), (1708, .iaload, 1), (1709, .aload_n 0, 1), (1710, .iload 4, 2), (1712, .iconst 2, 1), (1713, .iadd, 1), (1714, .iaload, 1), (1715, .i2l, 1), (1716, .bipush 32, 2), (1718, .lshl, 1), (1719, .aload_n 0, 1), (1720, .iload 4, 2), (1722, .iconst 3, 1), (1723, .iadd, 1), (1724, .iaload, 1), (1725, .i2l, 1), (1726, .ldc2_w 149, 3), (1729, .land, 1), (1730, .lor, 1), (1731, .aload_n 0, 1), (1732, .iload 4, 2), (1734, .iconst 4, 1), (1735, .iadd, 1), (1736, .iaload, 1), (1737, .aload_n 0, 1), (1738, .iload 4, 2), (1740, .iconst 5, 1), (1741, .iadd, 1), (1742, .iaload, 1), (1743, .i2l, 1)]
theorem D_lw_27_ok : dtOK code D_lw_27 = true := by decide +kernel
theorem d_lw_1692 : decode code 1692 = .ok (.i2l, 1) := dt_get (q := (1692, .i2l, 1)) D_lw_27_ok 0 rfl
theorem d_lw_1693 : decode code 1693 = .ok (.ldc2_w 149, 3) := dt_get (q := (1693, .ldc2_w 149, 3)) D_lw_27_ok 1 rfl
theorem d_lw_1696 : decode code 1696 = .ok (.land, 1) := dt_get (q := (1696, .land, 1)) D_lw_27_ok 2 rfl
theorem d_lw_1697 : decode code 1697 = .ok (.lor, 1) := dt_get (q := (1697, .lor, 1)) D_lw_27_ok 3 rfl
theorem d_lw_1698 : decode code 1698 = .ok (.invokevirtual 186, 3) := dt_get (q := (1698, .invokevirtual 186, 3)) D_lw_27_ok 4 rfl
theorem d_lw_1701 : decode code 1701 = .ok (.pop, 1) := dt_get (q := (1701, .pop, 1)) D_lw_27_ok 5 rfl
theorem d_lw_1702 : decode code 1702 = .ok (.aload_n 2, 1) := dt_get (q := (1702, .aload_n 2, 1)) D_lw_27_ok 6 rfl
theorem d_lw_1703 : decode code 1703 = .ok (.aload_n 0, 1) := dt_get (q := (1703, .aload_n 0, 1)) D_lw_27_ok 7 rfl
theorem d_lw_1704 : decode code 1704 = .ok (.iload 4, 2) := dt_get (q := (1704, .iload 4, 2)) D_lw_27_ok 8 rfl
theorem d_lw_1706 : decode code 1706 = .ok (.iconst 1, 1) := dt_get (q := (1706, .iconst 1, 1)) D_lw_27_ok 9 rfl
theorem d_lw_1707 : decode code 1707 = .ok (.iadd, 1) := dt_get (q := (1707, .iadd, 1)) D_lw_27_ok 10 rfl
theorem d_lw_1708 : decode code 1708 = .ok (.iaload, 1) := dt_get (q := (1708, .iaload, 1)) D_lw_27_ok 11 rfl
theorem d_lw_1709 : decode code 1709 = .ok (.aload_n 0, 1) := dt_get (q := (1709, .aload_n 0, 1)) D_lw_27_ok 12 rfl
theorem d_lw_1710 : decode code 1710 = .ok (.iload 4, 2) := dt_get (q := (1710, .iload 4, 2)) D_lw_27_ok 13 rfl
theorem d_lw_1712 : decode code 1712 = .ok (.iconst 2, 1) := dt_get (q := (1712, .iconst 2, 1)) D_lw_27_ok 14 rfl
theorem d_lw_1713 : decode code 1713 = .ok (.iadd, 1) := dt_get (q := (1713, .iadd, 1)) D_lw_27_ok 15 rfl
theorem d_lw_1714 : decode code 1714 = .ok (.iaload, 1) := dt_get (q := (1714, .iaload, 1)) D_lw_27_ok 16 rfl
theorem d_lw_1715 : decode code 1715 = .ok (.i2l, 1) := dt_get (q := (1715, .i2l, 1)) D_lw_27_ok 17 rfl
theorem d_lw_1716 : decode code 1716 = .ok (.bipush 32, 2) := dt_get (q := (1716, .bipush 32, 2)) D_lw_27_ok 18 rfl
theorem d_lw_1718 : decode code 1718 = .ok (.lshl, 1) := dt_get (q := (1718, .lshl, 1)) D_lw_27_ok 19 rfl
theorem d_lw_1719 : decode code 1719 = .ok (.aload_n 0, 1) := dt_get (q := (1719, .aload_n 0, 1)) D_lw_27_ok 20 rfl
theorem d_lw_1720 : decode code 1720 = .ok (.iload 4, 2) := dt_get (q := (1720, .iload 4, 2)) D_lw_27_ok 21 rfl
theorem d_lw_1722 : decode code 1722 = .ok (.iconst 3, 1) := dt_get (q := (1722, .iconst 3, 1)) D_lw_27_ok 22 rfl
theorem d_lw_1723 : decode code 1723 = .ok (.iadd, 1) := dt_get (q := (1723, .iadd, 1)) D_lw_27_ok 23 rfl
theorem d_lw_1724 : decode code 1724 = .ok (.iaload, 1) := dt_get (q := (1724, .iaload, 1)) D_lw_27_ok 24 rfl
theorem d_lw_1725 : decode code 1725 = .ok (.i2l, 1) := dt_get (q := (1725, .i2l, 1)) D_lw_27_ok 25 rfl
theorem d_lw_1726 : decode code 1726 = .ok (.ldc2_w 149, 3) := dt_get (q := (1726, .ldc2_w 149, 3)) D_lw_27_ok 26 rfl
theorem d_lw_1729 : decode code 1729 = .ok (.land, 1) := dt_get (q := (1729, .land, 1)) D_lw_27_ok 27 rfl
theorem d_lw_1730 : decode code 1730 = .ok (.lor, 1) := dt_get (q := (1730, .lor, 1)) D_lw_27_ok 28 rfl
theorem d_lw_1731 : decode code 1731 = .ok (.aload_n 0, 1) := dt_get (q := (1731, .aload_n 0, 1)) D_lw_27_ok 29 rfl
theorem d_lw_1732 : decode code 1732 = .ok (.iload 4, 2) := dt_get (q := (1732, .iload 4, 2)) D_lw_27_ok 30 rfl
theorem d_lw_1734 : decode code 1734 = .ok (.iconst 4, 1) := dt_get (q := (1734, .iconst 4, 1)) D_lw_27_ok 31 rfl
theorem d_lw_1735 : decode code 1735 = .ok (.iadd, 1) := dt_get (q := (1735, .iadd, 1)) D_lw_27_ok 32 rfl
theorem d_lw_1736 : decode code 1736 = .ok (.iaload, 1) := dt_get (q := (1736, .iaload, 1)) D_lw_27_ok 33 rfl
theorem d_lw_1737 : decode code 1737 = .ok (.aload_n 0, 1) := dt_get (q := (1737, .aload_n 0, 1)) D_lw_27_ok 34 rfl
theorem d_lw_1738 : decode code 1738 = .ok (.iload 4, 2) := dt_get (q := (1738, .iload 4, 2)) D_lw_27_ok 35 rfl
theorem d_lw_1740 : decode code 1740 = .ok (.iconst 5, 1) := dt_get (q := (1740, .iconst 5, 1)) D_lw_27_ok 36 rfl
theorem d_lw_1741 : decode code 1741 = .ok (.iadd, 1) := dt_get (q := (1741, .iadd, 1)) D_lw_27_ok 37 rfl
theorem d_lw_1742 : decode code 1742 = .ok (.iaload, 1) := dt_get (q := (1742, .iaload, 1)) D_lw_27_ok 38 rfl
theorem d_lw_1743 : decode code 1743 = .ok (.i2l, 1) := dt_get (q := (1743, .i2l, 1)) D_lw_27_ok 39 rfl
def D_lw_28 : DT := [(1744, .bipush 32, 2), (1746, .lshl, 1), (1747, .aload_n 0, 1), (1748, .iload 4, 2), (1750, .bipush 6, 2), (1752, .iadd, 1), (1753, .iaload, 1), (1754, .i2l, 1), (1755, .ldc2_w 149, 3), (1758, .land, 1), (1759, .lor, 1), (1760, .invokevirtual 190, 3), (1763, .pop, 1), (1764, .goto 428, 3), (1767, .aload_n 1, 1), (1768, .aload_n 0, 1), (1769, .iload 4, 2), (1771, .iconst 1, 1), (1772, .iadd, 1), (1773, .iaload, 1), (1774, .aload_n 0, 1), (1775, .iload 4, 2), (1777, .iconst 2, 1), (1778, .iadd, 1), (1779, .iaload, 1), (1780, .aload_n 0, 1), (1781, .iload 4, 2), (1783, .iconst 3, 1), (1784, .iadd, 1), (1785, .iaload, 1), (1786, .aload_n 0, 1), (1787, .iload 4, 2), (1789, .iconst 4, 1), (1790, .iadd, 1), (1791, .iaload, 1), (1792, .i2l, 1), (1793, .bipush 32, 2), (1795, .lshl, 1), (1796, .aload_n 0, 1), (1797, .iload 4, 2)]
theorem D_lw_28_ok : dtOK code D_lw_28 = true := by decide +kernel
theorem d_lw_1744 : decode code 1744 = .ok (.bipush 32, 2) := dt_get (q := (1744, .bipush 32, 2)) D_lw_28_ok 0 rfl
theorem d_lw_1746 : decode code 1746 = .ok (.lshl, 1) := dt_get (q := (1746, .lshl, 1)) D_lw_28_ok 1 rfl
theorem d_lw_1747 : decode code 1747 = .ok (.aload_n 0, 1) := dt_get (q := (1747, .aload_n 0, 1)) D_lw_28_ok 2 rfl
theorem d_lw_1748 : decode code 1748 = .ok (.iload 4, 2) := dt_get (q := (1748, .iload 4, 2)) D_lw_28_ok 3 rfl
theorem d_lw_1750 : decode code 1750 = .ok (.bipush 6, 2) := dt_get (q := (1750, .bipush 6, 2)) D_lw_28_ok 4 rfl
theorem d_lw_1752 : decode code 1752 = .ok (.iadd, 1) := dt_get (q := (1752, .iadd, 1)) D_lw_28_ok 5 rfl
theorem d_lw_1753 : decode code 1753 = .ok (.iaload, 1) := dt_get (q := (1753, .iaload, 1)) D_lw_28_ok 6 rfl
theorem d_lw_1754 : decode code 1754 = .ok (.i2l, 1) := dt_get (q := (1754, .i2l, 1)) D_lw_28_ok 7 rfl
theorem d_lw_1755 : decode code 1755 = .ok (.ldc2_w 149, 3) := dt_get (q := (1755, .ldc2_w 149, 3)) D_lw_28_ok 8 rfl
theorem d_lw_1758 : decode code 1758 = .ok (.land, 1) := dt_get (q := (1758, .land, 1)) D_lw_28_ok 9 rfl
theorem d_lw_1759 : decode code 1759 = .ok (.lor, 1) := dt_get (q := (1759, .lor, 1)) D_lw_28_ok 10 rfl
theorem d_lw_1760 : decode code 1760 = .ok (.invokevirtual 190, 3) := dt_get (q := (1760, .invokevirtual 190, 3)) D_lw_28_ok 11 rfl
theorem d_lw_1763 : decode code 1763 = .ok (.pop, 1) := dt_get (q := (1763, .pop, 1)) D_lw_28_ok 12 rfl
theorem d_lw_1764 : decode code 1764 = .ok (.goto 428, 3) := dt_get (q := (1764, .goto 428, 3)) D_lw_28_ok 13 rfl
theorem d_lw_1767 : decode code 1767 = .ok (.aload_n 1, 1) := dt_get (q := (1767, .aload_n 1, 1)) D_lw_28_ok 14 rfl
theorem d_lw_1768 : decode code 1768 = .ok (.aload_n 0, 1) := dt_get (q := (1768, .aload_n 0, 1)) D_lw_28_ok 15 rfl
theorem d_lw_1769 : decode code 1769 = .ok (.iload 4, 2) := dt_get (q := (1769, .iload 4, 2)) D_lw_28_ok 16 rfl
theorem d_lw_1771 : decode code 1771 = .ok (.iconst 1, 1) := dt_get (q := (1771, .iconst 1, 1)) D_lw_28_ok 17 rfl
theorem d_lw_1772 : decode code 1772 = .ok (.iadd, 1) := dt_get (q := (1772, .iadd, 1)) D_lw_28_ok 18 rfl
theorem d_lw_1773 : decode code 1773 = .ok (.iaload, 1) := dt_get (q := (1773, .iaload, 1)) D_lw_28_ok 19 rfl
theorem d_lw_1774 : decode code 1774 = .ok (.aload_n 0, 1) := dt_get (q := (1774, .aload_n 0, 1)) D_lw_28_ok 20 rfl
theorem d_lw_1775 : decode code 1775 = .ok (.iload 4, 2) := dt_get (q := (1775, .iload 4, 2)) D_lw_28_ok 21 rfl
theorem d_lw_1777 : decode code 1777 = .ok (.iconst 2, 1) := dt_get (q := (1777, .iconst 2, 1)) D_lw_28_ok 22 rfl
theorem d_lw_1778 : decode code 1778 = .ok (.iadd, 1) := dt_get (q := (1778, .iadd, 1)) D_lw_28_ok 23 rfl
theorem d_lw_1779 : decode code 1779 = .ok (.iaload, 1) := dt_get (q := (1779, .iaload, 1)) D_lw_28_ok 24 rfl
theorem d_lw_1780 : decode code 1780 = .ok (.aload_n 0, 1) := dt_get (q := (1780, .aload_n 0, 1)) D_lw_28_ok 25 rfl
theorem d_lw_1781 : decode code 1781 = .ok (.iload 4, 2) := dt_get (q := (1781, .iload 4, 2)) D_lw_28_ok 26 rfl
theorem d_lw_1783 : decode code 1783 = .ok (.iconst 3, 1) := dt_get (q := (1783, .iconst 3, 1)) D_lw_28_ok 27 rfl
theorem d_lw_1784 : decode code 1784 = .ok (.iadd, 1) := dt_get (q := (1784, .iadd, 1)) D_lw_28_ok 28 rfl
theorem d_lw_1785 : decode code 1785 = .ok (.iaload, 1) := dt_get (q := (1785, .iaload, 1)) D_lw_28_ok 29 rfl
theorem d_lw_1786 : decode code 1786 = .ok (.aload_n 0, 1) := dt_get (q := (1786, .aload_n 0, 1)) D_lw_28_ok 30 rfl
theorem d_lw_1787 : decode code 1787 = .ok (.iload 4, 2) := dt_get (q := (1787, .iload 4, 2)) D_lw_28_ok 31 rfl
theorem d_lw_1789 : decode code 1789 = .ok (.iconst 4, 1) := dt_get (q := (1789, .iconst 4, 1)) D_lw_28_ok 32 rfl
theorem d_lw_1790 : decode code 1790 = .ok (.iadd, 1) := dt_get (q := (1790, .iadd, 1)) D_lw_28_ok 33 rfl
theorem d_lw_1791 : decode code 1791 = .ok (.iaload, 1) := dt_get (q := (1791, .iaload, 1)) D_lw_28_ok 34 rfl
theorem d_lw_1792 : decode code 1792 = .ok (.i2l, 1) := dt_get (q := (1792, .i2l, 1)) D_lw_28_ok 35 rfl
theorem d_lw_1793 : decode code 1793 = .ok (.bipush 32, 2) := dt_get (q := (1793, .bipush 32, 2)) D_lw_28_ok 36 rfl
theorem d_lw_1795 : decode code 1795 = .ok (.lshl, 1) := dt_get (q := (1795, .lshl, 1)) D_lw_28_ok 37 rfl
theorem d_lw_1796 : decode code 1796 = .ok (.aload_n 0, 1) := dt_get (q := (1796, .aload_n 0, 1)) D_lw_28_ok 38 rfl
theorem d_lw_1797 : decode code 1797 = .ok (.iload 4, 2) := dt_get (q := (1797, .iload 4, 2)) D_lw_28_ok 39 rfl
def D_lw_29 : DT := [(1799, .iconst 5, 1), (1800, .iadd, 1), (1801, .iaload, 1), (1802, .i2l, 1), (1803, .ldc2_w 149, 3), (1806, .land, 1), (1807, .lor, 1), (1808, .aload_n 0, 1), (1809, .iload 4, 2), (1811, .bipush 6, 2), (1813, .iadd, 1), (1814, .iaload, 1), (1815, .i2l, 1), (1816, .bipush 32, 2), (1818, .lshl, 1), (1819, .aload_n 0, 1), (1820, .iload 4, 2), (1822, .bipush 7, 2), (1824, .iadd, 1), (1825, .iaload, 1), (1826, .i2l, 1), (1827, .ldc2_w 149, 3), (1830, .land, 1), (1831, .lor, 1), (1832, .aload_n 0, 1), (1833, .iload 4, 2), (1835, .bipush 8, 2), (1837, .iadd, 1), (1838, .iaload, 1), (1839, .i2l, 1), (1840, .bipush 32, 2), (1842, .lshl, 1), (1843, .aload_n 0, 1), (1844, .iload 4, 2), (1846, .bipush 9, 2), (1848, .iadd, 1), (1849, .iaload, 1), (1850, .i2l, 1), (1851, .ldc2_w 149, 3), (1854, .land, 1)]
theorem D_lw_29_ok : dtOK code D_lw_29 = true := by decide +kernel
theorem d_lw_1799 : decode code 1799 = .ok (.iconst 5, 1) := dt_get (q := (1799, .iconst 5, 1)) D_lw_29_ok 0 rfl
theorem d_lw_1800 : decode code 1800 = .ok (.iadd, 1) := dt_get (q := (1800, .iadd, 1)) D_lw_29_ok 1 rfl
theorem d_lw_1801 : decode code 1801 = .ok (.iaload, 1) := dt_get (q := (1801, .iaload, 1)) D_lw_29_ok 2 rfl
theorem d_lw_1802 : decode code 1802 = .ok (.i2l, 1) := dt_get (q := (1802, .i2l, 1)) D_lw_29_ok 3 rfl
theorem d_lw_1803 : decode code 1803 = .ok (.ldc2_w 149, 3) := dt_get (q := (1803, .ldc2_w 149, 3)) D_lw_29_ok 4 rfl
theorem d_lw_1806 : decode code 1806 = .ok (.land, 1) := dt_get (q := (1806, .land, 1)) D_lw_29_ok 5 rfl
theorem d_lw_1807 : decode code 1807 = .ok (.lor, 1) := dt_get (q := (1807, .lor, 1)) D_lw_29_ok 6 rfl
theorem d_lw_1808 : decode code 1808 = .ok (.aload_n 0, 1) := dt_get (q := (1808, .aload_n 0, 1)) D_lw_29_ok 7 rfl
theorem d_lw_1809 : decode code 1809 = .ok (.iload 4, 2) := dt_get (q := (1809, .iload 4, 2)) D_lw_29_ok 8 rfl
theorem d_lw_1811 : decode code 1811 = .ok (.bipush 6, 2) := dt_get (q := (1811, .bipush 6, 2)) D_lw_29_ok 9 rfl
theorem d_lw_1813 : decode code 1813 = .ok (.iadd, 1) := dt_get (q := (1813, .iadd, 1)) D_lw_29_ok 10 rfl
theorem d_lw_1814 : decode code 1814 = .ok (.iaload, 1) := dt_get (q := (1814, .iaload, 1)) D_lw_29_ok 11 rfl
theorem d_lw_1815 : decode code 1815 = .ok (.i2l, 1) := dt_get (q := (1815, .i2l, 1)) D_lw_29_ok 12 rfl
theorem d_lw_1816 : decode code 1816 = .ok (.bipush 32, 2) := dt_get (q := (1816, .bipush 32, 2)) D_lw_29_ok 13 rfl
theorem d_lw_1818 : decode code 1818 = .ok (.lshl, 1) := dt_get (q := (1818, .lshl, 1)) D_lw_29_ok 14 rfl
theorem d_lw_1819 : decode code 1819 = .ok (.aload_n 0, 1) := dt_get (q := (1819, .aload_n 0, 1)) D_lw_29_ok 15 rfl
theorem d_lw_1820 : decode code 1820 = .ok (.iload 4, 2) := dt_get (q := (1820, .iload 4, 2)) D_lw_29_ok 16 rfl
theorem d_lw_1822 : decode code 1822 = .ok (.bipush 7, 2) := dt_get (q := (1822, .bipush 7, 2)) D_lw_29_ok 17 rfl
theorem d_lw_1824 : decode code 1824 = .ok (.iadd, 1) := dt_get (q := (1824, .iadd, 1)) D_lw_29_ok 18 rfl
theorem d_lw_1825 : decode code 1825 = .ok (.iaload, 1) := dt_get (q := (1825, .iaload, 1)) D_lw_29_ok 19 rfl
theorem d_lw_1826 : decode code 1826 = .ok (.i2l, 1) := dt_get (q := (1826, .i2l, 1)) D_lw_29_ok 20 rfl
theorem d_lw_1827 : decode code 1827 = .ok (.ldc2_w 149, 3) := dt_get (q := (1827, .ldc2_w 149, 3)) D_lw_29_ok 21 rfl
theorem d_lw_1830 : decode code 1830 = .ok (.land, 1) := dt_get (q := (1830, .land, 1)) D_lw_29_ok 22 rfl
theorem d_lw_1831 : decode code 1831 = .ok (.lor, 1) := dt_get (q := (1831, .lor, 1)) D_lw_29_ok 23 rfl
theorem d_lw_1832 : decode code 1832 = .ok (.aload_n 0, 1) := dt_get (q := (1832, .aload_n 0, 1)) D_lw_29_ok 24 rfl
theorem d_lw_1833 : decode code 1833 = .ok (.iload 4, 2) := dt_get (q := (1833, .iload 4, 2)) D_lw_29_ok 25 rfl
theorem d_lw_1835 : decode code 1835 = .ok (.bipush 8, 2) := dt_get (q := (1835, .bipush 8, 2)) D_lw_29_ok 26 rfl
theorem d_lw_1837 : decode code 1837 = .ok (.iadd, 1) := dt_get (q := (1837, .iadd, 1)) D_lw_29_ok 27 rfl
theorem d_lw_1838 : decode code 1838 = .ok (.iaload, 1) := dt_get (q := (1838, .iaload, 1)) D_lw_29_ok 28 rfl
theorem d_lw_1839 : decode code 1839 = .ok (.i2l, 1) := dt_get (q := (1839, .i2l, 1)) D_lw_29_ok 29 rfl
theorem d_lw_1840 : decode code 1840 = .ok (.bipush 32, 2) := dt_get (q := (1840, .bipush 32, 2)) D_lw_29_ok 30 rfl
theorem d_lw_1842 : decode code 1842 = .ok (.lshl, 1) := dt_get (q := (1842, .lshl, 1)) D_lw_29_ok 31 rfl
theorem d_lw_1843 : decode code 1843 = .ok (.aload_n 0, 1) := dt_get (q := (1843, .aload_n 0, 1)) D_lw_29_ok 32 rfl
theorem d_lw_1844 : decode code 1844 = .ok (.iload 4, 2) := dt_get (q := (1844, .iload 4, 2)) D_lw_29_ok 33 rfl
theorem d_lw_1846 : decode code 1846 = .ok (.bipush 9, 2) := dt_get (q := (1846, .bipush 9, 2)) D_lw_29_ok 34 rfl
theorem d_lw_1848 : decode code 1848 = .ok (.iadd, 1) := dt_get (q := (1848, .iadd, 1)) D_lw_29_ok 35 rfl
theorem d_lw_1849 : decode code 1849 = .ok (.iaload, 1) := dt_get (q := (1849, .iaload, 1)) D_lw_29_ok 36 rfl
theorem d_lw_1850 : decode code 1850 = .ok (.i2l, 1) := dt_get (q := (1850, .i2l, 1)) D_lw_29_ok 37 rfl
theorem d_lw_1851 : decode code 1851 = .ok (.ldc2_w 149, 3) := dt_get (q := (1851, .ldc2_w 149, 3)) D_lw_29_ok 38 rfl
theorem d_lw_1854 : decode code 1854 = .ok (.land, 1) := dt_get (q := (1854, .land, 1)) D_lw_29_ok 39 rfl
def D_lw_30 : DT := [(1855, .lor, 1), (1856, .invokevirtual 191, 3), (1859, .pop, 1), (1860, .aload_n 2, 1), (1861, .aload_n 0, 1), (1862, .iload 4, 2), (1864, .iconst 1, 1), (1865, .iadd, 1), (1866, .iaload, 1), (1867, .aload_n 0, 1), (1868, .iload 4, 2), (1870, .iconst 2, 1), (1871, .iadd, 1), (1872, .iaload, 1), (1873, .aload_n 0, 1), (1874, .iload 4, 2), (1876, .iconst 3, 1), (1877, .iadd, 1), (1878, .iaload, 1), (1879, .aload_n 0, 1), (1880, .iload 4, 2), (1882, .iconst 4, 1), (1883, .iadd, 1), (1884, .iaload, 1), (1885, .i2l, 1), (1886, .bipush 32, 2), (1888, .lshl, 1), (1889, .aload_n 0, 1), (1890, .iload 4, 2), (1892, .iconst 5, 1), (1893, .iadd, 1), (1894, .iaload, 1), (1895, .i2l, 1), (1896, .ldc2_w 149, 3), (1899, .land, 1), (1900, .lor, 1), (1901, .aload_n 0, 1), (1902, .iload 4, 2), (1904, .bipush 6, 2), (1906, .iadd, 1)]
theorem D_lw_30_ok : dtOK code D_lw_30 = true := by decide +kernel
theorem d_lw_1855 : decode code 1855 = .ok (.lor, 1) := dt_get (q := (1855, .lor, 1)) D_lw_30_ok 0 rfl
theorem d_lw_1856 : decode code 1856 = .ok (.invokevirtual 191, 3) := dt_get (q := (1856, .invokevirtual 191, 3)) D_lw_30_ok 1 rfl
theorem d_lw_1859 : decode code 1859 = .ok (.pop, 1) := dt_get (q := (1859, .pop, 1)) D_lw_30_ok 2 rfl
theorem d_lw_1860 : decode code 1860 = .ok (.aload_n 2, 1) := dt_get (q := (1860, .aload_n 2, 1)) D_lw_30_ok 3 rfl
theorem d_lw_1861 : decode code 1861 = .ok (.aload_n 0, 1) := dt_get (q := (1861, .aload_n 0, 1)) D_lw_30_ok 4 rfl
theorem d_lw_1862 : decode code 1862 = .ok (.iload 4, 2) := dt_get (q := (1862, .iload 4, 2)) D_lw_30_ok 5 rfl
theorem d_lw_1864 : decode code 1864 = .ok (.iconst 1, 1) := dt_get (q := (1864, .iconst 1, 1)) D_lw_30_ok 6 rfl
theorem d_lw_1865 : decode code 1865 = .ok (.iadd, 1) := dt_get (q := (1865, .iadd, 1)) D_lw_30_ok 7 rfl
theorem d_lw_1866 : decode code 1866 = .ok (.iaload, 1) := dt_get (q := (1866, .iaload, 1)) D_lw_30_ok 8 rfl
theorem d_lw_1867 : decode code 1867 = .ok (.aload_n 0, 1) := dt_get (q := (1867, .aload_n 0, 1)) D_lw_30_ok 9 rfl
theorem d_lw_1868 : decode code 1868 = .ok (.iload 4, 2) := dt_get (q := (1868, .iload 4, 2)) D_lw_30_ok 10 rfl
theorem d_lw_1870 : decode code 1870 = .ok (.iconst 2, 1) := dt_get (q := (1870, .iconst 2, 1)) D_lw_30_ok 11 rfl
theorem d_lw_1871 : decode code 1871 = .ok (.iadd, 1) := dt_get (q := (1871, .iadd, 1)) D_lw_30_ok 12 rfl
theorem d_lw_1872 : decode code 1872 = .ok (.iaload, 1) := dt_get (q := (1872, .iaload, 1)) D_lw_30_ok 13 rfl
theorem d_lw_1873 : decode code 1873 = .ok (.aload_n 0, 1) := dt_get (q := (1873, .aload_n 0, 1)) D_lw_30_ok 14 rfl
theorem d_lw_1874 : decode code 1874 = .ok (.iload 4, 2) := dt_get (q := (1874, .iload 4, 2)) D_lw_30_ok 15 rfl
theorem d_lw_1876 : decode code 1876 = .ok (.iconst 3, 1) := dt_get (q := (1876, .iconst 3, 1)) D_lw_30_ok 16 rfl
theorem d_lw_1877 : decode code 1877 = .ok (.iadd, 1) := dt_get (q := (1877, .iadd, 1)) D_lw_30_ok 17 rfl
theorem d_lw_1878 : decode code 1878 = .ok (.iaload, 1) := dt_get (q := (1878, .iaload, 1)) D_lw_30_ok 18 rfl
theorem d_lw_1879 : decode code 1879 = .ok (.aload_n 0, 1) := dt_get (q := (1879, .aload_n 0, 1)) D_lw_30_ok 19 rfl
theorem d_lw_1880 : decode code 1880 = .ok (.iload 4, 2) := dt_get (q := (1880, .iload 4, 2)) D_lw_30_ok 20 rfl
theorem d_lw_1882 : decode code 1882 = .ok (.iconst 4, 1) := dt_get (q := (1882, .iconst 4, 1)) D_lw_30_ok 21 rfl
theorem d_lw_1883 : decode code 1883 = .ok (.iadd, 1) := dt_get (q := (1883, .iadd, 1)) D_lw_30_ok 22 rfl
theorem d_lw_1884 : decode code 1884 = .ok (.iaload, 1) := dt_get (q := (1884, .iaload, 1)) D_lw_30_ok 23 rfl
theorem d_lw_1885 : decode code 1885 = .ok (.i2l, 1) := dt_get (q := (1885, .i2l, 1)) D_lw_30_ok 24 rfl
theorem d_lw_1886 : decode code 1886 = .ok (.bipush 32, 2) := dt_get (q := (1886, .bipush 32, 2)) D_lw_30_ok 25 rfl
theorem d_lw_1888 : decode code 1888 = .ok (.lshl, 1) := dt_get (q := (1888, .lshl, 1)) D_lw_30_ok 26 rfl
theorem d_lw_1889 : decode code 1889 = .ok (.aload_n 0, 1) := dt_get (q := (1889, .aload_n 0, 1)) D_lw_30_ok 27 rfl
theorem d_lw_1890 : decode code 1890 = .ok (.iload 4, 2) := dt_get (q := (1890, .iload 4, 2)) D_lw_30_ok 28 rfl
theorem d_lw_1892 : decode code 1892 = .ok (.iconst 5, 1) := dt_get (q := (1892, .iconst 5, 1)) D_lw_30_ok 29 rfl
theorem d_lw_1893 : decode code 1893 = .ok (.iadd, 1) := dt_get (q := (1893, .iadd, 1)) D_lw_30_ok 30 rfl
theorem d_lw_1894 : decode code 1894 = .ok (.iaload, 1) := dt_get (q := (1894, .iaload, 1)) D_lw_30_ok 31 rfl
theorem d_lw_1895 : decode code 1895 = .ok (.i2l, 1) := dt_get (q := (1895, .i2l, 1)) D_lw_30_ok 32 rfl
theorem d_lw_1896 : decode code 1896 = .ok (.ldc2_w 149, 3) := dt_get (q := (1896, .ldc2_w 149, 3)) D_lw_30_ok 33 rfl
theorem d_lw_1899 : decode code 1899 = .ok (.land, 1) := dt_get (q := (1899, .land, 1)) D_lw_30_ok 34 rfl
theorem d_lw_1900 : decode code 1900 = .ok (.lor, 1) := dt_get (q := (1900, .lor, 1)) D_lw_30_ok 35 rfl
theorem d_lw_1901 : decode code 1901 = .ok (.aload_n 0, 1) := dt_get (q := (1901, .aload_n 0, 1)) D_lw_30_ok 36 rfl
theorem d_lw_1902 : decode code 1902 = .ok (.iload 4, 2) := dt_get (q := (1902, .iload 4, 2)) D_lw_30_ok 37 rfl
theorem d_lw_1904 : decode code 1904 = .ok (.bipush 6, 2) := dt_get (q := (1904, .bipush 6, 2)) D_lw_30_ok 38 rfl
theorem d_lw_1906 : decode code 1906 = .ok (.iadd, 1) := dt_get (q := (1906, .iadd, 1)) D_lw_30_ok 39 rfl
def D_lw_31 : DT := [(1907, .iaload, 1), (1908, .i2l, 1), (1909, .bipush 32, 2), (1911, .lshl, 1), (1912, .aload_n 0, 1), (1913, .iload 4, 2), (1915, .bipush 7, 2), (1917, .iadd, 1), (1918, .iaload, 1), (1919, .i2l, 1), (1920, .ldc2_w 149, 3), (1923, .land, 1), (1924, .lor, 1), (1925, .aload_n 0, 1), (1926, .iload 4, 2), (1928, .bipush 8, 2), (1930, .iadd, 1), (1931, .iaload, 1), (1932, .i2l, 1), (1933, .bipush 32, 2), (1935, .lshl, 1), (1936, .aload_n 0, 1), (1937, .iload 4, 2), (1939, .bipush 9, 2), (1941, .iadd, 1), (1942, .iaload, 1), (1943, .i2l, 1), (1944, .ldc2_w 149, 3), (1947, .land, 1), (1948, .lor, 1), (1949, .invokevirtual 195, 3), (1952, .pop, 1), (1953, .goto 239, 3), (1956, .aload_n 1, 1), (1957, .aload_n 0, 1), (1958, .iload 4, 2), (1960, .iconst 1, 1), (1961, .iadd, 1), (1962, .iaload, 1), (1963, .invokevirtual 196, 3)]
theorem D_lw_31_ok : dtOK code D_lw_31 = true := by decide +kernel
theorem d_lw_1907 : decode code 1907 = .ok (.iaload, 1) := dt_get (q := (1907, .iaload, 1)) D_lw_31_ok 0 rfl
theorem d_lw_1908 : decode code 1908 = .ok (.i2l, 1) := dt_get (q := (1908, .i2l, 1)) D_lw_31_ok 1 rfl
theorem d_lw_1909 : decode code 1909 = .ok (.bipush 32, 2) := dt_get (q := (1909, .bipush 32, 2)) D_lw_31_ok 2 rfl
theorem d_lw_1911 : decode code 1911 = .ok (.lshl, 1) := dt_get (q := (1911, .lshl, 1)) D_lw_31_ok 3 rfl
theorem d_lw_1912 : decode code 1912 = .ok (.aload_n 0, 1) := dt_get (q := (1912, .aload_n 0, 1)) D_lw_31_ok 4 rfl
theorem d_lw_1913 : decode code 1913 = .ok (.iload 4, 2) := dt_get (q := (1913, .iload 4, 2)) D_lw_31_ok 5 rfl
theorem d_lw_1915 : decode code 1915 = .ok (.bipush 7, 2) := dt_get (q := (1915, .bipush 7, 2)) D_lw_31_ok 6 rfl
theorem d_lw_1917 : decode code 1917 = .ok (.iadd, 1) := dt_get (q := (1917, .iadd, 1)) D_lw_31_ok 7 rfl
theorem d_lw_1918 : decode code 1918 = .ok (.iaload, 1) := dt_get (q := (1918, .iaload, 1)) D_lw_31_ok 8 rfl
theorem d_lw_1919 : decode code 1919 = .ok (.i2l, 1) := dt_get (q := (1919, .i2l, 1)) D_lw_31_ok 9 rfl
theorem d_lw_1920 : decode code 1920 = .ok (.ldc2_w 149, 3) := dt_get (q := (1920, .ldc2_w 149, 3)) D_lw_31_ok 10 rfl
theorem d_lw_1923 : decode code 1923 = .ok (.land, 1) := dt_get (q := (1923, .land, 1)) D_lw_31_ok 11 rfl
theorem d_lw_1924 : decode code 1924 = .ok (.lor, 1) := dt_get (q := (1924, .lor, 1)) D_lw_31_ok 12 rfl
theorem d_lw_1925 : decode code 1925 = .ok (.aload_n 0, 1) := dt_get (q := (1925, .aload_n 0, 1)) D_lw_31_ok 13 rfl
theorem d_lw_1926 : decode code 1926 = .ok (.iload 4, 2) := dt_get (q := (1926, .iload 4, 2)) D_lw_31_ok 14 rfl
theorem d_lw_1928 : decode code 1928 = .ok (.bipush 8, 2) := dt_get (q := (1928, .bipush 8, 2)) D_lw_31_ok 15 rfl
theorem d_lw_1930 : decode code 1930 = .ok (.iadd, 1) := dt_get (q := (1930, .iadd, 1)) D_lw_31_ok 16 rfl
theorem d_lw_1931 : decode code 1931 = .ok (.iaload, 1) := dt_get (q := (1931, .iaload, 1)) D_lw_31_ok 17 rfl
theorem d_lw_1932 : decode code 1932 = .ok (.i2l, 1) := dt_get (q := (1932, .i2l, 1)) D_lw_31_ok 18 rfl
theorem d_lw_1933 : decode code 1933 = .ok (.bipush 32, 2) := dt_get (q := (1933, .bipush 32, 2)) D_lw_31_ok 19 rfl
theorem d_lw_1935 : decode code 1935 = .ok (.lshl, 1) := dt_get (q := (1935, .lshl, 1)) D_lw_31_ok 20 rfl
theorem d_lw_1936 : decode code 1936 = .ok (.aload_n 0, 1) := dt_get (q := (1936, .aload_n 0, 1)) D_lw_31_ok 21 rfl
theorem d_lw_1937 : decode code 1937 = .ok (.iload 4, 2) := dt_get (q := (1937, .iload 4, 2)) D_lw_31_ok 22 rfl
theorem d_lw_1939 : decode code 1939 = .ok (.bipush 9, 2) := dt_get (q := (1939, .bipush 9, 2)) D_lw_31_ok 23 rfl
theorem d_lw_1941 : decode code 1941 = .ok (.iadd, 1) := dt_get (q := (1941, .iadd, 1)) D_lw_31_ok 24 rfl
theorem d_lw_1942 : decode code 1942 = .ok (.iaload, 1) := dt_get (q := (1942, .iaload, 1)) D_lw_31_ok 25 rfl
theorem d_lw_1943 : decode code 1943 = .ok (.i2l, 1) := dt_get (q := (1943, .i2l, 1)) D_lw_31_ok 26 rfl
theorem d_lw_1944 : decode code 1944 = .ok (.ldc2_w 149, 3) := dt_get (q := (1944, .ldc2_w 149, 3)) D_lw_31_ok 27 rfl
theorem d_lw_1947 : decode code 1947 = .ok (.land, 1) := dt_get (q := (1947, .land, 1)) D_lw_31_ok 28 rfl
theorem d_lw_1948 : decode code 1948 = .ok (.lor, 1) := dt_get (q := (1948, .lor, 1)) D_lw_31_ok 29 rfl
theorem d_lw_1949 : decode code 1949 = .ok (.invokevirtual 195, 3) := dt_get (q := (1949, .invokevirtual 195, 3)) D_lw_31_ok 30 rfl
theorem d_lw_1952 : decode code 1952 = .ok (.pop, 1) := dt_get (q := (1952, .pop, 1)) D_lw_31_ok 31 rfl
theorem d_lw_1953 : decode code 1953 = .ok (.goto 239, 3) := dt_get (q := (1953, .goto 239, 3)) D_lw_31_ok 32 rfl
theorem d_lw_1956 : decode code 1956 = .ok (.aload_n 1, 1) := dt_get (q := (1956, .aload_n 1, 1)) D_lw_31_ok 33 rfl
theorem d_lw_1957 : decode code 1957 = .ok (.aload_n 0, 1) := dt_get (q := (1957, .aload_n 0, 1)) D_lw_31_ok 34 rfl
theorem d_lw_1958 : decode code 1958 = .ok (.iload 4, 2) := dt_get (q := (1958, .iload 4, 2)) D_lw_31_ok 35 rfl
theorem d_lw_1960 : decode code 1960 = .ok (.iconst 1, 1) := dt_get (q := (1960, .iconst 1, 1)) D_lw_31_ok 36 rfl
theorem d_lw_1961 : decode code 1961 = .ok (.iadd, 1) := dt_get (q := (1961, .iadd, 1)) D_lw_31_ok 37 rfl
theorem d_lw_1962 : decode code 1962 = .ok (.iaload, 1) := dt_get (q := (1962, .iaload, 1)) D_lw_31_ok 38 rfl
theorem d_lw_1963 : decode code 1963 = .ok (.invokevirtual 196, 3) := dt_get (q := (1963, .invokevirtual 196, 3)) D_lw_31_ok 39 rfl
def D_lw_32 : DT := [(1966, .pop, 1), (1967, .aload_n 2, 1), (1968, .aload_n 0, 1), (1969, .iload 4, 2), (1971, .iconst 1, 1), (1972, .iadd, 1), (1973, .iaload, 1), (1974, .invokevirtual 199, 3), (1977, .pop, 1), (1978, .goto 214, 3), (1981, .aload_n 1, 1), (1982, .aload_n 0, 1), (1983, .iload 4, 2), (1985, .iconst 1, 1), (1986, .iadd, 1), (1987, .iaload, 1), (1988, .aload_n 0, 1), (1989, .iload 4, 2), (1991, .iconst 2, 1), (1992, .iadd, 1), (1993, .iaload, 1), (1994, .i2l, 1), (1995, .bipush 32, 2), (1997, .lshl, 1), (1998, .aload_n 0, 1), (1999, .iload 4, 2), (2001, .iconst 3, 1), (2002, .iadd, 1), (2003, .iaload, 1), (2004, .i2l, 1), (2005, .ldc2_w 149, 3), (2008, .land, 1), (2009, .lor, 1), (2010, .invokevirtual 200, 3), (2013, .pop, 1), (2014, .aload_n 2, 1), (2015, .aload_n 0, 1), (2016, .iload 4, 2), (2018, .iconst 1, 1), (2019, .iadd, 1)]
theorem D_lw_32_ok : dtOK code D_lw_32 = true := by decide +kernel
theorem d_lw_1966 : decode code 1966 = .ok (.pop, 1) := dt_get (q := (1966, .pop, 1)) D_lw_32_ok 0 rfl
theorem d_lw_1967 : decode code 1967 = .ok (.aload_n 2, 1) := dt_get (q := (1967, .aload_n 2, 1)) D_lw_32_ok 1 rfl
theorem d_lw_1968 : decode code 1968 = .ok (.aload_n 0, 1) := dt_get (q := (1968, .aload_n 0, 1)) D_lw_32_ok 2 rfl
theorem d_lw_1969 : decode code 1969 = .ok (.iload 4, 2) := dt_get (q := (1969, .iload 4, 2)) D_lw_32_ok 3 rfl
theorem d_lw_1971 : decode code 1971 = .ok (.iconst 1, 1) := dt_get (q := (1971, .iconst 1, 1)) D_lw_32_ok 4 rfl
theorem d_lw_1972 : decode code 1972 = .ok (.iadd, 1) := dt_get (q := (1972, .iadd, 1)) D_lw_32_ok 5 rfl
theorem d_lw_1973 : decode code 1973 = .ok (.iaload, 1) := dt_get (q := (1973, .iaload, 1)) D_lw_32_ok 6 rfl
theorem d_lw_1974 : decode code 1974 = .ok (.invokevirtual 199, 3) := dt_get (q := (1974, .invokevirtual 199, 3)) D_lw_32_ok 7 rfl
theorem d_lw_1977 : decode code 1977 = .ok (.pop, 1) := dt_get (q := (1977, .pop, 1)) D_lw_32_ok 8 rfl
theorem d_lw_1978 : decode code 1978 = .ok (.goto 214, 3) := dt_get (q := (1978, .goto 214, 3)) D_lw_32_ok 9 rfl
theorem d_lw_1981 : decode code 1981 = .ok (.aload_n 1, 1) := dt_get (q := (1981, .aload_n 1, 1)) D_lw_32_ok 10 rfl
theorem d_lw_1982 : decode code 1982 = .ok (.aload_n 0, 1) := dt_get (q := (1982, .aload_n 0, 1)) D_lw_32_ok 11 rfl
theorem d_lw_1983 : decode code 1983 = .ok (.iload 4, 2) := dt_get (q := (1983, .iload 4, 2)) D_lw_32_ok 12 rfl
theorem d_lw_1985 : decode code 1985 = .ok (.iconst 1, 1) := dt_get (q := (1985, .iconst 1, 1)) D_lw_32_ok 13 rfl
theorem d_lw_1986 : decode code 1986 = .ok (.iadd, 1) := dt_get (q := (1986, .iadd, 1)) D_lw_32_ok 14 rfl
theorem d_lw_1987 : decode code 1987 = .ok (.iaload, 1) := dt_get (q := (1987, .iaload, 1)) D_lw_32_ok 15 rfl
theorem d_lw_1988 : decode code 1988 = .ok (.aload_n 0, 1) := dt_get (q := (1988, .aload_n 0, 1)) D_lw_32_ok 16 rfl
theorem d_lw_1989 : decode code 1989 = .ok (.iload 4, 2) := dt_get (q := (1989, .iload 4, 2)) D_lw_32_ok 17 rfl
theorem d_lw_1991 : decode code 1991 = .ok (.iconst 2, 1) := dt_get (q := (1991, .iconst 2, 1)) D_lw_32_ok 18 rfl
theorem d_lw_1992 : decode code 1992 = .ok (.iadd, 1) := dt_get (q := (1992, .iadd, 1)) D_lw_32_ok 19 rfl
theorem d_lw_1993 : decode code 1993 = .ok (.iaload, 1) := dt_get (q := (1993, .iaload, 1)) D_lw_32_ok 20 rfl
theorem d_lw_1994 : decode code 1994 = .ok (.i2l, 1) := dt_get (q := (1994, .i2l, 1)) D_lw_32_ok 21 rfl
theorem d_lw_1995 : decode code 1995 = .ok (.bipush 32, 2) := dt_get (q := (1995, .bipush 32, 2)) D_lw_32_ok 22 rfl
theorem d_lw_1997 : decode code 1997 = .ok (.lshl, 1) := dt_get (q := (1997, .lshl, 1)) D_lw_32_ok 23 rfl
theorem d_lw_1998 : decode code 1998 = .ok (.aload_n 0, 1) := dt_get (q := (1998, .aload_n 0, 1)) D_lw_32_ok 24 rfl
theorem d_lw_1999 : decode code 1999 = .ok (.iload 4, 2) := dt_get (q := (1999, .iload 4, 2)) D_lw_32_ok 25 rfl
theorem d_lw_2001 : decode code 2001 = .ok (.iconst 3, 1) := dt_get (q := (2001, .iconst 3, 1)) D_lw_32_ok 26 rfl
theorem d_lw_2002 : decode code 2002 = .ok (.iadd, 1) := dt_get (q := (2002, .iadd, 1)) D_lw_32_ok 27 rfl
theorem d_lw_2003 : decode code 2003 = .ok (.iaload, 1) := dt_get (q := (2003, .iaload, 1)) D_lw_32_ok 28 rfl
theorem d_lw_2004 : decode code 2004 = .ok (.i2l, 1) := dt_get (q := (2004, .i2l, 1)) D_lw_32_ok 29 rfl
theorem d_lw_2005 : decode code 2005 = .ok (.ldc2_w 149, 3) := dt_get (q := (2005, .ldc2_w 149, 3)) D_lw_32_ok 30 rfl
theorem d_lw_2008 : decode code 2008 = .ok (.land, 1) := dt_get (q := (2008, .land, 1)) D_lw_32_ok 31 rfl
theorem d_lw_2009 : decode code 2009 = .ok (.lor, 1) := dt_get (q := (2009, .lor, 1)) D_lw_32_ok 32 rfl
theorem d_lw_2010 : decode code 2010 = .ok (.invokevirtual 200, 3) := dt_get (q := (2010, .invokevirtual 200, 3)) D_lw_32_ok 33 rfl
theorem d_lw_2013 : decode code 2013 = .ok (.pop, 1) := dt_get (q := (2013, .pop, 1)) D_lw_32_ok 34 rfl
theorem d_lw_2014 : decode code 2014 = .ok (.aload_n 2, 1) := dt_get (q := (2014, .aload_n 2, 1)) D_lw_32_ok 35 rfl
theorem d_lw_2015 : decode code 2015 = .ok (.aload_n 0, 1) := dt_get (q := (2015, .aload_n 0, 1)) D_lw_32_ok 36 rfl
theorem d_lw_2016 : decode code 2016 = .ok (.iload 4, 2) := dt_get (q := (2016, .iload 4, 2)) D_lw_32_ok 37 rfl
theorem d_lw_2018 : decode code 2018 = .ok (.iconst 1, 1) := dt_get (q := (2018, .iconst 1, 1)) D_lw_32_ok 38 rfl
theorem d_lw_2019 : decode code 2019 = .ok (.iadd, 1) := dt_get (q := (2019, .iadd, 1)) D_lw_32_ok 39 rfl
def D_lw_33 : DT := [(2020, .iaload, 1), (2021, .aload_n 0, 1), (2022, .iload 4, 2), (2024, .iconst 2, 1), (2025, .iadd, 1), (2026, .iaload, 1), (2027, .i2l, 1), (2028, .bipush 32, 2), (2030, .lshl, 1), (2031, .aload_n 0, 1), (2032, .iload 4, 2), (2034, .iconst 3, 1), (2035, .iadd, 1), (2036, .iaload, 1), (2037, .i2l, 1), (2038, .ldc2_w 149, 3), (2041, .land, 1), (2042, .lor, 1), (2043, .invokevirtual 203, 3), (2046, .pop, 1), (2047, .goto 145, 3), (2050, .aload_n 1, 1), (2051, .invokevirtual 204, 3), (2054, .pop2, 1), (2055, .aload_n 2, 1), (2056, .invokevirtual 207, 3), (2059, .pop2, 1), (2060, .goto 132, 3), (2063, .aload_n 1, 1), (2064, .invokevirtual 208, 3), (2067, .pop2, 1), (2068, .aload_n 2, 1), (2069, .invokevirtual 211, 3), (2072, .pop2, 1), (2073, .goto 119, 3), (2076, .aload_n 1, 1), (2077, .invokevirtual 212, 3), (2080, .pop, 1), (2081, .aload_n 2, 1), (2082, .invokevirtual 215, 3)]
theorem D_lw_33_ok : dtOK code D_lw_33 = true := by decide +kernel
theorem d_lw_2020 : decode code 2020 = .ok (.iaload, 1) := dt_get (q := (2020, .iaload, 1)) D_lw_33_ok 0 rfl
theorem d_lw_2021 : decode code 2021 = .ok (.aload_n 0, 1) := dt_get (q := (2021, .aload_n 0, 1)) D_lw_33_ok 1 rfl
theorem d_lw_2022 : decode code 2022 = .ok (.iload 4, 2) := dt_get (q := (2022, .iload 4, 2)) D_lw_33_ok 2 rfl
theorem d_lw_2024 : decode code 2024 = .ok (.iconst 2, 1) := dt_get (q := (2024, .iconst 2, 1)) D_lw_33_ok 3 rfl
theorem d_lw_2025 : decode code 2025 = .ok (.iadd, 1) := dt_get (q := (2025, .iadd, 1)) D_lw_33_ok 4 rfl
theorem d_lw_2026 : decode code 2026 = .ok (.iaload, 1) := dt_get (q := (2026, .iaload, 1)) D_lw_33_ok 5 rfl
theorem d_lw_2027 : decode code 2027 = .ok (.i2l, 1) := dt_get (q := (2027, .i2l, 1)) D_lw_33_ok 6 rfl
theorem d_lw_2028 : decode code 2028 = .ok (.bipush 32, 2) := dt_get (q := (2028, .bipush 32, 2)) D_lw_33_ok 7 rfl
theorem d_lw_2030 : decode code 2030 = .ok (.lshl, 1) := dt_get (q := (2030, .lshl, 1)) D_lw_33_ok 8 rfl
theorem d_lw_2031 : decode code 2031 = .ok (.aload_n 0, 1) := dt_get (q := (2031, .aload_n 0, 1)) D_lw_33_ok 9 rfl
theorem d_lw_2032 : decode code 2032 = .ok (.iload 4, 2) := dt_get (q := (2032, .iload 4, 2)) D_lw_33_ok 10 rfl
theorem d_lw_2034 : decode code 2034 = .ok (.iconst 3, 1) := dt_get (q := (2034, .iconst 3, 1)) D_lw_33_ok 11 rfl
theorem d_lw_2035 : decode code 2035 = .ok (.iadd, 1) := dt_get (q := (2035, .iadd, 1)) D_lw_33_ok 12 rfl
theorem d_lw_2036 : decode code 2036 = .ok (.iaload, 1) := dt_get (q := (2036, .iaload, 1)) D_lw_33_ok 13 rfl
theorem d_lw_2037 : decode code 2037 = .ok (.i2l, 1) := dt_get (q := (2037, .i2l, 1)) D_lw_33_ok 14 rfl
theorem d_lw_2038 : decode code 2038 = .ok (.ldc2_w 149, 3) := dt_get (q := (2038, .ldc2_w 149, 3)) D_lw_33_ok 15 rfl
theorem d_lw_2041 : decode code 2041 = .ok (.land, 1) := dt_get (q := (2041, .land, 1)) D_lw_33_ok 16 rfl
theorem d_lw_2042 : decode code 2042 = .ok (.lor, 1) := dt_get (q := (2042, .lor, 1)) D_lw_33_ok 17 rfl
theorem d_lw_2043 : decode code 2043 = .ok (.invokevirtual 203, 3) := dt_get (q := (2043, .invokevirtual 203, 3)) D_lw_33_ok 18 rfl
theorem d_lw_2046 : decode code 2046 = .ok (.pop, 1) := dt_get (q := (2046, .pop, 1)) D_lw_33_ok 19 rfl
theorem d_lw_2047 : decode code 2047 = .ok (.goto 145, 3) := dt_get (q := (2047, .goto 145, 3)) D_lw_33_ok 20 rfl
theorem d_lw_2050 : decode code 2050 = .ok (.aload_n 1, 1) := dt_get (q := (2050, .aload_n 1, 1)) D_lw_33_ok 21 rfl
theorem d_lw_2051 : decode code 2051 = .ok (.invokevirtual 204, 3) := dt_get (q := (2051, .invokevirtual 204, 3)) D_lw_33_ok 22 rfl
theorem d_lw_2054 : decode code 2054 = .ok (.pop2, 1) := dt_get (q := (2054, .pop2, 1)) D_lw_33_ok 23 rfl
theorem d_lw_2055 : decode code 2055 = .ok (.aload_n 2, 1) := dt_get (q := (2055, .aload_n 2, 1)) D_lw_33_ok 24 rfl
theorem d_lw_2056 : decode code 2056 = .ok (.invokevirtual 207, 3) := dt_get (q := (2056, .invokevirtual 207, 3)) D_lw_33_ok 25 rfl
theorem d_lw_2059 : decode code 2059 = .ok (.pop2, 1) := dt_get (q := (2059, .pop2, 1)) D_lw_33_ok 26 rfl
theorem d_lw_2060 : decode code 2060 = .ok (.goto 132, 3) := dt_get (q := (2060, .goto 132, 3)) D_lw_33_ok 27 rfl
theorem d_lw_2063 : decode code 2063 = .ok (.aload_n 1, 1) := dt_get (q := (2063, .aload_n 1, 1)) D_lw_33_ok 28 rfl
theorem d_lw_2064 : decode code 2064 = .ok (.invokevirtual 208, 3) := dt_get (q := (2064, .invokevirtual 208, 3)) D_lw_33_ok 29 rfl
theorem d_lw_2067 : decode code 2067 = .ok (.pop2, 1) := dt_get (q := (2067, .pop2, 1)) D_lw_33_ok 30 rfl
theorem d_lw_2068 : decode code 2068 = .ok (.aload_n 2, 1) := dt_get (q := (2068, .aload_n 2, 1)) D_lw_33_ok 31 rfl
theorem d_lw_2069 : decode code 2069 = .ok (.invokevirtual 211, 3) := dt_get (q := (2069, .invokevirtual 211, 3)) D_lw_33_ok 32 rfl
theorem d_lw_2072 : decode code 2072 = .ok (.pop2, 1) := dt_get (q := (2072, .pop2, 1)) D_lw_33_ok 33 rfl
theorem d_lw_2073 : decode code 2073 = .ok (.goto 119, 3) := dt_get (q := (2073, .goto 119, 3)) D_lw_33_ok 34 rfl
theorem d_lw_2076 : decode code 2076 = .ok (.aload_n 1, 1) := dt_get (q := (2076, .aload_n 1, 1)) D_lw_33_ok 35 rfl
theorem d_lw_2077 : decode code 2077 = .ok (.invokevirtual 212, 3) := dt_get (q := (2077, .invokevirtual 212, 3)) D_lw_33_ok 36 rfl
theorem d_lw_2080 : decode code 2080 = .ok (.pop, 1) := dt_get (q := (2080, .pop, 1)) D_lw_33_ok 37 rfl
theorem d_lw_2081 : decode code 2081 = .ok (.aload_n 2, 1) := dt_get (q := (2081, .aload_n 2, 1)) D_lw_33_ok 38 rfl
theorem d_lw_2082 : decode code 2082 = .ok (.invokevirtual 215, 3) := dt_get (q := (2082, .invokevirtual 215, 3)) D_lw_33_ok 39 rfl
def D_lw_34 : DT := [(2085, .pop, 1), (2086, .goto 106, 3), (2089, .aload_n 1, 1), (2090, .aload_n 0, 1), (2091, .iload 4, 2), (2093, .iconst 1, 1), (2094, .iadd, 1), (2095, .iaload, 1), (2096, .invokevirtual 216, 3), (2099, .pop, 1), (2100, .aload_n 2, 1), (2101, .aload_n 0, 1), (2102, .iload 4, 2), (2104, .iconst 1, 1), (2105, .iadd, 1), (2106, .iaload, 1), (2107, .invokevirtual 219, 3), (2110, .pop, 1), (2111, .goto 81, 3), (2114, .aload_n 1, 1), (2115, .aload_n 0, 1), (2116, .iload 4, 2), (2118, .iconst 1, 1), (2119, .iadd, 1), (2120, .iaload, 1), (2121, .invokevirtual 220, 3), (2124, .pop, 1), (2125, .aload_n 2, 1), (2126, .aload_n 0, 1), (2127, .iload 4, 2), (2129, .iconst 1, 1), (2130, .iadd, 1), (2131, .iaload, 1), (2132, .invokevirtual 223, 3), (2135, .pop, 1), (2136, .goto 56, 3), (2139, .aload_n 1, 1), (2140, .aload_n 0, 1), (2141, .iload 4, 2), (2143, .iconst 1, 1)]
theorem D_lw_34_ok : dtOK code D_lw_34 = true := by decide +kernel
theorem d_lw_2085 : decode code 2085 = .ok (.pop, 1) := dt_get (q := (2085, .pop, 1)) D_lw_34_ok 0 rfl
theorem d_lw_2086 : decode code 2086 = .ok (.goto 106, 3) := dt_get (q := (2086, .goto 106, 3)) D_lw_34_ok 1 rfl
theorem d_lw_2089 : decode code 2089 = .ok (.aload_n 1, 1) := dt_get (q := (2089, .aload_n 1, 1)) D_lw_34_ok 2 rfl
theorem d_lw_2090 : decode code 2090 = .ok (.aload_n 0, 1) := dt_get (q := (2090, .aload_n 0, 1)) D_lw_34_ok 3 rfl
theorem d_lw_2091 : decode code 2091 = .ok (.iload 4, 2) := dt_get (q := (2091, .iload 4, 2)) D_lw_34_ok 4 rfl
theorem d_lw_2093 : decode code 2093 = .ok (.iconst 1, 1) := dt_get (q := (2093, .iconst 1, 1)) D_lw_34_ok 5 rfl
theorem d_lw_2094 : decode code 2094 = .ok (.iadd, 1) := dt_get (q := (2094, .iadd, 1)) D_lw_34_ok 6 rfl
theorem d_lw_2095 : decode code 2095 = .ok (.iaload, 1) := dt_get (q := (2095, .iaload, 1)) D_lw_34_ok 7 rfl
theorem d_lw_2096 : decode code 2096 = .ok (.invokevirtual 216, 3) := dt_get (q := (2096, .invokevirtual 216, 3)) D_lw_34_ok 8 rfl
theorem d_lw_2099 : decode code 2099 = .ok (.pop, 1) := dt_get (q := (2099, .pop, 1)) D_lw_34_ok 9 rfl
theorem d_lw_2100 : decode code 2100 = .ok (.aload_n 2, 1) := dt_get (q := (2100, .aload_n 2, 1)) D_lw_34_ok 10 rfl
theorem d_lw_2101 : decode code 2101 = .ok (.aload_n 0, 1) := dt_get (q := (2101, .aload_n 0, 1)) D_lw_34_ok 11 rfl
theorem d_lw_2102 : decode code 2102 = .ok (.iload 4, 2) := dt_get (q := (2102, .iload 4, 2)) D_lw_34_ok 12 rfl
theorem d_lw_2104 : decode code 2104 = .ok (.iconst 1, 1) := dt_get (q := (2104, .iconst 1, 1)) D_lw_34_ok 13 rfl
theorem d_lw_2105 : decode code 2105 = .ok (.iadd, 1) := dt_get (q := (2105, .iadd, 1)) D_lw_34_ok 14 rfl
theorem d_lw_2106 : decode code 2106 = .ok (.iaload, 1) := dt_get (q := (2106, .iaload, 1)) D_lw_34_ok 15 rfl
theorem d_lw_2107 : decode code 2107 = .ok (.invokevirtual 219, 3) := dt_get (q := (2107, .invokevirtual 219, 3)) D_lw_34_ok 16 rfl
theorem d_lw_2110 : decode code 2110 = .ok (.pop, 1) := dt_get (q := (2110, .pop, 1)) D_lw_34_ok 17 rfl
theorem d_lw_2111 : decode code 2111 = .ok (.goto 81, 3) := dt_get (q := (2111, .goto 81, 3)) D_lw_34_ok 18 rfl
theorem d_lw_2114 : decode code 2114 = .ok (.aload_n 1, 1) := dt_get (q := (2114, .aload_n 1, 1)) D_lw_34_ok 19 rfl
theorem d_lw_2115 : decode code 2115 = .ok (.aload_n 0, 1) := dt_get (q := (2115, .aload_n 0, 1)) D_lw_34_ok 20 rfl
theorem d_lw_2116 : decode code 2116 = .ok (.iload 4, 2) := dt_get (q := (2116, .iload 4, 2)) D_lw_34_ok 21 rfl
theorem d_lw_2118 : decode code 2118 = .ok (.iconst 1, 1) := dt_get (q := (2118, .iconst 1, 1)) D_lw_34_ok 22 rfl
theorem d_lw_2119 : decode code 2119 = .ok (.iadd, 1) := dt_get (q := (2119, .iadd, 1)) D_lw_34_ok 23 rfl
theorem d_lw_2120 : decode code 2120 = .ok (.iaload, 1) := dt_get (q := (2120, .iaload, 1)) D_lw_34_ok 24 rfl
theorem d_lw_2121 : decode code 2121 = .ok (.invokevirtual 220, 3) := dt_get (q := (2121, .invokevirtual 220, 3)) D_lw_34_ok 25 rfl
theorem d_lw_2124 : decode code 2124 = .ok (.pop, 1) := dt_get (q := (2124, .pop, 1)) D_lw_34_ok 26 rfl
theorem d_lw_2125 : decode code 2125 = .ok (.aload_n 2, 1) := dt_get (q := (2125, .aload_n 2, 1)) D_lw_34_ok 27 rfl
theorem d_lw_2126 : decode code 2126 = .ok (.aload_n 0, 1) := dt_get (q := (2126, .aload_n 0, 1)) D_lw_34_ok 28 rfl
theorem d_lw_2127 : decode code 2127 = .ok (.iload 4, 2) := dt_get (q := (2127, .iload 4, 2)) D_lw_34_ok 29 rfl
theorem d_lw_2129 : decode code 2129 = .ok (.iconst 1, 1) := dt_get (q := (2129, .iconst 1, 1)) D_lw_34_ok 30 rfl
theorem d_lw_2130 : decode code 2130 = .ok (.iadd, 1) := dt_get (q := (2130, .iadd, 1)) D_lw_34_ok 31 rfl
theorem d_lw_2131 : decode code 2131 = .ok (.iaload, 1) := dt_get (q := (2131, .iaload, 1)) D_lw_34_ok 32 rfl
theorem d_lw_2132 : decode code 2132 = .ok (.invokevirtual 223, 3) := dt_get (q := (2132, .invokevirtual 223, 3)) D_lw_34_ok 33 rfl
theorem d_lw_2135 : decode code 2135 = .ok (.pop, 1) := dt_get (q := (2135, .pop, 1)) D_lw_34_ok 34 rfl
theorem d_lw_2136 : decode code 2136 = .ok (.goto 56, 3) := dt_get (q := (2136, .goto 56, 3)) D_lw_34_ok 35 rfl
theorem d_lw_2139 : decode code 2139 = .ok (.aload_n 1, 1) := dt_get (q := (2139, .aload_n 1, 1)) D_lw_34_ok 36 rfl
theorem d_lw_2140 : decode code 2140 = .ok (.aload_n 0, 1) := dt_get (q := (2140, .aload_n 0, 1)) D_lw_34_ok 37 rfl
theorem d_lw_2141 : decode code 2141 = .ok (.iload 4, 2) := dt_get (q := (2141, .iload 4, 2)) D_lw_34_ok 38 rfl
theorem d_lw_2143 : decode code 2143 = .ok (.iconst 1, 1) := dt_get (q := (2143, .iconst 1, 1)) D_lw_34_ok 39 rfl
def D_lw_35 : DT := [(2144, .iadd, 1), (2145, .iaload, 1), (2146, .invokevirtual 224, 3), (2149, .pop, 1), (2150, .aload_n 2, 1), (2151, .aload_n 0, 1), (2152, .iload 4, 2), (2154, .iconst 1, 1), (2155, .iadd, 1), (2156, .iaload, 1), (2157, .invokevirtual 227, 3), (2160, .pop, 1), (2161, .goto 31, 3), (2164, .aload_n 1, 1), (2165, .aload_n 0, 1), (2166, .iload 4, 2), (2168, .iconst 1, 1), (2169, .iadd, 1), (2170, .iaload, 1), (2171, .aload_n 3, 1), (2172, .invokestatic 228, 3), (2175, .istore 5, 2), (2177, .aload_n 2, 1), (2178, .aload_n 0, 1), (2179, .iload 4, 2), (2181, .iconst 1, 1), (2182, .iadd, 1), (2183, .iaload, 1), (2184, .invokevirtual 231, 3), (2187, .lstore 6, 2), (2189, .goto 3, 3), (2192, .iinc 4 10, 3), (2195, .goto (-2172), 3), (2198, .iconst 1, 1), (2199, .ireturn, 1)]
theorem D_lw_35_ok : dtOK code D_lw_35 = true := by decide +kernel
theorem d_lw_2144 : decode code 2144 = .ok (.iadd, 1) := dt_get (q := (2144, .iadd, 1)) D_lw_35_ok 0 rfl
theorem d_lw_2145 : decode code 2145 = .ok (.iaload, 1) := dt_get (q := (2145, .iaload, 1)) D_lw_35_ok 1 rfl
theorem d_lw_2146 : decode code 2146 = .ok (.invokevirtual 224, 3) := dt_get (q := (2146, .invokevirtual 224, 3)) D_lw_35_ok 2 rfl
theorem d_lw_2149 : decode code 2149 = .ok (.pop, 1) := dt_get (q := (2149, .pop, 1)) D_lw_35_ok 3 rfl
theorem d_lw_2150 : decode code 2150 = .ok (.aload_n 2, 1) := dt_get (q := (2150, .aload_n 2, 1)) D_lw_35_ok 4 rfl
theorem d_lw_2151 : decode code 2151 = .ok (.aload_n 0, 1) := dt_get (q := (2151, .aload_n 0, 1)) D_lw_35_ok 5 rfl
theorem d_lw_2152 : decode code 2152 = .ok (.iload 4, 2) := dt_get (q := (2152, .iload 4, 2)) D_lw_35_ok 6 rfl
theorem d_lw_2154 : decode code 2154 = .ok (.iconst 1, 1) := dt_get (q := (2154, .iconst 1, 1)) D_lw_35_ok 7 rfl
theorem d_lw_2155 : decode code 2155 = .ok (.iadd, 1) := dt_get (q := (2155, .iadd, 1)) D_lw_35_ok 8 rfl
theorem d_lw_2156 : decode code 2156 = .ok (.iaload, 1) := dt_get (q := (2156, .iaload, 1)) D_lw_35_ok 9 rfl
theorem d_lw_2157 : decode code 2157 = .ok (.invokevirtual 227, 3) := dt_get (q := (2157, .invokevirtual 227, 3)) D_lw_35_ok 10 rfl
theorem d_lw_2160 : decode code 2160 = .ok (.pop, 1) := dt_get (q := (2160, .pop, 1)) D_lw_35_ok 11 rfl
theorem d_lw_2161 : decode code 2161 = .ok (.goto 31, 3) := dt_get (q := (2161, .goto 31, 3)) D_lw_35_ok 12 rfl
theorem d_lw_2164 : decode code 2164 = .ok (.aload_n 1, 1) := dt_get (q := (2164, .aload_n 1, 1)) D_lw_35_ok 13 rfl
theorem d_lw_2165 : decode code 2165 = .ok (.aload_n 0, 1) := dt_get (q := (2165, .aload_n 0, 1)) D_lw_35_ok 14 rfl
theorem d_lw_2166 : decode code 2166 = .ok (.iload 4, 2) := dt_get (q := (2166, .iload 4, 2)) D_lw_35_ok 15 rfl
theorem d_lw_2168 : decode code 2168 = .ok (.iconst 1, 1) := dt_get (q := (2168, .iconst 1, 1)) D_lw_35_ok 16 rfl
theorem d_lw_2169 : decode code 2169 = .ok (.iadd, 1) := dt_get (q := (2169, .iadd, 1)) D_lw_35_ok 17 rfl
theorem d_lw_2170 : decode code 2170 = .ok (.iaload, 1) := dt_get (q := (2170, .iaload, 1)) D_lw_35_ok 18 rfl
theorem d_lw_2171 : decode code 2171 = .ok (.aload_n 3, 1) := dt_get (q := (2171, .aload_n 3, 1)) D_lw_35_ok 19 rfl
theorem d_lw_2172 : decode code 2172 = .ok (.invokestatic 228, 3) := dt_get (q := (2172, .invokestatic 228, 3)) D_lw_35_ok 20 rfl
theorem d_lw_2175 : decode code 2175 = .ok (.istore 5, 2) := dt_get (q := (2175, .istore 5, 2)) D_lw_35_ok 21 rfl
theorem d_lw_2177 : decode code 2177 = .ok (.aload_n 2, 1) := dt_get (q := (2177, .aload_n 2, 1)) D_lw_35_ok 22 rfl
theorem d_lw_2178 : decode code 2178 = .ok (.aload_n 0, 1) := dt_get (q := (2178, .aload_n 0, 1)) D_lw_35_ok 23 rfl
theorem d_lw_2179 : decode code 2179 = .ok (.iload 4, 2) := dt_get (q := (2179, .iload 4, 2)) D_lw_35_ok 24 rfl
theorem d_lw_2181 : decode code 2181 = .ok (.iconst 1, 1) := dt_get (q := (2181, .iconst 1, 1)) D_lw_35_ok 25 rfl
theorem d_lw_2182 : decode code 2182 = .ok (.iadd, 1) := dt_get (q := (2182, .iadd, 1)) D_lw_35_ok 26 rfl
theorem d_lw_2183 : decode code 2183 = .ok (.iaload, 1) := dt_get (q := (2183, .iaload, 1)) D_lw_35_ok 27 rfl
theorem d_lw_2184 : decode code 2184 = .ok (.invokevirtual 231, 3) := dt_get (q := (2184, .invokevirtual 231, 3)) D_lw_35_ok 28 rfl
theorem d_lw_2187 : decode code 2187 = .ok (.lstore 6, 2) := dt_get (q := (2187, .lstore 6, 2)) D_lw_35_ok 29 rfl
theorem d_lw_2189 : decode code 2189 = .ok (.goto 3, 3) := dt_get (q := (2189, .goto 3, 3)) D_lw_35_ok 30 rfl
theorem d_lw_2192 : decode code 2192 = .ok (.iinc 4 10, 3) := dt_get (q := (2192, .iinc 4 10, 3)) D_lw_35_ok 31 rfl
theorem d_lw_2195 : decode code 2195 = .ok (.goto (-2172), 3) := dt_get (q := (2195, .goto (-2172), 3)) D_lw_35_ok 32 rfl
theorem d_lw_2198 : decode code 2198 = .ok (.iconst 1, 1) := dt_get (q := (2198, .iconst 1, 1)) D_lw_35_ok 33 rfl
theorem d_lw_2199 : decode code 2199 = .ok (.ireturn, 1) := dt_get (q := (2199, .ireturn, 1)) D_lw_35_ok 34 rfl
