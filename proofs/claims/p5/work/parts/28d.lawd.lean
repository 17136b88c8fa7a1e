theorem dt_get {cc : ByteArray} {tab : DT} (h : dtOK cc tab = true) (i : Nat) {q : Nat × Instr × Nat} (hq : tab[i]? = some q) : decode cc q.1 = .ok q.2 := dt_ok h q (List.mem_of_getElem? hq)
def D_lw_0 : DT := [(0, .new 8, 3), (3, .dup, 1), (4, .invokespecial 19, 3), (7, .astore_n 1, 1), (8, .new 20, 3), (11, .dup, 1), (12, .invokespecial 22, 3), (15, .astore_n 2, 1), (16, .iconst 1, 1), (17, .newarray .long, 2), (19, .astore_n 3, 1), (20, .iconst 0, 1), (21, .istore 4, 2), (23, .iload 4, 2), (25, .aload_n 0, 1), (26, .arraylength, 1), (27, .bipush 10, 2), (29, .isub, 1), (30, .if_icmp .gt 2196, 3), (33, .aload_n 0, 1), (34, .iload 4, 2), (36, .iaload, 1), (37, .bipush 63, 2), (39, .iand, 1), (40, .tableswitch 2180 0 47 #[208, 233, 258, 271, 339, 376, 413, 474, 523, 572, 621, 658, 695, 732, 793, 842, 855, 868, 881, 918, 931, 968, 1017, 1066, 1103, 1164, 1189, 1226, 1263, 1300, 1369, 1406, 1443, 1468, 1541, 1566, 1615, 1628, 1755, 1944, 1969, 2038, 2051, 2064, 2077, 2102, 2127, 2152], 208), (248, .aload_n 1, 1), (249, .aload_n 0, 1), (250, .iload 4, 2), (252, .iconst 1, 1), (253, .iadd, 1), (254, .iaload, 1), (255, .invokevirtual 23, 3), (258, .pop, 1), (259, .aload_n 2, 1), (260, .aload_n 0, 1), (261, .iload 4, 2), (263, .iconst 1, 1), (264, .iadd, 1), (265, .iaload, 1), (266, .invokevirtual 27, 3)]
theorem D_lw_0_ok : dtOK code D_lw_0 = true := by decide +kernel
theorem d_lw_0 : decode code 0 = .ok (.new 8, 3) := dt_get (q := (0, .new 8, 3)) D_lw_0_ok 0 rfl
theorem d_lw_3 : decode code 3 = .ok (.dup, 1) := dt_get (q := (3, .dup, 1)) D_lw_0_ok 1 rfl
theorem d_lw_4 : decode code 4 = .ok (.invokespecial 19, 3) := dt_get (q := (4, .invokespecial 19, 3)) D_lw_0_ok 2 rfl
theorem d_lw_7 : decode code 7 = .ok (.astore_n 1, 1) := dt_get (q := (7, .astore_n 1, 1)) D_lw_0_ok 3 rfl
theorem d_lw_8 : decode code 8 = .ok (.new 20, 3) := dt_get (q := (8, .new 20, 3)) D_lw_0_ok 4 rfl
theorem d_lw_11 : decode code 11 = .ok (.dup, 1) := dt_get (q := (11, .dup, 1)) D_lw_0_ok 5 rfl
theorem d_lw_12 : decode code 12 = .ok (.invokespecial 22, 3) := dt_get (q := (12, .invokespecial 22, 3)) D_lw_0_ok 6 rfl
theorem d_lw_15 : decode code 15 = .ok (.astore_n 2, 1) := dt_get (q := (15, .astore_n 2, 1)) D_lw_0_ok 7 rfl
theorem d_lw_16 : decode code 16 = .ok (.iconst 1, 1) := dt_get (q := (16, .iconst 1, 1)) D_lw_0_ok 8 rfl
theorem d_lw_17 : decode code 17 = .ok (.newarray .long, 2) := dt_get (q := (17, .newarray .long, 2)) D_lw_0_ok 9 rfl
theorem d_lw_19 : decode code 19 = .ok (.astore_n 3, 1) := dt_get (q := (19, .astore_n 3, 1)) D_lw_0_ok 10 rfl
theorem d_lw_20 : decode code 20 = .ok (.iconst 0, 1) := dt_get (q := (20, .iconst 0, 1)) D_lw_0_ok 11 rfl
theorem d_lw_21 : decode code 21 = .ok (.istore 4, 2) := dt_get (q := (21, .istore 4, 2)) D_lw_0_ok 12 rfl
theorem d_lw_23 : decode code 23 = .ok (.iload 4, 2) := dt_get (q := (23, .iload 4, 2)) D_lw_0_ok 13 rfl
theorem d_lw_25 : decode code 25 = .ok (.aload_n 0, 1) := dt_get (q := (25, .aload_n 0, 1)) D_lw_0_ok 14 rfl
theorem d_lw_26 : decode code 26 = .ok (.arraylength, 1) := dt_get (q := (26, .arraylength, 1)) D_lw_0_ok 15 rfl
theorem d_lw_27 : decode code 27 = .ok (.bipush 10, 2) := dt_get (q := (27, .bipush 10, 2)) D_lw_0_ok 16 rfl
theorem d_lw_29 : decode code 29 = .ok (.isub, 1) := dt_get (q := (29, .isub, 1)) D_lw_0_ok 17 rfl
theorem d_lw_30 : decode code 30 = .ok (.if_icmp .gt 2196, 3) := dt_get (q := (30, .if_icmp .gt 2196, 3)) D_lw_0_ok 18 rfl
theorem d_lw_33 : decode code 33 = .ok (.aload_n 0, 1) := dt_get (q := (33, .aload_n 0, 1)) D_lw_0_ok 19 rfl
theorem d_lw_34 : decode code 34 = .ok (.iload 4, 2) := dt_get (q := (34, .iload 4, 2)) D_lw_0_ok 20 rfl
theorem d_lw_36 : decode code 36 = .ok (.iaload, 1) := dt_get (q := (36, .iaload, 1)) D_lw_0_ok 21 rfl
theorem d_lw_37 : decode code 37 = .ok (.bipush 63, 2) := dt_get (q := (37, .bipush 63, 2)) D_lw_0_ok 22 rfl
theorem d_lw_39 : decode code 39 = .ok (.iand, 1) := dt_get (q := (39, .iand, 1)) D_lw_0_ok 23 rfl
theorem d_lw_40 : decode code 40 = .ok (.tableswitch 2180 0 47 #[208, 233, 258, 271, 339, 376, 413, 474, 523, 572, 621, 658, 695, 732, 793, 842, 855, 868, 881, 918, 931, 968, 1017, 1066, 1103, 1164, 1189, 1226, 1263, 1300, 1369, 1406, 1443, 1468, 1541, 1566, 1615, 1628, 1755, 1944, 1969, 2038, 2051, 2064, 2077, 2102, 2127, 2152], 208) := dt_get (q := (40, .tableswitch 2180 0 47 #[208, 233, 258, 271, 339, 376, 413, 474, 523, 572, 621, 658, 695, 732, 793, 842, 855, 868, 881, 918, 931, 968, 1017, 1066, 1103, 1164, 1189, 1226, 1263, 1300, 1369, 1406, 1443, 1468, 1541, 1566, 1615, 1628, 1755, 1944, 1969, 2038, 2051, 2064, 2077, 2102, 2127, 2152], 208)) D_lw_0_ok 24 rfl
theorem d_lw_248 : decode code 248 = .ok (.aload_n 1, 1) := dt_get (q := (248, .aload_n 1, 1)) D_lw_0_ok 25 rfl
theorem d_lw_249 : decode code 249 = .ok (.aload_n 0, 1) := dt_get (q := (249, .aload_n 0, 1)) D_lw_0_ok 26 rfl
theorem d_lw_250 : decode code 250 = .ok (.iload 4, 2) := dt_get (q := (250, .iload 4, 2)) D_lw_0_ok 27 rfl
theorem d_lw_252 : decode code 252 = .ok (.iconst 1, 1) := dt_get (q := (252, .iconst 1, 1)) D_lw_0_ok 28 rfl
theorem d_lw_253 : decode code 253 = .ok (.iadd, 1) := dt_get (q := (253, .iadd, 1)) D_lw_0_ok 29 rfl
theorem d_lw_254 : decode code 254 = .ok (.iaload, 1) := dt_get (q := (254, .iaload, 1)) D_lw_0_ok 30 rfl
theorem d_lw_255 : decode code 255 = .ok (.invokevirtual 23, 3) := dt_get (q := (255, .invokevirtual 23, 3)) D_lw_0_ok 31 rfl
theorem d_lw_258 : decode code 258 = .ok (.pop, 1) := dt_get (q := (258, .pop, 1)) D_lw_0_ok 32 rfl
theorem d_lw_259 : decode code 259 = .ok (.aload_n 2, 1) := dt_get (q := (259, .aload_n 2, 1)) D_lw_0_ok 33 rfl
theorem d_lw_260 : decode code 260 = .ok (.aload_n 0, 1) := dt_get (q := (260, .aload_n 0, 1)) D_lw_0_ok 34 rfl
theorem d_lw_261 : decode code 261 = .ok (.iload 4, 2) := dt_get (q := (261, .iload 4, 2)) D_lw_0_ok 35 rfl
theorem d_lw_263 : decode code 263 = .ok (.iconst 1, 1) := dt_get (q := (263, .iconst 1, 1)) D_lw_0_ok 36 rfl
theorem d_lw_264 : decode code 264 = .ok (.iadd, 1) := dt_get (q := (264, .iadd, 1)) D_lw_0_ok 37 rfl
theorem d_lw_265 : decode code 265 = .ok (.iaload, 1) := dt_get (q := (265, .iaload, 1)) D_lw_0_ok 38 rfl
theorem d_lw_266 : decode code 266 = .ok (.invokevirtual 27, 3) := dt_get (q := (266, .invokevirtual 27, 3)) D_lw_0_ok 39 rfl
def D_lw_1 : DT := [(269, .pop, 1), (270, .goto 1950, 3), (273, .aload_n 1, 1), (274, .aload_n 0, 1), (275, .iload 4, 2), (277, .iconst 1, 1), (278, .iadd, 1), (279, .iaload, 1), (280, .invokevirtual 28, 3), (283, .pop, 1), (284, .aload_n 2, 1), (285, .aload_n 0, 1), (286, .iload 4, 2), (288, .iconst 1, 1), (289, .iadd, 1), (290, .iaload, 1), (291, .invokevirtual 32, 3), (294, .pop, 1), (295, .goto 1925, 3), (298, .aload_n 1, 1), (299, .invokevirtual 33, 3), (302, .pop, 1), (303, .aload_n 2, 1), (304, .invokevirtual 37, 3), (307, .pop, 1), (308, .goto 1912, 3), (311, .aload_n 1, 1), (312, .aload_n 0, 1), (313, .iload 4, 2), (315, .iconst 1, 1), (316, .iadd, 1), (317, .iaload, 1), (318, .aload_n 0, 1), (319, .iload 4, 2), (321, .iconst 2, 1), (322, .iadd, 1), (323, .iaload, 1), (324, .aload_n 3, 1), (325, .invokestatic 38, 3), (328, .istore 5, 2)]
theorem D_lw_1_ok : dtOK code D_lw_1 = true := by decide +kernel
theorem d_lw_269 : decode code 269 = .ok (.pop, 1) := dt_get (q := (269, .pop, 1)) D_lw_1_ok 0 rfl
theorem d_lw_270 : decode code 270 = .ok (.goto 1950, 3) := dt_get (q := (270, .goto 1950, 3)) D_lw_1_ok 1 rfl
theorem d_lw_273 : decode code 273 = .ok (.aload_n 1, 1) := dt_get (q := (273, .aload_n 1, 1)) D_lw_1_ok 2 rfl
theorem d_lw_274 : decode code 274 = .ok (.aload_n 0, 1) := dt_get (q := (274, .aload_n 0, 1)) D_lw_1_ok 3 rfl
theorem d_lw_275 : decode code 275 = .ok (.iload 4, 2) := dt_get (q := (275, .iload 4, 2)) D_lw_1_ok 4 rfl
theorem d_lw_277 : decode code 277 = .ok (.iconst 1, 1) := dt_get (q := (277, .iconst 1, 1)) D_lw_1_ok 5 rfl
theorem d_lw_278 : decode code 278 = .ok (.iadd, 1) := dt_get (q := (278, .iadd, 1)) D_lw_1_ok 6 rfl
theorem d_lw_279 : decode code 279 = .ok (.iaload, 1) := dt_get (q := (279, .iaload, 1)) D_lw_1_ok 7 rfl
theorem d_lw_280 : decode code 280 = .ok (.invokevirtual 28, 3) := dt_get (q := (280, .invokevirtual 28, 3)) D_lw_1_ok 8 rfl
theorem d_lw_283 : decode code 283 = .ok (.pop, 1) := dt_get (q := (283, .pop, 1)) D_lw_1_ok 9 rfl
theorem d_lw_284 : decode code 284 = .ok (.aload_n 2, 1) := dt_get (q := (284, .aload_n 2, 1)) D_lw_1_ok 10 rfl
theorem d_lw_285 : decode code 285 = .ok (.aload_n 0, 1) := dt_get (q := (285, .aload_n 0, 1)) D_lw_1_ok 11 rfl
theorem d_lw_286 : decode code 286 = .ok (.iload 4, 2) := dt_get (q := (286, .iload 4, 2)) D_lw_1_ok 12 rfl
theorem d_lw_288 : decode code 288 = .ok (.iconst 1, 1) := dt_get (q := (288, .iconst 1, 1)) D_lw_1_ok 13 rfl
theorem d_lw_289 : decode code 289 = .ok (.iadd, 1) := dt_get (q := (289, .iadd, 1)) D_lw_1_ok 14 rfl
theorem d_lw_290 : decode code 290 = .ok (.iaload, 1) := dt_get (q := (290, .iaload, 1)) D_lw_1_ok 15 rfl
theorem d_lw_291 : decode code 291 = .ok (.invokevirtual 32, 3) := dt_get (q := (291, .invokevirtual 32, 3)) D_lw_1_ok 16 rfl
theorem d_lw_294 : decode code 294 = .ok (.pop, 1) := dt_get (q := (294, .pop, 1)) D_lw_1_ok 17 rfl
theorem d_lw_295 : decode code 295 = .ok (.goto 1925, 3) := dt_get (q := (295, .goto 1925, 3)) D_lw_1_ok 18 rfl
theorem d_lw_298 : decode code 298 = .ok (.aload_n 1, 1) := dt_get (q := (298, .aload_n 1, 1)) D_lw_1_ok 19 rfl
theorem d_lw_299 : decode code 299 = .ok (.invokevirtual 33, 3) := dt_get (q := (299, .invokevirtual 33, 3)) D_lw_1_ok 20 rfl
theorem d_lw_302 : decode code 302 = .ok (.pop, 1) := dt_get (q := (302, .pop, 1)) D_lw_1_ok 21 rfl
theorem d_lw_303 : decode code 303 = .ok (.aload_n 2, 1) := dt_get (q := (303, .aload_n 2, 1)) D_lw_1_ok 22 rfl
theorem d_lw_304 : decode code 304 = .ok (.invokevirtual 37, 3) := dt_get (q := (304, .invokevirtual 37, 3)) D_lw_1_ok 23 rfl
theorem d_lw_307 : decode code 307 = .ok (.pop, 1) := dt_get (q := (307, .pop, 1)) D_lw_1_ok 24 rfl
theorem d_lw_308 : decode code 308 = .ok (.goto 1912, 3) := dt_get (q := (308, .goto 1912, 3)) D_lw_1_ok 25 rfl
theorem d_lw_311 : decode code 311 = .ok (.aload_n 1, 1) := dt_get (q := (311, .aload_n 1, 1)) D_lw_1_ok 26 rfl
theorem d_lw_312 : decode code 312 = .ok (.aload_n 0, 1) := dt_get (q := (312, .aload_n 0, 1)) D_lw_1_ok 27 rfl
theorem d_lw_313 : decode code 313 = .ok (.iload 4, 2) := dt_get (q := (313, .iload 4, 2)) D_lw_1_ok 28 rfl
theorem d_lw_315 : decode code 315 = .ok (.iconst 1, 1) := dt_get (q := (315, .iconst 1, 1)) D_lw_1_ok 29 rfl
theorem d_lw_316 : decode code 316 = .ok (.iadd, 1) := dt_get (q := (316, .iadd, 1)) D_lw_1_ok 30 rfl
theorem d_lw_317 : decode code 317 = .ok (.iaload, 1) := dt_get (q := (317, .iaload, 1)) D_lw_1_ok 31 rfl
theorem d_lw_318 : decode code 318 = .ok (.aload_n 0, 1) := dt_get (q := (318, .aload_n 0, 1)) D_lw_1_ok 32 rfl
theorem d_lw_319 : decode code 319 = .ok (.iload 4, 2) := dt_get (q := (319, .iload 4, 2)) D_lw_1_ok 33 rfl
theorem d_lw_321 : decode code 321 = .ok (.iconst 2, 1) := dt_get (q := (321, .iconst 2, 1)) D_lw_1_ok 34 rfl
theorem d_lw_322 : decode code 322 = .ok (.iadd, 1) := dt_get (q := (322, .iadd, 1)) D_lw_1_ok 35 rfl
theorem d_lw_323 : decode code 323 = .ok (.iaload, 1) := dt_get (q := (323, .iaload, 1)) D_lw_1_ok 36 rfl
theorem d_lw_324 : decode code 324 = .ok (.aload_n 3, 1) := dt_get (q := (324, .aload_n 3, 1)) D_lw_1_ok 37 rfl
theorem d_lw_325 : decode code 325 = .ok (.invokestatic 38, 3) := dt_get (q := (325, .invokestatic 38, 3)) D_lw_1_ok 38 rfl
theorem d_lw_328 : decode code 328 = .ok (.istore 5, 2) := dt_get (q := (328, .istore 5, 2)) D_lw_1_ok 39 rfl
def D_lw_2 : DT := [(330, .aload_n 2, 1), (331, .aload_n 0, 1), (332, .iload 4, 2), (334, .iconst 1, 1), (335, .iadd, 1), (336, .iaload, 1), (337, .aload_n 0, 1), (338, .iload 4, 2), (340, .iconst 2, 1), (341, .iadd, 1), (342, .iaload, 1), (343, .invokevirtual 43, 3), (346, .istore 6, 2), (348, .aload_n 2, 1), (349, .invokevirtual 44, 3), (352, .iload 5, 2), (354, .if_icmp .eq 5, 3), (357, .iconst 0, 1), (358, .ireturn, 1), (359, .iload 5, 2), (361, .ifCond .ne 15, 3), (364, .aload_n 3, 1), (365, .iconst 0, 1), (366, .laload, 1), (367, .iload 6, 2), (369, .i2l, 1), (370, .lcmp, 1), (371, .ifCond .eq 5, 3), (374, .iconst 0, 1), (375, .ireturn, 1), (376, .goto 1844, 3), (379, .aload_n 1, 1), (380, .aload_n 0, 1), (381, .iload 4, 2), (383, .iconst 1, 1), (384, .iadd, 1), (385, .iaload, 1), (386, .aload_n 0, 1), (387, .iload 4, 2), (389, .iconst 2, 1)]
theorem D_lw_2_ok : dtOK code D_lw_2 = true := by decide +kernel
theorem d_lw_330 : decode code 330 = .ok (.aload_n 2, 1) := dt_get (q := (330, .aload_n 2, 1)) D_lw_2_ok 0 rfl
theorem d_lw_331 : decode code 331 = .ok (.aload_n 0, 1) := dt_get (q := (331, .aload_n 0, 1)) D_lw_2_ok 1 rfl
theorem d_lw_332 : decode code 332 = .ok (.iload 4, 2) := dt_get (q := (332, .iload 4, 2)) D_lw_2_ok 2 rfl
theorem d_lw_334 : decode code 334 = .ok (.iconst 1, 1) := dt_get (q := (334, .iconst 1, 1)) D_lw_2_ok 3 rfl
theorem d_lw_335 : decode code 335 = .ok (.iadd, 1) := dt_get (q := (335, .iadd, 1)) D_lw_2_ok 4 rfl
theorem d_lw_336 : decode code 336 = .ok (.iaload, 1) := dt_get (q := (336, .iaload, 1)) D_lw_2_ok 5 rfl
theorem d_lw_337 : decode code 337 = .ok (.aload_n 0, 1) := dt_get (q := (337, .aload_n 0, 1)) D_lw_2_ok 6 rfl
theorem d_lw_338 : decode code 338 = .ok (.iload 4, 2) := dt_get (q := (338, .iload 4, 2)) D_lw_2_ok 7 rfl
theorem d_lw_340 : decode code 340 = .ok (.iconst 2, 1) := dt_get (q := (340, .iconst 2, 1)) D_lw_2_ok 8 rfl
theorem d_lw_341 : decode code 341 = .ok (.iadd, 1) := dt_get (q := (341, .iadd, 1)) D_lw_2_ok 9 rfl
theorem d_lw_342 : decode code 342 = .ok (.iaload, 1) := dt_get (q := (342, .iaload, 1)) D_lw_2_ok 10 rfl
theorem d_lw_343 : decode code 343 = .ok (.invokevirtual 43, 3) := dt_get (q := (343, .invokevirtual 43, 3)) D_lw_2_ok 11 rfl
theorem d_lw_346 : decode code 346 = .ok (.istore 6, 2) := dt_get (q := (346, .istore 6, 2)) D_lw_2_ok 12 rfl
theorem d_lw_348 : decode code 348 = .ok (.aload_n 2, 1) := dt_get (q := (348, .aload_n 2, 1)) D_lw_2_ok 13 rfl
theorem d_lw_349 : decode code 349 = .ok (.invokevirtual 44, 3) := dt_get (q := (349, .invokevirtual 44, 3)) D_lw_2_ok 14 rfl
theorem d_lw_352 : decode code 352 = .ok (.iload 5, 2) := dt_get (q := (352, .iload 5, 2)) D_lw_2_ok 15 rfl
theorem d_lw_354 : decode code 354 = .ok (.if_icmp .eq 5, 3) := dt_get (q := (354, .if_icmp .eq 5, 3)) D_lw_2_ok 16 rfl
theorem d_lw_357 : decode code 357 = .ok (.iconst 0, 1) := dt_get (q := (357, .iconst 0, 1)) D_lw_2_ok 17 rfl
theorem d_lw_358 : decode code 358 = .ok (.ireturn, 1) := dt_get (q := (358, .ireturn, 1)) D_lw_2_ok 18 rfl
theorem d_lw_359 : decode code 359 = .ok (.iload 5, 2) := dt_get (q := (359, .iload 5, 2)) D_lw_2_ok 19 rfl
theorem d_lw_361 : decode code 361 = .ok (.ifCond .ne 15, 3) := dt_get (q := (361, .ifCond .ne 15, 3)) D_lw_2_ok 20 rfl
theorem d_lw_364 : decode code 364 = .ok (.aload_n 3, 1) := dt_get (q := (364, .aload_n 3, 1)) D_lw_2_ok 21 rfl
theorem d_lw_365 : decode code 365 = .ok (.iconst 0, 1) := dt_get (q := (365, .iconst 0, 1)) D_lw_2_ok 22 rfl
theorem d_lw_366 : decode code 366 = .ok (.laload, 1) := dt_get (q := (366, .laload, 1)) D_lw_2_ok 23 rfl
theorem d_lw_367 : decode code 367 = .ok (.iload 6, 2) := dt_get (q := (367, .iload 6, 2)) D_lw_2_ok 24 rfl
theorem d_lw_369 : decode code 369 = .ok (.i2l, 1) := dt_get (q := (369, .i2l, 1)) D_lw_2_ok 25 rfl
theorem d_lw_370 : decode code 370 = .ok (.lcmp, 1) := dt_get (q := (370, .lcmp, 1)) D_lw_2_ok 26 rfl
theorem d_lw_371 : decode code 371 = .ok (.ifCond .eq 5, 3) := dt_get (q := (371, .ifCond .eq 5, 3)) D_lw_2_ok 27 rfl
theorem d_lw_374 : decode code 374 = .ok (.iconst 0, 1) := dt_get (q := (374, .iconst 0, 1)) D_lw_2_ok 28 rfl
theorem d_lw_375 : decode code 375 = .ok (.ireturn, 1) := dt_get (q := (375, .ireturn, 1)) D_lw_2_ok 29 rfl
theorem d_lw_376 : decode code 376 = .ok (.goto 1844, 3) := dt_get (q := (376, .goto 1844, 3)) D_lw_2_ok 30 rfl
theorem d_lw_379 : decode code 379 = .ok (.aload_n 1, 1) := dt_get (q := (379, .aload_n 1, 1)) D_lw_2_ok 31 rfl
theorem d_lw_380 : decode code 380 = .ok (.aload_n 0, 1) := dt_get (q := (380, .aload_n 0, 1)) D_lw_2_ok 32 rfl
theorem d_lw_381 : decode code 381 = .ok (.iload 4, 2) := dt_get (q := (381, .iload 4, 2)) D_lw_2_ok 33 rfl
theorem d_lw_383 : decode code 383 = .ok (.iconst 1, 1) := dt_get (q := (383, .iconst 1, 1)) D_lw_2_ok 34 rfl
theorem d_lw_384 : decode code 384 = .ok (.iadd, 1) := dt_get (q := (384, .iadd, 1)) D_lw_2_ok 35 rfl
theorem d_lw_385 : decode code 385 = .ok (.iaload, 1) := dt_get (q := (385, .iaload, 1)) D_lw_2_ok 36 rfl
theorem d_lw_386 : decode code 386 = .ok (.aload_n 0, 1) := dt_get (q := (386, .aload_n 0, 1)) D_lw_2_ok 37 rfl
theorem d_lw_387 : decode code 387 = .ok (.iload 4, 2) := dt_get (q := (387, .iload 4, 2)) D_lw_2_ok 38 rfl
theorem d_lw_389 : decode code 389 = .ok (.iconst 2, 1) := dt_get (q := (389, .iconst 2, 1)) D_lw_2_ok 39 rfl
def D_lw_3 : DT := [(390, .iadd, 1), (391, .iaload, 1), (392, .invokevirtual 47, 3), (395, .pop, 1), (396, .aload_n 2, 1), (397, .aload_n 0, 1), (398, .iload 4, 2), (400, .iconst 1, 1), (401, .iadd, 1), (402, .iaload, 1), (403, .aload_n 0, 1), (404, .iload 4, 2), (406, .iconst 2, 1), (407, .iadd, 1), (408, .iaload, 1), (409, .invokevirtual 50, 3), (412, .pop, 1), (413, .goto 1807, 3), (416, .aload_n 1, 1), (417, .aload_n 0, 1), (418, .iload 4, 2), (420, .iconst 1, 1), (421, .iadd, 1), (422, .iaload, 1), (423, .aload_n 0, 1), (424, .iload 4, 2), (426, .iconst 2, 1), (427, .iadd, 1), (428, .iaload, 1), (429, .invokevirtual 51, 3), (432, .pop, 1), (433, .aload_n 2, 1), (434, .aload_n 0, 1), (435, .iload 4, 2), (437, .iconst 1, 1), (438, .iadd, 1), (439, .iaload, 1), (440, .aload_n 0, 1), (441, .iload 4, 2), (443, .iconst 2, 1)]
theorem D_lw_3_ok : dtOK code D_lw_3 = true := by decide +kernel
theorem d_lw_390 : decode code 390 = .ok (.iadd, 1) := dt_get (q := (390, .iadd, 1)) D_lw_3_ok 0 rfl
theorem d_lw_391 : decode code 391 = .ok (.iaload, 1) := dt_get (q := (391, .iaload, 1)) D_lw_3_ok 1 rfl
theorem d_lw_392 : decode code 392 = .ok (.invokevirtual 47, 3) := dt_get (q := (392, .invokevirtual 47, 3)) D_lw_3_ok 2 rfl
theorem d_lw_395 : decode code 395 = .ok (.pop, 1) := dt_get (q := (395, .pop, 1)) D_lw_3_ok 3 rfl
theorem d_lw_396 : decode code 396 = .ok (.aload_n 2, 1) := dt_get (q := (396, .aload_n 2, 1)) D_lw_3_ok 4 rfl
theorem d_lw_397 : decode code 397 = .ok (.aload_n 0, 1) := dt_get (q := (397, .aload_n 0, 1)) D_lw_3_ok 5 rfl
theorem d_lw_398 : decode code 398 = .ok (.iload 4, 2) := dt_get (q := (398, .iload 4, 2)) D_lw_3_ok 6 rfl
theorem d_lw_400 : decode code 400 = .ok (.iconst 1, 1) := dt_get (q := (400, .iconst 1, 1)) D_lw_3_ok 7 rfl
theorem d_lw_401 : decode code 401 = .ok (.iadd, 1) := dt_get (q := (401, .iadd, 1)) D_lw_3_ok 8 rfl
theorem d_lw_402 : decode code 402 = .ok (.iaload, 1) := dt_get (q := (402, .iaload, 1)) D_lw_3_ok 9 rfl
theorem d_lw_403 : decode code 403 = .ok (.aload_n 0, 1) := dt_get (q := (403, .aload_n 0, 1)) D_lw_3_ok 10 rfl
theorem d_lw_404 : decode code 404 = .ok (.iload 4, 2) := dt_get (q := (404, .iload 4, 2)) D_lw_3_ok 11 rfl
theorem d_lw_406 : decode code 406 = .ok (.iconst 2, 1) := dt_get (q := (406, .iconst 2, 1)) D_lw_3_ok 12 rfl
theorem d_lw_407 : decode code 407 = .ok (.iadd, 1) := dt_get (q := (407, .iadd, 1)) D_lw_3_ok 13 rfl
theorem d_lw_408 : decode code 408 = .ok (.iaload, 1) := dt_get (q := (408, .iaload, 1)) D_lw_3_ok 14 rfl
theorem d_lw_409 : decode code 409 = .ok (.invokevirtual 50, 3) := dt_get (q := (409, .invokevirtual 50, 3)) D_lw_3_ok 15 rfl
theorem d_lw_412 : decode code 412 = .ok (.pop, 1) := dt_get (q := (412, .pop, 1)) D_lw_3_ok 16 rfl
theorem d_lw_413 : decode code 413 = .ok (.goto 1807, 3) := dt_get (q := (413, .goto 1807, 3)) D_lw_3_ok 17 rfl
theorem d_lw_416 : decode code 416 = .ok (.aload_n 1, 1) := dt_get (q := (416, .aload_n 1, 1)) D_lw_3_ok 18 rfl
theorem d_lw_417 : decode code 417 = .ok (.aload_n 0, 1) := dt_get (q := (417, .aload_n 0, 1)) D_lw_3_ok 19 rfl
theorem d_lw_418 : decode code 418 = .ok (.iload 4, 2) := dt_get (q := (418, .iload 4, 2)) D_lw_3_ok 20 rfl
theorem d_lw_420 : decode code 420 = .ok (.iconst 1, 1) := dt_get (q := (420, .iconst 1, 1)) D_lw_3_ok 21 rfl
theorem d_lw_421 : decode code 421 = .ok (.iadd, 1) := dt_get (q := (421, .iadd, 1)) D_lw_3_ok 22 rfl
theorem d_lw_422 : decode code 422 = .ok (.iaload, 1) := dt_get (q := (422, .iaload, 1)) D_lw_3_ok 23 rfl
theorem d_lw_423 : decode code 423 = .ok (.aload_n 0, 1) := dt_get (q := (423, .aload_n 0, 1)) D_lw_3_ok 24 rfl
theorem d_lw_424 : decode code 424 = .ok (.iload 4, 2) := dt_get (q := (424, .iload 4, 2)) D_lw_3_ok 25 rfl
theorem d_lw_426 : decode code 426 = .ok (.iconst 2, 1) := dt_get (q := (426, .iconst 2, 1)) D_lw_3_ok 26 rfl
theorem d_lw_427 : decode code 427 = .ok (.iadd, 1) := dt_get (q := (427, .iadd, 1)) D_lw_3_ok 27 rfl
theorem d_lw_428 : decode code 428 = .ok (.iaload, 1) := dt_get (q := (428, .iaload, 1)) D_lw_3_ok 28 rfl
theorem d_lw_429 : decode code 429 = .ok (.invokevirtual 51, 3) := dt_get (q := (429, .invokevirtual 51, 3)) D_lw_3_ok 29 rfl
theorem d_lw_432 : decode code 432 = .ok (.pop, 1) := dt_get (q := (432, .pop, 1)) D_lw_3_ok 30 rfl
theorem d_lw_433 : decode code 433 = .ok (.aload_n 2, 1) := dt_get (q := (433, .aload_n 2, 1)) D_lw_3_ok 31 rfl
theorem d_lw_434 : decode code 434 = .ok (.aload_n 0, 1) := dt_get (q := (434, .aload_n 0, 1)) D_lw_3_ok 32 rfl
theorem d_lw_435 : decode code 435 = .ok (.iload 4, 2) := dt_get (q := (435, .iload 4, 2)) D_lw_3_ok 33 rfl
theorem d_lw_437 : decode code 437 = .ok (.iconst 1, 1) := dt_get (q := (437, .iconst 1, 1)) D_lw_3_ok 34 rfl
theorem d_lw_438 : decode code 438 = .ok (.iadd, 1) := dt_get (q := (438, .iadd, 1)) D_lw_3_ok 35 rfl
theorem d_lw_439 : decode code 439 = .ok (.iaload, 1) := dt_get (q := (439, .iaload, 1)) D_lw_3_ok 36 rfl
theorem d_lw_440 : decode code 440 = .ok (.aload_n 0, 1) := dt_get (q := (440, .aload_n 0, 1)) D_lw_3_ok 37 rfl
theorem d_lw_441 : decode code 441 = .ok (.iload 4, 2) := dt_get (q := (441, .iload 4, 2)) D_lw_3_ok 38 rfl
theorem d_lw_443 : decode code 443 = .ok (.iconst 2, 1) := dt_get (q := (443, .iconst 2, 1)) D_lw_3_ok 39 rfl
def D_lw_4 : DT := [(444, .iadd, 1), (445, .iaload, 1), (446, .invokevirtual 54, 3), (449, .pop, 1), (450, .goto 1770, 3), (453, .aload_n 1, 1), (454, .aload_n 0, 1), (455, .iload 4, 2), (457, .iconst 1, 1), (458, .iadd, 1), (459, .iaload, 1), (460, .aload_n 0, 1), (461, .iload 4, 2), (463, .iconst 2, 1), (464, .iadd, 1), (465, .iaload, 1), (466, .aload_n 0, 1), (467, .iload 4, 2), (469, .iconst 3, 1), (470, .iadd, 1), (471, .iaload, 1), (472, .aload_n 0, 1), (473, .iload 4, 2), (475, .iconst 4, 1), (476, .iadd, 1), (477, .iaload, 1), (478, .invokevirtual 55, 3), (481, .pop, 1), (482, .aload_n 2, 1), (483, .aload_n 0, 1), (484, .iload 4, 2), (486, .iconst 1, 1), (487, .iadd, 1), (488, .iaload, 1), (489, .aload_n 0, 1), (490, .iload 4, 2), (492, .iconst 2, 1), (493, .iadd, 1), (494, .iaload, 1), (495, .aload_n 0, 1)]
theorem D_lw_4_ok : dtOK code D_lw_4 = true := by decide +kernel
theorem d_lw_444 : decode code 444 = .ok (.iadd, 1) := dt_get (q := (444, .iadd, 1)) D_lw_4_ok 0 rfl
theorem d_lw_445 : decode code 445 = .ok (.iaload, 1) := dt_get (q := (445, .iaload, 1)) D_lw_4_ok 1 rfl
theorem d_lw_446 : decode code 446 = .ok (.invokevirtual 54, 3) := dt_get (q := (446, .invokevirtual 54, 3)) D_lw_4_ok 2 rfl
theorem d_lw_449 : decode code 449 = .ok (.pop, 1) := dt_get (q := (449, .pop, 1)) D_lw_4_ok 3 rfl
theorem d_lw_450 : decode code 450 = .ok (.goto 1770, 3) := dt_get (q := (450, .goto 1770, 3)) D_lw_4_ok 4 rfl
theorem d_lw_453 : decode code 453 = .ok (.aload_n 1, 1) := dt_get (q := (453, .aload_n 1, 1)) D_lw_4_ok 5 rfl
theorem d_lw_454 : decode code 454 = .ok (.aload_n 0, 1) := dt_get (q := (454, .aload_n 0, 1)) D_lw_4_ok 6 rfl
theorem d_lw_455 : decode code 455 = .ok (.iload 4, 2) := dt_get (q := (455, .iload 4, 2)) D_lw_4_ok 7 rfl
theorem d_lw_457 : decode code 457 = .ok (.iconst 1, 1) := dt_get (q := (457, .iconst 1, 1)) D_lw_4_ok 8 rfl
theorem d_lw_458 : decode code 458 = .ok (.iadd, 1) := dt_get (q := (458, .iadd, 1)) D_lw_4_ok 9 rfl
theorem d_lw_459 : decode code 459 = .ok (.iaload, 1) := dt_get (q := (459, .iaload, 1)) D_lw_4_ok 10 rfl
theorem d_lw_460 : decode code 460 = .ok (.aload_n 0, 1) := dt_get (q := (460, .aload_n 0, 1)) D_lw_4_ok 11 rfl
theorem d_lw_461 : decode code 461 = .ok (.iload 4, 2) := dt_get (q := (461, .iload 4, 2)) D_lw_4_ok 12 rfl
theorem d_lw_463 : decode code 463 = .ok (.iconst 2, 1) := dt_get (q := (463, .iconst 2, 1)) D_lw_4_ok 13 rfl
theorem d_lw_464 : decode code 464 = .ok (.iadd, 1) := dt_get (q := (464, .iadd, 1)) D_lw_4_ok 14 rfl
theorem d_lw_465 : decode code 465 = .ok (.iaload, 1) := dt_get (q := (465, .iaload, 1)) D_lw_4_ok 15 rfl
theorem d_lw_466 : decode code 466 = .ok (.aload_n 0, 1) := dt_get (q := (466, .aload_n 0, 1)) D_lw_4_ok 16 rfl
theorem d_lw_467 : decode code 467 = .ok (.iload 4, 2) := dt_get (q := (467, .iload 4, 2)) D_lw_4_ok 17 rfl
theorem d_lw_469 : decode code 469 = .ok (.iconst 3, 1) := dt_get (q := (469, .iconst 3, 1)) D_lw_4_ok 18 rfl
theorem d_lw_470 : decode code 470 = .ok (.iadd, 1) := dt_get (q := (470, .iadd, 1)) D_lw_4_ok 19 rfl
theorem d_lw_471 : decode code 471 = .ok (.iaload, 1) := dt_get (q := (471, .iaload, 1)) D_lw_4_ok 20 rfl
theorem d_lw_472 : decode code 472 = .ok (.aload_n 0, 1) := dt_get (q := (472, .aload_n 0, 1)) D_lw_4_ok 21 rfl
theorem d_lw_473 : decode code 473 = .ok (.iload 4, 2) := dt_get (q := (473, .iload 4, 2)) D_lw_4_ok 22 rfl
theorem d_lw_475 : decode code 475 = .ok (.iconst 4, 1) := dt_get (q := (475, .iconst 4, 1)) D_lw_4_ok 23 rfl
theorem d_lw_476 : decode code 476 = .ok (.iadd, 1) := dt_get (q := (476, .iadd, 1)) D_lw_4_ok 24 rfl
theorem d_lw_477 : decode code 477 = .ok (.iaload, 1) := dt_get (q := (477, .iaload, 1)) D_lw_4_ok 25 rfl
theorem d_lw_478 : decode code 478 = .ok (.invokevirtual 55, 3) := dt_get (q := (478, .invokevirtual 55, 3)) D_lw_4_ok 26 rfl
theorem d_lw_481 : decode code 481 = .ok (.pop, 1) := dt_get (q := (481, .pop, 1)) D_lw_4_ok 27 rfl
theorem d_lw_482 : decode code 482 = .ok (.aload_n 2, 1) := dt_get (q := (482, .aload_n 2, 1)) D_lw_4_ok 28 rfl
theorem d_lw_483 : decode code 483 = .ok (.aload_n 0, 1) := dt_get (q := (483, .aload_n 0, 1)) D_lw_4_ok 29 rfl
theorem d_lw_484 : decode code 484 = .ok (.iload 4, 2) := dt_get (q := (484, .iload 4, 2)) D_lw_4_ok 30 rfl
theorem d_lw_486 : decode code 486 = .ok (.iconst 1, 1) := dt_get (q := (486, .iconst 1, 1)) D_lw_4_ok 31 rfl
theorem d_lw_487 : decode code 487 = .ok (.iadd, 1) := dt_get (q := (487, .iadd, 1)) D_lw_4_ok 32 rfl
theorem d_lw_488 : decode code 488 = .ok (.iaload, 1) := dt_get (q := (488, .iaload, 1)) D_lw_4_ok 33 rfl
theorem d_lw_489 : decode code 489 = .ok (.aload_n 0, 1) := dt_get (q := (489, .aload_n 0, 1)) D_lw_4_ok 34 rfl
theorem d_lw_490 : decode code 490 = .ok (.iload 4, 2) := dt_get (q := (490, .iload 4, 2)) D_lw_4_ok 35 rfl
theorem d_lw_492 : decode code 492 = .ok (.iconst 2, 1) := dt_get (q := (492, .iconst 2, 1)) D_lw_4_ok 36 rfl
theorem d_lw_493 : decode code 493 = .ok (.iadd, 1) := dt_get (q := (493, .iadd, 1)) D_lw_4_ok 37 rfl
theorem d_lw_494 : decode code 494 = .ok (.iaload, 1) := dt_get (q := (494, .iaload, 1)) D_lw_4_ok 38 rfl
theorem d_lw_495 : decode code 495 = .ok (.aload_n 0, 1) := dt_get (q := (495, .aload_n 0, 1)) D_lw_4_ok 39 rfl
def D_lw_5 : DT := [(496, .iload 4, 2), (498, .iconst 3, 1), (499, .iadd, 1), (500, .iaload, 1), (501, .aload_n 0, 1), (502, .iload 4, 2), (504, .iconst 4, 1), (505, .iadd, 1), (506, .iaload, 1), (507, .invokevirtual 59, 3), (510, .pop, 1), (511, .goto 1709, 3), (514, .aload_n 1, 1), (515, .aload_n 0, 1), (516, .iload 4, 2), (518, .iconst 1, 1), (519, .iadd, 1), (520, .iaload, 1), (521, .aload_n 0, 1), (522, .iload 4, 2), (524, .iconst 2, 1), (525, .iadd, 1), (526, .iaload, 1), (527, .aload_n 0, 1), (528, .iload 4, 2), (530, .iconst 3, 1), (531, .iadd, 1), (532, .iaload, 1), (533, .invokevirtual 60, 3), (536, .pop, 1), (537, .aload_n 2, 1), (538, .aload_n 0, 1), (539, .iload 4, 2), (541, .iconst 1, 1), (542, .iadd, 1), (543, .iaload, 1), (544, .aload_n 0, 1), (545, .iload 4, 2), (547, .iconst 2, 1), (548, .iadd, 1)]
theorem D_lw_5_ok : dtOK code D_lw_5 = true := by decide +kernel
theorem d_lw_496 : decode code 496 = .ok (.iload 4, 2) := dt_get (q := (496, .iload 4, 2)) D_lw_5_ok 0 rfl
theorem d_lw_498 : decode code 498 = .ok (.iconst 3, 1) := dt_get (q := (498, .iconst 3, 1)) D_lw_5_ok 1 rfl
theorem d_lw_499 : decode code 499 = .ok (.iadd, 1) := dt_get (q := (499, .iadd, 1)) D_lw_5_ok 2 rfl
theorem d_lw_500 : decode code 500 = .ok (.iaload, 1) := dt_get (q := (500, .iaload, 1)) D_lw_5_ok 3 rfl
theorem d_lw_501 : decode code 501 = .ok (.aload_n 0, 1) := dt_get (q := (501, .aload_n 0, 1)) D_lw_5_ok 4 rfl
theorem d_lw_502 : decode code 502 = .ok (.iload 4, 2) := dt_get (q := (502, .iload 4, 2)) D_lw_5_ok 5 rfl
theorem d_lw_504 : decode code 504 = .ok (.iconst 4, 1) := dt_get (q := (504, .iconst 4, 1)) D_lw_5_ok 6 rfl
theorem d_lw_505 : decode code 505 = .ok (.iadd, 1) := dt_get (q := (505, .iadd, 1)) D_lw_5_ok 7 rfl
theorem d_lw_506 : decode code 506 = .ok (.iaload, 1) := dt_get (q := (506, .iaload, 1)) D_lw_5_ok 8 rfl
theorem d_lw_507 : decode code 507 = .ok (.invokevirtual 59, 3) := dt_get (q := (507, .invokevirtual 59, 3)) D_lw_5_ok 9 rfl
theorem d_lw_510 : decode code 510 = .ok (.pop, 1) := dt_get (q := (510, .pop, 1)) D_lw_5_ok 10 rfl
theorem d_lw_511 : decode code 511 = .ok (.goto 1709, 3) := dt_get (q := (511, .goto 1709, 3)) D_lw_5_ok 11 rfl
theorem d_lw_514 : decode code 514 = .ok (.aload_n 1, 1) := dt_get (q := (514, .aload_n 1, 1)) D_lw_5_ok 12 rfl
theorem d_lw_515 : decode code 515 = .ok (.aload_n 0, 1) := dt_get (q := (515, .aload_n 0, 1)) D_lw_5_ok 13 rfl
theorem d_lw_516 : decode code 516 = .ok (.iload 4, 2) := dt_get (q := (516, .iload 4, 2)) D_lw_5_ok 14 rfl
theorem d_lw_518 : decode code 518 = .ok (.iconst 1, 1) := dt_get (q := (518, .iconst 1, 1)) D_lw_5_ok 15 rfl
theorem d_lw_519 : decode code 519 = .ok (.iadd, 1) := dt_get (q := (519, .iadd, 1)) D_lw_5_ok 16 rfl
theorem d_lw_520 : decode code 520 = .ok (.iaload, 1) := dt_get (q := (520, .iaload, 1)) D_lw_5_ok 17 rfl
theorem d_lw_521 : decode code 521 = .ok (.aload_n 0, 1) := dt_get (q := (521, .aload_n 0, 1)) D_lw_5_ok 18 rfl
theorem d_lw_522 : decode code 522 = .ok (.iload 4, 2) := dt_get (q := (522, .iload 4, 2)) D_lw_5_ok 19 rfl
theorem d_lw_524 : decode code 524 = .ok (.iconst 2, 1) := dt_get (q := (524, .iconst 2, 1)) D_lw_5_ok 20 rfl
theorem d_lw_525 : decode code 525 = .ok (.iadd, 1) := dt_get (q := (525, .iadd, 1)) D_lw_5_ok 21 rfl
theorem d_lw_526 : decode code 526 = .ok (.iaload, 1) := dt_get (q := (526, .iaload, 1)) D_lw_5_ok 22 rfl
theorem d_lw_527 : decode code 527 = .ok (.aload_n 0, 1) := dt_get (q := (527, .aload_n 0, 1)) D_lw_5_ok 23 rfl
theorem d_lw_528 : decode code 528 = .ok (.iload 4, 2) := dt_get (q := (528, .iload 4, 2)) D_lw_5_ok 24 rfl
theorem d_lw_530 : decode code 530 = .ok (.iconst 3, 1) := dt_get (q := (530, .iconst 3, 1)) D_lw_5_ok 25 rfl
theorem d_lw_531 : decode code 531 = .ok (.iadd, 1) := dt_get (q := (531, .iadd, 1)) D_lw_5_ok 26 rfl
theorem d_lw_532 : decode code 532 = .ok (.iaload, 1) := dt_get (q := (532, .iaload, 1)) D_lw_5_ok 27 rfl
theorem d_lw_533 : decode code 533 = .ok (.invokevirtual 60, 3) := dt_get (q := (533, .invokevirtual 60, 3)) D_lw_5_ok 28 rfl
theorem d_lw_536 : decode code 536 = .ok (.pop, 1) := dt_get (q := (536, .pop, 1)) D_lw_5_ok 29 rfl
theorem d_lw_537 : decode code 537 = .ok (.aload_n 2, 1) := dt_get (q := (537, .aload_n 2, 1)) D_lw_5_ok 30 rfl
theorem d_lw_538 : decode code 538 = .ok (.aload_n 0, 1) := dt_get (q := (538, .aload_n 0, 1)) D_lw_5_ok 31 rfl
theorem d_lw_539 : decode code 539 = .ok (.iload 4, 2) := dt_get (q := (539, .iload 4, 2)) D_lw_5_ok 32 rfl
theorem d_lw_541 : decode code 541 = .ok (.iconst 1, 1) := dt_get (q := (541, .iconst 1, 1)) D_lw_5_ok 33 rfl
theorem d_lw_542 : decode code 542 = .ok (.iadd, 1) := dt_get (q := (542, .iadd, 1)) D_lw_5_ok 34 rfl
theorem d_lw_543 : decode code 543 = .ok (.iaload, 1) := dt_get (q := (543, .iaload, 1)) D_lw_5_ok 35 rfl
theorem d_lw_544 : decode code 544 = .ok (.aload_n 0, 1) := dt_get (q := (544, .aload_n 0, 1)) D_lw_5_ok 36 rfl
theorem d_lw_545 : decode code 545 = .ok (.iload 4, 2) := dt_get (q := (545, .iload 4, 2)) D_lw_5_ok 37 rfl
theorem d_lw_547 : decode code 547 = .ok (.iconst 2, 1) := dt_get (q := (547, .iconst 2, 1)) D_lw_5_ok 38 rfl
theorem d_lw_548 : decode code 548 = .ok (.iadd, 1) := dt_get (q := (548, .iadd, 1)) D_lw_5_ok 39 rfl
def D_lw_6 : DT := [(549, .iaload, 1), (550, .aload_n 0, 1), (551, .iload 4, 2), (553, .iconst 3, 1), (554, .iadd, 1), (555, .iaload, 1), (556, .invokevirtual 64, 3), (559, .pop, 1), (560, .goto 1660, 3), (563, .aload_n 1, 1), (564, .aload_n 0, 1), (565, .iload 4, 2), (567, .iconst 1, 1), (568, .iadd, 1), (569, .iaload, 1), (570, .aload_n 0, 1), (571, .iload 4, 2), (573, .iconst 2, 1), (574, .iadd, 1), (575, .iaload, 1), (576, .aload_n 0, 1), (577, .iload 4, 2), (579, .iconst 3, 1), (580, .iadd, 1), (581, .iaload, 1), (582, .invokevirtual 65, 3), (585, .pop, 1), (586, .aload_n 2, 1), (587, .aload_n 0, 1), (588, .iload 4, 2), (590, .iconst 1, 1), (591, .iadd, 1), (592, .iaload, 1), (593, .aload_n 0, 1), (594, .iload 4, 2), (596, .iconst 2, 1), (597, .iadd, 1), (598, .iaload, 1), (599, .aload_n 0, 1), (600, .iload 4, 2)]
theorem D_lw_6_ok : dtOK code D_lw_6 = true := by decide +kernel
theorem d_lw_549 : decode code 549 = .ok (.iaload, 1) := dt_get (q := (549, .iaload, 1)) D_lw_6_ok 0 rfl
theorem d_lw_550 : decode code 550 = .ok (.aload_n 0, 1) := dt_get (q := (550, .aload_n 0, 1)) D_lw_6_ok 1 rfl
theorem d_lw_551 : decode code 551 = .ok (.iload 4, 2) := dt_get (q := (551, .iload 4, 2)) D_lw_6_ok 2 rfl
theorem d_lw_553 : decode code 553 = .ok (.iconst 3, 1) := dt_get (q := (553, .iconst 3, 1)) D_lw_6_ok 3 rfl
theorem d_lw_554 : decode code 554 = .ok (.iadd, 1) := dt_get (q := (554, .iadd, 1)) D_lw_6_ok 4 rfl
theorem d_lw_555 : decode code 555 = .ok (.iaload, 1) := dt_get (q := (555, .iaload, 1)) D_lw_6_ok 5 rfl
theorem d_lw_556 : decode code 556 = .ok (.invokevirtual 64, 3) := dt_get (q := (556, .invokevirtual 64, 3)) D_lw_6_ok 6 rfl
theorem d_lw_559 : decode code 559 = .ok (.pop, 1) := dt_get (q := (559, .pop, 1)) D_lw_6_ok 7 rfl
theorem d_lw_560 : decode code 560 = .ok (.goto 1660, 3) := dt_get (q := (560, .goto 1660, 3)) D_lw_6_ok 8 rfl
theorem d_lw_563 : decode code 563 = .ok (.aload_n 1, 1) := dt_get (q := (563, .aload_n 1, 1)) D_lw_6_ok 9 rfl
theorem d_lw_564 : decode code 564 = .ok (.aload_n 0, 1) := dt_get (q := (564, .aload_n 0, 1)) D_lw_6_ok 10 rfl
theorem d_lw_565 : decode code 565 = .ok (.iload 4, 2) := dt_get (q := (565, .iload 4, 2)) D_lw_6_ok 11 rfl
theorem d_lw_567 : decode code 567 = .ok (.iconst 1, 1) := dt_get (q := (567, .iconst 1, 1)) D_lw_6_ok 12 rfl
theorem d_lw_568 : decode code 568 = .ok (.iadd, 1) := dt_get (q := (568, .iadd, 1)) D_lw_6_ok 13 rfl
theorem d_lw_569 : decode code 569 = .ok (.iaload, 1) := dt_get (q := (569, .iaload, 1)) D_lw_6_ok 14 rfl
theorem d_lw_570 : decode code 570 = .ok (.aload_n 0, 1) := dt_get (q := (570, .aload_n 0, 1)) D_lw_6_ok 15 rfl
theorem d_lw_571 : decode code 571 = .ok (.iload 4, 2) := dt_get (q := (571, .iload 4, 2)) D_lw_6_ok 16 rfl
theorem d_lw_573 : decode code 573 = .ok (.iconst 2, 1) := dt_get (q := (573, .iconst 2, 1)) D_lw_6_ok 17 rfl
theorem d_lw_574 : decode code 574 = .ok (.iadd, 1) := dt_get (q := (574, .iadd, 1)) D_lw_6_ok 18 rfl
theorem d_lw_575 : decode code 575 = .ok (.iaload, 1) := dt_get (q := (575, .iaload, 1)) D_lw_6_ok 19 rfl
theorem d_lw_576 : decode code 576 = .ok (.aload_n 0, 1) := dt_get (q := (576, .aload_n 0, 1)) D_lw_6_ok 20 rfl
theorem d_lw_577 : decode code 577 = .ok (.iload 4, 2) := dt_get (q := (577, .iload 4, 2)) D_lw_6_ok 21 rfl
theorem d_lw_579 : decode code 579 = .ok (.iconst 3, 1) := dt_get (q := (579, .iconst 3, 1)) D_lw_6_ok 22 rfl
theorem d_lw_580 : decode code 580 = .ok (.iadd, 1) := dt_get (q := (580, .iadd, 1)) D_lw_6_ok 23 rfl
theorem d_lw_581 : decode code 581 = .ok (.iaload, 1) := dt_get (q := (581, .iaload, 1)) D_lw_6_ok 24 rfl
theorem d_lw_582 : decode code 582 = .ok (.invokevirtual 65, 3) := dt_get (q := (582, .invokevirtual 65, 3)) D_lw_6_ok 25 rfl
theorem d_lw_585 : decode code 585 = .ok (.pop, 1) := dt_get (q := (585, .pop, 1)) D_lw_6_ok 26 rfl
theorem d_lw_586 : decode code 586 = .ok (.aload_n 2, 1) := dt_get (q := (586, .aload_n 2, 1)) D_lw_6_ok 27 rfl
theorem d_lw_587 : decode code 587 = .ok (.aload_n 0, 1) := dt_get (q := (587, .aload_n 0, 1)) D_lw_6_ok 28 rfl
theorem d_lw_588 : decode code 588 = .ok (.iload 4, 2) := dt_get (q := (588, .iload 4, 2)) D_lw_6_ok 29 rfl
theorem d_lw_590 : decode code 590 = .ok (.iconst 1, 1) := dt_get (q := (590, .iconst 1, 1)) D_lw_6_ok 30 rfl
theorem d_lw_591 : decode code 591 = .ok (.iadd, 1) := dt_get (q := (591, .iadd, 1)) D_lw_6_ok 31 rfl
theorem d_lw_592 : decode code 592 = .ok (.iaload, 1) := dt_get (q := (592, .iaload, 1)) D_lw_6_ok 32 rfl
theorem d_lw_593 : decode code 593 = .ok (.aload_n 0, 1) := dt_get (q := (593, .aload_n 0, 1)) D_lw_6_ok 33 rfl
theorem d_lw_594 : decode code 594 = .ok (.iload 4, 2) := dt_get (q := (594, .iload 4, 2)) D_lw_6_ok 34 rfl
theorem d_lw_596 : decode code 596 = .ok (.iconst 2, 1) := dt_get (q := (596, .iconst 2, 1)) D_lw_6_ok 35 rfl
theorem d_lw_597 : decode code 597 = .ok (.iadd, 1) := dt_get (q := (597, .iadd, 1)) D_lw_6_ok 36 rfl
theorem d_lw_598 : decode code 598 = .ok (.iaload, 1) := dt_get (q := (598, .iaload, 1)) D_lw_6_ok 37 rfl
theorem d_lw_599 : decode code 599 = .ok (.aload_n 0, 1) := dt_get (q := (599, .aload_n 0, 1)) D_lw_6_ok 38 rfl
theorem d_lw_600 : decode code 600 = .ok (.iload 4, 2) := dt_get (q := (600, .iload 4, 2)) D_lw_6_ok 39 rfl
def D_lw_7 : DT := [(602, .iconst 3, 1), (603, .iadd, 1), (604, .iaload, 1), (605, .invokevirtual 69, 3), (608, .pop, 1), (609, .goto 1611, 3), (612, .aload_n 1, 1), (613, .aload_n 0, 1), (614, .iload 4, 2), (616, .iconst 1, 1), (617, .iadd, 1), (618, .iaload, 1), (619, .aload_n 0, 1), (620, .iload 4, 2), (622, .iconst 2, 1), (623, .iadd, 1), (624, .iaload, 1), (625, .aload_n 0, 1), (626, .iload 4, 2), (628, .iconst 3, 1), (629, .iadd, 1), (630, .iaload, 1), (631, .invokevirtual 70, 3), (634, .pop, 1), (635, .aload_n 2, 1), (636, .aload_n 0, 1), (637, .iload 4, 2), (639, .iconst 1, 1), (640, .iadd, 1), (641, .iaload, 1), (642, .aload_n 0, 1), (643, .iload 4, 2), (645, .iconst 2, 1), (646, .iadd, 1), (647, .iaload, 1), (648, .aload_n 0, 1), (649, .iload 4, 2), (651, .iconst 3, 1), (652, .iadd, 1), (653, .iaload, 1)]
theorem D_lw_7_ok : dtOK code D_lw_7 = true := by decide +kernel
theorem d_lw_602 : decode code 602 = .ok (.iconst 3, 1) := dt_get (q := (602, .iconst 3, 1)) D_lw_7_ok 0 rfl
theorem d_lw_603 : decode code 603 = .ok (.iadd, 1) := dt_get (q := (603, .iadd, 1)) D_lw_7_ok 1 rfl
theorem d_lw_604 : decode code 604 = .ok (.iaload, 1) := dt_get (q := (604, .iaload, 1)) D_lw_7_ok 2 rfl
theorem d_lw_605 : decode code 605 = .ok (.invokevirtual 69, 3) := dt_get (q := (605, .invokevirtual 69, 3)) D_lw_7_ok 3 rfl
theorem d_lw_608 : decode code 608 = .ok (.pop, 1) := dt_get (q := (608, .pop, 1)) D_lw_7_ok 4 rfl
theorem d_lw_609 : decode code 609 = .ok (.goto 1611, 3) := dt_get (q := (609, .goto 1611, 3)) D_lw_7_ok 5 rfl
theorem d_lw_612 : decode code 612 = .ok (.aload_n 1, 1) := dt_get (q := (612, .aload_n 1, 1)) D_lw_7_ok 6 rfl
theorem d_lw_613 : decode code 613 = .ok (.aload_n 0, 1) := dt_get (q := (613, .aload_n 0, 1)) D_lw_7_ok 7 rfl
theorem d_lw_614 : decode code 614 = .ok (.iload 4, 2) := dt_get (q := (614, .iload 4, 2)) D_lw_7_ok 8 rfl
theorem d_lw_616 : decode code 616 = .ok (.iconst 1, 1) := dt_get (q := (616, .iconst 1, 1)) D_lw_7_ok 9 rfl
theorem d_lw_617 : decode code 617 = .ok (.iadd, 1) := dt_get (q := (617, .iadd, 1)) D_lw_7_ok 10 rfl
theorem d_lw_618 : decode code 618 = .ok (.iaload, 1) := dt_get (q := (618, .iaload, 1)) D_lw_7_ok 11 rfl
theorem d_lw_619 : decode code 619 = .ok (.aload_n 0, 1) := dt_get (q := (619, .aload_n 0, 1)) D_lw_7_ok 12 rfl
theorem d_lw_620 : decode code 620 = .ok (.iload 4, 2) := dt_get (q := (620, .iload 4, 2)) D_lw_7_ok 13 rfl
theorem d_lw_622 : decode code 622 = .ok (.iconst 2, 1) := dt_get (q := (622, .iconst 2, 1)) D_lw_7_ok 14 rfl
theorem d_lw_623 : decode code 623 = .ok (.iadd, 1) := dt_get (q := (623, .iadd, 1)) D_lw_7_ok 15 rfl
theorem d_lw_624 : decode code 624 = .ok (.iaload, 1) := dt_get (q := (624, .iaload, 1)) D_lw_7_ok 16 rfl
theorem d_lw_625 : decode code 625 = .ok (.aload_n 0, 1) := dt_get (q := (625, .aload_n 0, 1)) D_lw_7_ok 17 rfl
theorem d_lw_626 : decode code 626 = .ok (.iload 4, 2) := dt_get (q := (626, .iload 4, 2)) D_lw_7_ok 18 rfl
theorem d_lw_628 : decode code 628 = .ok (.iconst 3, 1) := dt_get (q := (628, .iconst 3, 1)) D_lw_7_ok 19 rfl
theorem d_lw_629 : decode code 629 = .ok (.iadd, 1) := dt_get (q := (629, .iadd, 1)) D_lw_7_ok 20 rfl
theorem d_lw_630 : decode code 630 = .ok (.iaload, 1) := dt_get (q := (630, .iaload, 1)) D_lw_7_ok 21 rfl
theorem d_lw_631 : decode code 631 = .ok (.invokevirtual 70, 3) := dt_get (q := (631, .invokevirtual 70, 3)) D_lw_7_ok 22 rfl
theorem d_lw_634 : decode code 634 = .ok (.pop, 1) := dt_get (q := (634, .pop, 1)) D_lw_7_ok 23 rfl
theorem d_lw_635 : decode code 635 = .ok (.aload_n 2, 1) := dt_get (q := (635, .aload_n 2, 1)) D_lw_7_ok 24 rfl
theorem d_lw_636 : decode code 636 = .ok (.aload_n 0, 1) := dt_get (q := (636, .aload_n 0, 1)) D_lw_7_ok 25 rfl
theorem d_lw_637 : decode code 637 = .ok (.iload 4, 2) := dt_get (q := (637, .iload 4, 2)) D_lw_7_ok 26 rfl
theorem d_lw_639 : decode code 639 = .ok (.iconst 1, 1) := dt_get (q := (639, .iconst 1, 1)) D_lw_7_ok 27 rfl
theorem d_lw_640 : decode code 640 = .ok (.iadd, 1) := dt_get (q := (640, .iadd, 1)) D_lw_7_ok 28 rfl
theorem d_lw_641 : decode code 641 = .ok (.iaload, 1) := dt_get (q := (641, .iaload, 1)) D_lw_7_ok 29 rfl
theorem d_lw_642 : decode code 642 = .ok (.aload_n 0, 1) := dt_get (q := (642, .aload_n 0, 1)) D_lw_7_ok 30 rfl
theorem d_lw_643 : decode code 643 = .ok (.iload 4, 2) := dt_get (q := (643, .iload 4, 2)) D_lw_7_ok 31 rfl
theorem d_lw_645 : decode code 645 = .ok (.iconst 2, 1) := dt_get (q := (645, .iconst 2, 1)) D_lw_7_ok 32 rfl
theorem d_lw_646 : decode code 646 = .ok (.iadd, 1) := dt_get (q := (646, .iadd, 1)) D_lw_7_ok 33 rfl
theorem d_lw_647 : decode code 647 = .ok (.iaload, 1) := dt_get (q := (647, .iaload, 1)) D_lw_7_ok 34 rfl
theorem d_lw_648 : decode code 648 = .ok (.aload_n 0, 1) := dt_get (q := (648, .aload_n 0, 1)) D_lw_7_ok 35 rfl
theorem d_lw_649 : decode code 649 = .ok (.iload 4, 2) := dt_get (q := (649, .iload 4, 2)) D_lw_7_ok 36 rfl
theorem d_lw_651 : decode code 651 = .ok (.iconst 3, 1) := dt_get (q := (651, .iconst 3, 1)) D_lw_7_ok 37 rfl
theorem d_lw_652 : decode code 652 = .ok (.iadd, 1) := dt_get (q := (652, .iadd, 1)) D_lw_7_ok 38 rfl
theorem d_lw_653 : decode code 653 = .ok (.iaload, 1) := dt_get (q := (653, .iaload, 1)) D_lw_7_ok 39 rfl
def D_lw_8 : DT := [(654, .invokevirtual 73, 3), (657, .pop, 1), (658, .goto 1562, 3), (661, .aload_n 1, 1), (662, .aload_n 0, 1), (663, .iload 4, 2), (665, .iconst 1, 1), (666, .iadd, 1), (667, .iaload, 1), (668, .aload_n 0, 1), (669, .iload 4, 2), (671, .iconst 2, 1), (672, .iadd, 1), (673, .iaload, 1), (674, .invokevirtual 74, 3), (677, .pop, 1), (678, .aload_n 2, 1), (679, .aload_n 0, 1), (680, .iload 4, 2), (682, .iconst 1, 1), (683, .iadd, 1), (684, .iaload, 1), (685, .aload_n 0, 1), (686, .iload 4, 2), (688, .iconst 2, 1), (689, .iadd, 1), (690, .iaload, 1), (691, .invokevirtual 78, 3), (694, .pop, 1), (695, .goto 1525, 3), (698, .aload_n 1, 1), (699, .aload_n 0, 1), (700, .iload 4, 2), (702, .iconst 1, 1), (703, .iadd, 1), (704, .iaload, 1), (705, .aload_n 0, 1), (706, .iload 4, 2), (708, .iconst 2, 1), (709, .iadd, 1)]
theorem D_lw_8_ok : dtOK code D_lw_8 = true := by decide +kernel
theorem d_lw_654 : decode code 654 = .ok (.invokevirtual 73, 3) := dt_get (q := (654, .invokevirtual 73, 3)) D_lw_8_ok 0 rfl
theorem d_lw_657 : decode code 657 = .ok (.pop, 1) := dt_get (q := (657, .pop, 1)) D_lw_8_ok 1 rfl
theorem d_lw_658 : decode code 658 = .ok (.goto 1562, 3) := dt_get (q := (658, .goto 1562, 3)) D_lw_8_ok 2 rfl
theorem d_lw_661 : decode code 661 = .ok (.aload_n 1, 1) := dt_get (q := (661, .aload_n 1, 1)) D_lw_8_ok 3 rfl
theorem d_lw_662 : decode code 662 = .ok (.aload_n 0, 1) := dt_get (q := (662, .aload_n 0, 1)) D_lw_8_ok 4 rfl
theorem d_lw_663 : decode code 663 = .ok (.iload 4, 2) := dt_get (q := (663, .iload 4, 2)) D_lw_8_ok 5 rfl
theorem d_lw_665 : decode code 665 = .ok (.iconst 1, 1) := dt_get (q := (665, .iconst 1, 1)) D_lw_8_ok 6 rfl
theorem d_lw_666 : decode code 666 = .ok (.iadd, 1) := dt_get (q := (666, .iadd, 1)) D_lw_8_ok 7 rfl
theorem d_lw_667 : decode code 667 = .ok (.iaload, 1) := dt_get (q := (667, .iaload, 1)) D_lw_8_ok 8 rfl
theorem d_lw_668 : decode code 668 = .ok (.aload_n 0, 1) := dt_get (q := (668, .aload_n 0, 1)) D_lw_8_ok 9 rfl
theorem d_lw_669 : decode code 669 = .ok (.iload 4, 2) := dt_get (q := (669, .iload 4, 2)) D_lw_8_ok 10 rfl
theorem d_lw_671 : decode code 671 = .ok (.iconst 2, 1) := dt_get (q := (671, .iconst 2, 1)) D_lw_8_ok 11 rfl
theorem d_lw_672 : decode code 672 = .ok (.iadd, 1) := dt_get (q := (672, .iadd, 1)) D_lw_8_ok 12 rfl
theorem d_lw_673 : decode code 673 = .ok (.iaload, 1) := dt_get (q := (673, .iaload, 1)) D_lw_8_ok 13 rfl
theorem d_lw_674 : decode code 674 = .ok (.invokevirtual 74, 3) := dt_get (q := (674, .invokevirtual 74, 3)) D_lw_8_ok 14 rfl
theorem d_lw_677 : decode code 677 = .ok (.pop, 1) := dt_get (q := (677, .pop, 1)) D_lw_8_ok 15 rfl
theorem d_lw_678 : decode code 678 = .ok (.aload_n 2, 1) := dt_get (q := (678, .aload_n 2, 1)) D_lw_8_ok 16 rfl
theorem d_lw_679 : decode code 679 = .ok (.aload_n 0, 1) := dt_get (q := (679, .aload_n 0, 1)) D_lw_8_ok 17 rfl
theorem d_lw_680 : decode code 680 = .ok (.iload 4, 2) := dt_get (q := (680, .iload 4, 2)) D_lw_8_ok 18 rfl
theorem d_lw_682 : decode code 682 = .ok (.iconst 1, 1) := dt_get (q := (682, .iconst 1, 1)) D_lw_8_ok 19 rfl
theorem d_lw_683 : decode code 683 = .ok (.iadd, 1) := dt_get (q := (683, .iadd, 1)) D_lw_8_ok 20 rfl
theorem d_lw_684 : decode code 684 = .ok (.iaload, 1) := dt_get (q := (684, .iaload, 1)) D_lw_8_ok 21 rfl
theorem d_lw_685 : decode code 685 = .ok (.aload_n 0, 1) := dt_get (q := (685, .aload_n 0, 1)) D_lw_8_ok 22 rfl
theorem d_lw_686 : decode code 686 = .ok (.iload 4, 2) := dt_get (q := (686, .iload 4, 2)) D_lw_8_ok 23 rfl
theorem d_lw_688 : decode code 688 = .ok (.iconst 2, 1) := dt_get (q := (688, .iconst 2, 1)) D_lw_8_ok 24 rfl
theorem d_lw_689 : decode code 689 = .ok (.iadd, 1) := dt_get (q := (689, .iadd, 1)) D_lw_8_ok 25 rfl
theorem d_lw_690 : decode code 690 = .ok (.iaload, 1) := dt_get (q := (690, .iaload, 1)) D_lw_8_ok 26 rfl
theorem d_lw_691 : decode code 691 = .ok (.invokevirtual 78, 3) := dt_get (q := (691, .invokevirtual 78, 3)) D_lw_8_ok 27 rfl
theorem d_lw_694 : decode code 694 = .ok (.pop, 1) := dt_get (q := (694, .pop, 1)) D_lw_8_ok 28 rfl
theorem d_lw_695 : decode code 695 = .ok (.goto 1525, 3) := dt_get (q := (695, .goto 1525, 3)) D_lw_8_ok 29 rfl
theorem d_lw_698 : decode code 698 = .ok (.aload_n 1, 1) := dt_get (q := (698, .aload_n 1, 1)) D_lw_8_ok 30 rfl
theorem d_lw_699 : decode code 699 = .ok (.aload_n 0, 1) := dt_get (q := (699, .aload_n 0, 1)) D_lw_8_ok 31 rfl
theorem d_lw_700 : decode code 700 = .ok (.iload 4, 2) := dt_get (q := (700, .iload 4, 2)) D_lw_8_ok 32 rfl
theorem d_lw_702 : decode code 702 = .ok (.iconst 1, 1) := dt_get (q := (702, .iconst 1, 1)) D_lw_8_ok 33 rfl
theorem d_lw_703 : decode code 703 = .ok (.iadd, 1) := dt_get (q := (703, .iadd, 1)) D_lw_8_ok 34 rfl
theorem d_lw_704 : decode code 704 = .ok (.iaload, 1) := dt_get (q := (704, .iaload, 1)) D_lw_8_ok 35 rfl
theorem d_lw_705 : decode code 705 = .ok (.aload_n 0, 1) := dt_get (q := (705, .aload_n 0, 1)) D_lw_8_ok 36 rfl
theorem d_lw_706 : decode code 706 = .ok (.iload 4, 2) := dt_get (q := (706, .iload 4, 2)) D_lw_8_ok 37 rfl
theorem d_lw_708 : decode code 708 = .ok (.iconst 2, 1) := dt_get (q := (708, .iconst 2, 1)) D_lw_8_ok 38 rfl
theorem d_lw_709 : decode code 709 = .ok (.iadd, 1) := dt_get (q := (709, .iadd, 1)) D_lw_8_ok 39 rfl
def D_lw_9 : DT := [(710, .iaload, 1), (711, .invokevirtual 79, 3), (714, .pop, 1), (715, .aload_n 2, 1), (716, .aload_n 0, 1), (717, .iload 4, 2), (719, .iconst 1, 1), (720, .iadd, 1), (721, .iaload, 1), (722, .aload_n 0, 1), (723, .iload 4, 2), (725, .iconst 2, 1), (726, .iadd, 1), (727, .iaload, 1), (728, .invokevirtual 82, 3), (731, .pop, 1), (732, .goto 1488, 3), (735, .aload_n 1, 1), (736, .aload_n 0, 1), (737, .iload 4, 2), (739, .iconst 1, 1), (740, .iadd, 1), (741, .iaload, 1), (742, .aload_n 0, 1), (743, .iload 4, 2), (745, .iconst 2, 1), (746, .iadd, 1), (747, .iaload, 1), (748, .invokevirtual 83, 3), (751, .pop, 1), (752, .aload_n 2, 1), (753, .aload_n 0, 1), (754, .iload 4, 2), (756, .iconst 1, 1), (757, .iadd, 1), (758, .iaload, 1), (759, .aload_n 0, 1), (760, .iload 4, 2), (762, .iconst 2, 1), (763, .iadd, 1)]
theorem D_lw_9_ok : dtOK code D_lw_9 = true := by decide +kernel
theorem d_lw_710 : decode code 710 = .ok (.iaload, 1) := dt_get (q := (710, .iaload, 1)) D_lw_9_ok 0 rfl
theorem d_lw_711 : decode code 711 = .ok (.invokevirtual 79, 3) := dt_get (q := (711, .invokevirtual 79, 3)) D_lw_9_ok 1 rfl
theorem d_lw_714 : decode code 714 = .ok (.pop, 1) := dt_get (q := (714, .pop, 1)) D_lw_9_ok 2 rfl
theorem d_lw_715 : decode code 715 = .ok (.aload_n 2, 1) := dt_get (q := (715, .aload_n 2, 1)) D_lw_9_ok 3 rfl
theorem d_lw_716 : decode code 716 = .ok (.aload_n 0, 1) := dt_get (q := (716, .aload_n 0, 1)) D_lw_9_ok 4 rfl
theorem d_lw_717 : decode code 717 = .ok (.iload 4, 2) := dt_get (q := (717, .iload 4, 2)) D_lw_9_ok 5 rfl
theorem d_lw_719 : decode code 719 = .ok (.iconst 1, 1) := dt_get (q := (719, .iconst 1, 1)) D_lw_9_ok 6 rfl
theorem d_lw_720 : decode code 720 = .ok (.iadd, 1) := dt_get (q := (720, .iadd, 1)) D_lw_9_ok 7 rfl
theorem d_lw_721 : decode code 721 = .ok (.iaload, 1) := dt_get (q := (721, .iaload, 1)) D_lw_9_ok 8 rfl
theorem d_lw_722 : decode code 722 = .ok (.aload_n 0, 1) := dt_get (q := (722, .aload_n 0, 1)) D_lw_9_ok 9 rfl
theorem d_lw_723 : decode code 723 = .ok (.iload 4, 2) := dt_get (q := (723, .iload 4, 2)) D_lw_9_ok 10 rfl
theorem d_lw_725 : decode code 725 = .ok (.iconst 2, 1) := dt_get (q := (725, .iconst 2, 1)) D_lw_9_ok 11 rfl
theorem d_lw_726 : decode code 726 = .ok (.iadd, 1) := dt_get (q := (726, .iadd, 1)) D_lw_9_ok 12 rfl
theorem d_lw_727 : decode code 727 = .ok (.iaload, 1) := dt_get (q := (727, .iaload, 1)) D_lw_9_ok 13 rfl
theorem d_lw_728 : decode code 728 = .ok (.invokevirtual 82, 3) := dt_get (q := (728, .invokevirtual 82, 3)) D_lw_9_ok 14 rfl
theorem d_lw_731 : decode code 731 = .ok (.pop, 1) := dt_get (q := (731, .pop, 1)) D_lw_9_ok 15 rfl
theorem d_lw_732 : decode code 732 = .ok (.goto 1488, 3) := dt_get (q := (732, .goto 1488, 3)) D_lw_9_ok 16 rfl
theorem d_lw_735 : decode code 735 = .ok (.aload_n 1, 1) := dt_get (q := (735, .aload_n 1, 1)) D_lw_9_ok 17 rfl
theorem d_lw_736 : decode code 736 = .ok (.aload_n 0, 1) := dt_get (q := (736, .aload_n 0, 1)) D_lw_9_ok 18 rfl
theorem d_lw_737 : decode code 737 = .ok (.iload 4, 2) := dt_get (q := (737, .iload 4, 2)) D_lw_9_ok 19 rfl
theorem d_lw_739 : decode code 739 = .ok (.iconst 1, 1) := dt_get (q := (739, .iconst 1, 1)) D_lw_9_ok 20 rfl
theorem d_lw_740 : decode code 740 = .ok (.iadd, 1) := dt_get (q := (740, .iadd, 1)) D_lw_9_ok 21 rfl
theorem d_lw_741 : decode code 741 = .ok (.iaload, 1) := dt_get (q := (741, .iaload, 1)) D_lw_9_ok 22 rfl
theorem d_lw_742 : decode code 742 = .ok (.aload_n 0, 1) := dt_get (q := (742, .aload_n 0, 1)) D_lw_9_ok 23 rfl
theorem d_lw_743 : decode code 743 = .ok (.iload 4, 2) := dt_get (q := (743, .iload 4, 2)) D_lw_9_ok 24 rfl
theorem d_lw_745 : decode code 745 = .ok (.iconst 2, 1) := dt_get (q := (745, .iconst 2, 1)) D_lw_9_ok 25 rfl
theorem d_lw_746 : decode code 746 = .ok (.iadd, 1) := dt_get (q := (746, .iadd, 1)) D_lw_9_ok 26 rfl
theorem d_lw_747 : decode code 747 = .ok (.iaload, 1) := dt_get (q := (747, .iaload, 1)) D_lw_9_ok 27 rfl
theorem d_lw_748 : decode code 748 = .ok (.invokevirtual 83, 3) := dt_get (q := (748, .invokevirtual 83, 3)) D_lw_9_ok 28 rfl
theorem d_lw_751 : decode code 751 = .ok (.pop, 1) := dt_get (q := (751, .pop, 1)) D_lw_9_ok 29 rfl
theorem d_lw_752 : decode code 752 = .ok (.aload_n 2, 1) := dt_get (q := (752, .aload_n 2, 1)) D_lw_9_ok 30 rfl
theorem d_lw_753 : decode code 753 = .ok (.aload_n 0, 1) := dt_get (q := (753, .aload_n 0, 1)) D_lw_9_ok 31 rfl
theorem d_lw_754 : decode code 754 = .ok (.iload 4, 2) := dt_get (q := (754, .iload 4, 2)) D_lw_9_ok 32 rfl
theorem d_lw_756 : decode code 756 = .ok (.iconst 1, 1) := dt_get (q := (756, .iconst 1, 1)) D_lw_9_ok 33 rfl
theorem d_lw_757 : decode code 757 = .ok (.iadd, 1) := dt_get (q := (757, .iadd, 1)) D_lw_9_ok 34 rfl
theorem d_lw_758 : decode code 758 = .ok (.iaload, 1) := dt_get (q := (758, .iaload, 1)) D_lw_9_ok 35 rfl
theorem d_lw_759 : decode code 759 = .ok (.aload_n 0, 1) := dt_get (q := (759, .aload_n 0, 1)) D_lw_9_ok 36 rfl
theorem d_lw_760 : decode code 760 = .ok (.iload 4, 2) := dt_get (q := (760, .iload 4, 2)) D_lw_9_ok 37 rfl
theorem d_lw_762 : decode code 762 = .ok (.iconst 2, 1) := dt_get (q := (762, .iconst 2, 1)) D_lw_9_ok 38 rfl
theorem d_lw_763 : decode code 763 = .ok (.iadd, 1) := dt_get (q := (763, .iadd, 1)) D_lw_9_ok 39 rfl
def D_lw_10 : DT := [(764, .iaload, 1), (765, .invokevirtual 86, 3), (768, .pop, 1), (769, .goto 1451, 3), (772, .aload_n 1, 1), (773, .aload_n 0, 1), (774, .iload 4, 2), (776, .iconst 1, 1), (777, .iadd, 1), (778, .iaload, 1), (779, .aload_n 0, 1), (780, .iload 4, 2), (782, .iconst 2, 1), (783, .iadd, 1), (784, .iaload, 1), (785, .aload_n 0, 1), (786, .iload 4, 2), (788, .iconst 3, 1), (789, .iadd, 1), (790, .iaload, 1), (791, .aload_n 0, 1), (792, .iload 4, 2), (794, .iconst 4, 1), (795, .iadd, 1), (796, .iaload, 1), (797, .invokevirtual 87, 3), (800, .pop, 1), (801, .aload_n 2, 1), (802, .aload_n 0, 1), (803, .iload 4, 2), (805, .iconst 1, 1), (806, .iadd, 1), (807, .iaload, 1), (808, .aload_n 0, 1), (809, .iload 4, 2), (811, .iconst 2, 1), (812, .iadd, 1), (813, .iaload, 1), (814, .aload_n 0, 1), (815, .iload 4, 2)]
theorem D_lw_10_ok : dtOK code D_lw_10 = true := by decide +kernel
theorem d_lw_764 : decode code 764 = .ok (.iaload, 1) := dt_get (q := (764, .iaload, 1)) D_lw_10_ok 0 rfl
theorem d_lw_765 : decode code 765 = .ok (.invokevirtual 86, 3) := dt_get (q := (765, .invokevirtual 86, 3)) D_lw_10_ok 1 rfl
theorem d_lw_768 : decode code 768 = .ok (.pop, 1) := dt_get (q := (768, .pop, 1)) D_lw_10_ok 2 rfl
theorem d_lw_769 : decode code 769 = .ok (.goto 1451, 3) := dt_get (q := (769, .goto 1451, 3)) D_lw_10_ok 3 rfl
theorem d_lw_772 : decode code 772 = .ok (.aload_n 1, 1) := dt_get (q := (772, .aload_n 1, 1)) D_lw_10_ok 4 rfl
theorem d_lw_773 : decode code 773 = .ok (.aload_n 0, 1) := dt_get (q := (773, .aload_n 0, 1)) D_lw_10_ok 5 rfl
theorem d_lw_774 : decode code 774 = .ok (.iload 4, 2) := dt_get (q := (774, .iload 4, 2)) D_lw_10_ok 6 rfl
theorem d_lw_776 : decode code 776 = .ok (.iconst 1, 1) := dt_get (q := (776, .iconst 1, 1)) D_lw_10_ok 7 rfl
theorem d_lw_777 : decode code 777 = .ok (.iadd, 1) := dt_get (q := (777, .iadd, 1)) D_lw_10_ok 8 rfl
theorem d_lw_778 : decode code 778 = .ok (.iaload, 1) := dt_get (q := (778, .iaload, 1)) D_lw_10_ok 9 rfl
theorem d_lw_779 : decode code 779 = .ok (.aload_n 0, 1) := dt_get (q := (779, .aload_n 0, 1)) D_lw_10_ok 10 rfl
theorem d_lw_780 : decode code 780 = .ok (.iload 4, 2) := dt_get (q := (780, .iload 4, 2)) D_lw_10_ok 11 rfl
theorem d_lw_782 : decode code 782 = .ok (.iconst 2, 1) := dt_get (q := (782, .iconst 2, 1)) D_lw_10_ok 12 rfl
theorem d_lw_783 : decode code 783 = .ok (.iadd, 1) := dt_get (q := (783, .iadd, 1)) D_lw_10_ok 13 rfl
theorem d_lw_784 : decode code 784 = .ok (.iaload, 1) := dt_get (q := (784, .iaload, 1)) D_lw_10_ok 14 rfl
theorem d_lw_785 : decode code 785 = .ok (.aload_n 0, 1) := dt_get (q := (785, .aload_n 0, 1)) D_lw_10_ok 15 rfl
theorem d_lw_786 : decode code 786 = .ok (.iload 4, 2) := dt_get (q := (786, .iload 4, 2)) D_lw_10_ok 16 rfl
theorem d_lw_788 : decode code 788 = .ok (.iconst 3, 1) := dt_get (q := (788, .iconst 3, 1)) D_lw_10_ok 17 rfl
theorem d_lw_789 : decode code 789 = .ok (.iadd, 1) := dt_get (q := (789, .iadd, 1)) D_lw_10_ok 18 rfl
theorem d_lw_790 : decode code 790 = .ok (.iaload, 1) := dt_get (q := (790, .iaload, 1)) D_lw_10_ok 19 rfl
theorem d_lw_791 : decode code 791 = .ok (.aload_n 0, 1) := dt_get (q := (791, .aload_n 0, 1)) D_lw_10_ok 20 rfl
theorem d_lw_792 : decode code 792 = .ok (.iload 4, 2) := dt_get (q := (792, .iload 4, 2)) D_lw_10_ok 21 rfl
theorem d_lw_794 : decode code 794 = .ok (.iconst 4, 1) := dt_get (q := (794, .iconst 4, 1)) D_lw_10_ok 22 rfl
theorem d_lw_795 : decode code 795 = .ok (.iadd, 1) := dt_get (q := (795, .iadd, 1)) D_lw_10_ok 23 rfl
theorem d_lw_796 : decode code 796 = .ok (.iaload, 1) := dt_get (q := (796, .iaload, 1)) D_lw_10_ok 24 rfl
theorem d_lw_797 : decode code 797 = .ok (.invokevirtual 87, 3) := dt_get (q := (797, .invokevirtual 87, 3)) D_lw_10_ok 25 rfl
theorem d_lw_800 : decode code 800 = .ok (.pop, 1) := dt_get (q := (800, .pop, 1)) D_lw_10_ok 26 rfl
theorem d_lw_801 : decode code 801 = .ok (.aload_n 2, 1) := dt_get (q := (801, .aload_n 2, 1)) D_lw_10_ok 27 rfl
theorem d_lw_802 : decode code 802 = .ok (.aload_n 0, 1) := dt_get (q := (802, .aload_n 0, 1)) D_lw_10_ok 28 rfl
theorem d_lw_803 : decode code 803 = .ok (.iload 4, 2) := dt_get (q := (803, .iload 4, 2)) D_lw_10_ok 29 rfl
theorem d_lw_805 : decode code 805 = .ok (.iconst 1, 1) := dt_get (q := (805, .iconst 1, 1)) D_lw_10_ok 30 rfl
theorem d_lw_806 : decode code 806 = .ok (.iadd, 1) := dt_get (q := (806, .iadd, 1)) D_lw_10_ok 31 rfl
theorem d_lw_807 : decode code 807 = .ok (.iaload, 1) := dt_get (q := (807, .iaload, 1)) D_lw_10_ok 32 rfl
theorem d_lw_808 : decode code 808 = .ok (.aload_n 0, 1) := dt_get (q := (808, .aload_n 0, 1)) D_lw_10_ok 33 rfl
theorem d_lw_809 : decode code 809 = .ok (.iload 4, 2) := dt_get (q := (809, .iload 4, 2)) D_lw_10_ok 34 rfl
theorem d_lw_811 : decode code 811 = .ok (.iconst 2, 1) := dt_get (q := (811, .iconst 2, 1)) D_lw_10_ok 35 rfl
theorem d_lw_812 : decode code 812 = .ok (.iadd, 1) := dt_get (q := (812, .iadd, 1)) D_lw_10_ok 36 rfl
theorem d_lw_813 : decode code 813 = .ok (.iaload, 1) := dt_get (q := (813, .iaload, 1)) D_lw_10_ok 37 rfl
theorem d_lw_814 : decode code 814 = .ok (.aload_n 0, 1) := dt_get (q := (814, .aload_n 0, 1)) D_lw_10_ok 38 rfl
theorem d_lw_815 : decode code 815 = .ok (.iload 4, 2) := dt_get (q := (815, .iload 4, 2)) D_lw_10_ok 39 rfl
def D_lw_11 : DT := [(817, .iconst 3, 1), (818, .iadd, 1), (819, .iaload, 1), (820, .aload_n 0, 1), (821, .iload 4, 2), (823, .iconst 4, 1), (824, .iadd, 1), (825, .iaload, 1), (826, .invokevirtual 90, 3), (829, .pop, 1), (830, .goto 1390, 3), (833, .aload_n 1, 1), (834, .aload_n 0, 1), (835, .iload 4, 2), (837, .iconst 1, 1), (838, .iadd, 1), (839, .iaload, 1), (840, .aload_n 0, 1), (841, .iload 4, 2), (843, .iconst 2, 1), (844, .iadd, 1), (845, .iaload, 1), (846, .aload_n 0, 1), (847, .iload 4, 2), (849, .iconst 3, 1), (850, .iadd, 1), (851, .iaload, 1), (852, .invokevirtual 91, 3), (855, .pop, 1), (856, .aload_n 2, 1), (857, .aload_n 0, 1), (858, .iload 4, 2), (860, .iconst 1, 1), (861, .iadd, 1), (862, .iaload, 1), (863, .aload_n 0, 1), (864, .iload 4, 2), (866, .iconst 2, 1), (867, .iadd, 1), (868, .iaload, 1)]
theorem D_lw_11_ok : dtOK code D_lw_11 = true := by decide +kernel
theorem d_lw_817 : decode code 817 = .ok (.iconst 3, 1) := dt_get (q := (817, .iconst 3, 1)) D_lw_11_ok 0 rfl
theorem d_lw_818 : decode code 818 = .ok (.iadd, 1) := dt_get (q := (818, .iadd, 1)) D_lw_11_ok 1 rfl
theorem d_lw_819 : decode code 819 = .ok (.iaload, 1) := dt_get (q := (819, .iaload, 1)) D_lw_11_ok 2 rfl
theorem d_lw_820 : decode code 820 = .ok (.aload_n 0, 1) := dt_get (q := (820, .aload_n 0, 1)) D_lw_11_ok 3 rfl
theorem d_lw_821 : decode code 821 = .ok (.iload 4, 2) := dt_get (q := (821, .iload 4, 2)) D_lw_11_ok 4 rfl
theorem d_lw_823 : decode code 823 = .ok (.iconst 4, 1) := dt_get (q := (823, .iconst 4, 1)) D_lw_11_ok 5 rfl
theorem d_lw_824 : decode code 824 = .ok (.iadd, 1) := dt_get (q := (824, .iadd, 1)) D_lw_11_ok 6 rfl
theorem d_lw_825 : decode code 825 = .ok (.iaload, 1) := dt_get (q := (825, .iaload, 1)) D_lw_11_ok 7 rfl
theorem d_lw_826 : decode code 826 = .ok (.invokevirtual 90, 3) := dt_get (q := (826, .invokevirtual 90, 3)) D_lw_11_ok 8 rfl
theorem d_lw_829 : decode code 829 = .ok (.pop, 1) := dt_get (q := (829, .pop, 1)) D_lw_11_ok 9 rfl
theorem d_lw_830 : decode code 830 = .ok (.goto 1390, 3) := dt_get (q := (830, .goto 1390, 3)) D_lw_11_ok 10 rfl
theorem d_lw_833 : decode code 833 = .ok (.aload_n 1, 1) := dt_get (q := (833, .aload_n 1, 1)) D_lw_11_ok 11 rfl
theorem d_lw_834 : decode code 834 = .ok (.aload_n 0, 1) := dt_get (q := (834, .aload_n 0, 1)) D_lw_11_ok 12 rfl
theorem d_lw_835 : decode code 835 = .ok (.iload 4, 2) := dt_get (q := (835, .iload 4, 2)) D_lw_11_ok 13 rfl
theorem d_lw_837 : decode code 837 = .ok (.iconst 1, 1) := dt_get (q := (837, .iconst 1, 1)) D_lw_11_ok 14 rfl
theorem d_lw_838 : decode code 838 = .ok (.iadd, 1) := dt_get (q := (838, .iadd, 1)) D_lw_11_ok 15 rfl
theorem d_lw_839 : decode code 839 = .ok (.iaload, 1) := dt_get (q := (839, .iaload, 1)) D_lw_11_ok 16 rfl
theorem d_lw_840 : decode code 840 = .ok (.aload_n 0, 1) := dt_get (q := (840, .aload_n 0, 1)) D_lw_11_ok 17 rfl
theorem d_lw_841 : decode code 841 = .ok (.iload 4, 2) := dt_get (q := (841, .iload 4, 2)) D_lw_11_ok 18 rfl
theorem d_lw_843 : decode code 843 = .ok (.iconst 2, 1) := dt_get (q := (843, .iconst 2, 1)) D_lw_11_ok 19 rfl
theorem d_lw_844 : decode code 844 = .ok (.iadd, 1) := dt_get (q := (844, .iadd, 1)) D_lw_11_ok 20 rfl
theorem d_lw_845 : decode code 845 = .ok (.iaload, 1) := dt_get (q := (845, .iaload, 1)) D_lw_11_ok 21 rfl
theorem d_lw_846 : decode code 846 = .ok (.aload_n 0, 1) := dt_get (q := (846, .aload_n 0, 1)) D_lw_11_ok 22 rfl
theorem d_lw_847 : decode code 847 = .ok (.iload 4, 2) := dt_get (q := (847, .iload 4, 2)) D_lw_11_ok 23 rfl
theorem d_lw_849 : decode code 849 = .ok (.iconst 3, 1) := dt_get (q := (849, .iconst 3, 1)) D_lw_11_ok 24 rfl
theorem d_lw_850 : decode code 850 = .ok (.iadd, 1) := dt_get (q := (850, .iadd, 1)) D_lw_11_ok 25 rfl
theorem d_lw_851 : decode code 851 = .ok (.iaload, 1) := dt_get (q := (851, .iaload, 1)) D_lw_11_ok 26 rfl
theorem d_lw_852 : decode code 852 = .ok (.invokevirtual 91, 3) := dt_get (q := (852, .invokevirtual 91, 3)) D_lw_11_ok 27 rfl
theorem d_lw_855 : decode code 855 = .ok (.pop, 1) := dt_get (q := (855, .pop, 1)) D_lw_11_ok 28 rfl
theorem d_lw_856 : decode code 856 = .ok (.aload_n 2, 1) := dt_get (q := (856, .aload_n 2, 1)) D_lw_11_ok 29 rfl
theorem d_lw_857 : decode code 857 = .ok (.aload_n 0, 1) := dt_get (q := (857, .aload_n 0, 1)) D_lw_11_ok 30 rfl
theorem d_lw_858 : decode code 858 = .ok (.iload 4, 2) := dt_get (q := (858, .iload 4, 2)) D_lw_11_ok 31 rfl
theorem d_lw_860 : decode code 860 = .ok (.iconst 1, 1) := dt_get (q := (860, .iconst 1, 1)) D_lw_11_ok 32 rfl
theorem d_lw_861 : decode code 861 = .ok (.iadd, 1) := dt_get (q := (861, .iadd, 1)) D_lw_11_ok 33 rfl
theorem d_lw_862 : decode code 862 = .ok (.iaload, 1) := dt_get (q := (862, .iaload, 1)) D_lw_11_ok 34 rfl
theorem d_lw_863 : decode code 863 = .ok (.aload_n 0, 1) := dt_get (q := (863, .aload_n 0, 1)) D_lw_11_ok 35 rfl
theorem d_lw_864 : decode code 864 = .ok (.iload 4, 2) := dt_get (q := (864, .iload 4, 2)) D_lw_11_ok 36 rfl
theorem d_lw_866 : decode code 866 = .ok (.iconst 2, 1) := dt_get (q := (866, .iconst 2, 1)) D_lw_11_ok 37 rfl
theorem d_lw_867 : decode code 867 = .ok (.iadd, 1) := dt_get (q := (867, .iadd, 1)) D_lw_11_ok 38 rfl
theorem d_lw_868 : decode code 868 = .ok (.iaload, 1) := dt_get (q := (868, .iaload, 1)) D_lw_11_ok 39 rfl
def D_lw_12 : DT := [(869, .aload_n 0, 1), (870, .iload 4, 2), (872, .iconst 3, 1), (873, .iadd, 1), (874, .iaload, 1), (875, .invokevirtual 94, 3), (878, .pop, 1), (879, .goto 1341, 3), (882, .aload_n 1, 1), (883, .invokevirtual 95, 3), (886, .pop, 1), (887, .aload_n 2, 1), (888, .invokevirtual 98, 3), (891, .pop, 1), (892, .goto 1328, 3), (895, .aload_n 1, 1), (896, .invokevirtual 99, 3), (899, .pop, 1), (900, .aload_n 2, 1), (901, .invokevirtual 102, 3), (904, .pop, 1), (905, .goto 1315, 3), (908, .aload_n 1, 1), (909, .invokevirtual 103, 3), (912, .pop, 1), (913, .aload_n 2, 1), (914, .invokevirtual 106, 3), (917, .pop, 1), (918, .goto 1302, 3), (921, .aload_n 1, 1), (922, .aload_n 0, 1), (923, .iload 4, 2), (925, .iconst 1, 1), (926, .iadd, 1), (927, .iaload, 1), (928, .aload_n 0, 1), (929, .iload 4, 2), (931, .iconst 2, 1), (932, .iadd, 1), (933, .iaload, 1)]
theorem D_lw_12_ok : dtOK code D_lw_12 = true := by decide +kernel
theorem d_lw_869 : decode code 869 = .ok (.aload_n 0, 1) := dt_get (q := (869, .aload_n 0, 1)) D_lw_12_ok 0 rfl
theorem d_lw_870 : decode code 870 = .ok (.iload 4, 2) := dt_get (q := (870, .iload 4, 2)) D_lw_12_ok 1 rfl
theorem d_lw_872 : decode code 872 = .ok (.iconst 3, 1) := dt_get (q := (872, .iconst 3, 1)) D_lw_12_ok 2 rfl
theorem d_lw_873 : decode code 873 = .ok (.iadd, 1) := dt_get (q := (873, .iadd, 1)) D_lw_12_ok 3 rfl
theorem d_lw_874 : decode code 874 = .ok (.iaload, 1) := dt_get (q := (874, .iaload, 1)) D_lw_12_ok 4 rfl
theorem d_lw_875 : decode code 875 = .ok (.invokevirtual 94, 3) := dt_get (q := (875, .invokevirtual 94, 3)) D_lw_12_ok 5 rfl
theorem d_lw_878 : decode code 878 = .ok (.pop, 1) := dt_get (q := (878, .pop, 1)) D_lw_12_ok 6 rfl
theorem d_lw_879 : decode code 879 = .ok (.goto 1341, 3) := dt_get (q := (879, .goto 1341, 3)) D_lw_12_ok 7 rfl
theorem d_lw_882 : decode code 882 = .ok (.aload_n 1, 1) := dt_get (q := (882, .aload_n 1, 1)) D_lw_12_ok 8 rfl
theorem d_lw_883 : decode code 883 = .ok (.invokevirtual 95, 3) := dt_get (q := (883, .invokevirtual 95, 3)) D_lw_12_ok 9 rfl
theorem d_lw_886 : decode code 886 = .ok (.pop, 1) := dt_get (q := (886, .pop, 1)) D_lw_12_ok 10 rfl
theorem d_lw_887 : decode code 887 = .ok (.aload_n 2, 1) := dt_get (q := (887, .aload_n 2, 1)) D_lw_12_ok 11 rfl
theorem d_lw_888 : decode code 888 = .ok (.invokevirtual 98, 3) := dt_get (q := (888, .invokevirtual 98, 3)) D_lw_12_ok 12 rfl
theorem d_lw_891 : decode code 891 = .ok (.pop, 1) := dt_get (q := (891, .pop, 1)) D_lw_12_ok 13 rfl
theorem d_lw_892 : decode code 892 = .ok (.goto 1328, 3) := dt_get (q := (892, .goto 1328, 3)) D_lw_12_ok 14 rfl
theorem d_lw_895 : decode code 895 = .ok (.aload_n 1, 1) := dt_get (q := (895, .aload_n 1, 1)) D_lw_12_ok 15 rfl
theorem d_lw_896 : decode code 896 = .ok (.invokevirtual 99, 3) := dt_get (q := (896, .invokevirtual 99, 3)) D_lw_12_ok 16 rfl
theorem d_lw_899 : decode code 899 = .ok (.pop, 1) := dt_get (q := (899, .pop, 1)) D_lw_12_ok 17 rfl
theorem d_lw_900 : decode code 900 = .ok (.aload_n 2, 1) := dt_get (q := (900, .aload_n 2, 1)) D_lw_12_ok 18 rfl
theorem d_lw_901 : decode code 901 = .ok (.invokevirtual 102, 3) := dt_get (q := (901, .invokevirtual 102, 3)) D_lw_12_ok 19 rfl
theorem d_lw_904 : decode code 904 = .ok (.pop, 1) := dt_get (q := (904, .pop, 1)) D_lw_12_ok 20 rfl
theorem d_lw_905 : decode code 905 = .ok (.goto 1315, 3) := dt_get (q := (905, .goto 1315, 3)) D_lw_12_ok 21 rfl
theorem d_lw_908 : decode code 908 = .ok (.aload_n 1, 1) := dt_get (q := (908, .aload_n 1, 1)) D_lw_12_ok 22 rfl
theorem d_lw_909 : decode code 909 = .ok (.invokevirtual 103, 3) := dt_get (q := (909, .invokevirtual 103, 3)) D_lw_12_ok 23 rfl
theorem d_lw_912 : decode code 912 = .ok (.pop, 1) := dt_get (q := (912, .pop, 1)) D_lw_12_ok 24 rfl
theorem d_lw_913 : decode code 913 = .ok (.aload_n 2, 1) := dt_get (q := (913, .aload_n 2, 1)) D_lw_12_ok 25 rfl
theorem d_lw_914 : decode code 914 = .ok (.invokevirtual 106, 3) := dt_get (q := (914, .invokevirtual 106, 3)) D_lw_12_ok 26 rfl
theorem d_lw_917 : decode code 917 = .ok (.pop, 1) := dt_get (q := (917, .pop, 1)) D_lw_12_ok 27 rfl
theorem d_lw_918 : decode code 918 = .ok (.goto 1302, 3) := dt_get (q := (918, .goto 1302, 3)) D_lw_12_ok 28 rfl
theorem d_lw_921 : decode code 921 = .ok (.aload_n 1, 1) := dt_get (q := (921, .aload_n 1, 1)) D_lw_12_ok 29 rfl
theorem d_lw_922 : decode code 922 = .ok (.aload_n 0, 1) := dt_get (q := (922, .aload_n 0, 1)) D_lw_12_ok 30 rfl
theorem d_lw_923 : decode code 923 = .ok (.iload 4, 2) := dt_get (q := (923, .iload 4, 2)) D_lw_12_ok 31 rfl
theorem d_lw_925 : decode code 925 = .ok (.iconst 1, 1) := dt_get (q := (925, .iconst 1, 1)) D_lw_12_ok 32 rfl
theorem d_lw_926 : decode code 926 = .ok (.iadd, 1) := dt_get (q := (926, .iadd, 1)) D_lw_12_ok 33 rfl
theorem d_lw_927 : decode code 927 = .ok (.iaload, 1) := dt_get (q := (927, .iaload, 1)) D_lw_12_ok 34 rfl
theorem d_lw_928 : decode code 928 = .ok (.aload_n 0, 1) := dt_get (q := (928, .aload_n 0, 1)) D_lw_12_ok 35 rfl
theorem d_lw_929 : decode code 929 = .ok (.iload 4, 2) := dt_get (q := (929, .iload 4, 2)) D_lw_12_ok 36 rfl
theorem d_lw_931 : decode code 931 = .ok (.iconst 2, 1) := dt_get (q := (931, .iconst 2, 1)) D_lw_12_ok 37 rfl
theorem d_lw_932 : decode code 932 = .ok (.iadd, 1) := dt_get (q := (932, .iadd, 1)) D_lw_12_ok 38 rfl
theorem d_lw_933 : decode code 933 = .ok (.iaload, 1) := dt_get (q := (933, .iaload, 1)) D_lw_12_ok 39 rfl
def D_lw_13 : DT := [(934, .invokevirtual 107, 3), (937, .pop, 1), (938, .aload_n 2, 1), (939, .aload_n 0, 1), (940, .iload 4, 2), (942, .iconst 1, 1), (943, .iadd, 1), (944, .iaload, 1), (945, .aload_n 0, 1), (946, .iload 4, 2), (948, .iconst 2, 1), (949, .iadd, 1), (950, .iaload, 1), (951, .invokevirtual 110, 3), (954, .pop, 1), (955, .goto 1265, 3), (958, .aload_n 1, 1), (959, .invokevirtual 111, 3), (962, .pop, 1), (963, .aload_n 2, 1), (964, .invokevirtual 114, 3), (967, .pop, 1), (968, .goto 1252, 3), (971, .aload_n 1, 1), (972, .aload_n 0, 1), (973, .iload 4, 2), (975, .iconst 1, 1), (976, .iadd, 1), (977, .iaload, 1), (978, .aload_n 0, 1), (979, .iload 4, 2), (981, .iconst 2, 1), (982, .iadd, 1), (983, .iaload, 1), (984, .invokevirtual 115, 3), (987, .pop, 1), (988, .aload_n 2, 1), (989, .aload_n 0, 1), (990, .iload 4, 2), (992, .iconst 1, 1)]
theorem D_lw_13_ok : dtOK code D_lw_13 = true := by decide +kernel
theorem d_lw_934 : decode code 934 = .ok (.invokevirtual 107, 3) := dt_get (q := (934, .invokevirtual 107, 3)) D_lw_13_ok 0 rfl
theorem d_lw_937 : decode code 937 = .ok (.pop, 1) := dt_get (q := (937, .pop, 1)) D_lw_13_ok 1 rfl
theorem d_lw_938 : decode code 938 = .ok (.aload_n 2, 1) := dt_get (q := (938, .aload_n 2, 1)) D_lw_13_ok 2 rfl
theorem d_lw_939 : decode code 939 = .ok (.aload_n 0, 1) := dt_get (q := (939, .aload_n 0, 1)) D_lw_13_ok 3 rfl
theorem d_lw_940 : decode code 940 = .ok (.iload 4, 2) := dt_get (q := (940, .iload 4, 2)) D_lw_13_ok 4 rfl
theorem d_lw_942 : decode code 942 = .ok (.iconst 1, 1) := dt_get (q := (942, .iconst 1, 1)) D_lw_13_ok 5 rfl
theorem d_lw_943 : decode code 943 = .ok (.iadd, 1) := dt_get (q := (943, .iadd, 1)) D_lw_13_ok 6 rfl
theorem d_lw_944 : decode code 944 = .ok (.iaload, 1) := dt_get (q := (944, .iaload, 1)) D_lw_13_ok 7 rfl
theorem d_lw_945 : decode code 945 = .ok (.aload_n 0, 1) := dt_get (q := (945, .aload_n 0, 1)) D_lw_13_ok 8 rfl
theorem d_lw_946 : decode code 946 = .ok (.iload 4, 2) := dt_get (q := (946, .iload 4, 2)) D_lw_13_ok 9 rfl
theorem d_lw_948 : decode code 948 = .ok (.iconst 2, 1) := dt_get (q := (948, .iconst 2, 1)) D_lw_13_ok 10 rfl
theorem d_lw_949 : decode code 949 = .ok (.iadd, 1) := dt_get (q := (949, .iadd, 1)) D_lw_13_ok 11 rfl
theorem d_lw_950 : decode code 950 = .ok (.iaload, 1) := dt_get (q := (950, .iaload, 1)) D_lw_13_ok 12 rfl
theorem d_lw_951 : decode code 951 = .ok (.invokevirtual 110, 3) := dt_get (q := (951, .invokevirtual 110, 3)) D_lw_13_ok 13 rfl
theorem d_lw_954 : decode code 954 = .ok (.pop, 1) := dt_get (q := (954, .pop, 1)) D_lw_13_ok 14 rfl
theorem d_lw_955 : decode code 955 = .ok (.goto 1265, 3) := dt_get (q := (955, .goto 1265, 3)) D_lw_13_ok 15 rfl
theorem d_lw_958 : decode code 958 = .ok (.aload_n 1, 1) := dt_get (q := (958, .aload_n 1, 1)) D_lw_13_ok 16 rfl
theorem d_lw_959 : decode code 959 = .ok (.invokevirtual 111, 3) := dt_get (q := (959, .invokevirtual 111, 3)) D_lw_13_ok 17 rfl
theorem d_lw_962 : decode code 962 = .ok (.pop, 1) := dt_get (q := (962, .pop, 1)) D_lw_13_ok 18 rfl
theorem d_lw_963 : decode code 963 = .ok (.aload_n 2, 1) := dt_get (q := (963, .aload_n 2, 1)) D_lw_13_ok 19 rfl
theorem d_lw_964 : decode code 964 = .ok (.invokevirtual 114, 3) := dt_get (q := (964, .invokevirtual 114, 3)) D_lw_13_ok 20 rfl
theorem d_lw_967 : decode code 967 = .ok (.pop, 1) := dt_get (q := (967, .pop, 1)) D_lw_13_ok 21 rfl
theorem d_lw_968 : decode code 968 = .ok (.goto 1252, 3) := dt_get (q := (968, .goto 1252, 3)) D_lw_13_ok 22 rfl
theorem d_lw_971 : decode code 971 = .ok (.aload_n 1, 1) := dt_get (q := (971, .aload_n 1, 1)) D_lw_13_ok 23 rfl
theorem d_lw_972 : decode code 972 = .ok (.aload_n 0, 1) := dt_get (q := (972, .aload_n 0, 1)) D_lw_13_ok 24 rfl
theorem d_lw_973 : decode code 973 = .ok (.iload 4, 2) := dt_get (q := (973, .iload 4, 2)) D_lw_13_ok 25 rfl
theorem d_lw_975 : decode code 975 = .ok (.iconst 1, 1) := dt_get (q := (975, .iconst 1, 1)) D_lw_13_ok 26 rfl
theorem d_lw_976 : decode code 976 = .ok (.iadd, 1) := dt_get (q := (976, .iadd, 1)) D_lw_13_ok 27 rfl
theorem d_lw_977 : decode code 977 = .ok (.iaload, 1) := dt_get (q := (977, .iaload, 1)) D_lw_13_ok 28 rfl
theorem d_lw_978 : decode code 978 = .ok (.aload_n 0, 1) := dt_get (q := (978, .aload_n 0, 1)) D_lw_13_ok 29 rfl
theorem d_lw_979 : decode code 979 = .ok (.iload 4, 2) := dt_get (q := (979, .iload 4, 2)) D_lw_13_ok 30 rfl
theorem d_lw_981 : decode code 981 = .ok (.iconst 2, 1) := dt_get (q := (981, .iconst 2, 1)) D_lw_13_ok 31 rfl
theorem d_lw_982 : decode code 982 = .ok (.iadd, 1) := dt_get (q := (982, .iadd, 1)) D_lw_13_ok 32 rfl
theorem d_lw_983 : decode code 983 = .ok (.iaload, 1) := dt_get (q := (983, .iaload, 1)) D_lw_13_ok 33 rfl
theorem d_lw_984 : decode code 984 = .ok (.invokevirtual 115, 3) := dt_get (q := (984, .invokevirtual 115, 3)) D_lw_13_ok 34 rfl
theorem d_lw_987 : decode code 987 = .ok (.pop, 1) := dt_get (q := (987, .pop, 1)) D_lw_13_ok 35 rfl
theorem d_lw_988 : decode code 988 = .ok (.aload_n 2, 1) := dt_get (q := (988, .aload_n 2, 1)) D_lw_13_ok 36 rfl
theorem d_lw_989 : decode code 989 = .ok (.aload_n 0, 1) := dt_get (q := (989, .aload_n 0, 1)) D_lw_13_ok 37 rfl
theorem d_lw_990 : decode code 990 = .ok (.iload 4, 2) := dt_get (q := (990, .iload 4, 2)) D_lw_13_ok 38 rfl
theorem d_lw_992 : decode code 992 = .ok (.iconst 1, 1) := dt_get (q := (992, .iconst 1, 1)) D_lw_13_ok 39 rfl
def D_lw_14 : DT := [(993, .iadd, 1), (994, .iaload, 1), (995, .aload_n 0, 1), (996, .iload 4, 2), (998, .iconst 2, 1), (999, .iadd, 1), (1000, .iaload, 1), (1001, .invokevirtual 118, 3), (1004, .pop, 1), (1005, .goto 1215, 3), (1008, .aload_n 1, 1), (1009, .aload_n 0, 1), (1010, .iload 4, 2), (1012, .iconst 1, 1), (1013, .iadd, 1), (1014, .iaload, 1), (1015, .aload_n 0, 1), (1016, .iload 4, 2), (1018, .iconst 2, 1), (1019, .iadd, 1), (1020, .iaload, 1), (1021, .aload_n 0, 1), (1022, .iload 4, 2), (1024, .iconst 3, 1), (1025, .iadd, 1), (1026, .iaload, 1), (1027, .invokevirtual 119, 3), (1030, .pop, 1), (1031, .aload_n 2, 1), (1032, .aload_n 0, 1), (1033, .iload 4, 2), (1035, .iconst 1, 1), (1036, .iadd, 1), (1037, .iaload, 1), (1038, .aload_n 0, 1), (1039, .iload 4, 2), (1041, .iconst 2, 1), (1042, .iadd, 1), (1043, .iaload, 1), (1044, .aload_n 0, 1)]
theorem D_lw_14_ok : dtOK code D_lw_14 = true := by decide +kernel
theorem d_lw_993 : decode code 993 = .ok (.iadd, 1) := dt_get (q := (993, .iadd, 1)) D_lw_14_ok 0 rfl
theorem d_lw_994 : decode code 994 = .ok (.iaload, 1) := dt_get (q := (994, .iaload, 1)) D_lw_14_ok 1 rfl
theorem d_lw_995 : decode code 995 = .ok (.aload_n 0, 1) := dt_get (q := (995, .aload_n 0, 1)) D_lw_14_ok 2 rfl
theorem d_lw_996 : decode code 996 = .ok (.iload 4, 2) := dt_get (q := (996, .iload 4, 2)) D_lw_14_ok 3 rfl
theorem d_lw_998 : decode code 998 = .ok (.iconst 2, 1) := dt_get (q := (998, .iconst 2, 1)) D_lw_14_ok 4 rfl
theorem d_lw_999 : decode code 999 = .ok (.iadd, 1) := dt_get (q := (999, .iadd, 1)) D_lw_14_ok 5 rfl
theorem d_lw_1000 : decode code 1000 = .ok (.iaload, 1) := dt_get (q := (1000, .iaload, 1)) D_lw_14_ok 6 rfl
theorem d_lw_1001 : decode code 1001 = .ok (.invokevirtual 118, 3) := dt_get (q := (1001, .invokevirtual 118, 3)) D_lw_14_ok 7 rfl
theorem d_lw_1004 : decode code 1004 = .ok (.pop, 1) := dt_get (q := (1004, .pop, 1)) D_lw_14_ok 8 rfl
theorem d_lw_1005 : decode code 1005 = .ok (.goto 1215, 3) := dt_get (q := (1005, .goto 1215, 3)) D_lw_14_ok 9 rfl
theorem d_lw_1008 : decode code 1008 = .ok (.aload_n 1, 1) := dt_get (q := (1008, .aload_n 1, 1)) D_lw_14_ok 10 rfl
theorem d_lw_1009 : decode code 1009 = .ok (.aload_n 0, 1) := dt_get (q := (1009, .aload_n 0, 1)) D_lw_14_ok 11 rfl
theorem d_lw_1010 : decode code 1010 = .ok (.iload 4, 2) := dt_get (q := (1010, .iload 4, 2)) D_lw_14_ok 12 rfl
theorem d_lw_1012 : decode code 1012 = .ok (.iconst 1, 1) := dt_get (q := (1012, .iconst 1, 1)) D_lw_14_ok 13 rfl
theorem d_lw_1013 : decode code 1013 = .ok (.iadd, 1) := dt_get (q := (1013, .iadd, 1)) D_lw_14_ok 14 rfl
theorem d_lw_1014 : decode code 1014 = .ok (.iaload, 1) := dt_get (q := (1014, .iaload, 1)) D_lw_14_ok 15 rfl
theorem d_lw_1015 : decode code 1015 = .ok (.aload_n 0, 1) := dt_get (q := (1015, .aload_n 0, 1)) D_lw_14_ok 16 rfl
theorem d_lw_1016 : decode code 1016 = .ok (.iload 4, 2) := dt_get (q := (1016, .iload 4, 2)) D_lw_14_ok 17 rfl
theorem d_lw_1018 : decode code 1018 = .ok (.iconst 2, 1) := dt_get (q := (1018, .iconst 2, 1)) D_lw_14_ok 18 rfl
theorem d_lw_1019 : decode code 1019 = .ok (.iadd, 1) := dt_get (q := (1019, .iadd, 1)) D_lw_14_ok 19 rfl
theorem d_lw_1020 : decode code 1020 = .ok (.iaload, 1) := dt_get (q := (1020, .iaload, 1)) D_lw_14_ok 20 rfl
theorem d_lw_1021 : decode code 1021 = .ok (.aload_n 0, 1) := dt_get (q := (1021, .aload_n 0, 1)) D_lw_14_ok 21 rfl
theorem d_lw_1022 : decode code 1022 = .ok (.iload 4, 2) := dt_get (q := (1022, .iload 4, 2)) D_lw_14_ok 22 rfl
theorem d_lw_1024 : decode code 1024 = .ok (.iconst 3, 1) := dt_get (q := (1024, .iconst 3, 1)) D_lw_14_ok 23 rfl
theorem d_lw_1025 : decode code 1025 = .ok (.iadd, 1) := dt_get (q := (1025, .iadd, 1)) D_lw_14_ok 24 rfl
theorem d_lw_1026 : decode code 1026 = .ok (.iaload, 1) := dt_get (q := (1026, .iaload, 1)) D_lw_14_ok 25 rfl
theorem d_lw_1027 : decode code 1027 = .ok (.invokevirtual 119, 3) := dt_get (q := (1027, .invokevirtual 119, 3)) D_lw_14_ok 26 rfl
theorem d_lw_1030 : decode code 1030 = .ok (.pop, 1) := dt_get (q := (1030, .pop, 1)) D_lw_14_ok 27 rfl
theorem d_lw_1031 : decode code 1031 = .ok (.aload_n 2, 1) := dt_get (q := (1031, .aload_n 2, 1)) D_lw_14_ok 28 rfl
theorem d_lw_1032 : decode code 1032 = .ok (.aload_n 0, 1) := dt_get (q := (1032, .aload_n 0, 1)) D_lw_14_ok 29 rfl
theorem d_lw_1033 : decode code 1033 = .ok (.iload 4, 2) := dt_get (q := (1033, .iload 4, 2)) D_lw_14_ok 30 rfl
theorem d_lw_1035 : decode code 1035 = .ok (.iconst 1, 1) := dt_get (q := (1035, .iconst 1, 1)) D_lw_14_ok 31 rfl
theorem d_lw_1036 : decode code 1036 = .ok (.iadd, 1) := dt_get (q := (1036, .iadd, 1)) D_lw_14_ok 32 rfl
theorem d_lw_1037 : decode code 1037 = .ok (.iaload, 1) := dt_get (q := (1037, .iaload, 1)) D_lw_14_ok 33 rfl
theorem d_lw_1038 : decode code 1038 = .ok (.aload_n 0, 1) := dt_get (q := (1038, .aload_n 0, 1)) D_lw_14_ok 34 rfl
theorem d_lw_1039 : decode code 1039 = .ok (.iload 4, 2) := dt_get (q := (1039, .iload 4, 2)) D_lw_14_ok 35 rfl
theorem d_lw_1041 : decode code 1041 = .ok (.iconst 2, 1) := dt_get (q := (1041, .iconst 2, 1)) D_lw_14_ok 36 rfl
theorem d_lw_1042 : decode code 1042 = .ok (.iadd, 1) := dt_get (q := (1042, .iadd, 1)) D_lw_14_ok 37 rfl
theorem d_lw_1043 : decode code 1043 = .ok (.iaload, 1) := dt_get (q := (1043, .iaload, 1)) D_lw_14_ok 38 rfl
theorem d_lw_1044 : decode code 1044 = .ok (.aload_n 0, 1) := dt_get (q := (1044, .aload_n 0, 1)) D_lw_14_ok 39 rfl
def D_lw_15 : DT := [(1045, .iload 4, 2), (1047, .iconst 3, 1), (1048, .iadd, 1), (1049, .iaload, 1), (1050, .invokevirtual 122, 3), (1053, .pop, 1), (1054, .goto 1166, 3), (1057, .aload_n 1, 1), (1058, .aload_n 0, 1), (1059, .iload 4, 2), (1061, .iconst 1, 1), (1062, .iadd, 1), (1063, .iaload, 1), (1064, .aload_n 0, 1), (1065, .iload 4, 2), (1067, .iconst 2, 1), (1068, .iadd, 1), (1069, .iaload, 1), (1070, .aload_n 0, 1), (1071, .iload 4, 2), (1073, .iconst 3, 1), (1074, .iadd, 1), (1075, .iaload, 1), (1076, .invokevirtual 123, 3), (1079, .pop, 1), (1080, .aload_n 2, 1), (1081, .aload_n 0, 1), (1082, .iload 4, 2), (1084, .iconst 1, 1), (1085, .iadd, 1), (1086, .iaload, 1), (1087, .aload_n 0, 1), (1088, .iload 4, 2), (1090, .iconst 2, 1), (1091, .iadd, 1), (1092, .iaload, 1), (1093, .aload_n 0, 1), (1094, .iload 4, 2), (1096, .iconst 3, 1), (1097, .iadd, 1)]
theorem D_lw_15_ok : dtOK code D_lw_15 = true := by decide +kernel
theorem d_lw_1045 : decode code 1045 = .ok (.iload 4, 2) := dt_get (q := (1045, .iload 4, 2)) D_lw_15_ok 0 rfl
theorem d_lw_1047 : decode code 1047 = .ok (.iconst 3, 1) := dt_get (q := (1047, .iconst 3, 1)) D_lw_15_ok 1 rfl
theorem d_lw_1048 : decode code 1048 = .ok (.iadd, 1) := dt_get (q := (1048, .iadd, 1)) D_lw_15_ok 2 rfl
theorem d_lw_1049 : decode code 1049 = .ok (.iaload, 1) := dt_get (q := (1049, .iaload, 1)) D_lw_15_ok 3 rfl
theorem d_lw_1050 : decode code 1050 = .ok (.invokevirtual 122, 3) := dt_get (q := (1050, .invokevirtual 122, 3)) D_lw_15_ok 4 rfl
theorem d_lw_1053 : decode code 1053 = .ok (.pop, 1) := dt_get (q := (1053, .pop, 1)) D_lw_15_ok 5 rfl
theorem d_lw_1054 : decode code 1054 = .ok (.goto 1166, 3) := dt_get (q := (1054, .goto 1166, 3)) D_lw_15_ok 6 rfl
theorem d_lw_1057 : decode code 1057 = .ok (.aload_n 1, 1) := dt_get (q := (1057, .aload_n 1, 1)) D_lw_15_ok 7 rfl
theorem d_lw_1058 : decode code 1058 = .ok (.aload_n 0, 1) := dt_get (q := (1058, .aload_n 0, 1)) D_lw_15_ok 8 rfl
theorem d_lw_1059 : decode code 1059 = .ok (.iload 4, 2) := dt_get (q := (1059, .iload 4, 2)) D_lw_15_ok 9 rfl
theorem d_lw_1061 : decode code 1061 = .ok (.iconst 1, 1) := dt_get (q := (1061, .iconst 1, 1)) D_lw_15_ok 10 rfl
theorem d_lw_1062 : decode code 1062 = .ok (.iadd, 1) := dt_get (q := (1062, .iadd, 1)) D_lw_15_ok 11 rfl
theorem d_lw_1063 : decode code 1063 = .ok (.iaload, 1) := dt_get (q := (1063, .iaload, 1)) D_lw_15_ok 12 rfl
theorem d_lw_1064 : decode code 1064 = .ok (.aload_n 0, 1) := dt_get (q := (1064, .aload_n 0, 1)) D_lw_15_ok 13 rfl
theorem d_lw_1065 : decode code 1065 = .ok (.iload 4, 2) := dt_get (q := (1065, .iload 4, 2)) D_lw_15_ok 14 rfl
theorem d_lw_1067 : decode code 1067 = .ok (.iconst 2, 1) := dt_get (q := (1067, .iconst 2, 1)) D_lw_15_ok 15 rfl
theorem d_lw_1068 : decode code 1068 = .ok (.iadd, 1) := dt_get (q := (1068, .iadd, 1)) D_lw_15_ok 16 rfl
theorem d_lw_1069 : decode code 1069 = .ok (.iaload, 1) := dt_get (q := (1069, .iaload, 1)) D_lw_15_ok 17 rfl
theorem d_lw_1070 : decode code 1070 = .ok (.aload_n 0, 1) := dt_get (q := (1070, .aload_n 0, 1)) D_lw_15_ok 18 rfl
theorem d_lw_1071 : decode code 1071 = .ok (.iload 4, 2) := dt_get (q := (1071, .iload 4, 2)) D_lw_15_ok 19 rfl
theorem d_lw_1073 : decode code 1073 = .ok (.iconst 3, 1) := dt_get (q := (1073, .iconst 3, 1)) D_lw_15_ok 20 rfl
theorem d_lw_1074 : decode code 1074 = .ok (.iadd, 1) := dt_get (q := (1074, .iadd, 1)) D_lw_15_ok 21 rfl
theorem d_lw_1075 : decode code 1075 = .ok (.iaload, 1) := dt_get (q := (1075, .iaload, 1)) D_lw_15_ok 22 rfl
theorem d_lw_1076 : decode code 1076 = .ok (.invokevirtual 123, 3) := dt_get (q := (1076, .invokevirtual 123, 3)) D_lw_15_ok 23 rfl
theorem d_lw_1079 : decode code 1079 = .ok (.pop, 1) := dt_get (q := (1079, .pop, 1)) D_lw_15_ok 24 rfl
theorem d_lw_1080 : decode code 1080 = .ok (.aload_n 2, 1) := dt_get (q := (1080, .aload_n 2, 1)) D_lw_15_ok 25 rfl
theorem d_lw_1081 : decode code 1081 = .ok (.aload_n 0, 1) := dt_get (q := (1081, .aload_n 0, 1)) D_lw_15_ok 26 rfl
theorem d_lw_1082 : decode code 1082 = .ok (.iload 4, 2) := dt_get (q := (1082, .iload 4, 2)) D_lw_15_ok 27 rfl
theorem d_lw_1084 : decode code 1084 = .ok (.iconst 1, 1) := dt_get (q := (1084, .iconst 1, 1)) D_lw_15_ok 28 rfl
theorem d_lw_1085 : decode code 1085 = .ok (.iadd, 1) := dt_get (q := (1085, .iadd, 1)) D_lw_15_ok 29 rfl
theorem d_lw_1086 : decode code 1086 = .ok (.iaload, 1) := dt_get (q := (1086, .iaload, 1)) D_lw_15_ok 30 rfl
theorem d_lw_1087 : decode code 1087 = .ok (.aload_n 0, 1) := dt_get (q := (1087, .aload_n 0, 1)) D_lw_15_ok 31 rfl
theorem d_lw_1088 : decode code 1088 = .ok (.iload 4, 2) := dt_get (q := (1088, .iload 4, 2)) D_lw_15_ok 32 rfl
theorem d_lw_1090 : decode code 1090 = .ok (.iconst 2, 1) := dt_get (q := (1090, .iconst 2, 1)) D_lw_15_ok 33 rfl
theorem d_lw_1091 : decode code 1091 = .ok (.iadd, 1) := dt_get (q := (1091, .iadd, 1)) D_lw_15_ok 34 rfl
theorem d_lw_1092 : decode code 1092 = .ok (.iaload, 1) := dt_get (q := (1092, .iaload, 1)) D_lw_15_ok 35 rfl
theorem d_lw_1093 : decode code 1093 = .ok (.aload_n 0, 1) := dt_get (q := (1093, .aload_n 0, 1)) D_lw_15_ok 36 rfl
theorem d_lw_1094 : decode code 1094 = .ok (.iload 4, 2) := dt_get (q := (1094, .iload 4, 2)) D_lw_15_ok 37 rfl
theorem d_lw_1096 : decode code 1096 = .ok (.iconst 3, 1) := dt_get (q := (1096, .iconst 3, 1)) D_lw_15_ok 38 rfl
theorem d_lw_1097 : decode code 1097 = .ok (.iadd, 1) := dt_get (q := (1097, .iadd, 1)) D_lw_15_ok 39 rfl
def D_lw_16 : DT := [(1098, .iaload, 1), (1099, .invokevirtual 126, 3), (1102, .pop, 1), (1103, .goto 1117, 3), (1106, .aload_n 1, 1), (1107, .aload_n 0, 1), (1108, .iload 4, 2), (1110, .iconst 1, 1), (1111, .iadd, 1), (1112, .iaload, 1), (1113, .aload_n 0, 1), (1114, .iload 4, 2), (1116, .iconst 2, 1), (1117, .iadd, 1), (1118, .iaload, 1), (1119, .invokevirtual 127, 3), (1122, .pop, 1), (1123, .aload_n 2, 1), (1124, .aload_n 0, 1), (1125, .iload 4, 2), (1127, .iconst 1, 1), (1128, .iadd, 1), (1129, .iaload, 1), (1130, .aload_n 0, 1), (1131, .iload 4, 2), (1133, .iconst 2, 1), (1134, .iadd, 1), (1135, .iaload, 1), (1136, .invokevirtual 130, 3), (1139, .pop, 1), (1140, .goto 1080, 3), (1143, .aload_n 1, 1), (1144, .aload_n 0, 1), (1145, .iload 4, 2), (1147, .iconst 1, 1), (1148, .iadd, 1), (1149, .iaload, 1), (1150, .aload_n 0, 1), (1151, .iload 4, 2), (1153, .iconst 2, 1)]
theorem D_lw_16_ok : dtOK code D_lw_16 = true := by decide +kernel
theorem d_lw_1098 : decode code 1098 = .ok (.iaload, 1) := dt_get (q := (1098, .iaload, 1)) D_lw_16_ok 0 rfl
theorem d_lw_1099 : decode code 1099 = .ok (.invokevirtual 126, 3) := dt_get (q := (1099, .invokevirtual 126, 3)) D_lw_16_ok 1 rfl
theorem d_lw_1102 : decode code 1102 = .ok (.pop, 1) := dt_get (q := (1102, .pop, 1)) D_lw_16_ok 2 rfl
theorem d_lw_1103 : decode code 1103 = .ok (.goto 1117, 3) := dt_get (q := (1103, .goto 1117, 3)) D_lw_16_ok 3 rfl
theorem d_lw_1106 : decode code 1106 = .ok (.aload_n 1, 1) := dt_get (q := (1106, .aload_n 1, 1)) D_lw_16_ok 4 rfl
theorem d_lw_1107 : decode code 1107 = .ok (.aload_n 0, 1) := dt_get (q := (1107, .aload_n 0, 1)) D_lw_16_ok 5 rfl
theorem d_lw_1108 : decode code 1108 = .ok (.iload 4, 2) := dt_get (q := (1108, .iload 4, 2)) D_lw_16_ok 6 rfl
theorem d_lw_1110 : decode code 1110 = .ok (.iconst 1, 1) := dt_get (q := (1110, .iconst 1, 1)) D_lw_16_ok 7 rfl
theorem d_lw_1111 : decode code 1111 = .ok (.iadd, 1) := dt_get (q := (1111, .iadd, 1)) D_lw_16_ok 8 rfl
theorem d_lw_1112 : decode code 1112 = .ok (.iaload, 1) := dt_get (q := (1112, .iaload, 1)) D_lw_16_ok 9 rfl
theorem d_lw_1113 : decode code 1113 = .ok (.aload_n 0, 1) := dt_get (q := (1113, .aload_n 0, 1)) D_lw_16_ok 10 rfl
theorem d_lw_1114 : decode code 1114 = .ok (.iload 4, 2) := dt_get (q := (1114, .iload 4, 2)) D_lw_16_ok 11 rfl
theorem d_lw_1116 : decode code 1116 = .ok (.iconst 2, 1) := dt_get (q := (1116, .iconst 2, 1)) D_lw_16_ok 12 rfl
theorem d_lw_1117 : decode code 1117 = .ok (.iadd, 1) := dt_get (q := (1117, .iadd, 1)) D_lw_16_ok 13 rfl
theorem d_lw_1118 : decode code 1118 = .ok (.iaload, 1) := dt_get (q := (1118, .iaload, 1)) D_lw_16_ok 14 rfl
theorem d_lw_1119 : decode code 1119 = .ok (.invokevirtual 127, 3) := dt_get (q := (1119, .invokevirtual 127, 3)) D_lw_16_ok 15 rfl
theorem d_lw_1122 : decode code 1122 = .ok (.pop, 1) := dt_get (q := (1122, .pop, 1)) D_lw_16_ok 16 rfl
theorem d_lw_1123 : decode code 1123 = .ok (.aload_n 2, 1) := dt_get (q := (1123, .aload_n 2, 1)) D_lw_16_ok 17 rfl
theorem d_lw_1124 : decode code 1124 = .ok (.aload_n 0, 1) := dt_get (q := (1124, .aload_n 0, 1)) D_lw_16_ok 18 rfl
theorem d_lw_1125 : decode code 1125 = .ok (.iload 4, 2) := dt_get (q := (1125, .iload 4, 2)) D_lw_16_ok 19 rfl
theorem d_lw_1127 : decode code 1127 = .ok (.iconst 1, 1) := dt_get (q := (1127, .iconst 1, 1)) D_lw_16_ok 20 rfl
theorem d_lw_1128 : decode code 1128 = .ok (.iadd, 1) := dt_get (q := (1128, .iadd, 1)) D_lw_16_ok 21 rfl
theorem d_lw_1129 : decode code 1129 = .ok (.iaload, 1) := dt_get (q := (1129, .iaload, 1)) D_lw_16_ok 22 rfl
theorem d_lw_1130 : decode code 1130 = .ok (.aload_n 0, 1) := dt_get (q := (1130, .aload_n 0, 1)) D_lw_16_ok 23 rfl
theorem d_lw_1131 : decode code 1131 = .ok (.iload 4, 2) := dt_get (q := (1131, .iload 4, 2)) D_lw_16_ok 24 rfl
theorem d_lw_1133 : decode code 1133 = .ok (.iconst 2, 1) := dt_get (q := (1133, .iconst 2, 1)) D_lw_16_ok 25 rfl
theorem d_lw_1134 : decode code 1134 = .ok (.iadd, 1) := dt_get (q := (1134, .iadd, 1)) D_lw_16_ok 26 rfl
theorem d_lw_1135 : decode code 1135 = .ok (.iaload, 1) := dt_get (q := (1135, .iaload, 1)) D_lw_16_ok 27 rfl
theorem d_lw_1136 : decode code 1136 = .ok (.invokevirtual 130, 3) := dt_get (q := (1136, .invokevirtual 130, 3)) D_lw_16_ok 28 rfl
theorem d_lw_1139 : decode code 1139 = .ok (.pop, 1) := dt_get (q := (1139, .pop, 1)) D_lw_16_ok 29 rfl
theorem d_lw_1140 : decode code 1140 = .ok (.goto 1080, 3) := dt_get (q := (1140, .goto 1080, 3)) D_lw_16_ok 30 rfl
theorem d_lw_1143 : decode code 1143 = .ok (.aload_n 1, 1) := dt_get (q := (1143, .aload_n 1, 1)) D_lw_16_ok 31 rfl
theorem d_lw_1144 : decode code 1144 = .ok (.aload_n 0, 1) := dt_get (q := (1144, .aload_n 0, 1)) D_lw_16_ok 32 rfl
theorem d_lw_1145 : decode code 1145 = .ok (.iload 4, 2) := dt_get (q := (1145, .iload 4, 2)) D_lw_16_ok 33 rfl
theorem d_lw_1147 : decode code 1147 = .ok (.iconst 1, 1) := dt_get (q := (1147, .iconst 1, 1)) D_lw_16_ok 34 rfl
theorem d_lw_1148 : decode code 1148 = .ok (.iadd, 1) := dt_get (q := (1148, .iadd, 1)) D_lw_16_ok 35 rfl
theorem d_lw_1149 : decode code 1149 = .ok (.iaload, 1) := dt_get (q := (1149, .iaload, 1)) D_lw_16_ok 36 rfl
theorem d_lw_1150 : decode code 1150 = .ok (.aload_n 0, 1) := dt_get (q := (1150, .aload_n 0, 1)) D_lw_16_ok 37 rfl
theorem d_lw_1151 : decode code 1151 = .ok (.iload 4, 2) := dt_get (q := (1151, .iload 4, 2)) D_lw_16_ok 38 rfl
theorem d_lw_1153 : decode code 1153 = .ok (.iconst 2, 1) := dt_get (q := (1153, .iconst 2, 1)) D_lw_16_ok 39 rfl
def D_lw_17 : DT := [(1154, .iadd, 1), (1155, .iaload, 1), (1156, .aload_n 0, 1), (1157, .iload 4, 2), (1159, .iconst 3, 1), (1160, .iadd, 1), (1161, .iaload, 1), (1162, .aload_n 0, 1), (1163, .iload 4, 2), (1165, .iconst 4, 1), (1166, .iadd, 1), (1167, .iaload, 1), (1168, .invokevirtual 131, 3), (1171, .pop, 1), (1172, .aload_n 2, 1), (1173, .aload_n 0, 1), (1174, .iload 4, 2), (1176, .iconst 1, 1), (1177, .iadd, 1), (1178, .iaload, 1), (1179, .aload_n 0, 1), (1180, .iload 4, 2), (1182, .iconst 2, 1), (1183, .iadd, 1), (1184, .iaload, 1), (1185, .aload_n 0, 1), (1186, .iload 4, 2), (1188, .iconst 3, 1), (1189, .iadd, 1), (1190, .iaload, 1), (1191, .aload_n 0, 1), (1192, .iload 4, 2), (1194, .iconst 4, 1), (1195, .iadd, 1), (1196, .iaload, 1), (1197, .invokevirtual 134, 3), (1200, .pop, 1), (1201, .goto 1019, 3), (1204, .aload_n 1, 1), (1205, .aload_n 0, 1)]
theorem D_lw_17_ok : dtOK code D_lw_17 = true := by decide +kernel
theorem d_lw_1154 : decode code 1154 = .ok (.iadd, 1) := dt_get (q := (1154, .iadd, 1)) D_lw_17_ok 0 rfl
theorem d_lw_1155 : decode code 1155 = .ok (.iaload, 1) := dt_get (q := (1155, .iaload, 1)) D_lw_17_ok 1 rfl
theorem d_lw_1156 : decode code 1156 = .ok (.aload_n 0, 1) := dt_get (q := (1156, .aload_n 0, 1)) D_lw_17_ok 2 rfl
theorem d_lw_1157 : decode code 1157 = .ok (.iload 4, 2) := dt_get (q := (1157, .iload 4, 2)) D_lw_17_ok 3 rfl
theorem d_lw_1159 : decode code 1159 = .ok (.iconst 3, 1) := dt_get (q := (1159, .iconst 3, 1)) D_lw_17_ok 4 rfl
theorem d_lw_1160 : decode code 1160 = .ok (.iadd, 1) := dt_get (q := (1160, .iadd, 1)) D_lw_17_ok 5 rfl
theorem d_lw_1161 : decode code 1161 = .ok (.iaload, 1) := dt_get (q := (1161, .iaload, 1)) D_lw_17_ok 6 rfl
theorem d_lw_1162 : decode code 1162 = .ok (.aload_n 0, 1) := dt_get (q := (1162, .aload_n 0, 1)) D_lw_17_ok 7 rfl
theorem d_lw_1163 : decode code 1163 = .ok (.iload 4, 2) := dt_get (q := (1163, .iload 4, 2)) D_lw_17_ok 8 rfl
theorem d_lw_1165 : decode code 1165 = .ok (.iconst 4, 1) := dt_get (q := (1165, .iconst 4, 1)) D_lw_17_ok 9 rfl
theorem d_lw_1166 : decode code 1166 = .ok (.iadd, 1) := dt_get (q := (1166, .iadd, 1)) D_lw_17_ok 10 rfl
theorem d_lw_1167 : decode code 1167 = .ok (.iaload, 1) := dt_get (q := (1167, .iaload, 1)) D_lw_17_ok 11 rfl
theorem d_lw_1168 : decode code 1168 = .ok (.invokevirtual 131, 3) := dt_get (q := (1168, .invokevirtual 131, 3)) D_lw_17_ok 12 rfl
theorem d_lw_1171 : decode code 1171 = .ok (.pop, 1) := dt_get (q := (1171, .pop, 1)) D_lw_17_ok 13 rfl
theorem d_lw_1172 : decode code 1172 = .ok (.aload_n 2, 1) := dt_get (q := (1172, .aload_n 2, 1)) D_lw_17_ok 14 rfl
theorem d_lw_1173 : decode code 1173 = .ok (.aload_n 0, 1) := dt_get (q := (1173, .aload_n 0, 1)) D_lw_17_ok 15 rfl
theorem d_lw_1174 : decode code 1174 = .ok (.iload 4, 2) := dt_get (q := (1174, .iload 4, 2)) D_lw_17_ok 16 rfl
theorem d_lw_1176 : decode code 1176 = .ok (.iconst 1, 1) := dt_get (q := (1176, .iconst 1, 1)) D_lw_17_ok 17 rfl
theorem d_lw_1177 : decode code 1177 = .ok (.iadd, 1) := dt_get (q := (1177, .iadd, 1)) D_lw_17_ok 18 rfl
theorem d_lw_1178 : decode code 1178 = .ok (.iaload, 1) := dt_get (q := (1178, .iaload, 1)) D_lw_17_ok 19 rfl
theorem d_lw_1179 : decode code 1179 = .ok (.aload_n 0, 1) := dt_get (q := (1179, .aload_n 0, 1)) D_lw_17_ok 20 rfl
theorem d_lw_1180 : decode code 1180 = .ok (.iload 4, 2) := dt_get (q := (1180, .iload 4, 2)) D_lw_17_ok 21 rfl
theorem d_lw_1182 : decode code 1182 = .ok (.iconst 2, 1) := dt_get (q := (1182, .iconst 2, 1)) D_lw_17_ok 22 rfl
theorem d_lw_1183 : decode code 1183 = .ok (.iadd, 1) := dt_get (q := (1183, .iadd, 1)) D_lw_17_ok 23 rfl
theorem d_lw_1184 : decode code 1184 = .ok (.iaload, 1) := dt_get (q := (1184, .iaload, 1)) D_lw_17_ok 24 rfl
theorem d_lw_1185 : decode code 1185 = .ok (.aload_n 0, 1) := dt_get (q := (1185, .aload_n 0, 1)) D_lw_17_ok 25 rfl
theorem d_lw_1186 : decode code 1186 = .ok (.iload 4, 2) := dt_get (q := (1186, .iload 4, 2)) D_lw_17_ok 26 rfl
theorem d_lw_1188 : decode code 1188 = .ok (.iconst 3, 1) := dt_get (q := (1188, .iconst 3, 1)) D_lw_17_ok 27 rfl
theorem d_lw_1189 : decode code 1189 = .ok (.iadd, 1) := dt_get (q := (1189, .iadd, 1)) D_lw_17_ok 28 rfl
theorem d_lw_1190 : decode code 1190 = .ok (.iaload, 1) := dt_get (q := (1190, .iaload, 1)) D_lw_17_ok 29 rfl
theorem d_lw_1191 : decode code 1191 = .ok (.aload_n 0, 1) := dt_get (q := (1191, .aload_n 0, 1)) D_lw_17_ok 30 rfl
theorem d_lw_1192 : decode code 1192 = .ok (.iload 4, 2) := dt_get (q := (1192, .iload 4, 2)) D_lw_17_ok 31 rfl
theorem d_lw_1194 : decode code 1194 = .ok (.iconst 4, 1) := dt_get (q := (1194, .iconst 4, 1)) D_lw_17_ok 32 rfl
theorem d_lw_1195 : decode code 1195 = .ok (.iadd, 1) := dt_get (q := (1195, .iadd, 1)) D_lw_17_ok 33 rfl
theorem d_lw_1196 : decode code 1196 = .ok (.iaload, 1) := dt_get (q := (1196, .iaload, 1)) D_lw_17_ok 34 rfl
theorem d_lw_1197 : decode code 1197 = .ok (.invokevirtual 134, 3) := dt_get (q := (1197, .invokevirtual 134, 3)) D_lw_17_ok 35 rfl
theorem d_lw_1200 : decode code 1200 = .ok (.pop, 1) := dt_get (q := (1200, .pop, 1)) D_lw_17_ok 36 rfl
theorem d_lw_1201 : decode code 1201 = .ok (.goto 1019, 3) := dt_get (q := (1201, .goto 1019, 3)) D_lw_17_ok 37 rfl
theorem d_lw_1204 : decode code 1204 = .ok (.aload_n 1, 1) := dt_get (q := (1204, .aload_n 1, 1)) D_lw_17_ok 38 rfl
theorem d_lw_1205 : decode code 1205 = .ok (.aload_n 0, 1) := dt_get (q := (1205, .aload_n 0, 1)) D_lw_17_ok 39 rfl
def D_lw_18 : DT := [(1206, .iload 4, 2), (1208, .iconst 1, 1), (1209, .iadd, 1), (1210, .iaload, 1), (1211, .invokevirtual 135, 3), (1214, .pop2, 1), (1215, .aload_n 2, 1), (1216, .aload_n 0, 1), (1217, .iload 4, 2), (1219, .iconst 1, 1), (1220, .iadd, 1), (1221, .iaload, 1), (1222, .invokevirtual 138, 3), (1225, .pop2, 1), (1226, .goto 994, 3), (1229, .aload_n 1, 1), (1230, .aload_n 0, 1), (1231, .iload 4, 2), (1233, .iconst 1, 1), (1234, .iadd, 1), (1235, .iaload, 1), (1236, .aload_n 0, 1), (1237, .iload 4, 2), (1239, .iconst 2, 1), (1240, .iadd, 1), (1241, .iaload, 1), (1242, .invokevirtual 139, 3), (1245, .pop2, 1), (1246, .aload_n 2, 1), (1247, .aload_n 0, 1), (1248, .iload 4, 2), (1250, .iconst 1, 1), (1251, .iadd, 1), (1252, .iaload, 1), (1253, .aload_n 0, 1), (1254, .iload 4, 2), (1256, .iconst 2, 1), (1257, .iadd, 1), (1258, .iaload, 1), (1259, .invokevirtual 143, 3)]
theorem D_lw_18_ok : dtOK code D_lw_18 = true := by decide +kernel
theorem d_lw_1206 : decode code 1206 = .ok (.iload 4, 2) := dt_get (q := (1206, .iload 4, 2)) D_lw_18_ok 0 rfl
theorem d_lw_1208 : decode code 1208 = .ok (.iconst 1, 1) := dt_get (q := (1208, .iconst 1, 1)) D_lw_18_ok 1 rfl
theorem d_lw_1209 : decode code 1209 = .ok (.iadd, 1) := dt_get (q := (1209, .iadd, 1)) D_lw_18_ok 2 rfl
theorem d_lw_1210 : decode code 1210 = .ok (.iaload, 1) := dt_get (q := (1210, .iaload, 1)) D_lw_18_ok 3 rfl
theorem d_lw_1211 : decode code 1211 = .ok (.invokevirtual 135, 3) := dt_get (q := (1211, .invokevirtual 135, 3)) D_lw_18_ok 4 rfl
theorem d_lw_1214 : decode code 1214 = .ok (.pop2, 1) := dt_get (q := (1214, .pop2, 1)) D_lw_18_ok 5 rfl
theorem d_lw_1215 : decode code 1215 = .ok (.aload_n 2, 1) := dt_get (q := (1215, .aload_n 2, 1)) D_lw_18_ok 6 rfl
theorem d_lw_1216 : decode code 1216 = .ok (.aload_n 0, 1) := dt_get (q := (1216, .aload_n 0, 1)) D_lw_18_ok 7 rfl
theorem d_lw_1217 : decode code 1217 = .ok (.iload 4, 2) := dt_get (q := (1217, .iload 4, 2)) D_lw_18_ok 8 rfl
theorem d_lw_1219 : decode code 1219 = .ok (.iconst 1, 1) := dt_get (q := (1219, .iconst 1, 1)) D_lw_18_ok 9 rfl
theorem d_lw_1220 : decode code 1220 = .ok (.iadd, 1) := dt_get (q := (1220, .iadd, 1)) D_lw_18_ok 10 rfl
theorem d_lw_1221 : decode code 1221 = .ok (.iaload, 1) := dt_get (q := (1221, .iaload, 1)) D_lw_18_ok 11 rfl
theorem d_lw_1222 : decode code 1222 = .ok (.invokevirtual 138, 3) := dt_get (q := (1222, .invokevirtual 138, 3)) D_lw_18_ok 12 rfl
theorem d_lw_1225 : decode code 1225 = .ok (.pop2, 1) := dt_get (q := (1225, .pop2, 1)) D_lw_18_ok 13 rfl
theorem d_lw_1226 : decode code 1226 = .ok (.goto 994, 3) := dt_get (q := (1226, .goto 994, 3)) D_lw_18_ok 14 rfl
theorem d_lw_1229 : decode code 1229 = .ok (.aload_n 1, 1) := dt_get (q := (1229, .aload_n 1, 1)) D_lw_18_ok 15 rfl
theorem d_lw_1230 : decode code 1230 = .ok (.aload_n 0, 1) := dt_get (q := (1230, .aload_n 0, 1)) D_lw_18_ok 16 rfl
theorem d_lw_1231 : decode code 1231 = .ok (.iload 4, 2) := dt_get (q := (1231, .iload 4, 2)) D_lw_18_ok 17 rfl
theorem d_lw_1233 : decode code 1233 = .ok (.iconst 1, 1) := dt_get (q := (1233, .iconst 1, 1)) D_lw_18_ok 18 rfl
theorem d_lw_1234 : decode code 1234 = .ok (.iadd, 1) := dt_get (q := (1234, .iadd, 1)) D_lw_18_ok 19 rfl
theorem d_lw_1235 : decode code 1235 = .ok (.iaload, 1) := dt_get (q := (1235, .iaload, 1)) D_lw_18_ok 20 rfl
theorem d_lw_1236 : decode code 1236 = .ok (.aload_n 0, 1) := dt_get (q := (1236, .aload_n 0, 1)) D_lw_18_ok 21 rfl
theorem d_lw_1237 : decode code 1237 = .ok (.iload 4, 2) := dt_get (q := (1237, .iload 4, 2)) D_lw_18_ok 22 rfl
theorem d_lw_1239 : decode code 1239 = .ok (.iconst 2, 1) := dt_get (q := (1239, .iconst 2, 1)) D_lw_18_ok 23 rfl
theorem d_lw_1240 : decode code 1240 = .ok (.iadd, 1) := dt_get (q := (1240, .iadd, 1)) D_lw_18_ok 24 rfl
theorem d_lw_1241 : decode code 1241 = .ok (.iaload, 1) := dt_get (q := (1241, .iaload, 1)) D_lw_18_ok 25 rfl
theorem d_lw_1242 : decode code 1242 = .ok (.invokevirtual 139, 3) := dt_get (q := (1242, .invokevirtual 139, 3)) D_lw_18_ok 26 rfl
theorem d_lw_1245 : decode code 1245 = .ok (.pop2, 1) := dt_get (q := (1245, .pop2, 1)) D_lw_18_ok 27 rfl
theorem d_lw_1246 : decode code 1246 = .ok (.aload_n 2, 1) := dt_get (q := (1246, .aload_n 2, 1)) D_lw_18_ok 28 rfl
theorem d_lw_1247 : decode code 1247 = .ok (.aload_n 0, 1) := dt_get (q := (1247, .aload_n 0, 1)) D_lw_18_ok 29 rfl
theorem d_lw_1248 : decode code 1248 = .ok (.iload 4, 2) := dt_get (q := (1248, .iload 4, 2)) D_lw_18_ok 30 rfl
theorem d_lw_1250 : decode code 1250 = .ok (.iconst 1, 1) := dt_get (q := (1250, .iconst 1, 1)) D_lw_18_ok 31 rfl
theorem d_lw_1251 : decode code 1251 = .ok (.iadd, 1) := dt_get (q := (1251, .iadd, 1)) D_lw_18_ok 32 rfl
theorem d_lw_1252 : decode code 1252 = .ok (.iaload, 1) := dt_get (q := (1252, .iaload, 1)) D_lw_18_ok 33 rfl
theorem d_lw_1253 : decode code 1253 = .ok (.aload_n 0, 1) := dt_get (q := (1253, .aload_n 0, 1)) D_lw_18_ok 34 rfl
theorem d_lw_1254 : decode code 1254 = .ok (.iload 4, 2) := dt_get (q := (1254, .iload 4, 2)) D_lw_18_ok 35 rfl
theorem d_lw_1256 : decode code 1256 = .ok (.iconst 2, 1) := dt_get (q := (1256, .iconst 2, 1)) D_lw_18_ok 36 rfl
theorem d_lw_1257 : decode code 1257 = .ok (.iadd, 1) := dt_get (q := (1257, .iadd, 1)) D_lw_18_ok 37 rfl
theorem d_lw_1258 : decode code 1258 = .ok (.iaload, 1) := dt_get (q := (1258, .iaload, 1)) D_lw_18_ok 38 rfl
theorem d_lw_1259 : decode code 1259 = .ok (.invokevirtual 143, 3) := dt_get (q := (1259, .invokevirtual 143, 3)) D_lw_18_ok 39 rfl
def D_lw_19 : DT := [(1262, .pop2, 1), (1263, .goto 957, 3), (1266, .aload_n 1, 1), (1267, .aload_n 0, 1), (1268, .iload 4, 2), (1270, .iconst 1, 1), (1271, .iadd, 1), (1272, .iaload, 1), (1273, .aload_n 0, 1), (1274, .iload 4, 2), (1276, .iconst 2, 1), (1277, .iadd, 1), (1278, .iaload, 1), (1279, .invokevirtual 144, 3), (1282, .pop2, 1), (1283, .aload_n 2, 1), (1284, .aload_n 0, 1), (1285, .iload 4, 2), (1287, .iconst 1, 1), (1288, .iadd, 1), (1289, .iaload, 1), (1290, .aload_n 0, 1), (1291, .iload 4, 2), (1293, .iconst 2, 1), (1294, .iadd, 1), (1295, .iaload, 1), (1296, .invokevirtual 147, 3), (1299, .pop2, 1), (1300, .goto 920, 3), (1303, .aload_n 1, 1), (1304, .aload_n 0, 1), (1305, .iload 4, 2), (1307, .iconst 1, 1), (1308, .iadd, 1), (1309, .iaload, 1), (1310, .aload_n 0, 1), (1311, .iload 4, 2), (1313, .iconst 2, 1), (1314, .iadd, 1), (1315, .iaload, 1)]
theorem D_lw_19_ok : dtOK code D_lw_19 = true := by decide +kernel
theorem d_lw_1262 : decode code 1262 = .ok (.pop2, 1) := dt_get (q := (1262, .pop2, 1)) D_lw_19_ok 0 rfl
theorem d_lw_1263 : decode code 1263 = .ok (.goto 957, 3) := dt_get (q := (1263, .goto 957, 3)) D_lw_19_ok 1 rfl
theorem d_lw_1266 : decode code 1266 = .ok (.aload_n 1, 1) := dt_get (q := (1266, .aload_n 1, 1)) D_lw_19_ok 2 rfl
theorem d_lw_1267 : decode code 1267 = .ok (.aload_n 0, 1) := dt_get (q := (1267, .aload_n 0, 1)) D_lw_19_ok 3 rfl
theorem d_lw_1268 : decode code 1268 = .ok (.iload 4, 2) := dt_get (q := (1268, .iload 4, 2)) D_lw_19_ok 4 rfl
theorem d_lw_1270 : decode code 1270 = .ok (.iconst 1, 1) := dt_get (q := (1270, .iconst 1, 1)) D_lw_19_ok 5 rfl
theorem d_lw_1271 : decode code 1271 = .ok (.iadd, 1) := dt_get (q := (1271, .iadd, 1)) D_lw_19_ok 6 rfl
theorem d_lw_1272 : decode code 1272 = .ok (.iaload, 1) := dt_get (q := (1272, .iaload, 1)) D_lw_19_ok 7 rfl
theorem d_lw_1273 : decode code 1273 = .ok (.aload_n 0, 1) := dt_get (q := (1273, .aload_n 0, 1)) D_lw_19_ok 8 rfl
theorem d_lw_1274 : decode code 1274 = .ok (.iload 4, 2) := dt_get (q := (1274, .iload 4, 2)) D_lw_19_ok 9 rfl
theorem d_lw_1276 : decode code 1276 = .ok (.iconst 2, 1) := dt_get (q := (1276, .iconst 2, 1)) D_lw_19_ok 10 rfl
theorem d_lw_1277 : decode code 1277 = .ok (.iadd, 1) := dt_get (q := (1277, .iadd, 1)) D_lw_19_ok 11 rfl
theorem d_lw_1278 : decode code 1278 = .ok (.iaload, 1) := dt_get (q := (1278, .iaload, 1)) D_lw_19_ok 12 rfl
theorem d_lw_1279 : decode code 1279 = .ok (.invokevirtual 144, 3) := dt_get (q := (1279, .invokevirtual 144, 3)) D_lw_19_ok 13 rfl
theorem d_lw_1282 : decode code 1282 = .ok (.pop2, 1) := dt_get (q := (1282, .pop2, 1)) D_lw_19_ok 14 rfl
theorem d_lw_1283 : decode code 1283 = .ok (.aload_n 2, 1) := dt_get (q := (1283, .aload_n 2, 1)) D_lw_19_ok 15 rfl
theorem d_lw_1284 : decode code 1284 = .ok (.aload_n 0, 1) := dt_get (q := (1284, .aload_n 0, 1)) D_lw_19_ok 16 rfl
theorem d_lw_1285 : decode code 1285 = .ok (.iload 4, 2) := dt_get (q := (1285, .iload 4, 2)) D_lw_19_ok 17 rfl
theorem d_lw_1287 : decode code 1287 = .ok (.iconst 1, 1) := dt_get (q := (1287, .iconst 1, 1)) D_lw_19_ok 18 rfl
theorem d_lw_1288 : decode code 1288 = .ok (.iadd, 1) := dt_get (q := (1288, .iadd, 1)) D_lw_19_ok 19 rfl
theorem d_lw_1289 : decode code 1289 = .ok (.iaload, 1) := dt_get (q := (1289, .iaload, 1)) D_lw_19_ok 20 rfl
theorem d_lw_1290 : decode code 1290 = .ok (.aload_n 0, 1) := dt_get (q := (1290, .aload_n 0, 1)) D_lw_19_ok 21 rfl
theorem d_lw_1291 : decode code 1291 = .ok (.iload 4, 2) := dt_get (q := (1291, .iload 4, 2)) D_lw_19_ok 22 rfl
theorem d_lw_1293 : decode code 1293 = .ok (.iconst 2, 1) := dt_get (q := (1293, .iconst 2, 1)) D_lw_19_ok 23 rfl
theorem d_lw_1294 : decode code 1294 = .ok (.iadd, 1) := dt_get (q := (1294, .iadd, 1)) D_lw_19_ok 24 rfl
theorem d_lw_1295 : decode code 1295 = .ok (.iaload, 1) := dt_get (q := (1295, .iaload, 1)) D_lw_19_ok 25 rfl
theorem d_lw_1296 : decode code 1296 = .ok (.invokevirtual 147, 3) := dt_get (q := (1296, .invokevirtual 147, 3)) D_lw_19_ok 26 rfl
theorem d_lw_1299 : decode code 1299 = .ok (.pop2, 1) := dt_get (q := (1299, .pop2, 1)) D_lw_19_ok 27 rfl
theorem d_lw_1300 : decode code 1300 = .ok (.goto 920, 3) := dt_get (q := (1300, .goto 920, 3)) D_lw_19_ok 28 rfl
theorem d_lw_1303 : decode code 1303 = .ok (.aload_n 1, 1) := dt_get (q := (1303, .aload_n 1, 1)) D_lw_19_ok 29 rfl
theorem d_lw_1304 : decode code 1304 = .ok (.aload_n 0, 1) := dt_get (q := (1304, .aload_n 0, 1)) D_lw_19_ok 30 rfl
theorem d_lw_1305 : decode code 1305 = .ok (.iload 4, 2) := dt_get (q := (1305, .iload 4, 2)) D_lw_19_ok 31 rfl
theorem d_lw_1307 : decode code 1307 = .ok (.iconst 1, 1) := dt_get (q := (1307, .iconst 1, 1)) D_lw_19_ok 32 rfl
theorem d_lw_1308 : decode code 1308 = .ok (.iadd, 1) := dt_get (q := (1308, .iadd, 1)) D_lw_19_ok 33 rfl
theorem d_lw_1309 : decode code 1309 = .ok (.iaload, 1) := dt_get (q := (1309, .iaload, 1)) D_lw_19_ok 34 rfl
theorem d_lw_1310 : decode code 1310 = .ok (.aload_n 0, 1) := dt_get (q := (1310, .aload_n 0, 1)) D_lw_19_ok 35 rfl
theorem d_lw_1311 : decode code 1311 = .ok (.iload 4, 2) := dt_get (q := (1311, .iload 4, 2)) D_lw_19_ok 36 rfl
theorem d_lw_1313 : decode code 1313 = .ok (.iconst 2, 1) := dt_get (q := (1313, .iconst 2, 1)) D_lw_19_ok 37 rfl
theorem d_lw_1314 : decode code 1314 = .ok (.iadd, 1) := dt_get (q := (1314, .iadd, 1)) D_lw_19_ok 38 rfl
theorem d_lw_1315 : decode code 1315 = .ok (.iaload, 1) := dt_get (q := (1315, .iaload, 1)) D_lw_19_ok 39 rfl
def D_lw_20 : DT := [(1316, .invokevirtual 148, 3), (1319, .pop2, 1), (1320, .aload_n 2, 1), (1321, .aload_n 0, 1), (1322, .iload 4, 2), (1324, .iconst 1, 1), (1325, .iadd, 1), (1326, .iaload, 1), (1327, .aload_n 0, 1), (1328, .iload 4, 2), (1330, .iconst 2, 1), (1331, .iadd, 1), (1332, .iaload, 1), (1333, .invokevirtual 151, 3), (1336, .pop2, 1), (1337, .goto 883, 3), (1340, .aload_n 1, 1), (1341, .aload_n 0, 1), (1342, .iload 4, 2), (1344, .iconst 1, 1), (1345, .iadd, 1), (1346, .iaload, 1), (1347, .aload_n 0, 1), (1348, .iload 4, 2), (1350, .iconst 2, 1), (1351, .iadd, 1), (1352, .iaload, 1), (1353, .i2l, 1), (1354, .bipush 32, 2), (1356, .lshl, 1), (1357, .aload_n 0, 1), (1358, .iload 4, 2), (1360, .iconst 3, 1), (1361, .iadd, 1), (1362, .iaload, 1), (1363, .i2l, 1), (1364, .ldc2_w 152, 3), (1367, .land, 1), (1368, .lor, 1), (1369, .invokevirtual 154, 3)]
theorem D_lw_20_ok : dtOK code D_lw_20 = true := by decide +kernel
theorem d_lw_1316 : decode code 1316 = .ok (.invokevirtual 148, 3) := dt_get (q := (1316, .invokevirtual 148, 3)) D_lw_20_ok 0 rfl
theorem d_lw_1319 : decode code 1319 = .ok (.pop2, 1) := dt_get (q := (1319, .pop2, 1)) D_lw_20_ok 1 rfl
theorem d_lw_1320 : decode code 1320 = .ok (.aload_n 2, 1) := dt_get (q := (1320, .aload_n 2, 1)) D_lw_20_ok 2 rfl
theorem d_lw_1321 : decode code 1321 = .ok (.aload_n 0, 1) := dt_get (q := (1321, .aload_n 0, 1)) D_lw_20_ok 3 rfl
theorem d_lw_1322 : decode code 1322 = .ok (.iload 4, 2) := dt_get (q := (1322, .iload 4, 2)) D_lw_20_ok 4 rfl
theorem d_lw_1324 : decode code 1324 = .ok (.iconst 1, 1) := dt_get (q := (1324, .iconst 1, 1)) D_lw_20_ok 5 rfl
theorem d_lw_1325 : decode code 1325 = .ok (.iadd, 1) := dt_get (q := (1325, .iadd, 1)) D_lw_20_ok 6 rfl
theorem d_lw_1326 : decode code 1326 = .ok (.iaload, 1) := dt_get (q := (1326, .iaload, 1)) D_lw_20_ok 7 rfl
theorem d_lw_1327 : decode code 1327 = .ok (.aload_n 0, 1) := dt_get (q := (1327, .aload_n 0, 1)) D_lw_20_ok 8 rfl
theorem d_lw_1328 : decode code 1328 = .ok (.iload 4, 2) := dt_get (q := (1328, .iload 4, 2)) D_lw_20_ok 9 rfl
theorem d_lw_1330 : decode code 1330 = .ok (.iconst 2, 1) := dt_get (q := (1330, .iconst 2, 1)) D_lw_20_ok 10 rfl
theorem d_lw_1331 : decode code 1331 = .ok (.iadd, 1) := dt_get (q := (1331, .iadd, 1)) D_lw_20_ok 11 rfl
theorem d_lw_1332 : decode code 1332 = .ok (.iaload, 1) := dt_get (q := (1332, .iaload, 1)) D_lw_20_ok 12 rfl
theorem d_lw_1333 : decode code 1333 = .ok (.invokevirtual 151, 3) := dt_get (q := (1333, .invokevirtual 151, 3)) D_lw_20_ok 13 rfl
theorem d_lw_1336 : decode code 1336 = .ok (.pop2, 1) := dt_get (q := (1336, .pop2, 1)) D_lw_20_ok 14 rfl
theorem d_lw_1337 : decode code 1337 = .ok (.goto 883, 3) := dt_get (q := (1337, .goto 883, 3)) D_lw_20_ok 15 rfl
theorem d_lw_1340 : decode code 1340 = .ok (.aload_n 1, 1) := dt_get (q := (1340, .aload_n 1, 1)) D_lw_20_ok 16 rfl
theorem d_lw_1341 : decode code 1341 = .ok (.aload_n 0, 1) := dt_get (q := (1341, .aload_n 0, 1)) D_lw_20_ok 17 rfl
theorem d_lw_1342 : decode code 1342 = .ok (.iload 4, 2) := dt_get (q := (1342, .iload 4, 2)) D_lw_20_ok 18 rfl
theorem d_lw_1344 : decode code 1344 = .ok (.iconst 1, 1) := dt_get (q := (1344, .iconst 1, 1)) D_lw_20_ok 19 rfl
theorem d_lw_1345 : decode code 1345 = .ok (.iadd, 1) := dt_get (q := (1345, .iadd, 1)) D_lw_20_ok 20 rfl
theorem d_lw_1346 : decode code 1346 = .ok (.iaload, 1) := dt_get (q := (1346, .iaload, 1)) D_lw_20_ok 21 rfl
theorem d_lw_1347 : decode code 1347 = .ok (.aload_n 0, 1) := dt_get (q := (1347, .aload_n 0, 1)) D_lw_20_ok 22 rfl
theorem d_lw_1348 : decode code 1348 = .ok (.iload 4, 2) := dt_get (q := (1348, .iload 4, 2)) D_lw_20_ok 23 rfl
theorem d_lw_1350 : decode code 1350 = .ok (.iconst 2, 1) := dt_get (q := (1350, .iconst 2, 1)) D_lw_20_ok 24 rfl
theorem d_lw_1351 : decode code 1351 = .ok (.iadd, 1) := dt_get (q := (1351, .iadd, 1)) D_lw_20_ok 25 rfl
theorem d_lw_1352 : decode code 1352 = .ok (.iaload, 1) := dt_get (q := (1352, .iaload, 1)) D_lw_20_ok 26 rfl
theorem d_lw_1353 : decode code 1353 = .ok (.i2l, 1) := dt_get (q := (1353, .i2l, 1)) D_lw_20_ok 27 rfl
theorem d_lw_1354 : decode code 1354 = .ok (.bipush 32, 2) := dt_get (q := (1354, .bipush 32, 2)) D_lw_20_ok 28 rfl
theorem d_lw_1356 : decode code 1356 = .ok (.lshl, 1) := dt_get (q := (1356, .lshl, 1)) D_lw_20_ok 29 rfl
theorem d_lw_1357 : decode code 1357 = .ok (.aload_n 0, 1) := dt_get (q := (1357, .aload_n 0, 1)) D_lw_20_ok 30 rfl
theorem d_lw_1358 : decode code 1358 = .ok (.iload 4, 2) := dt_get (q := (1358, .iload 4, 2)) D_lw_20_ok 31 rfl
theorem d_lw_1360 : decode code 1360 = .ok (.iconst 3, 1) := dt_get (q := (1360, .iconst 3, 1)) D_lw_20_ok 32 rfl
theorem d_lw_1361 : decode code 1361 = .ok (.iadd, 1) := dt_get (q := (1361, .iadd, 1)) D_lw_20_ok 33 rfl
theorem d_lw_1362 : decode code 1362 = .ok (.iaload, 1) := dt_get (q := (1362, .iaload, 1)) D_lw_20_ok 34 rfl
theorem d_lw_1363 : decode code 1363 = .ok (.i2l, 1) := dt_get (q := (1363, .i2l, 1)) D_lw_20_ok 35 rfl
theorem d_lw_1364 : decode code 1364 = .ok (.ldc2_w 152, 3) := dt_get (q := (1364, .ldc2_w 152, 3)) D_lw_20_ok 36 rfl
theorem d_lw_1367 : decode code 1367 = .ok (.land, 1) := dt_get (q := (1367, .land, 1)) D_lw_20_ok 37 rfl
theorem d_lw_1368 : decode code 1368 = .ok (.lor, 1) := dt_get (q := (1368, .lor, 1)) D_lw_20_ok 38 rfl
theorem d_lw_1369 : decode code 1369 = .ok (.invokevirtual 154, 3) := dt_get (q := (1369, .invokevirtual 154, 3)) D_lw_20_ok 39 rfl
def D_lw_21 : DT := [(1372, .pop, 1), (1373, .aload_n 2, 1), (1374, .aload_n 0, 1), (1375, .iload 4, 2), (1377, .iconst 1, 1), (1378, .iadd, 1), (1379, .iaload, 1), (1380, .aload_n 0, 1), (1381, .iload 4, 2), (1383, .iconst 2, 1), (1384, .iadd, 1), (1385, .iaload, 1), (1386, .i2l, 1), (1387, .bipush 32, 2), (1389, .lshl, 1), (1390, .aload_n 0, 1), (1391, .iload 4, 2), (1393, .iconst 3, 1), (1394, .iadd, 1), (1395, .iaload, 1), (1396, .i2l, 1), (1397, .ldc2_w 152, 3), (1400, .land, 1), (1401, .lor, 1), (1402, .invokevirtual 158, 3), (1405, .pop, 1), (1406, .goto 814, 3), (1409, .aload_n 1, 1), (1410, .aload_n 0, 1), (1411, .iload 4, 2), (1413, .iconst 1, 1), (1414, .iadd, 1), (1415, .iaload, 1), (1416, .aload_n 0, 1), (1417, .iload 4, 2), (1419, .iconst 2, 1), (1420, .iadd, 1), (1421, .iaload, 1), (1422, .invokevirtual 159, 3), (1425, .pop2, 1)]
theorem D_lw_21_ok : dtOK code D_lw_21 = true := by decide +kernel
theorem d_lw_1372 : decode code 1372 = .ok (.pop, 1) := dt_get (q := (1372, .pop, 1)) D_lw_21_ok 0 rfl
theorem d_lw_1373 : decode code 1373 = .ok (.aload_n 2, 1) := dt_get (q := (1373, .aload_n 2, 1)) D_lw_21_ok 1 rfl
theorem d_lw_1374 : decode code 1374 = .ok (.aload_n 0, 1) := dt_get (q := (1374, .aload_n 0, 1)) D_lw_21_ok 2 rfl
theorem d_lw_1375 : decode code 1375 = .ok (.iload 4, 2) := dt_get (q := (1375, .iload 4, 2)) D_lw_21_ok 3 rfl
theorem d_lw_1377 : decode code 1377 = .ok (.iconst 1, 1) := dt_get (q := (1377, .iconst 1, 1)) D_lw_21_ok 4 rfl
theorem d_lw_1378 : decode code 1378 = .ok (.iadd, 1) := dt_get (q := (1378, .iadd, 1)) D_lw_21_ok 5 rfl
theorem d_lw_1379 : decode code 1379 = .ok (.iaload, 1) := dt_get (q := (1379, .iaload, 1)) D_lw_21_ok 6 rfl
theorem d_lw_1380 : decode code 1380 = .ok (.aload_n 0, 1) := dt_get (q := (1380, .aload_n 0, 1)) D_lw_21_ok 7 rfl
theorem d_lw_1381 : decode code 1381 = .ok (.iload 4, 2) := dt_get (q := (1381, .iload 4, 2)) D_lw_21_ok 8 rfl
theorem d_lw_1383 : decode code 1383 = .ok (.iconst 2, 1) := dt_get (q := (1383, .iconst 2, 1)) D_lw_21_ok 9 rfl
theorem d_lw_1384 : decode code 1384 = .ok (.iadd, 1) := dt_get (q := (1384, .iadd, 1)) D_lw_21_ok 10 rfl
theorem d_lw_1385 : decode code 1385 = .ok (.iaload, 1) := dt_get (q := (1385, .iaload, 1)) D_lw_21_ok 11 rfl
theorem d_lw_1386 : decode code 1386 = .ok (.i2l, 1) := dt_get (q := (1386, .i2l, 1)) D_lw_21_ok 12 rfl
theorem d_lw_1387 : decode code 1387 = .ok (.bipush 32, 2) := dt_get (q := (1387, .bipush 32, 2)) D_lw_21_ok 13 rfl
theorem d_lw_1389 : decode code 1389 = .ok (.lshl, 1) := dt_get (q := (1389, .lshl, 1)) D_lw_21_ok 14 rfl
theorem d_lw_1390 : decode code 1390 = .ok (.aload_n 0, 1) := dt_get (q := (1390, .aload_n 0, 1)) D_lw_21_ok 15 rfl
theorem d_lw_1391 : decode code 1391 = .ok (.iload 4, 2) := dt_get (q := (1391, .iload 4, 2)) D_lw_21_ok 16 rfl
theorem d_lw_1393 : decode code 1393 = .ok (.iconst 3, 1) := dt_get (q := (1393, .iconst 3, 1)) D_lw_21_ok 17 rfl
theorem d_lw_1394 : decode code 1394 = .ok (.iadd, 1) := dt_get (q := (1394, .iadd, 1)) D_lw_21_ok 18 rfl
theorem d_lw_1395 : decode code 1395 = .ok (.iaload, 1) := dt_get (q := (1395, .iaload, 1)) D_lw_21_ok 19 rfl
theorem d_lw_1396 : decode code 1396 = .ok (.i2l, 1) := dt_get (q := (1396, .i2l, 1)) D_lw_21_ok 20 rfl
theorem d_lw_1397 : decode code 1397 = .ok (.ldc2_w 152, 3) := dt_get (q := (1397, .ldc2_w 152, 3)) D_lw_21_ok 21 rfl
theorem d_lw_1400 : decode code 1400 = .ok (.land, 1) := dt_get (q := (1400, .land, 1)) D_lw_21_ok 22 rfl
theorem d_lw_1401 : decode code 1401 = .ok (.lor, 1) := dt_get (q := (1401, .lor, 1)) D_lw_21_ok 23 rfl
theorem d_lw_1402 : decode code 1402 = .ok (.invokevirtual 158, 3) := dt_get (q := (1402, .invokevirtual 158, 3)) D_lw_21_ok 24 rfl
theorem d_lw_1405 : decode code 1405 = .ok (.pop, 1) := dt_get (q := (1405, .pop, 1)) D_lw_21_ok 25 rfl
theorem d_lw_1406 : decode code 1406 = .ok (.goto 814, 3) := dt_get (q := (1406, .goto 814, 3)) D_lw_21_ok 26 rfl
theorem d_lw_1409 : decode code 1409 = .ok (.aload_n 1, 1) := dt_get (q := (1409, .aload_n 1, 1)) D_lw_21_ok 27 rfl
theorem d_lw_1410 : decode code 1410 = .ok (.aload_n 0, 1) := dt_get (q := (1410, .aload_n 0, 1)) D_lw_21_ok 28 rfl
theorem d_lw_1411 : decode code 1411 = .ok (.iload 4, 2) := dt_get (q := (1411, .iload 4, 2)) D_lw_21_ok 29 rfl
theorem d_lw_1413 : decode code 1413 = .ok (.iconst 1, 1) := dt_get (q := (1413, .iconst 1, 1)) D_lw_21_ok 30 rfl
theorem d_lw_1414 : decode code 1414 = .ok (.iadd, 1) := dt_get (q := (1414, .iadd, 1)) D_lw_21_ok 31 rfl
theorem d_lw_1415 : decode code 1415 = .ok (.iaload, 1) := dt_get (q := (1415, .iaload, 1)) D_lw_21_ok 32 rfl
theorem d_lw_1416 : decode code 1416 = .ok (.aload_n 0, 1) := dt_get (q := (1416, .aload_n 0, 1)) D_lw_21_ok 33 rfl
theorem d_lw_1417 : decode code 1417 = .ok (.iload 4, 2) := dt_get (q := (1417, .iload 4, 2)) D_lw_21_ok 34 rfl
theorem d_lw_1419 : decode code 1419 = .ok (.iconst 2, 1) := dt_get (q := (1419, .iconst 2, 1)) D_lw_21_ok 35 rfl
theorem d_lw_1420 : decode code 1420 = .ok (.iadd, 1) := dt_get (q := (1420, .iadd, 1)) D_lw_21_ok 36 rfl
theorem d_lw_1421 : decode code 1421 = .ok (.iaload, 1) := dt_get (q := (1421, .iaload, 1)) D_lw_21_ok 37 rfl
theorem d_lw_1422 : decode code 1422 = .ok (.invokevirtual 159, 3) := dt_get (q := (1422, .invokevirtual 159, 3)) D_lw_21_ok 38 rfl
theorem d_lw_1425 : decode code 1425 = .ok (.pop2, 1) := dt_get (q := (1425, .pop2, 1)) D_lw_21_ok 39 rfl
def D_lw_22 : DT := [(1426, .aload_n 2, 1), (1427, .aload_n 0, 1), (1428, .iload 4, 2), (1430, .iconst 1, 1), (1431, .iadd, 1), (1432, .iaload, 1), (1433, .aload_n 0, 1), (1434, .iload 4, 2), (1436, .iconst 2, 1), (1437, .iadd, 1), (1438, .iaload, 1), (1439, .invokevirtual 162, 3), (1442, .pop2, 1), (1443, .goto 777, 3), (1446, .aload_n 1, 1), (1447, .aload_n 0, 1), (1448, .iload 4, 2), (1450, .iconst 1, 1), (1451, .iadd, 1), (1452, .iaload, 1), (1453, .aload_n 0, 1), (1454, .iload 4, 2), (1456, .iconst 2, 1), (1457, .iadd, 1), (1458, .iaload, 1), (1459, .invokevirtual 163, 3), (1462, .pop, 1), (1463, .aload_n 2, 1), (1464, .aload_n 0, 1), (1465, .iload 4, 2), (1467, .iconst 1, 1), (1468, .iadd, 1), (1469, .iaload, 1), (1470, .aload_n 0, 1), (1471, .iload 4, 2), (1473, .iconst 2, 1), (1474, .iadd, 1), (1475, .iaload, 1), (1476, .invokevirtual 166, 3), (1479, .pop, 1)]
theorem D_lw_22_ok : dtOK code D_lw_22 = true := by decide +kernel
theorem d_lw_1426 : decode code 1426 = .ok (.aload_n 2, 1) := dt_get (q := (1426, .aload_n 2, 1)) D_lw_22_ok 0 rfl
theorem d_lw_1427 : decode code 1427 = .ok (.aload_n 0, 1) := dt_get (q := (1427, .aload_n 0, 1)) D_lw_22_ok 1 rfl
theorem d_lw_1428 : decode code 1428 = .ok (.iload 4, 2) := dt_get (q := (1428, .iload 4, 2)) D_lw_22_ok 2 rfl
theorem d_lw_1430 : decode code 1430 = .ok (.iconst 1, 1) := dt_get (q := (1430, .iconst 1, 1)) D_lw_22_ok 3 rfl
theorem d_lw_1431 : decode code 1431 = .ok (.iadd, 1) := dt_get (q := (1431, .iadd, 1)) D_lw_22_ok 4 rfl
theorem d_lw_1432 : decode code 1432 = .ok (.iaload, 1) := dt_get (q := (1432, .iaload, 1)) D_lw_22_ok 5 rfl
theorem d_lw_1433 : decode code 1433 = .ok (.aload_n 0, 1) := dt_get (q := (1433, .aload_n 0, 1)) D_lw_22_ok 6 rfl
theorem d_lw_1434 : decode code 1434 = .ok (.iload 4, 2) := dt_get (q := (1434, .iload 4, 2)) D_lw_22_ok 7 rfl
theorem d_lw_1436 : decode code 1436 = .ok (.iconst 2, 1) := dt_get (q := (1436, .iconst 2, 1)) D_lw_22_ok 8 rfl
theorem d_lw_1437 : decode code 1437 = .ok (.iadd, 1) := dt_get (q := (1437, .iadd, 1)) D_lw_22_ok 9 rfl
theorem d_lw_1438 : decode code 1438 = .ok (.iaload, 1) := dt_get (q := (1438, .iaload, 1)) D_lw_22_ok 10 rfl
theorem d_lw_1439 : decode code 1439 = .ok (.invokevirtual 162, 3) := dt_get (q := (1439, .invokevirtual 162, 3)) D_lw_22_ok 11 rfl
theorem d_lw_1442 : decode code 1442 = .ok (.pop2, 1) := dt_get (q := (1442, .pop2, 1)) D_lw_22_ok 12 rfl
theorem d_lw_1443 : decode code 1443 = .ok (.goto 777, 3) := dt_get (q := (1443, .goto 777, 3)) D_lw_22_ok 13 rfl
theorem d_lw_1446 : decode code 1446 = .ok (.aload_n 1, 1) := dt_get (q := (1446, .aload_n 1, 1)) D_lw_22_ok 14 rfl
theorem d_lw_1447 : decode code 1447 = .ok (.aload_n 0, 1) := dt_get (q := (1447, .aload_n 0, 1)) D_lw_22_ok 15 rfl
theorem d_lw_1448 : decode code 1448 = .ok (.iload 4, 2) := dt_get (q := (1448, .iload 4, 2)) D_lw_22_ok 16 rfl
theorem d_lw_1450 : decode code 1450 = .ok (.iconst 1, 1) := dt_get (q := (1450, .iconst 1, 1)) D_lw_22_ok 17 rfl
theorem d_lw_1451 : decode code 1451 = .ok (.iadd, 1) := dt_get (q := (1451, .iadd, 1)) D_lw_22_ok 18 rfl
theorem d_lw_1452 : decode code 1452 = .ok (.iaload, 1) := dt_get (q := (1452, .iaload, 1)) D_lw_22_ok 19 rfl
theorem d_lw_1453 : decode code 1453 = .ok (.aload_n 0, 1) := dt_get (q := (1453, .aload_n 0, 1)) D_lw_22_ok 20 rfl
theorem d_lw_1454 : decode code 1454 = .ok (.iload 4, 2) := dt_get (q := (1454, .iload 4, 2)) D_lw_22_ok 21 rfl
theorem d_lw_1456 : decode code 1456 = .ok (.iconst 2, 1) := dt_get (q := (1456, .iconst 2, 1)) D_lw_22_ok 22 rfl
theorem d_lw_1457 : decode code 1457 = .ok (.iadd, 1) := dt_get (q := (1457, .iadd, 1)) D_lw_22_ok 23 rfl
theorem d_lw_1458 : decode code 1458 = .ok (.iaload, 1) := dt_get (q := (1458, .iaload, 1)) D_lw_22_ok 24 rfl
theorem d_lw_1459 : decode code 1459 = .ok (.invokevirtual 163, 3) := dt_get (q := (1459, .invokevirtual 163, 3)) D_lw_22_ok 25 rfl
theorem d_lw_1462 : decode code 1462 = .ok (.pop, 1) := dt_get (q := (1462, .pop, 1)) D_lw_22_ok 26 rfl
theorem d_lw_1463 : decode code 1463 = .ok (.aload_n 2, 1) := dt_get (q := (1463, .aload_n 2, 1)) D_lw_22_ok 27 rfl
theorem d_lw_1464 : decode code 1464 = .ok (.aload_n 0, 1) := dt_get (q := (1464, .aload_n 0, 1)) D_lw_22_ok 28 rfl
theorem d_lw_1465 : decode code 1465 = .ok (.iload 4, 2) := dt_get (q := (1465, .iload 4, 2)) D_lw_22_ok 29 rfl
theorem d_lw_1467 : decode code 1467 = .ok (.iconst 1, 1) := dt_get (q := (1467, .iconst 1, 1)) D_lw_22_ok 30 rfl
theorem d_lw_1468 : decode code 1468 = .ok (.iadd, 1) := dt_get (q := (1468, .iadd, 1)) D_lw_22_ok 31 rfl
theorem d_lw_1469 : decode code 1469 = .ok (.iaload, 1) := dt_get (q := (1469, .iaload, 1)) D_lw_22_ok 32 rfl
theorem d_lw_1470 : decode code 1470 = .ok (.aload_n 0, 1) := dt_get (q := (1470, .aload_n 0, 1)) D_lw_22_ok 33 rfl
theorem d_lw_1471 : decode code 1471 = .ok (.iload 4, 2) := dt_get (q := (1471, .iload 4, 2)) D_lw_22_ok 34 rfl
theorem d_lw_1473 : decode code 1473 = .ok (.iconst 2, 1) := dt_get (q := (1473, .iconst 2, 1)) D_lw_22_ok 35 rfl
theorem d_lw_1474 : decode code 1474 = .ok (.iadd, 1) := dt_get (q := (1474, .iadd, 1)) D_lw_22_ok 36 rfl
theorem d_lw_1475 : decode code 1475 = .ok (.iaload, 1) := dt_get (q := (1475, .iaload, 1)) D_lw_22_ok 37 rfl
theorem d_lw_1476 : decode code 1476 = .ok (.invokevirtual 166, 3) := dt_get (q := (1476, .invokevirtual 166, 3)) D_lw_22_ok 38 rfl
theorem d_lw_1479 : decode code 1479 = .ok (.pop, 1) := dt_get (q := (1479, .pop, 1)) D_lw_22_ok 39 rfl
def D_lw_23 : DT := [(1480, .goto 740, 3), (1483, .aload_n 1, 1), (1484, .aload_n 0, 1), (1485, .iload 4, 2), (1487, .iconst 1, 1), (1488, .iadd, 1), (1489, .iaload, 1), (1490, .invokevirtual 167, 3), (1493, .pop, 1), (1494, .aload_n 2, 1), (1495, .aload_n 0, 1), (1496, .iload 4, 2), (1498, .iconst 1, 1), (1499, .iadd, 1), (1500, .iaload, 1), (1501, .invokevirtual 170, 3), (1504, .pop, 1), (1505, .goto 715, 3), (1508, .aload_n 1, 1), (1509, .aload_n 0, 1), (1510, .iload 4, 2), (1512, .iconst 1, 1), (1513, .iadd, 1), (1514, .iaload, 1), (1515, .aload_n 0, 1), (1516, .iload 4, 2), (1518, .iconst 2, 1), (1519, .iadd, 1), (1520, .iaload, 1), (1521, .aload_n 0, 1), (1522, .iload 4, 2), (1524, .iconst 3, 1), (1525, .iadd, 1), (1526, .iaload, 1), (1527, .aload_n 0, 1), (1528, .iload 4, 2), (1530, .iconst 4, 1), (1531, .iadd, 1), (1532, .iaload, 1), (1533, .aload_n 0, 1)]
theorem D_lw_23_ok : dtOK code D_lw_23 = true := by decide +kernel
theorem d_lw_1480 : decode code 1480 = .ok (.goto 740, 3) := dt_get (q := (1480, .goto 740, 3)) D_lw_23_ok 0 rfl
theorem d_lw_1483 : decode code 1483 = .ok (.aload_n 1, 1) := dt_get (q := (1483, .aload_n 1, 1)) D_lw_23_ok 1 rfl
theorem d_lw_1484 : decode code 1484 = .ok (.aload_n 0, 1) := dt_get (q := (1484, .aload_n 0, 1)) D_lw_23_ok 2 rfl
theorem d_lw_1485 : decode code 1485 = .ok (.iload 4, 2) := dt_get (q := (1485, .iload 4, 2)) D_lw_23_ok 3 rfl
theorem d_lw_1487 : decode code 1487 = .ok (.iconst 1, 1) := dt_get (q := (1487, .iconst 1, 1)) D_lw_23_ok 4 rfl
theorem d_lw_1488 : decode code 1488 = .ok (.iadd, 1) := dt_get (q := (1488, .iadd, 1)) D_lw_23_ok 5 rfl
theorem d_lw_1489 : decode code 1489 = .ok (.iaload, 1) := dt_get (q := (1489, .iaload, 1)) D_lw_23_ok 6 rfl
theorem d_lw_1490 : decode code 1490 = .ok (.invokevirtual 167, 3) := dt_get (q := (1490, .invokevirtual 167, 3)) D_lw_23_ok 7 rfl
theorem d_lw_1493 : decode code 1493 = .ok (.pop, 1) := dt_get (q := (1493, .pop, 1)) D_lw_23_ok 8 rfl
theorem d_lw_1494 : decode code 1494 = .ok (.aload_n 2, 1) := dt_get (q := (1494, .aload_n 2, 1)) D_lw_23_ok 9 rfl
theorem d_lw_1495 : decode code 1495 = .ok (.aload_n 0, 1) := dt_get (q := (1495, .aload_n 0, 1)) D_lw_23_ok 10 rfl
theorem d_lw_1496 : decode code 1496 = .ok (.iload 4, 2) := dt_get (q := (1496, .iload 4, 2)) D_lw_23_ok 11 rfl
theorem d_lw_1498 : decode code 1498 = .ok (.iconst 1, 1) := dt_get (q := (1498, .iconst 1, 1)) D_lw_23_ok 12 rfl
theorem d_lw_1499 : decode code 1499 = .ok (.iadd, 1) := dt_get (q := (1499, .iadd, 1)) D_lw_23_ok 13 rfl
theorem d_lw_1500 : decode code 1500 = .ok (.iaload, 1) := dt_get (q := (1500, .iaload, 1)) D_lw_23_ok 14 rfl
theorem d_lw_1501 : decode code 1501 = .ok (.invokevirtual 170, 3) := dt_get (q := (1501, .invokevirtual 170, 3)) D_lw_23_ok 15 rfl
theorem d_lw_1504 : decode code 1504 = .ok (.pop, 1) := dt_get (q := (1504, .pop, 1)) D_lw_23_ok 16 rfl
theorem d_lw_1505 : decode code 1505 = .ok (.goto 715, 3) := dt_get (q := (1505, .goto 715, 3)) D_lw_23_ok 17 rfl
theorem d_lw_1508 : decode code 1508 = .ok (.aload_n 1, 1) := dt_get (q := (1508, .aload_n 1, 1)) D_lw_23_ok 18 rfl
theorem d_lw_1509 : decode code 1509 = .ok (.aload_n 0, 1) := dt_get (q := (1509, .aload_n 0, 1)) D_lw_23_ok 19 rfl
theorem d_lw_1510 : decode code 1510 = .ok (.iload 4, 2) := dt_get (q := (1510, .iload 4, 2)) D_lw_23_ok 20 rfl
theorem d_lw_1512 : decode code 1512 = .ok (.iconst 1, 1) := dt_get (q := (1512, .iconst 1, 1)) D_lw_23_ok 21 rfl
theorem d_lw_1513 : decode code 1513 = .ok (.iadd, 1) := dt_get (q := (1513, .iadd, 1)) D_lw_23_ok 22 rfl
theorem d_lw_1514 : decode code 1514 = .ok (.iaload, 1) := dt_get (q := (1514, .iaload, 1)) D_lw_23_ok 23 rfl
theorem d_lw_1515 : decode code 1515 = .ok (.aload_n 0, 1) := dt_get (q := (1515, .aload_n 0, 1)) D_lw_23_ok 24 rfl
theorem d_lw_1516 : decode code 1516 = .ok (.iload 4, 2) := dt_get (q := (1516, .iload 4, 2)) D_lw_23_ok 25 rfl
theorem d_lw_1518 : decode code 1518 = .ok (.iconst 2, 1) := dt_get (q := (1518, .iconst 2, 1)) D_lw_23_ok 26 rfl
theorem d_lw_1519 : decode code 1519 = .ok (.iadd, 1) := dt_get (q := (1519, .iadd, 1)) D_lw_23_ok 27 rfl
theorem d_lw_1520 : decode code 1520 = .ok (.iaload, 1) := dt_get (q := (1520, .iaload, 1)) D_lw_23_ok 28 rfl
theorem d_lw_1521 : decode code 1521 = .ok (.aload_n 0, 1) := dt_get (q := (1521, .aload_n 0, 1)) D_lw_23_ok 29 rfl
theorem d_lw_1522 : decode code 1522 = .ok (.iload 4, 2) := dt_get (q := (1522, .iload 4, 2)) D_lw_23_ok 30 rfl
theorem d_lw_1524 : decode code 1524 = .ok (.iconst 3, 1) := dt_get (q := (1524, .iconst 3, 1)) D_lw_23_ok 31 rfl
theorem d_lw_1525 : decode code 1525 = .ok (.iadd, 1) := dt_get (q := (1525, .iadd, 1)) D_lw_23_ok 32 rfl
theorem d_lw_1526 : decode code 1526 = .ok (.iaload, 1) := dt_get (q := (1526, .iaload, 1)) D_lw_23_ok 33 rfl
theorem d_lw_1527 : decode code 1527 = .ok (.aload_n 0, 1) := dt_get (q := (1527, .aload_n 0, 1)) D_lw_23_ok 34 rfl
theorem d_lw_1528 : decode code 1528 = .ok (.iload 4, 2) := dt_get (q := (1528, .iload 4, 2)) D_lw_23_ok 35 rfl
theorem d_lw_1530 : decode code 1530 = .ok (.iconst 4, 1) := dt_get (q := (1530, .iconst 4, 1)) D_lw_23_ok 36 rfl
theorem d_lw_1531 : decode code 1531 = .ok (.iadd, 1) := dt_get (q := (1531, .iadd, 1)) D_lw_23_ok 37 rfl
theorem d_lw_1532 : decode code 1532 = .ok (.iaload, 1) := dt_get (q := (1532, .iaload, 1)) D_lw_23_ok 38 rfl
theorem d_lw_1533 : decode code 1533 = .ok (.aload_n 0, 1) := dt_get (q := (1533, .aload_n 0, 1)) D_lw_23_ok 39 rfl
def D_lw_24 : DT := [(1534, .iload 4, 2), (1536, .iconst 5, 1), (1537, .iadd, 1), (1538, .iaload, 1), (1539, .invokevirtual 171, 3), (1542, .pop, 1), (1543, .aload_n 2, 1), (1544, .aload_n 0, 1), (1545, .iload 4, 2), (1547, .iconst 1, 1), (1548, .iadd, 1), (1549, .iaload, 1), (1550, .aload_n 0, 1), (1551, .iload 4, 2), (1553, .iconst 2, 1), (1554, .iadd, 1), (1555, .iaload, 1), (1556, .aload_n 0, 1), (1557, .iload 4, 2), (1559, .iconst 3, 1), (1560, .iadd, 1), (1561, .iaload, 1), (1562, .aload_n 0, 1), (1563, .iload 4, 2), (1565, .iconst 4, 1), (1566, .iadd, 1), (1567, .iaload, 1), (1568, .aload_n 0, 1), (1569, .iload 4, 2), (1571, .iconst 5, 1), (1572, .iadd, 1), (1573, .iaload, 1), (1574, .invokevirtual 175, 3), (1577, .pop, 1), (1578, .goto 642, 3), (1581, .aload_n 1, 1), (1582, .aload_n 0, 1), (1583, .iload 4, 2), (1585, .iconst 1, 1), (1586, .iadd, 1)]
theorem D_lw_24_ok : dtOK code D_lw_24 = true := by decide +kernel
theorem d_lw_1534 : decode code 1534 = .ok (.iload 4, 2) := dt_get (q := (1534, .iload 4, 2)) D_lw_24_ok 0 rfl
theorem d_lw_1536 : decode code 1536 = .ok (.iconst 5, 1) := dt_get (q := (1536, .iconst 5, 1)) D_lw_24_ok 1 rfl
theorem d_lw_1537 : decode code 1537 = .ok (.iadd, 1) := dt_get (q := (1537, .iadd, 1)) D_lw_24_ok 2 rfl
theorem d_lw_1538 : decode code 1538 = .ok (.iaload, 1) := dt_get (q := (1538, .iaload, 1)) D_lw_24_ok 3 rfl
theorem d_lw_1539 : decode code 1539 = .ok (.invokevirtual 171, 3) := dt_get (q := (1539, .invokevirtual 171, 3)) D_lw_24_ok 4 rfl
theorem d_lw_1542 : decode code 1542 = .ok (.pop, 1) := dt_get (q := (1542, .pop, 1)) D_lw_24_ok 5 rfl
theorem d_lw_1543 : decode code 1543 = .ok (.aload_n 2, 1) := dt_get (q := (1543, .aload_n 2, 1)) D_lw_24_ok 6 rfl
theorem d_lw_1544 : decode code 1544 = .ok (.aload_n 0, 1) := dt_get (q := (1544, .aload_n 0, 1)) D_lw_24_ok 7 rfl
theorem d_lw_1545 : decode code 1545 = .ok (.iload 4, 2) := dt_get (q := (1545, .iload 4, 2)) D_lw_24_ok 8 rfl
theorem d_lw_1547 : decode code 1547 = .ok (.iconst 1, 1) := dt_get (q := (1547, .iconst 1, 1)) D_lw_24_ok 9 rfl
theorem d_lw_1548 : decode code 1548 = .ok (.iadd, 1) := dt_get (q := (1548, .iadd, 1)) D_lw_24_ok 10 rfl
theorem d_lw_1549 : decode code 1549 = .ok (.iaload, 1) := dt_get (q := (1549, .iaload, 1)) D_lw_24_ok 11 rfl
theorem d_lw_1550 : decode code 1550 = .ok (.aload_n 0, 1) := dt_get (q := (1550, .aload_n 0, 1)) D_lw_24_ok 12 rfl
theorem d_lw_1551 : decode code 1551 = .ok (.iload 4, 2) := dt_get (q := (1551, .iload 4, 2)) D_lw_24_ok 13 rfl
theorem d_lw_1553 : decode code 1553 = .ok (.iconst 2, 1) := dt_get (q := (1553, .iconst 2, 1)) D_lw_24_ok 14 rfl
theorem d_lw_1554 : decode code 1554 = .ok (.iadd, 1) := dt_get (q := (1554, .iadd, 1)) D_lw_24_ok 15 rfl
theorem d_lw_1555 : decode code 1555 = .ok (.iaload, 1) := dt_get (q := (1555, .iaload, 1)) D_lw_24_ok 16 rfl
theorem d_lw_1556 : decode code 1556 = .ok (.aload_n 0, 1) := dt_get (q := (1556, .aload_n 0, 1)) D_lw_24_ok 17 rfl
theorem d_lw_1557 : decode code 1557 = .ok (.iload 4, 2) := dt_get (q := (1557, .iload 4, 2)) D_lw_24_ok 18 rfl
theorem d_lw_1559 : decode code 1559 = .ok (.iconst 3, 1) := dt_get (q := (1559, .iconst 3, 1)) D_lw_24_ok 19 rfl
theorem d_lw_1560 : decode code 1560 = .ok (.iadd, 1) := dt_get (q := (1560, .iadd, 1)) D_lw_24_ok 20 rfl
theorem d_lw_1561 : decode code 1561 = .ok (.iaload, 1) := dt_get (q := (1561, .iaload, 1)) D_lw_24_ok 21 rfl
theorem d_lw_1562 : decode code 1562 = .ok (.aload_n 0, 1) := dt_get (q := (1562, .aload_n 0, 1)) D_lw_24_ok 22 rfl
theorem d_lw_1563 : decode code 1563 = .ok (.iload 4, 2) := dt_get (q := (1563, .iload 4, 2)) D_lw_24_ok 23 rfl
theorem d_lw_1565 : decode code 1565 = .ok (.iconst 4, 1) := dt_get (q := (1565, .iconst 4, 1)) D_lw_24_ok 24 rfl
theorem d_lw_1566 : decode code 1566 = .ok (.iadd, 1) := dt_get (q := (1566, .iadd, 1)) D_lw_24_ok 25 rfl
theorem d_lw_1567 : decode code 1567 = .ok (.iaload, 1) := dt_get (q := (1567, .iaload, 1)) D_lw_24_ok 26 rfl
theorem d_lw_1568 : decode code 1568 = .ok (.aload_n 0, 1) := dt_get (q := (1568, .aload_n 0, 1)) D_lw_24_ok 27 rfl
theorem d_lw_1569 : decode code 1569 = .ok (.iload 4, 2) := dt_get (q := (1569, .iload 4, 2)) D_lw_24_ok 28 rfl
theorem d_lw_1571 : decode code 1571 = .ok (.iconst 5, 1) := dt_get (q := (1571, .iconst 5, 1)) D_lw_24_ok 29 rfl
theorem d_lw_1572 : decode code 1572 = .ok (.iadd, 1) := dt_get (q := (1572, .iadd, 1)) D_lw_24_ok 30 rfl
theorem d_lw_1573 : decode code 1573 = .ok (.iaload, 1) := dt_get (q := (1573, .iaload, 1)) D_lw_24_ok 31 rfl
theorem d_lw_1574 : decode code 1574 = .ok (.invokevirtual 175, 3) := dt_get (q := (1574, .invokevirtual 175, 3)) D_lw_24_ok 32 rfl
theorem d_lw_1577 : decode code 1577 = .ok (.pop, 1) := dt_get (q := (1577, .pop, 1)) D_lw_24_ok 33 rfl
theorem d_lw_1578 : decode code 1578 = .ok (.goto 642, 3) := dt_get (q := (1578, .goto 642, 3)) D_lw_24_ok 34 rfl
theorem d_lw_1581 : decode code 1581 = .ok (.aload_n 1, 1) := dt_get (q := (1581, .aload_n 1, 1)) D_lw_24_ok 35 rfl
theorem d_lw_1582 : decode code 1582 = .ok (.aload_n 0, 1) := dt_get (q := (1582, .aload_n 0, 1)) D_lw_24_ok 36 rfl
theorem d_lw_1583 : decode code 1583 = .ok (.iload 4, 2) := dt_get (q := (1583, .iload 4, 2)) D_lw_24_ok 37 rfl
theorem d_lw_1585 : decode code 1585 = .ok (.iconst 1, 1) := dt_get (q := (1585, .iconst 1, 1)) D_lw_24_ok 38 rfl
theorem d_lw_1586 : decode code 1586 = .ok (.iadd, 1) := dt_get (q := (1586, .iadd, 1)) D_lw_24_ok 39 rfl
def D_lw_25 : DT := [(1587, .iaload, 1), (1588, .invokevirtual 176, 3), (1591, .pop2, 1), (1592, .aload_n 2, 1), (1593, .aload_n 0, 1), (1594, .iload 4, 2), (1596, .iconst 1, 1), (1597, .iadd, 1), (1598, .iaload, 1), (1599, .invokevirtual 179, 3), (1602, .pop2, 1), (1603, .goto 617, 3), (1606, .aload_n 1, 1), (1607, .aload_n 0, 1), (1608, .iload 4, 2), (1610, .iconst 1, 1), (1611, .iadd, 1), (1612, .iaload, 1), (1613, .aload_n 0, 1), (1614, .iload 4, 2), (1616, .iconst 2, 1), (1617, .iadd, 1), (1618, .iaload, 1), (1619, .aload_n 0, 1), (1620, .iload 4, 2), (1622, .iconst 3, 1), (1623, .iadd, 1), (1624, .iaload, 1), (1625, .invokevirtual 180, 3), (1628, .pop, 1), (1629, .aload_n 2, 1), (1630, .aload_n 0, 1), (1631, .iload 4, 2), (1633, .iconst 1, 1), (1634, .iadd, 1), (1635, .iaload, 1), (1636, .aload_n 0, 1), (1637, .iload 4, 2), (1639, .iconst 2, 1), (1640, .iadd, 1)]
theorem D_lw_25_ok : dtOK code D_lw_25 = true := by decide +kernel
theorem d_lw_1587 : decode code 1587 = .ok (.iaload, 1) := dt_get (q := (1587, .iaload, 1)) D_lw_25_ok 0 rfl
theorem d_lw_1588 : decode code 1588 = .ok (.invokevirtual 176, 3) := dt_get (q := (1588, .invokevirtual 176, 3)) D_lw_25_ok 1 rfl
theorem d_lw_1591 : decode code 1591 = .ok (.pop2, 1) := dt_get (q := (1591, .pop2, 1)) D_lw_25_ok 2 rfl
theorem d_lw_1592 : decode code 1592 = .ok (.aload_n 2, 1) := dt_get (q := (1592, .aload_n 2, 1)) D_lw_25_ok 3 rfl
theorem d_lw_1593 : decode code 1593 = .ok (.aload_n 0, 1) := dt_get (q := (1593, .aload_n 0, 1)) D_lw_25_ok 4 rfl
theorem d_lw_1594 : decode code 1594 = .ok (.iload 4, 2) := dt_get (q := (1594, .iload 4, 2)) D_lw_25_ok 5 rfl
theorem d_lw_1596 : decode code 1596 = .ok (.iconst 1, 1) := dt_get (q := (1596, .iconst 1, 1)) D_lw_25_ok 6 rfl
theorem d_lw_1597 : decode code 1597 = .ok (.iadd, 1) := dt_get (q := (1597, .iadd, 1)) D_lw_25_ok 7 rfl
theorem d_lw_1598 : decode code 1598 = .ok (.iaload, 1) := dt_get (q := (1598, .iaload, 1)) D_lw_25_ok 8 rfl
theorem d_lw_1599 : decode code 1599 = .ok (.invokevirtual 179, 3) := dt_get (q := (1599, .invokevirtual 179, 3)) D_lw_25_ok 9 rfl
theorem d_lw_1602 : decode code 1602 = .ok (.pop2, 1) := dt_get (q := (1602, .pop2, 1)) D_lw_25_ok 10 rfl
theorem d_lw_1603 : decode code 1603 = .ok (.goto 617, 3) := dt_get (q := (1603, .goto 617, 3)) D_lw_25_ok 11 rfl
theorem d_lw_1606 : decode code 1606 = .ok (.aload_n 1, 1) := dt_get (q := (1606, .aload_n 1, 1)) D_lw_25_ok 12 rfl
theorem d_lw_1607 : decode code 1607 = .ok (.aload_n 0, 1) := dt_get (q := (1607, .aload_n 0, 1)) D_lw_25_ok 13 rfl
theorem d_lw_1608 : decode code 1608 = .ok (.iload 4, 2) := dt_get (q := (1608, .iload 4, 2)) D_lw_25_ok 14 rfl
theorem d_lw_1610 : decode code 1610 = .ok (.iconst 1, 1) := dt_get (q := (1610, .iconst 1, 1)) D_lw_25_ok 15 rfl
theorem d_lw_1611 : decode code 1611 = .ok (.iadd, 1) := dt_get (q := (1611, .iadd, 1)) D_lw_25_ok 16 rfl
theorem d_lw_1612 : decode code 1612 = .ok (.iaload, 1) := dt_get (q := (1612, .iaload, 1)) D_lw_25_ok 17 rfl
theorem d_lw_1613 : decode code 1613 = .ok (.aload_n 0, 1) := dt_get (q := (1613, .aload_n 0, 1)) D_lw_25_ok 18 rfl
theorem d_lw_1614 : decode code 1614 = .ok (.iload 4, 2) := dt_get (q := (1614, .iload 4, 2)) D_lw_25_ok 19 rfl
theorem d_lw_1616 : decode code 1616 = .ok (.iconst 2, 1) := dt_get (q := (1616, .iconst 2, 1)) D_lw_25_ok 20 rfl
theorem d_lw_1617 : decode code 1617 = .ok (.iadd, 1) := dt_get (q := (1617, .iadd, 1)) D_lw_25_ok 21 rfl
theorem d_lw_1618 : decode code 1618 = .ok (.iaload, 1) := dt_get (q := (1618, .iaload, 1)) D_lw_25_ok 22 rfl
theorem d_lw_1619 : decode code 1619 = .ok (.aload_n 0, 1) := dt_get (q := (1619, .aload_n 0, 1)) D_lw_25_ok 23 rfl
theorem d_lw_1620 : decode code 1620 = .ok (.iload 4, 2) := dt_get (q := (1620, .iload 4, 2)) D_lw_25_ok 24 rfl
theorem d_lw_1622 : decode code 1622 = .ok (.iconst 3, 1) := dt_get (q := (1622, .iconst 3, 1)) D_lw_25_ok 25 rfl
theorem d_lw_1623 : decode code 1623 = .ok (.iadd, 1) := dt_get (q := (1623, .iadd, 1)) D_lw_25_ok 26 rfl
theorem d_lw_1624 : decode code 1624 = .ok (.iaload, 1) := dt_get (q := (1624, .iaload, 1)) D_lw_25_ok 27 rfl
theorem d_lw_1625 : decode code 1625 = .ok (.invokevirtual 180, 3) := dt_get (q := (1625, .invokevirtual 180, 3)) D_lw_25_ok 28 rfl
theorem d_lw_1628 : decode code 1628 = .ok (.pop, 1) := dt_get (q := (1628, .pop, 1)) D_lw_25_ok 29 rfl
theorem d_lw_1629 : decode code 1629 = .ok (.aload_n 2, 1) := dt_get (q := (1629, .aload_n 2, 1)) D_lw_25_ok 30 rfl
theorem d_lw_1630 : decode code 1630 = .ok (.aload_n 0, 1) := dt_get (q := (1630, .aload_n 0, 1)) D_lw_25_ok 31 rfl
theorem d_lw_1631 : decode code 1631 = .ok (.iload 4, 2) := dt_get (q := (1631, .iload 4, 2)) D_lw_25_ok 32 rfl
theorem d_lw_1633 : decode code 1633 = .ok (.iconst 1, 1) := dt_get (q := (1633, .iconst 1, 1)) D_lw_25_ok 33 rfl
theorem d_lw_1634 : decode code 1634 = .ok (.iadd, 1) := dt_get (q := (1634, .iadd, 1)) D_lw_25_ok 34 rfl
theorem d_lw_1635 : decode code 1635 = .ok (.iaload, 1) := dt_get (q := (1635, .iaload, 1)) D_lw_25_ok 35 rfl
theorem d_lw_1636 : decode code 1636 = .ok (.aload_n 0, 1) := dt_get (q := (1636, .aload_n 0, 1)) D_lw_25_ok 36 rfl
theorem d_lw_1637 : decode code 1637 = .ok (.iload 4, 2) := dt_get (q := (1637, .iload 4, 2)) D_lw_25_ok 37 rfl
theorem d_lw_1639 : decode code 1639 = .ok (.iconst 2, 1) := dt_get (q := (1639, .iconst 2, 1)) D_lw_25_ok 38 rfl
theorem d_lw_1640 : decode code 1640 = .ok (.iadd, 1) := dt_get (q := (1640, .iadd, 1)) D_lw_25_ok 39 rfl
def D_lw_26 : DT := [(1641, .iaload, 1), (1642, .aload_n 0, 1), (1643, .iload 4, 2), (1645, .iconst 3, 1), (1646, .iadd, 1), (1647, .iaload, 1), (1648, .invokevirtual 183, 3), (1651, .pop, 1), (1652, .goto 568, 3), (1655, .aload_n 1, 1), (1656, .invokevirtual 184, 3), (1659, .pop2, 1), (1660, .aload_n 2, 1), (1661, .invokevirtual 188, 3), (1664, .pop2, 1), (1665, .goto 555, 3), (1668, .aload_n 1, 1), (1669, .aload_n 0, 1), (1670, .iload 4, 2), (1672, .iconst 1, 1), (1673, .iadd, 1), (1674, .iaload, 1), (1675, .aload_n 0, 1), (1676, .iload 4, 2), (1678, .iconst 2, 1), (1679, .iadd, 1), (1680, .iaload, 1), (1681, .i2l, 1), (1682, .bipush 32, 2), (1684, .lshl, 1), (1685, .aload_n 0, 1), (1686, .iload 4, 2), (1688, .iconst 3, 1), (1689, .iadd, 1), (1690, .iaload, 1), (1691, .i2l, 1), (1692, .ldc2_w 152, 3), (1695, .land, 1), (1696, .lor, 1), (1697, .aload_n 0, 1)]
theorem D_lw_26_ok : dtOK code D_lw_26 = true := by decide +kernel
theorem d_lw_1641 : decode code 1641 = .ok (.iaload, 1) := dt_get (q := (1641, .iaload, 1)) D_lw_26_ok 0 rfl
theorem d_lw_1642 : decode code 1642 = .ok (.aload_n 0, 1) := dt_get (q := (1642, .aload_n 0, 1)) D_lw_26_ok 1 rfl
theorem d_lw_1643 : decode code 1643 = .ok (.iload 4, 2) := dt_get (q := (1643, .iload 4, 2)) D_lw_26_ok 2 rfl
theorem d_lw_1645 : decode code 1645 = .ok (.iconst 3, 1) := dt_get (q := (1645, .iconst 3, 1)) D_lw_26_ok 3 rfl
theorem d_lw_1646 : decode code 1646 = .ok (.iadd, 1) := dt_get (q := (1646, .iadd, 1)) D_lw_26_ok 4 rfl
theorem d_lw_1647 : decode code 1647 = .ok (.iaload, 1) := dt_get (q := (1647, .iaload, 1)) D_lw_26_ok 5 rfl
theorem d_lw_1648 : decode code 1648 = .ok (.invokevirtual 183, 3) := dt_get (q := (1648, .invokevirtual 183, 3)) D_lw_26_ok 6 rfl
theorem d_lw_1651 : decode code 1651 = .ok (.pop, 1) := dt_get (q := (1651, .pop, 1)) D_lw_26_ok 7 rfl
theorem d_lw_1652 : decode code 1652 = .ok (.goto 568, 3) := dt_get (q := (1652, .goto 568, 3)) D_lw_26_ok 8 rfl
theorem d_lw_1655 : decode code 1655 = .ok (.aload_n 1, 1) := dt_get (q := (1655, .aload_n 1, 1)) D_lw_26_ok 9 rfl
theorem d_lw_1656 : decode code 1656 = .ok (.invokevirtual 184, 3) := dt_get (q := (1656, .invokevirtual 184, 3)) D_lw_26_ok 10 rfl
theorem d_lw_1659 : decode code 1659 = .ok (.pop2, 1) := dt_get (q := (1659, .pop2, 1)) D_lw_26_ok 11 rfl
theorem d_lw_1660 : decode code 1660 = .ok (.aload_n 2, 1) := dt_get (q := (1660, .aload_n 2, 1)) D_lw_26_ok 12 rfl
theorem d_lw_1661 : decode code 1661 = .ok (.invokevirtual 188, 3) := dt_get (q := (1661, .invokevirtual 188, 3)) D_lw_26_ok 13 rfl
theorem d_lw_1664 : decode code 1664 = .ok (.pop2, 1) := dt_get (q := (1664, .pop2, 1)) D_lw_26_ok 14 rfl
theorem d_lw_1665 : decode code 1665 = .ok (.goto 555, 3) := dt_get (q := (1665, .goto 555, 3)) D_lw_26_ok 15 rfl
theorem d_lw_1668 : decode code 1668 = .ok (.aload_n 1, 1) := dt_get (q := (1668, .aload_n 1, 1)) D_lw_26_ok 16 rfl
theorem d_lw_1669 : decode code 1669 = .ok (.aload_n 0, 1) := dt_get (q := (1669, .aload_n 0, 1)) D_lw_26_ok 17 rfl
theorem d_lw_1670 : decode code 1670 = .ok (.iload 4, 2) := dt_get (q := (1670, .iload 4, 2)) D_lw_26_ok 18 rfl
theorem d_lw_1672 : decode code 1672 = .ok (.iconst 1, 1) := dt_get (q := (1672, .iconst 1, 1)) D_lw_26_ok 19 rfl
theorem d_lw_1673 : decode code 1673 = .ok (.iadd, 1) := dt_get (q := (1673, .iadd, 1)) D_lw_26_ok 20 rfl
theorem d_lw_1674 : decode code 1674 = .ok (.iaload, 1) := dt_get (q := (1674, .iaload, 1)) D_lw_26_ok 21 rfl
theorem d_lw_1675 : decode code 1675 = .ok (.aload_n 0, 1) := dt_get (q := (1675, .aload_n 0, 1)) D_lw_26_ok 22 rfl
theorem d_lw_1676 : decode code 1676 = .ok (.iload 4, 2) := dt_get (q := (1676, .iload 4, 2)) D_lw_26_ok 23 rfl
theorem d_lw_1678 : decode code 1678 = .ok (.iconst 2, 1) := dt_get (q := (1678, .iconst 2, 1)) D_lw_26_ok 24 rfl
theorem d_lw_1679 : decode code 1679 = .ok (.iadd, 1) := dt_get (q := (1679, .iadd, 1)) D_lw_26_ok 25 rfl
theorem d_lw_1680 : decode code 1680 = .ok (.iaload, 1) := dt_get (q := (1680, .iaload, 1)) D_lw_26_ok 26 rfl
theorem d_lw_1681 : decode code 1681 = .ok (.i2l, 1) := dt_get (q := (1681, .i2l, 1)) D_lw_26_ok 27 rfl
theorem d_lw_1682 : decode code 1682 = .ok (.bipush 32, 2) := dt_get (q := (1682, .bipush 32, 2)) D_lw_26_ok 28 rfl
theorem d_lw_1684 : decode code 1684 = .ok (.lshl, 1) := dt_get (q := (1684, .lshl, 1)) D_lw_26_ok 29 rfl
theorem d_lw_1685 : decode code 1685 = .ok (.aload_n 0, 1) := dt_get (q := (1685, .aload_n 0, 1)) D_lw_26_ok 30 rfl
theorem d_lw_1686 : decode code 1686 = .ok (.iload 4, 2) := dt_get (q := (1686, .iload 4, 2)) D_lw_26_ok 31 rfl
theorem d_lw_1688 : decode code 1688 = .ok (.iconst 3, 1) := dt_get (q := (1688, .iconst 3, 1)) D_lw_26_ok 32 rfl
theorem d_lw_1689 : decode code 1689 = .ok (.iadd, 1) := dt_get (q := (1689, .iadd, 1)) D_lw_26_ok 33 rfl
theorem d_lw_1690 : decode code 1690 = .ok (.iaload, 1) := dt_get (q := (1690, .iaload, 1)) D_lw_26_ok 34 rfl
theorem d_lw_1691 : decode code 1691 = .ok (.i2l, 1) := dt_get (q := (1691, .i2l, 1)) D_lw_26_ok 35 rfl
theorem d_lw_1692 : decode code 1692 = .ok (.ldc2_w 152, 3) := dt_get (q := (1692, .ldc2_w 152, 3)) D_lw_26_ok 36 rfl
theorem d_lw_1695 : decode code 1695 = .ok (.land, 1) := dt_get (q := (1695, .land, 1)) D_lw_26_ok 37 rfl
theorem d_lw_1696 : decode code 1696 = .ok (.lor, 1) := dt_get (q := (1696, .lor, 1)) D_lw_26_ok 38 rfl
theorem d_lw_1697 : decode code 1697 = .ok (.aload_n 0, 1) := dt_get (q := (1697, .aload_n 0, 1)) D_lw_26_ok 39 rfl
def D_lw_27 : DT := [(1698, .iload 4, 2), (1700, .iconst 4, 1), (1701, .iadd, 1), (1702, .iaload, 1), (1703, .aload_n 0, 1), (1704, .iload 4, 2), (1706, .iconst 5, 1), (1707, .iadd, 1), (1708, .iaload, 1), (1709, .i2l, 1), (1710, .bipush 32, 2), (1712, .lshl, 1), (1713, .aload_n 0, 1), (1714, .iload 4, 2), (1716, .bipush 6, 2), (1718, .iadd, 1), (1719, .iaload, 1), (1720, .i2l, 1), (1721, .ldc2_w 152, 3), (1724, .land, 1), (1725, .lor, 1), (1726, .invokevirtual 189, 3), (1729, .pop, 1), (1730, .aload_n 2, 1), (1731, .aload_n 0, 1), (1732, .iload 4, 2), (1734, .iconst 1, 1), (1735, .iadd, 1), (1736, .iaload, 1), (1737, .aload_n 0, 1), (1738, .iload 4, 2), (1740, .iconst 2, 1), (1741, .iadd, 1), (1742, .iaload, 1), (1743, .i2l, 1), (1744, .bipush 32, 2), (1746, .lshl, 1), (1747, .aload_n 0, 1), (1748, .iload 4, 2), (1750, .iconst 3, 1)]
theorem D_lw_27_ok : dtOK code D_lw_27 = true := by decide +kernel
theorem d_lw_1698 : decode code 1698 = .ok (.iload 4, 2) := dt_get (q := (1698, .iload 4, 2)) D_lw_27_ok 0 rfl
theorem d_lw_1700 : decode code 1700 = .ok (.iconst 4, 1) := dt_get (q := (1700, .iconst 4, 1)) D_lw_27_ok 1 rfl
theorem d_lw_1701 : decode code 1701 = .ok (.iadd, 1) := dt_get (q := (1701, .iadd, 1)) D_lw_27_ok 2 rfl
theorem d_lw_1702 : decode code 1702 = .ok (.iaload, 1) := dt_get (q := (1702, .iaload, 1)) D_lw_27_ok 3 rfl
theorem d_lw_1703 : decode code 1703 = .ok (.aload_n 0, 1) := dt_get (q := (1703, .aload_n 0, 1)) D_lw_27_ok 4 rfl
theorem d_lw_1704 : decode code 1704 = .ok (.iload 4, 2) := dt_get (q := (1704, .iload 4, 2)) D_lw_27_ok 5 rfl
theorem d_lw_1706 : decode code 1706 = .ok (.iconst 5, 1) := dt_get (q := (1706, .iconst 5, 1)) D_lw_27_ok 6 rfl
theorem d_lw_1707 : decode code 1707 = .ok (.iadd, 1) := dt_get (q := (1707, .iadd, 1)) D_lw_27_ok 7 rfl
theorem d_lw_1708 : decode code 1708 = .ok (.iaload, 1) := dt_get (q := (1708, .iaload, 1)) D_lw_27_ok 8 rfl
theorem d_lw_1709 : decode code 1709 = .ok (.i2l, 1) := dt_get (q := (1709, .i2l, 1)) D_lw_27_ok 9 rfl
theorem d_lw_1710 : decode code 1710 = .ok (.bipush 32, 2) := dt_get (q := (1710, .bipush 32, 2)) D_lw_27_ok 10 rfl
theorem d_lw_1712 : decode code 1712 = .ok (.lshl, 1) := dt_get (q := (1712, .lshl, 1)) D_lw_27_ok 11 rfl
theorem d_lw_1713 : decode code 1713 = .ok (.aload_n 0, 1) := dt_get (q := (1713, .aload_n 0, 1)) D_lw_27_ok 12 rfl
theorem d_lw_1714 : decode code 1714 = .ok (.iload 4, 2) := dt_get (q := (1714, .iload 4, 2)) D_lw_27_ok 13 rfl
theorem d_lw_1716 : decode code 1716 = .ok (.bipush 6, 2) := dt_get (q := (1716, .bipush 6, 2)) D_lw_27_ok 14 rfl
theorem d_lw_1718 : decode code 1718 = .ok (.iadd, 1) := dt_get (q := (1718, .iadd, 1)) D_lw_27_ok 15 rfl
theorem d_lw_1719 : decode code 1719 = .ok (.iaload, 1) := dt_get (q := (1719, .iaload, 1)) D_lw_27_ok 16 rfl
theorem d_lw_1720 : decode code 1720 = .ok (.i2l, 1) := dt_get (q := (1720, .i2l, 1)) D_lw_27_ok 17 rfl
theorem d_lw_1721 : decode code 1721 = .ok (.ldc2_w 152, 3) := dt_get (q := (1721, .ldc2_w 152, 3)) D_lw_27_ok 18 rfl
theorem d_lw_1724 : decode code 1724 = .ok (.land, 1) := dt_get (q := (1724, .land, 1)) D_lw_27_ok 19 rfl
theorem d_lw_1725 : decode code 1725 = .ok (.lor, 1) := dt_get (q := (1725, .lor, 1)) D_lw_27_ok 20 rfl
theorem d_lw_1726 : decode code 1726 = .ok (.invokevirtual 189, 3) := dt_get (q := (1726, .invokevirtual 189, 3)) D_lw_27_ok 21 rfl
theorem d_lw_1729 : decode code 1729 = .ok (.pop, 1) := dt_get (q := (1729, .pop, 1)) D_lw_27_ok 22 rfl
theorem d_lw_1730 : decode code 1730 = .ok (.aload_n 2, 1) := dt_get (q := (1730, .aload_n 2, 1)) D_lw_27_ok 23 rfl
theorem d_lw_1731 : decode code 1731 = .ok (.aload_n 0, 1) := dt_get (q := (1731, .aload_n 0, 1)) D_lw_27_ok 24 rfl
theorem d_lw_1732 : decode code 1732 = .ok (.iload 4, 2) := dt_get (q := (1732, .iload 4, 2)) D_lw_27_ok 25 rfl
theorem d_lw_1734 : decode code 1734 = .ok (.iconst 1, 1) := dt_get (q := (1734, .iconst 1, 1)) D_lw_27_ok 26 rfl
theorem d_lw_1735 : decode code 1735 = .ok (.iadd, 1) := dt_get (q := (1735, .iadd, 1)) D_lw_27_ok 27 rfl
theorem d_lw_1736 : decode code 1736 = .ok (.iaload, 1) := dt_get (q := (1736, .iaload, 1)) D_lw_27_ok 28 rfl
theorem d_lw_1737 : decode code 1737 = .ok (.aload_n 0, 1) := dt_get (q := (1737, .aload_n 0, 1)) D_lw_27_ok 29 rfl
theorem d_lw_1738 : decode code 1738 = .ok (.iload 4, 2) := dt_get (q := (1738, .iload 4, 2)) D_lw_27_ok 30 rfl
theorem d_lw_1740 : decode code 1740 = .ok (.iconst 2, 1) := dt_get (q := (1740, .iconst 2, 1)) D_lw_27_ok 31 rfl
theorem d_lw_1741 : decode code 1741 = .ok (.iadd, 1) := dt_get (q := (1741, .iadd, 1)) D_lw_27_ok 32 rfl
theorem d_lw_1742 : decode code 1742 = .ok (.iaload, 1) := dt_get (q := (1742, .iaload, 1)) D_lw_27_ok 33 rfl
theorem d_lw_1743 : decode code 1743 = .ok (.i2l, 1) := dt_get (q := (1743, .i2l, 1)) D_lw_27_ok 34 rfl
theorem d_lw_1744 : decode code 1744 = .ok (.bipush 32, 2) := dt_get (q := (1744, .bipush 32, 2)) D_lw_27_ok 35 rfl
theorem d_lw_1746 : decode code 1746 = .ok (.lshl, 1) := dt_get (q := (1746, .lshl, 1)) D_lw_27_ok 36 rfl
theorem d_lw_1747 : decode code 1747 = .ok (.aload_n 0, 1) := dt_get (q := (1747, .aload_n 0, 1)) D_lw_27_ok 37 rfl
theorem d_lw_1748 : decode code 1748 = .ok (.iload 4, 2) := dt_get (q := (1748, .iload 4, 2)) D_lw_27_ok 38 rfl
theorem d_lw_1750 : decode code 1750 = .ok (.iconst 3, 1) := dt_get (q := (1750, .iconst 3, 1)) D_lw_27_ok 39 rfl
def D_lw_28 : DT := [(1751, .iadd, 1), (1752, .iaload, 1), (1753, .i2l, 1), (1754, .ldc2_w 152, 3), (1757, .land, 1), (1758, .lor, 1), (1759, .aload_n 0, 1), (1760, .iload 4, 2), (1762, .iconst 4, 1), (1763, .iadd, 1), (1764, .iaload, 1), (1765, .aload_n 0, 1), (1766, .iload 4, 2), (1768, .iconst 5, 1), (1769, .iadd, 1), (1770, .iaload, 1), (1771, .i2l, 1), (1772, .bipush 32, 2), (1774, .lshl, 1), (1775, .aload_n 0, 1), (1776, .iload 4, 2), (1778, .bipush 6, 2), (1780, .iadd, 1), (1781, .iaload, 1), (1782, .i2l, 1), (1783, .ldc2_w 152, 3), (1786, .land, 1), (1787, .lor, 1), (1788, .invokevirtual 193, 3), (1791, .pop, 1), (1792, .goto 428, 3), (1795, .aload_n 1, 1), (1796, .aload_n 0, 1), (1797, .iload 4, 2), (1799, .iconst 1, 1), (1800, .iadd, 1), (1801, .iaload, 1), (1802, .aload_n 0, 1), (1803, .iload 4, 2), (1805, .iconst 2, 1)]
theorem D_lw_28_ok : dtOK code D_lw_28 = true := by decide +kernel
theorem d_lw_1751 : decode code 1751 = .ok (.iadd, 1) := dt_get (q := (1751, .iadd, 1)) D_lw_28_ok 0 rfl
theorem d_lw_1752 : decode code 1752 = .ok (.iaload, 1) := dt_get (q := (1752, .iaload, 1)) D_lw_28_ok 1 rfl
theorem d_lw_1753 : decode code 1753 = .ok (.i2l, 1) := dt_get (q := (1753, .i2l, 1)) D_lw_28_ok 2 rfl
theorem d_lw_1754 : decode code 1754 = .ok (.ldc2_w 152, 3) := dt_get (q := (1754, .ldc2_w 152, 3)) D_lw_28_ok 3 rfl
theorem d_lw_1757 : decode code 1757 = .ok (.land, 1) := dt_get (q := (1757, .land, 1)) D_lw_28_ok 4 rfl
theorem d_lw_1758 : decode code 1758 = .ok (.lor, 1) := dt_get (q := (1758, .lor, 1)) D_lw_28_ok 5 rfl
theorem d_lw_1759 : decode code 1759 = .ok (.aload_n 0, 1) := dt_get (q := (1759, .aload_n 0, 1)) D_lw_28_ok 6 rfl
theorem d_lw_1760 : decode code 1760 = .ok (.iload 4, 2) := dt_get (q := (1760, .iload 4, 2)) D_lw_28_ok 7 rfl
theorem d_lw_1762 : decode code 1762 = .ok (.iconst 4, 1) := dt_get (q := (1762, .iconst 4, 1)) D_lw_28_ok 8 rfl
theorem d_lw_1763 : decode code 1763 = .ok (.iadd, 1) := dt_get (q := (1763, .iadd, 1)) D_lw_28_ok 9 rfl
theorem d_lw_1764 : decode code 1764 = .ok (.iaload, 1) := dt_get (q := (1764, .iaload, 1)) D_lw_28_ok 10 rfl
theorem d_lw_1765 : decode code 1765 = .ok (.aload_n 0, 1) := dt_get (q := (1765, .aload_n 0, 1)) D_lw_28_ok 11 rfl
theorem d_lw_1766 : decode code 1766 = .ok (.iload 4, 2) := dt_get (q := (1766, .iload 4, 2)) D_lw_28_ok 12 rfl
theorem d_lw_1768 : decode code 1768 = .ok (.iconst 5, 1) := dt_get (q := (1768, .iconst 5, 1)) D_lw_28_ok 13 rfl
theorem d_lw_1769 : decode code 1769 = .ok (.iadd, 1) := dt_get (q := (1769, .iadd, 1)) D_lw_28_ok 14 rfl
theorem d_lw_1770 : decode code 1770 = .ok (.iaload, 1) := dt_get (q := (1770, .iaload, 1)) D_lw_28_ok 15 rfl
theorem d_lw_1771 : decode code 1771 = .ok (.i2l, 1) := dt_get (q := (1771, .i2l, 1)) D_lw_28_ok 16 rfl
theorem d_lw_1772 : decode code 1772 = .ok (.bipush 32, 2) := dt_get (q := (1772, .bipush 32, 2)) D_lw_28_ok 17 rfl
theorem d_lw_1774 : decode code 1774 = .ok (.lshl, 1) := dt_get (q := (1774, .lshl, 1)) D_lw_28_ok 18 rfl
theorem d_lw_1775 : decode code 1775 = .ok (.aload_n 0, 1) := dt_get (q := (1775, .aload_n 0, 1)) D_lw_28_ok 19 rfl
theorem d_lw_1776 : decode code 1776 = .ok (.iload 4, 2) := dt_get (q := (1776, .iload 4, 2)) D_lw_28_ok 20 rfl
theorem d_lw_1778 : decode code 1778 = .ok (.bipush 6, 2) := dt_get (q := (1778, .bipush 6, 2)) D_lw_28_ok 21 rfl
theorem d_lw_1780 : decode code 1780 = .ok (.iadd, 1) := dt_get (q := (1780, .iadd, 1)) D_lw_28_ok 22 rfl
theorem d_lw_1781 : decode code 1781 = .ok (.iaload, 1) := dt_get (q := (1781, .iaload, 1)) D_lw_28_ok 23 rfl
theorem d_lw_1782 : decode code 1782 = .ok (.i2l, 1) := dt_get (q := (1782, .i2l, 1)) D_lw_28_ok 24 rfl
theorem d_lw_1783 : decode code 1783 = .ok (.ldc2_w 152, 3) := dt_get (q := (1783, .ldc2_w 152, 3)) D_lw_28_ok 25 rfl
theorem d_lw_1786 : decode code 1786 = .ok (.land, 1) := dt_get (q := (1786, .land, 1)) D_lw_28_ok 26 rfl
theorem d_lw_1787 : decode code 1787 = .ok (.lor, 1) := dt_get (q := (1787, .lor, 1)) D_lw_28_ok 27 rfl
theorem d_lw_1788 : decode code 1788 = .ok (.invokevirtual 193, 3) := dt_get (q := (1788, .invokevirtual 193, 3)) D_lw_28_ok 28 rfl
theorem d_lw_1791 : decode code 1791 = .ok (.pop, 1) := dt_get (q := (1791, .pop, 1)) D_lw_28_ok 29 rfl
theorem d_lw_1792 : decode code 1792 = .ok (.goto 428, 3) := dt_get (q := (1792, .goto 428, 3)) D_lw_28_ok 30 rfl
theorem d_lw_1795 : decode code 1795 = .ok (.aload_n 1, 1) := dt_get (q := (1795, .aload_n 1, 1)) D_lw_28_ok 31 rfl
theorem d_lw_1796 : decode code 1796 = .ok (.aload_n 0, 1) := dt_get (q := (1796, .aload_n 0, 1)) D_lw_28_ok 32 rfl
theorem d_lw_1797 : decode code 1797 = .ok (.iload 4, 2) := dt_get (q := (1797, .iload 4, 2)) D_lw_28_ok 33 rfl
theorem d_lw_1799 : decode code 1799 = .ok (.iconst 1, 1) := dt_get (q := (1799, .iconst 1, 1)) D_lw_28_ok 34 rfl
theorem d_lw_1800 : decode code 1800 = .ok (.iadd, 1) := dt_get (q := (1800, .iadd, 1)) D_lw_28_ok 35 rfl
theorem d_lw_1801 : decode code 1801 = .ok (.iaload, 1) := dt_get (q := (1801, .iaload, 1)) D_lw_28_ok 36 rfl
theorem d_lw_1802 : decode code 1802 = .ok (.aload_n 0, 1) := dt_get (q := (1802, .aload_n 0, 1)) D_lw_28_ok 37 rfl
theorem d_lw_1803 : decode code 1803 = .ok (.iload 4, 2) := dt_get (q := (1803, .iload 4, 2)) D_lw_28_ok 38 rfl
theorem d_lw_1805 : decode code 1805 = .ok (.iconst 2, 1) := dt_get (q := (1805, .iconst 2, 1)) D_lw_28_ok 39 rfl
def D_lw_29 : DT := [(1806, .iadd, 1), (1807, .iaload, 1), (1808, .aload_n 0, 1), (1809, .iload 4, 2), (1811, .iconst 3, 1), (1812, .iadd, 1), (1813, .iaload, 1), (1814, .aload_n 0, 1), (1815, .iload 4, 2), (1817, .iconst 4, 1), (1818, .iadd, 1), (1819, .iaload, 1), (1820, .i2l, 1), (1821, .bipush 32, 2), (1823, .lshl, 1), (1824, .aload_n 0, 1), (1825, .iload 4, 2), (1827, .iconst 5, 1), (1828, .iadd, 1), (1829, .iaload, 1), (1830, .i2l, 1), (1831, .ldc2_w 152, 3), (1834, .land, 1), (1835, .lor, 1), (1836, .aload_n 0, 1), (1837, .iload 4, 2), (1839, .bipush 6, 2), (1841, .iadd, 1), (1842, .iaload, 1), (1843, .i2l, 1), (1844, .bipush 32, 2), (1846, .lshl, 1), (1847, .aload_n 0, 1), (1848, .iload 4, 2), (1850, .bipush 7, 2), (1852, .iadd, 1), (1853, .iaload, 1), (1854, .i2l, 1), (1855, .ldc2_w 152, 3), (1858, .land, 1)]
theorem D_lw_29_ok : dtOK code D_lw_29 = true := by decide +kernel
theorem d_lw_1806 : decode code 1806 = .ok (.iadd, 1) := dt_get (q := (1806, .iadd, 1)) D_lw_29_ok 0 rfl
theorem d_lw_1807 : decode code 1807 = .ok (.iaload, 1) := dt_get (q := (1807, .iaload, 1)) D_lw_29_ok 1 rfl
theorem d_lw_1808 : decode code 1808 = .ok (.aload_n 0, 1) := dt_get (q := (1808, .aload_n 0, 1)) D_lw_29_ok 2 rfl
theorem d_lw_1809 : decode code 1809 = .ok (.iload 4, 2) := dt_get (q := (1809, .iload 4, 2)) D_lw_29_ok 3 rfl
theorem d_lw_1811 : decode code 1811 = .ok (.iconst 3, 1) := dt_get (q := (1811, .iconst 3, 1)) D_lw_29_ok 4 rfl
theorem d_lw_1812 : decode code 1812 = .ok (.iadd, 1) := dt_get (q := (1812, .iadd, 1)) D_lw_29_ok 5 rfl
theorem d_lw_1813 : decode code 1813 = .ok (.iaload, 1) := dt_get (q := (1813, .iaload, 1)) D_lw_29_ok 6 rfl
theorem d_lw_1814 : decode code 1814 = .ok (.aload_n 0, 1) := dt_get (q := (1814, .aload_n 0, 1)) D_lw_29_ok 7 rfl
theorem d_lw_1815 : decode code 1815 = .ok (.iload 4, 2) := dt_get (q := (1815, .iload 4, 2)) D_lw_29_ok 8 rfl
theorem d_lw_1817 : decode code 1817 = .ok (.iconst 4, 1) := dt_get (q := (1817, .iconst 4, 1)) D_lw_29_ok 9 rfl
theorem d_lw_1818 : decode code 1818 = .ok (.iadd, 1) := dt_get (q := (1818, .iadd, 1)) D_lw_29_ok 10 rfl
theorem d_lw_1819 : decode code 1819 = .ok (.iaload, 1) := dt_get (q := (1819, .iaload, 1)) D_lw_29_ok 11 rfl
theorem d_lw_1820 : decode code 1820 = .ok (.i2l, 1) := dt_get (q := (1820, .i2l, 1)) D_lw_29_ok 12 rfl
theorem d_lw_1821 : decode code 1821 = .ok (.bipush 32, 2) := dt_get (q := (1821, .bipush 32, 2)) D_lw_29_ok 13 rfl
theorem d_lw_1823 : decode code 1823 = .ok (.lshl, 1) := dt_get (q := (1823, .lshl, 1)) D_lw_29_ok 14 rfl
theorem d_lw_1824 : decode code 1824 = .ok (.aload_n 0, 1) := dt_get (q := (1824, .aload_n 0, 1)) D_lw_29_ok 15 rfl
theorem d_lw_1825 : decode code 1825 = .ok (.iload 4, 2) := dt_get (q := (1825, .iload 4, 2)) D_lw_29_ok 16 rfl
theorem d_lw_1827 : decode code 1827 = .ok (.iconst 5, 1) := dt_get (q := (1827, .iconst 5, 1)) D_lw_29_ok 17 rfl
theorem d_lw_1828 : decode code 1828 = .ok (.iadd, 1) := dt_get (q := (1828, .iadd, 1)) D_lw_29_ok 18 rfl
theorem d_lw_1829 : decode code 1829 = .ok (.iaload, 1) := dt_get (q := (1829, .iaload, 1)) D_lw_29_ok 19 rfl
theorem d_lw_1830 : decode code 1830 = .ok (.i2l, 1) := dt_get (q := (1830, .i2l, 1)) D_lw_29_ok 20 rfl
theorem d_lw_1831 : decode code 1831 = .ok (.ldc2_w 152, 3) := dt_get (q := (1831, .ldc2_w 152, 3)) D_lw_29_ok 21 rfl
theorem d_lw_1834 : decode code 1834 = .ok (.land, 1) := dt_get (q := (1834, .land, 1)) D_lw_29_ok 22 rfl
theorem d_lw_1835 : decode code 1835 = .ok (.lor, 1) := dt_get (q := (1835, .lor, 1)) D_lw_29_ok 23 rfl
theorem d_lw_1836 : decode code 1836 = .ok (.aload_n 0, 1) := dt_get (q := (1836, .aload_n 0, 1)) D_lw_29_ok 24 rfl
theorem d_lw_1837 : decode code 1837 = .ok (.iload 4, 2) := dt_get (q := (1837, .iload 4, 2)) D_lw_29_ok 25 rfl
theorem d_lw_1839 : decode code 1839 = .ok (.bipush 6, 2) := dt_get (q := (1839, .bipush 6, 2)) D_lw_29_ok 26 rfl
theorem d_lw_1841 : decode code 1841 = .ok (.iadd, 1) := dt_get (q := (1841, .iadd, 1)) D_lw_29_ok 27 rfl
theorem d_lw_1842 : decode code 1842 = .ok (.iaload, 1) := dt_get (q := (1842, .iaload, 1)) D_lw_29_ok 28 rfl
theorem d_lw_1843 : decode code 1843 = .ok (.i2l, 1) := dt_get (q := (1843, .i2l, 1)) D_lw_29_ok 29 rfl
theorem d_lw_1844 : decode code 1844 = .ok (.bipush 32, 2) := dt_get (q := (1844, .bipush 32, 2)) D_lw_29_ok 30 rfl
theorem d_lw_1846 : decode code 1846 = .ok (.lshl, 1) := dt_get (q := (1846, .lshl, 1)) D_lw_29_ok 31 rfl
theorem d_lw_1847 : decode code 1847 = .ok (.aload_n 0, 1) := dt_get (q := (1847, .aload_n 0, 1)) D_lw_29_ok 32 rfl
theorem d_lw_1848 : decode code 1848 = .ok (.iload 4, 2) := dt_get (q := (1848, .iload 4, 2)) D_lw_29_ok 33 rfl
theorem d_lw_1850 : decode code 1850 = .ok (.bipush 7, 2) := dt_get (q := (1850, .bipush 7, 2)) D_lw_29_ok 34 rfl
theorem d_lw_1852 : decode code 1852 = .ok (.iadd, 1) := dt_get (q := (1852, .iadd, 1)) D_lw_29_ok 35 rfl
theorem d_lw_1853 : decode code 1853 = .ok (.iaload, 1) := dt_get (q := (1853, .iaload, 1)) D_lw_29_ok 36 rfl
theorem d_lw_1854 : decode code 1854 = .ok (.i2l, 1) := dt_get (q := (1854, .i2l, 1)) D_lw_29_ok 37 rfl
theorem d_lw_1855 : decode code 1855 = .ok (.ldc2_w 152, 3) := dt_get (q := (1855, .ldc2_w 152, 3)) D_lw_29_ok 38 rfl
theorem d_lw_1858 : decode code 1858 = .ok (.land, 1) := dt_get (q := (1858, .land, 1)) D_lw_29_ok 39 rfl
def D_lw_30 : DT := [(1859, .lor, 1), (1860, .aload_n 0, 1), (1861, .iload 4, 2), (1863, .bipush 8, 2), (1865, .iadd, 1), (1866, .iaload, 1), (1867, .i2l, 1), (1868, .bipush 32, 2), (1870, .lshl, 1), (1871, .aload_n 0, 1), (1872, .iload 4, 2), (1874, .bipush 9, 2), (1876, .iadd, 1), (1877, .iaload, 1), (1878, .i2l, 1), (1879, .ldc2_w 152, 3), (1882, .land, 1), (1883, .lor, 1), (1884, .invokevirtual 194, 3), (1887, .pop, 1), (1888, .aload_n 2, 1), (1889, .aload_n 0, 1), (1890, .iload 4, 2), (1892, .iconst 1, 1), (1893, .iadd, 1), (1894, .iaload, 1), (1895, .aload_n 0, 1), (1896, .iload 4, 2), (1898, .iconst 2, 1), (1899, .iadd, 1), (1900, .iaload, 1), (1901, .aload_n 0, 1), (1902, .iload 4, 2), (1904, .iconst 3, 1), (1905, .iadd, 1), (1906, .iaload, 1), (1907, .aload_n 0, 1), (1908, .iload 4, 2), (1910, .iconst 4, 1), (1911, .iadd, 1)]
theorem D_lw_30_ok : dtOK code D_lw_30 = true := by decide +kernel
theorem d_lw_1859 : decode code 1859 = .ok (.lor, 1) := dt_get (q := (1859, .lor, 1)) D_lw_30_ok 0 rfl
theorem d_lw_1860 : decode code 1860 = .ok (.aload_n 0, 1) := dt_get (q := (1860, .aload_n 0, 1)) D_lw_30_ok 1 rfl
theorem d_lw_1861 : decode code 1861 = .ok (.iload 4, 2) := dt_get (q := (1861, .iload 4, 2)) D_lw_30_ok 2 rfl
theorem d_lw_1863 : decode code 1863 = .ok (.bipush 8, 2) := dt_get (q := (1863, .bipush 8, 2)) D_lw_30_ok 3 rfl
theorem d_lw_1865 : decode code 1865 = .ok (.iadd, 1) := dt_get (q := (1865, .iadd, 1)) D_lw_30_ok 4 rfl
theorem d_lw_1866 : decode code 1866 = .ok (.iaload, 1) := dt_get (q := (1866, .iaload, 1)) D_lw_30_ok 5 rfl
theorem d_lw_1867 : decode code 1867 = .ok (.i2l, 1) := dt_get (q := (1867, .i2l, 1)) D_lw_30_ok 6 rfl
theorem d_lw_1868 : decode code 1868 = .ok (.bipush 32, 2) := dt_get (q := (1868, .bipush 32, 2)) D_lw_30_ok 7 rfl
theorem d_lw_1870 : decode code 1870 = .ok (.lshl, 1) := dt_get (q := (1870, .lshl, 1)) D_lw_30_ok 8 rfl
theorem d_lw_1871 : decode code 1871 = .ok (.aload_n 0, 1) := dt_get (q := (1871, .aload_n 0, 1)) D_lw_30_ok 9 rfl
theorem d_lw_1872 : decode code 1872 = .ok (.iload 4, 2) := dt_get (q := (1872, .iload 4, 2)) D_lw_30_ok 10 rfl
theorem d_lw_1874 : decode code 1874 = .ok (.bipush 9, 2) := dt_get (q := (1874, .bipush 9, 2)) D_lw_30_ok 11 rfl
theorem d_lw_1876 : decode code 1876 = .ok (.iadd, 1) := dt_get (q := (1876, .iadd, 1)) D_lw_30_ok 12 rfl
theorem d_lw_1877 : decode code 1877 = .ok (.iaload, 1) := dt_get (q := (1877, .iaload, 1)) D_lw_30_ok 13 rfl
theorem d_lw_1878 : decode code 1878 = .ok (.i2l, 1) := dt_get (q := (1878, .i2l, 1)) D_lw_30_ok 14 rfl
theorem d_lw_1879 : decode code 1879 = .ok (.ldc2_w 152, 3) := dt_get (q := (1879, .ldc2_w 152, 3)) D_lw_30_ok 15 rfl
theorem d_lw_1882 : decode code 1882 = .ok (.land, 1) := dt_get (q := (1882, .land, 1)) D_lw_30_ok 16 rfl
theorem d_lw_1883 : decode code 1883 = .ok (.lor, 1) := dt_get (q := (1883, .lor, 1)) D_lw_30_ok 17 rfl
theorem d_lw_1884 : decode code 1884 = .ok (.invokevirtual 194, 3) := dt_get (q := (1884, .invokevirtual 194, 3)) D_lw_30_ok 18 rfl
theorem d_lw_1887 : decode code 1887 = .ok (.pop, 1) := dt_get (q := (1887, .pop, 1)) D_lw_30_ok 19 rfl
theorem d_lw_1888 : decode code 1888 = .ok (.aload_n 2, 1) := dt_get (q := (1888, .aload_n 2, 1)) D_lw_30_ok 20 rfl
theorem d_lw_1889 : decode code 1889 = .ok (.aload_n 0, 1) := dt_get (q := (1889, .aload_n 0, 1)) D_lw_30_ok 21 rfl
theorem d_lw_1890 : decode code 1890 = .ok (.iload 4, 2) := dt_get (q := (1890, .iload 4, 2)) D_lw_30_ok 22 rfl
theorem d_lw_1892 : decode code 1892 = .ok (.iconst 1, 1) := dt_get (q := (1892, .iconst 1, 1)) D_lw_30_ok 23 rfl
theorem d_lw_1893 : decode code 1893 = .ok (.iadd, 1) := dt_get (q := (1893, .iadd, 1)) D_lw_30_ok 24 rfl
theorem d_lw_1894 : decode code 1894 = .ok (.iaload, 1) := dt_get (q := (1894, .iaload, 1)) D_lw_30_ok 25 rfl
theorem d_lw_1895 : decode code 1895 = .ok (.aload_n 0, 1) := dt_get (q := (1895, .aload_n 0, 1)) D_lw_30_ok 26 rfl
theorem d_lw_1896 : decode code 1896 = .ok (.iload 4, 2) := dt_get (q := (1896, .iload 4, 2)) D_lw_30_ok 27 rfl
theorem d_lw_1898 : decode code 1898 = .ok (.iconst 2, 1) := dt_get (q := (1898, .iconst 2, 1)) D_lw_30_ok 28 rfl
theorem d_lw_1899 : decode code 1899 = .ok (.iadd, 1) := dt_get (q := (1899, .iadd, 1)) D_lw_30_ok 29 rfl
theorem d_lw_1900 : decode code 1900 = .ok (.iaload, 1) := dt_get (q := (1900, .iaload, 1)) D_lw_30_ok 30 rfl
theorem d_lw_1901 : decode code 1901 = .ok (.aload_n 0, 1) := dt_get (q := (1901, .aload_n 0, 1)) D_lw_30_ok 31 rfl
theorem d_lw_1902 : decode code 1902 = .ok (.iload 4, 2) := dt_get (q := (1902, .iload 4, 2)) D_lw_30_ok 32 rfl
theorem d_lw_1904 : decode code 1904 = .ok (.iconst 3, 1) := dt_get (q := (1904, .iconst 3, 1)) D_lw_30_ok 33 rfl
theorem d_lw_1905 : decode code 1905 = .ok (.iadd, 1) := dt_get (q := (1905, .iadd, 1)) D_lw_30_ok 34 rfl
theorem d_lw_1906 : decode code 1906 = .ok (.iaload, 1) := dt_get (q := (1906, .iaload, 1)) D_lw_30_ok 35 rfl
theorem d_lw_1907 : decode code 1907 = .ok (.aload_n 0, 1) := dt_get (q := (1907, .aload_n 0, 1)) D_lw_30_ok 36 rfl
theorem d_lw_1908 : decode code 1908 = .ok (.iload 4, 2) := dt_get (q := (1908, .iload 4, 2)) D_lw_30_ok 37 rfl
theorem d_lw_1910 : decode code 1910 = .ok (.iconst 4, 1) := dt_get (q := (1910, .iconst 4, 1)) D_lw_30_ok 38 rfl
theorem d_lw_1911 : decode code 1911 = .ok (.iadd, 1) := dt_get (q := (1911, .iadd, 1)) D_lw_30_ok 39 rfl
def D_lw_31 : DT := [(1912, .iaload, 1), (1913, .i2l, 1), (1914, .bipush 32, 2), (1916, .lshl, 1), (1917, .aload_n 0, 1), (1918, .iload 4, 2), (1920, .iconst 5, 1), (1921, .iadd, 1), (1922, .iaload, 1), (1923, .i2l, 1), (1924, .ldc2_w 152, 3), (1927, .land, 1), (1928, .lor, 1), (1929, .aload_n 0, 1), (1930, .iload 4, 2), (1932, .bipush 6, 2), (1934, .iadd, 1), (1935, .iaload, 1), (1936, .i2l, 1), (1937, .bipush 32, 2), (1939, .lshl, 1), (1940, .aload_n 0, 1), (1941, .iload 4, 2), (1943, .bipush 7, 2), (1945, .iadd, 1), (1946, .iaload, 1), (1947, .i2l, 1), (1948, .ldc2_w 152, 3), (1951, .land, 1), (1952, .lor, 1), (1953, .aload_n 0, 1), (1954, .iload 4, 2), (1956, .bipush 8, 2), (1958, .iadd, 1), (1959, .iaload, 1), (1960, .i2l, 1), (1961, .bipush 32, 2), (1963, .lshl, 1), (1964, .aload_n 0, 1), (1965, .iload 4, 2)]
theorem D_lw_31_ok : dtOK code D_lw_31 = true := by decide +kernel
theorem d_lw_1912 : decode code 1912 = .ok (.iaload, 1) := dt_get (q := (1912, .iaload, 1)) D_lw_31_ok 0 rfl
theorem d_lw_1913 : decode code 1913 = .ok (.i2l, 1) := dt_get (q := (1913, .i2l, 1)) D_lw_31_ok 1 rfl
theorem d_lw_1914 : decode code 1914 = .ok (.bipush 32, 2) := dt_get (q := (1914, .bipush 32, 2)) D_lw_31_ok 2 rfl
theorem d_lw_1916 : decode code 1916 = .ok (.lshl, 1) := dt_get (q := (1916, .lshl, 1)) D_lw_31_ok 3 rfl
theorem d_lw_1917 : decode code 1917 = .ok (.aload_n 0, 1) := dt_get (q := (1917, .aload_n 0, 1)) D_lw_31_ok 4 rfl
theorem d_lw_1918 : decode code 1918 = .ok (.iload 4, 2) := dt_get (q := (1918, .iload 4, 2)) D_lw_31_ok 5 rfl
theorem d_lw_1920 : decode code 1920 = .ok (.iconst 5, 1) := dt_get (q := (1920, .iconst 5, 1)) D_lw_31_ok 6 rfl
theorem d_lw_1921 : decode code 1921 = .ok (.iadd, 1) := dt_get (q := (1921, .iadd, 1)) D_lw_31_ok 7 rfl
theorem d_lw_1922 : decode code 1922 = .ok (.iaload, 1) := dt_get (q := (1922, .iaload, 1)) D_lw_31_ok 8 rfl
theorem d_lw_1923 : decode code 1923 = .ok (.i2l, 1) := dt_get (q := (1923, .i2l, 1)) D_lw_31_ok 9 rfl
theorem d_lw_1924 : decode code 1924 = .ok (.ldc2_w 152, 3) := dt_get (q := (1924, .ldc2_w 152, 3)) D_lw_31_ok 10 rfl
theorem d_lw_1927 : decode code 1927 = .ok (.land, 1) := dt_get (q := (1927, .land, 1)) D_lw_31_ok 11 rfl
theorem d_lw_1928 : decode code 1928 = .ok (.lor, 1) := dt_get (q := (1928, .lor, 1)) D_lw_31_ok 12 rfl
theorem d_lw_1929 : decode code 1929 = .ok (.aload_n 0, 1) := dt_get (q := (1929, .aload_n 0, 1)) D_lw_31_ok 13 rfl
theorem d_lw_1930 : decode code 1930 = .ok (.iload 4, 2) := dt_get (q := (1930, .iload 4, 2)) D_lw_31_ok 14 rfl
theorem d_lw_1932 : decode code 1932 = .ok (.bipush 6, 2) := dt_get (q := (1932, .bipush 6, 2)) D_lw_31_ok 15 rfl
theorem d_lw_1934 : decode code 1934 = .ok (.iadd, 1) := dt_get (q := (1934, .iadd, 1)) D_lw_31_ok 16 rfl
theorem d_lw_1935 : decode code 1935 = .ok (.iaload, 1) := dt_get (q := (1935, .iaload, 1)) D_lw_31_ok 17 rfl
theorem d_lw_1936 : decode code 1936 = .ok (.i2l, 1) := dt_get (q := (1936, .i2l, 1)) D_lw_31_ok 18 rfl
theorem d_lw_1937 : decode code 1937 = .ok (.bipush 32, 2) := dt_get (q := (1937, .bipush 32, 2)) D_lw_31_ok 19 rfl
theorem d_lw_1939 : decode code 1939 = .ok (.lshl, 1) := dt_get (q := (1939, .lshl, 1)) D_lw_31_ok 20 rfl
theorem d_lw_1940 : decode code 1940 = .ok (.aload_n 0, 1) := dt_get (q := (1940, .aload_n 0, 1)) D_lw_31_ok 21 rfl
theorem d_lw_1941 : decode code 1941 = .ok (.iload 4, 2) := dt_get (q := (1941, .iload 4, 2)) D_lw_31_ok 22 rfl
theorem d_lw_1943 : decode code 1943 = .ok (.bipush 7, 2) := dt_get (q := (1943, .bipush 7, 2)) D_lw_31_ok 23 rfl
theorem d_lw_1945 : decode code 1945 = .ok (.iadd, 1) := dt_get (q := (1945, .iadd, 1)) D_lw_31_ok 24 rfl
theorem d_lw_1946 : decode code 1946 = .ok (.iaload, 1) := dt_get (q := (1946, .iaload, 1)) D_lw_31_ok 25 rfl
theorem d_lw_1947 : decode code 1947 = .ok (.i2l, 1) := dt_get (q := (1947, .i2l, 1)) D_lw_31_ok 26 rfl
theorem d_lw_1948 : decode code 1948 = .ok (.ldc2_w 152, 3) := dt_get (q := (1948, .ldc2_w 152, 3)) D_lw_31_ok 27 rfl
theorem d_lw_1951 : decode code 1951 = .ok (.land, 1) := dt_get (q := (1951, .land, 1)) D_lw_31_ok 28 rfl
theorem d_lw_1952 : decode code 1952 = .ok (.lor, 1) := dt_get (q := (1952, .lor, 1)) D_lw_31_ok 29 rfl
theorem d_lw_1953 : decode code 1953 = .ok (.aload_n 0, 1) := dt_get (q := (1953, .aload_n 0, 1)) D_lw_31_ok 30 rfl
theorem d_lw_1954 : decode code 1954 = .ok (.iload 4, 2) := dt_get (q := (1954, .iload 4, 2)) D_lw_31_ok 31 rfl
theorem d_lw_1956 : decode code 1956 = .ok (.bipush 8, 2) := dt_get (q := (1956, .bipush 8, 2)) D_lw_31_ok 32 rfl
theorem d_lw_1958 : decode code 1958 = .ok (.iadd, 1) := dt_get (q := (1958, .iadd, 1)) D_lw_31_ok 33 rfl
theorem d_lw_1959 : decode code 1959 = .ok (.iaload, 1) := dt_get (q := (1959, .iaload, 1)) D_lw_31_ok 34 rfl
theorem d_lw_1960 : decode code 1960 = .ok (.i2l, 1) := dt_get (q := (1960, .i2l, 1)) D_lw_31_ok 35 rfl
theorem d_lw_1961 : decode code 1961 = .ok (.bipush 32, 2) := dt_get (q := (1961, .bipush 32, 2)) D_lw_31_ok 36 rfl
theorem d_lw_1963 : decode code 1963 = .ok (.lshl, 1) := dt_get (q := (1963, .lshl, 1)) D_lw_31_ok 37 rfl
theorem d_lw_1964 : decode code 1964 = .ok (.aload_n 0, 1) := dt_get (q := (1964, .aload_n 0, 1)) D_lw_31_ok 38 rfl
theorem d_lw_1965 : decode code 1965 = .ok (.iload 4, 2) := dt_get (q := (1965, .iload 4, 2)) D_lw_31_ok 39 rfl
def D_lw_32 : DT := [(1967, .bipush 9, 2), (1969, .iadd, 1), (1970, .iaload, 1), (1971, .i2l, 1), (1972, .ldc2_w 152, 3), (1975, .land, 1), (1976, .lor, 1), (1977, .invokevirtual 198, 3), (1980, .pop, 1), (1981, .goto 239, 3), (1984, .aload_n 1, 1), (1985, .aload_n 0, 1), (1986, .iload 4, 2), (1988, .iconst 1, 1), (1989, .iadd, 1), (1990, .iaload, 1), (1991, .invokevirtual 199, 3), (1994, .pop, 1), (1995, .aload_n 2, 1), (1996, .aload_n 0, 1), (1997, .iload 4, 2), (1999, .iconst 1, 1), (2000, .iadd, 1), (2001, .iaload, 1), (2002, .invokevirtual 202, 3), (2005, .pop, 1), (2006, .goto 214, 3), (2009, .aload_n 1, 1), (2010, .aload_n 0, 1), (2011, .iload 4, 2), (2013, .iconst 1, 1), (2014, .iadd, 1), (2015, .iaload, 1), (2016, .aload_n 0, 1), (2017, .iload 4, 2), (2019, .iconst 2, 1), (2020, .iadd, 1), (2021, .iaload, 1), (2022, .i2l, 1), (2023, .bipush 32, 2)]
theorem D_lw_32_ok : dtOK code D_lw_32 = true := by decide +kernel
theorem d_lw_1967 : decode code 1967 = .ok (.bipush 9, 2) := dt_get (q := (1967, .bipush 9, 2)) D_lw_32_ok 0 rfl
theorem d_lw_1969 : decode code 1969 = .ok (.iadd, 1) := dt_get (q := (1969, .iadd, 1)) D_lw_32_ok 1 rfl
theorem d_lw_1970 : decode code 1970 = .ok (.iaload, 1) := dt_get (q := (1970, .iaload, 1)) D_lw_32_ok 2 rfl
theorem d_lw_1971 : decode code 1971 = .ok (.i2l, 1) := dt_get (q := (1971, .i2l, 1)) D_lw_32_ok 3 rfl
theorem d_lw_1972 : decode code 1972 = .ok (.ldc2_w 152, 3) := dt_get (q := (1972, .ldc2_w 152, 3)) D_lw_32_ok 4 rfl
theorem d_lw_1975 : decode code 1975 = .ok (.land, 1) := dt_get (q := (1975, .land, 1)) D_lw_32_ok 5 rfl
theorem d_lw_1976 : decode code 1976 = .ok (.lor, 1) := dt_get (q := (1976, .lor, 1)) D_lw_32_ok 6 rfl
theorem d_lw_1977 : decode code 1977 = .ok (.invokevirtual 198, 3) := dt_get (q := (1977, .invokevirtual 198, 3)) D_lw_32_ok 7 rfl
theorem d_lw_1980 : decode code 1980 = .ok (.pop, 1) := dt_get (q := (1980, .pop, 1)) D_lw_32_ok 8 rfl
theorem d_lw_1981 : decode code 1981 = .ok (.goto 239, 3) := dt_get (q := (1981, .goto 239, 3)) D_lw_32_ok 9 rfl
theorem d_lw_1984 : decode code 1984 = .ok (.aload_n 1, 1) := dt_get (q := (1984, .aload_n 1, 1)) D_lw_32_ok 10 rfl
theorem d_lw_1985 : decode code 1985 = .ok (.aload_n 0, 1) := dt_get (q := (1985, .aload_n 0, 1)) D_lw_32_ok 11 rfl
theorem d_lw_1986 : decode code 1986 = .ok (.iload 4, 2) := dt_get (q := (1986, .iload 4, 2)) D_lw_32_ok 12 rfl
theorem d_lw_1988 : decode code 1988 = .ok (.iconst 1, 1) := dt_get (q := (1988, .iconst 1, 1)) D_lw_32_ok 13 rfl
theorem d_lw_1989 : decode code 1989 = .ok (.iadd, 1) := dt_get (q := (1989, .iadd, 1)) D_lw_32_ok 14 rfl
theorem d_lw_1990 : decode code 1990 = .ok (.iaload, 1) := dt_get (q := (1990, .iaload, 1)) D_lw_32_ok 15 rfl
theorem d_lw_1991 : decode code 1991 = .ok (.invokevirtual 199, 3) := dt_get (q := (1991, .invokevirtual 199, 3)) D_lw_32_ok 16 rfl
theorem d_lw_1994 : decode code 1994 = .ok (.pop, 1) := dt_get (q := (1994, .pop, 1)) D_lw_32_ok 17 rfl
theorem d_lw_1995 : decode code 1995 = .ok (.aload_n 2, 1) := dt_get (q := (1995, .aload_n 2, 1)) D_lw_32_ok 18 rfl
theorem d_lw_1996 : decode code 1996 = .ok (.aload_n 0, 1) := dt_get (q := (1996, .aload_n 0, 1)) D_lw_32_ok 19 rfl
theorem d_lw_1997 : decode code 1997 = .ok (.iload 4, 2) := dt_get (q := (1997, .iload 4, 2)) D_lw_32_ok 20 rfl
theorem d_lw_1999 : decode code 1999 = .ok (.iconst 1, 1) := dt_get (q := (1999, .iconst 1, 1)) D_lw_32_ok 21 rfl
theorem d_lw_2000 : decode code 2000 = .ok (.iadd, 1) := dt_get (q := (2000, .iadd, 1)) D_lw_32_ok 22 rfl
theorem d_lw_2001 : decode code 2001 = .ok (.iaload, 1) := dt_get (q := (2001, .iaload, 1)) D_lw_32_ok 23 rfl
theorem d_lw_2002 : decode code 2002 = .ok (.invokevirtual 202, 3) := dt_get (q := (2002, .invokevirtual 202, 3)) D_lw_32_ok 24 rfl
theorem d_lw_2005 : decode code 2005 = .ok (.pop, 1) := dt_get (q := (2005, .pop, 1)) D_lw_32_ok 25 rfl
theorem d_lw_2006 : decode code 2006 = .ok (.goto 214, 3) := dt_get (q := (2006, .goto 214, 3)) D_lw_32_ok 26 rfl
theorem d_lw_2009 : decode code 2009 = .ok (.aload_n 1, 1) := dt_get (q := (2009, .aload_n 1, 1)) D_lw_32_ok 27 rfl
theorem d_lw_2010 : decode code 2010 = .ok (.aload_n 0, 1) := dt_get (q := (2010, .aload_n 0, 1)) D_lw_32_ok 28 rfl
theorem d_lw_2011 : decode code 2011 = .ok (.iload 4, 2) := dt_get (q := (2011, .iload 4, 2)) D_lw_32_ok 29 rfl
theorem d_lw_2013 : decode code 2013 = .ok (.iconst 1, 1) := dt_get (q := (2013, .iconst 1, 1)) D_lw_32_ok 30 rfl
theorem d_lw_2014 : decode code 2014 = .ok (.iadd, 1) := dt_get (q := (2014, .iadd, 1)) D_lw_32_ok 31 rfl
theorem d_lw_2015 : decode code 2015 = .ok (.iaload, 1) := dt_get (q := (2015, .iaload, 1)) D_lw_32_ok 32 rfl
theorem d_lw_2016 : decode code 2016 = .ok (.aload_n 0, 1) := dt_get (q := (2016, .aload_n 0, 1)) D_lw_32_ok 33 rfl
theorem d_lw_2017 : decode code 2017 = .ok (.iload 4, 2) := dt_get (q := (2017, .iload 4, 2)) D_lw_32_ok 34 rfl
theorem d_lw_2019 : decode code 2019 = .ok (.iconst 2, 1) := dt_get (q := (2019, .iconst 2, 1)) D_lw_32_ok 35 rfl
theorem d_lw_2020 : decode code 2020 = .ok (.iadd, 1) := dt_get (q := (2020, .iadd, 1)) D_lw_32_ok 36 rfl
theorem d_lw_2021 : decode code 2021 = .ok (.iaload, 1) := dt_get (q := (2021, .iaload, 1)) D_lw_32_ok 37 rfl
theorem d_lw_2022 : decode code 2022 = .ok (.i2l, 1) := dt_get (q := (2022, .i2l, 1)) D_lw_32_ok 38 rfl
theorem d_lw_2023 : decode code 2023 = .ok (.bipush 32, 2) := dt_get (q := (2023, .bipush 32, 2)) D_lw_32_ok 39 rfl
def D_lw_33 : DT := [(2025, .lshl, 1), (2026, .aload_n 0, 1), (2027, .iload 4, 2), (2029, .iconst 3, 1), (2030, .iadd, 1), (2031, .iaload, 1), (2032, .i2l, 1), (2033, .ldc2_w 152, 3), (2036, .land, 1), (2037, .lor, 1), (2038, .invokevirtual 203, 3), (2041, .pop, 1), (2042, .aload_n 2, 1), (2043, .aload_n 0, 1), (2044, .iload 4, 2), (2046, .iconst 1, 1), (2047, .iadd, 1), (2048, .iaload, 1), (2049, .aload_n 0, 1), (2050, .iload 4, 2), (2052, .iconst 2, 1), (2053, .iadd, 1), (2054, .iaload, 1), (2055, .i2l, 1), (2056, .bipush 32, 2), (2058, .lshl, 1), (2059, .aload_n 0, 1), (2060, .iload 4, 2), (2062, .iconst 3, 1), (2063, .iadd, 1), (2064, .iaload, 1), (2065, .i2l, 1), (2066, .ldc2_w 152, 3), (2069, .land, 1), (2070, .lor, 1), (2071, .invokevirtual 206, 3), (2074, .pop, 1), (2075, .goto 145, 3), (2078, .aload_n 1, 1), (2079, .invokevirtual 207, 3)]
theorem D_lw_33_ok : dtOK code D_lw_33 = true := by decide +kernel
theorem d_lw_2025 : decode code 2025 = .ok (.lshl, 1) := dt_get (q := (2025, .lshl, 1)) D_lw_33_ok 0 rfl
theorem d_lw_2026 : decode code 2026 = .ok (.aload_n 0, 1) := dt_get (q := (2026, .aload_n 0, 1)) D_lw_33_ok 1 rfl
theorem d_lw_2027 : decode code 2027 = .ok (.iload 4, 2) := dt_get (q := (2027, .iload 4, 2)) D_lw_33_ok 2 rfl
theorem d_lw_2029 : decode code 2029 = .ok (.iconst 3, 1) := dt_get (q := (2029, .iconst 3, 1)) D_lw_33_ok 3 rfl
theorem d_lw_2030 : decode code 2030 = .ok (.iadd, 1) := dt_get (q := (2030, .iadd, 1)) D_lw_33_ok 4 rfl
theorem d_lw_2031 : decode code 2031 = .ok (.iaload, 1) := dt_get (q := (2031, .iaload, 1)) D_lw_33_ok 5 rfl
theorem d_lw_2032 : decode code 2032 = .ok (.i2l, 1) := dt_get (q := (2032, .i2l, 1)) D_lw_33_ok 6 rfl
theorem d_lw_2033 : decode code 2033 = .ok (.ldc2_w 152, 3) := dt_get (q := (2033, .ldc2_w 152, 3)) D_lw_33_ok 7 rfl
theorem d_lw_2036 : decode code 2036 = .ok (.land, 1) := dt_get (q := (2036, .land, 1)) D_lw_33_ok 8 rfl
theorem d_lw_2037 : decode code 2037 = .ok (.lor, 1) := dt_get (q := (2037, .lor, 1)) D_lw_33_ok 9 rfl
theorem d_lw_2038 : decode code 2038 = .ok (.invokevirtual 203, 3) := dt_get (q := (2038, .invokevirtual 203, 3)) D_lw_33_ok 10 rfl
theorem d_lw_2041 : decode code 2041 = .ok (.pop, 1) := dt_get (q := (2041, .pop, 1)) D_lw_33_ok 11 rfl
theorem d_lw_2042 : decode code 2042 = .ok (.aload_n 2, 1) := dt_get (q := (2042, .aload_n 2, 1)) D_lw_33_ok 12 rfl
theorem d_lw_2043 : decode code 2043 = .ok (.aload_n 0, 1) := dt_get (q := (2043, .aload_n 0, 1)) D_lw_33_ok 13 rfl
theorem d_lw_2044 : decode code 2044 = .ok (.iload 4, 2) := dt_get (q := (2044, .iload 4, 2)) D_lw_33_ok 14 rfl
theorem d_lw_2046 : decode code 2046 = .ok (.iconst 1, 1) := dt_get (q := (2046, .iconst 1, 1)) D_lw_33_ok 15 rfl
theorem d_lw_2047 : decode code 2047 = .ok (.iadd, 1) := dt_get (q := (2047, .iadd, 1)) D_lw_33_ok 16 rfl
theorem d_lw_2048 : decode code 2048 = .ok (.iaload, 1) := dt_get (q := (2048, .iaload, 1)) D_lw_33_ok 17 rfl
theorem d_lw_2049 : decode code 2049 = .ok (.aload_n 0, 1) := dt_get (q := (2049, .aload_n 0, 1)) D_lw_33_ok 18 rfl
theorem d_lw_2050 : decode code 2050 = .ok (.iload 4, 2) := dt_get (q := (2050, .iload 4, 2)) D_lw_33_ok 19 rfl
theorem d_lw_2052 : decode code 2052 = .ok (.iconst 2, 1) := dt_get (q := (2052, .iconst 2, 1)) D_lw_33_ok 20 rfl
theorem d_lw_2053 : decode code 2053 = .ok (.iadd, 1) := dt_get (q := (2053, .iadd, 1)) D_lw_33_ok 21 rfl
theorem d_lw_2054 : decode code 2054 = .ok (.iaload, 1) := dt_get (q := (2054, .iaload, 1)) D_lw_33_ok 22 rfl
theorem d_lw_2055 : decode code 2055 = .ok (.i2l, 1) := dt_get (q := (2055, .i2l, 1)) D_lw_33_ok 23 rfl
theorem d_lw_2056 : decode code 2056 = .ok (.bipush 32, 2) := dt_get (q := (2056, .bipush 32, 2)) D_lw_33_ok 24 rfl
theorem d_lw_2058 : decode code 2058 = .ok (.lshl, 1) := dt_get (q := (2058, .lshl, 1)) D_lw_33_ok 25 rfl
theorem d_lw_2059 : decode code 2059 = .ok (.aload_n 0, 1) := dt_get (q := (2059, .aload_n 0, 1)) D_lw_33_ok 26 rfl
theorem d_lw_2060 : decode code 2060 = .ok (.iload 4, 2) := dt_get (q := (2060, .iload 4, 2)) D_lw_33_ok 27 rfl
theorem d_lw_2062 : decode code 2062 = .ok (.iconst 3, 1) := dt_get (q := (2062, .iconst 3, 1)) D_lw_33_ok 28 rfl
theorem d_lw_2063 : decode code 2063 = .ok (.iadd, 1) := dt_get (q := (2063, .iadd, 1)) D_lw_33_ok 29 rfl
theorem d_lw_2064 : decode code 2064 = .ok (.iaload, 1) := dt_get (q := (2064, .iaload, 1)) D_lw_33_ok 30 rfl
theorem d_lw_2065 : decode code 2065 = .ok (.i2l, 1) := dt_get (q := (2065, .i2l, 1)) D_lw_33_ok 31 rfl
theorem d_lw_2066 : decode code 2066 = .ok (.ldc2_w 152, 3) := dt_get (q := (2066, .ldc2_w 152, 3)) D_lw_33_ok 32 rfl
theorem d_lw_2069 : decode code 2069 = .ok (.land, 1) := dt_get (q := (2069, .land, 1)) D_lw_33_ok 33 rfl
theorem d_lw_2070 : decode code 2070 = .ok (.lor, 1) := dt_get (q := (2070, .lor, 1)) D_lw_33_ok 34 rfl
theorem d_lw_2071 : decode code 2071 = .ok (.invokevirtual 206, 3) := dt_get (q := (2071, .invokevirtual 206, 3)) D_lw_33_ok 35 rfl
theorem d_lw_2074 : decode code 2074 = .ok (.pop, 1) := dt_get (q := (2074, .pop, 1)) D_lw_33_ok 36 rfl
theorem d_lw_2075 : decode code 2075 = .ok (.goto 145, 3) := dt_get (q := (2075, .goto 145, 3)) D_lw_33_ok 37 rfl
theorem d_lw_2078 : decode code 2078 = .ok (.aload_n 1, 1) := dt_get (q := (2078, .aload_n 1, 1)) D_lw_33_ok 38 rfl
theorem d_lw_2079 : decode code 2079 = .ok (.invokevirtual 207, 3) := dt_get (q := (2079, .invokevirtual 207, 3)) D_lw_33_ok 39 rfl
def D_lw_34 : DT := [(2082, .pop2, 1), (2083, .aload_n 2, 1), (2084, .invokevirtual 210, 3), (2087, .pop2, 1), (2088, .goto 132, 3), (2091, .aload_n 1, 1), (2092, .invokevirtual 211, 3), (2095, .pop2, 1), (2096, .aload_n 2, 1), (2097, .invokevirtual 214, 3), (2100, .pop2, 1), (2101, .goto 119, 3), (2104, .aload_n 1, 1), (2105, .invokevirtual 215, 3), (2108, .pop, 1), (2109, .aload_n 2, 1), (2110, .invokevirtual 218, 3), (2113, .pop, 1), (2114, .goto 106, 3), (2117, .aload_n 1, 1), (2118, .aload_n 0, 1), (2119, .iload 4, 2), (2121, .iconst 1, 1), (2122, .iadd, 1), (2123, .iaload, 1), (2124, .invokevirtual 219, 3), (2127, .pop, 1), (2128, .aload_n 2, 1), (2129, .aload_n 0, 1), (2130, .iload 4, 2), (2132, .iconst 1, 1), (2133, .iadd, 1), (2134, .iaload, 1), (2135, .invokevirtual 222, 3), (2138, .pop, 1), (2139, .goto 81, 3), (2142, .aload_n 1, 1), (2143, .aload_n 0, 1), (2144, .iload 4, 2), (2146, .iconst 1, 1)]
theorem D_lw_34_ok : dtOK code D_lw_34 = true := by decide +kernel
theorem d_lw_2082 : decode code 2082 = .ok (.pop2, 1) := dt_get (q := (2082, .pop2, 1)) D_lw_34_ok 0 rfl
theorem d_lw_2083 : decode code 2083 = .ok (.aload_n 2, 1) := dt_get (q := (2083, .aload_n 2, 1)) D_lw_34_ok 1 rfl
theorem d_lw_2084 : decode code 2084 = .ok (.invokevirtual 210, 3) := dt_get (q := (2084, .invokevirtual 210, 3)) D_lw_34_ok 2 rfl
theorem d_lw_2087 : decode code 2087 = .ok (.pop2, 1) := dt_get (q := (2087, .pop2, 1)) D_lw_34_ok 3 rfl
theorem d_lw_2088 : decode code 2088 = .ok (.goto 132, 3) := dt_get (q := (2088, .goto 132, 3)) D_lw_34_ok 4 rfl
theorem d_lw_2091 : decode code 2091 = .ok (.aload_n 1, 1) := dt_get (q := (2091, .aload_n 1, 1)) D_lw_34_ok 5 rfl
theorem d_lw_2092 : decode code 2092 = .ok (.invokevirtual 211, 3) := dt_get (q := (2092, .invokevirtual 211, 3)) D_lw_34_ok 6 rfl
theorem d_lw_2095 : decode code 2095 = .ok (.pop2, 1) := dt_get (q := (2095, .pop2, 1)) D_lw_34_ok 7 rfl
theorem d_lw_2096 : decode code 2096 = .ok (.aload_n 2, 1) := dt_get (q := (2096, .aload_n 2, 1)) D_lw_34_ok 8 rfl
theorem d_lw_2097 : decode code 2097 = .ok (.invokevirtual 214, 3) := dt_get (q := (2097, .invokevirtual 214, 3)) D_lw_34_ok 9 rfl
theorem d_lw_2100 : decode code 2100 = .ok (.pop2, 1) := dt_get (q := (2100, .pop2, 1)) D_lw_34_ok 10 rfl
theorem d_lw_2101 : decode code 2101 = .ok (.goto 119, 3) := dt_get (q := (2101, .goto 119, 3)) D_lw_34_ok 11 rfl
theorem d_lw_2104 : decode code 2104 = .ok (.aload_n 1, 1) := dt_get (q := (2104, .aload_n 1, 1)) D_lw_34_ok 12 rfl
theorem d_lw_2105 : decode code 2105 = .ok (.invokevirtual 215, 3) := dt_get (q := (2105, .invokevirtual 215, 3)) D_lw_34_ok 13 rfl
theorem d_lw_2108 : decode code 2108 = .ok (.pop, 1) := dt_get (q := (2108, .pop, 1)) D_lw_34_ok 14 rfl
theorem d_lw_2109 : decode code 2109 = .ok (.aload_n 2, 1) := dt_get (q := (2109, .aload_n 2, 1)) D_lw_34_ok 15 rfl
theorem d_lw_2110 : decode code 2110 = .ok (.invokevirtual 218, 3) := dt_get (q := (2110, .invokevirtual 218, 3)) D_lw_34_ok 16 rfl
theorem d_lw_2113 : decode code 2113 = .ok (.pop, 1) := dt_get (q := (2113, .pop, 1)) D_lw_34_ok 17 rfl
theorem d_lw_2114 : decode code 2114 = .ok (.goto 106, 3) := dt_get (q := (2114, .goto 106, 3)) D_lw_34_ok 18 rfl
theorem d_lw_2117 : decode code 2117 = .ok (.aload_n 1, 1) := dt_get (q := (2117, .aload_n 1, 1)) D_lw_34_ok 19 rfl
theorem d_lw_2118 : decode code 2118 = .ok (.aload_n 0, 1) := dt_get (q := (2118, .aload_n 0, 1)) D_lw_34_ok 20 rfl
theorem d_lw_2119 : decode code 2119 = .ok (.iload 4, 2) := dt_get (q := (2119, .iload 4, 2)) D_lw_34_ok 21 rfl
theorem d_lw_2121 : decode code 2121 = .ok (.iconst 1, 1) := dt_get (q := (2121, .iconst 1, 1)) D_lw_34_ok 22 rfl
theorem d_lw_2122 : decode code 2122 = .ok (.iadd, 1) := dt_get (q := (2122, .iadd, 1)) D_lw_34_ok 23 rfl
theorem d_lw_2123 : decode code 2123 = .ok (.iaload, 1) := dt_get (q := (2123, .iaload, 1)) D_lw_34_ok 24 rfl
theorem d_lw_2124 : decode code 2124 = .ok (.invokevirtual 219, 3) := dt_get (q := (2124, .invokevirtual 219, 3)) D_lw_34_ok 25 rfl
theorem d_lw_2127 : decode code 2127 = .ok (.pop, 1) := dt_get (q := (2127, .pop, 1)) D_lw_34_ok 26 rfl
theorem d_lw_2128 : decode code 2128 = .ok (.aload_n 2, 1) := dt_get (q := (2128, .aload_n 2, 1)) D_lw_34_ok 27 rfl
theorem d_lw_2129 : decode code 2129 = .ok (.aload_n 0, 1) := dt_get (q := (2129, .aload_n 0, 1)) D_lw_34_ok 28 rfl
theorem d_lw_2130 : decode code 2130 = .ok (.iload 4, 2) := dt_get (q := (2130, .iload 4, 2)) D_lw_34_ok 29 rfl
theorem d_lw_2132 : decode code 2132 = .ok (.iconst 1, 1) := dt_get (q := (2132, .iconst 1, 1)) D_lw_34_ok 30 rfl
theorem d_lw_2133 : decode code 2133 = .ok (.iadd, 1) := dt_get (q := (2133, .iadd, 1)) D_lw_34_ok 31 rfl
theorem d_lw_2134 : decode code 2134 = .ok (.iaload, 1) := dt_get (q := (2134, .iaload, 1)) D_lw_34_ok 32 rfl
theorem d_lw_2135 : decode code 2135 = .ok (.invokevirtual 222, 3) := dt_get (q := (2135, .invokevirtual 222, 3)) D_lw_34_ok 33 rfl
theorem d_lw_2138 : decode code 2138 = .ok (.pop, 1) := dt_get (q := (2138, .pop, 1)) D_lw_34_ok 34 rfl
theorem d_lw_2139 : decode code 2139 = .ok (.goto 81, 3) := dt_get (q := (2139, .goto 81, 3)) D_lw_34_ok 35 rfl
theorem d_lw_2142 : decode code 2142 = .ok (.aload_n 1, 1) := dt_get (q := (2142, .aload_n 1, 1)) D_lw_34_ok 36 rfl
theorem d_lw_2143 : decode code 2143 = .ok (.aload_n 0, 1) := dt_get (q := (2143, .aload_n 0, 1)) D_lw_34_ok 37 rfl
theorem d_lw_2144 : decode code 2144 = .ok (.iload 4, 2) := dt_get (q := (2144, .iload 4, 2)) D_lw_34_ok 38 rfl
theorem d_lw_2146 : decode code 2146 = .ok (.iconst 1, 1) := dt_get (q := (2146, .iconst 1, 1)) D_lw_34_ok 39 rfl
def D_lw_35 : DT := [(2147, .iadd, 1), (2148, .iaload, 1), (2149, .invokevirtual 223, 3), (2152, .pop, 1), (2153, .aload_n 2, 1), (2154, .aload_n 0, 1), (2155, .iload 4, 2), (2157, .iconst 1, 1), (2158, .iadd, 1), (2159, .iaload, 1), (2160, .invokevirtual 226, 3), (2163, .pop, 1), (2164, .goto 56, 3), (2167, .aload_n 1, 1), (2168, .aload_n 0, 1), (2169, .iload 4, 2), (2171, .iconst 1, 1), (2172, .iadd, 1), (2173, .iaload, 1), (2174, .invokevirtual 227, 3), (2177, .pop, 1), (2178, .aload_n 2, 1), (2179, .aload_n 0, 1), (2180, .iload 4, 2), (2182, .iconst 1, 1), (2183, .iadd, 1), (2184, .iaload, 1), (2185, .invokevirtual 230, 3), (2188, .pop, 1), (2189, .goto 31, 3), (2192, .aload_n 1, 1), (2193, .aload_n 0, 1), (2194, .iload 4, 2), (2196, .iconst 1, 1), (2197, .iadd, 1), (2198, .iaload, 1), (2199, .aload_n 3, 1), (2200, .invokestatic 231, 3), (2203, .istore 5, 2), (2205, .aload_n 2, 1)]
theorem D_lw_35_ok : dtOK code D_lw_35 = true := by decide +kernel
theorem d_lw_2147 : decode code 2147 = .ok (.iadd, 1) := dt_get (q := (2147, .iadd, 1)) D_lw_35_ok 0 rfl
theorem d_lw_2148 : decode code 2148 = .ok (.iaload, 1) := dt_get (q := (2148, .iaload, 1)) D_lw_35_ok 1 rfl
theorem d_lw_2149 : decode code 2149 = .ok (.invokevirtual 223, 3) := dt_get (q := (2149, .invokevirtual 223, 3)) D_lw_35_ok 2 rfl
theorem d_lw_2152 : decode code 2152 = .ok (.pop, 1) := dt_get (q := (2152, .pop, 1)) D_lw_35_ok 3 rfl
theorem d_lw_2153 : decode code 2153 = .ok (.aload_n 2, 1) := dt_get (q := (2153, .aload_n 2, 1)) D_lw_35_ok 4 rfl
theorem d_lw_2154 : decode code 2154 = .ok (.aload_n 0, 1) := dt_get (q := (2154, .aload_n 0, 1)) D_lw_35_ok 5 rfl
theorem d_lw_2155 : decode code 2155 = .ok (.iload 4, 2) := dt_get (q := (2155, .iload 4, 2)) D_lw_35_ok 6 rfl
theorem d_lw_2157 : decode code 2157 = .ok (.iconst 1, 1) := dt_get (q := (2157, .iconst 1, 1)) D_lw_35_ok 7 rfl
theorem d_lw_2158 : decode code 2158 = .ok (.iadd, 1) := dt_get (q := (2158, .iadd, 1)) D_lw_35_ok 8 rfl
theorem d_lw_2159 : decode code 2159 = .ok (.iaload, 1) := dt_get (q := (2159, .iaload, 1)) D_lw_35_ok 9 rfl
theorem d_lw_2160 : decode code 2160 = .ok (.invokevirtual 226, 3) := dt_get (q := (2160, .invokevirtual 226, 3)) D_lw_35_ok 10 rfl
theorem d_lw_2163 : decode code 2163 = .ok (.pop, 1) := dt_get (q := (2163, .pop, 1)) D_lw_35_ok 11 rfl
theorem d_lw_2164 : decode code 2164 = .ok (.goto 56, 3) := dt_get (q := (2164, .goto 56, 3)) D_lw_35_ok 12 rfl
theorem d_lw_2167 : decode code 2167 = .ok (.aload_n 1, 1) := dt_get (q := (2167, .aload_n 1, 1)) D_lw_35_ok 13 rfl
theorem d_lw_2168 : decode code 2168 = .ok (.aload_n 0, 1) := dt_get (q := (2168, .aload_n 0, 1)) D_lw_35_ok 14 rfl
theorem d_lw_2169 : decode code 2169 = .ok (.iload 4, 2) := dt_get (q := (2169, .iload 4, 2)) D_lw_35_ok 15 rfl
theorem d_lw_2171 : decode code 2171 = .ok (.iconst 1, 1) := dt_get (q := (2171, .iconst 1, 1)) D_lw_35_ok 16 rfl
theorem d_lw_2172 : decode code 2172 = .ok (.iadd, 1) := dt_get (q := (2172, .iadd, 1)) D_lw_35_ok 17 rfl
theorem d_lw_2173 : decode code 2173 = .ok (.iaload, 1) := dt_get (q := (2173, .iaload, 1)) D_lw_35_ok 18 rfl
theorem d_lw_2174 : decode code 2174 = .ok (.invokevirtual 227, 3) := dt_get (q := (2174, .invokevirtual 227, 3)) D_lw_35_ok 19 rfl
theorem d_lw_2177 : decode code 2177 = .ok (.pop, 1) := dt_get (q := (2177, .pop, 1)) D_lw_35_ok 20 rfl
theorem d_lw_2178 : decode code 2178 = .ok (.aload_n 2, 1) := dt_get (q := (2178, .aload_n 2, 1)) D_lw_35_ok 21 rfl
theorem d_lw_2179 : decode code 2179 = .ok (.aload_n 0, 1) := dt_get (q := (2179, .aload_n 0, 1)) D_lw_35_ok 22 rfl
theorem d_lw_2180 : decode code 2180 = .ok (.iload 4, 2) := dt_get (q := (2180, .iload 4, 2)) D_lw_35_ok 23 rfl
theorem d_lw_2182 : decode code 2182 = .ok (.iconst 1, 1) := dt_get (q := (2182, .iconst 1, 1)) D_lw_35_ok 24 rfl
theorem d_lw_2183 : decode code 2183 = .ok (.iadd, 1) := dt_get (q := (2183, .iadd, 1)) D_lw_35_ok 25 rfl
theorem d_lw_2184 : decode code 2184 = .ok (.iaload, 1) := dt_get (q := (2184, .iaload, 1)) D_lw_35_ok 26 rfl
theorem d_lw_2185 : decode code 2185 = .ok (.invokevirtual 230, 3) := dt_get (q := (2185, .invokevirtual 230, 3)) D_lw_35_ok 27 rfl
theorem d_lw_2188 : decode code 2188 = .ok (.pop, 1) := dt_get (q := (2188, .pop, 1)) D_lw_35_ok 28 rfl
theorem d_lw_2189 : decode code 2189 = .ok (.goto 31, 3) := dt_get (q := (2189, .goto 31, 3)) D_lw_35_ok 29 rfl
theorem d_lw_2192 : decode code 2192 = .ok (.aload_n 1, 1) := dt_get (q := (2192, .aload_n 1, 1)) D_lw_35_ok 30 rfl
theorem d_lw_2193 : decode code 2193 = .ok (.aload_n 0, 1) := dt_get (q := (2193, .aload_n 0, 1)) D_lw_35_ok 31 rfl
theorem d_lw_2194 : decode code 2194 = .ok (.iload 4, 2) := dt_get (q := (2194, .iload 4, 2)) D_lw_35_ok 32 rfl
theorem d_lw_2196 : decode code 2196 = .ok (.iconst 1, 1) := dt_get (q := (2196, .iconst 1, 1)) D_lw_35_ok 33 rfl
theorem d_lw_2197 : decode code 2197 = .ok (.iadd, 1) := dt_get (q := (2197, .iadd, 1)) D_lw_35_ok 34 rfl
theorem d_lw_2198 : decode code 2198 = .ok (.iaload, 1) := dt_get (q := (2198, .iaload, 1)) D_lw_35_ok 35 rfl
theorem d_lw_2199 : decode code 2199 = .ok (.aload_n 3, 1) := dt_get (q := (2199, .aload_n 3, 1)) D_lw_35_ok 36 rfl
theorem d_lw_2200 : decode code 2200 = .ok (.invokestatic 231, 3) := dt_get (q := (2200, .invokestatic 231, 3)) D_lw_35_ok 37 rfl
theorem d_lw_2203 : decode code 2203 = .ok (.istore 5, 2) := dt_get (q := (2203, .istore 5, 2)) D_lw_35_ok 38 rfl
theorem d_lw_2205 : decode code 2205 = .ok (.aload_n 2, 1) := dt_get (q := (2205, .aload_n 2, 1)) D_lw_35_ok 39 rfl
def D_lw_36 : DT := [(2206, .aload_n 0, 1), (2207, .iload 4, 2), (2209, .iconst 1, 1), (2210, .iadd, 1), (2211, .iaload, 1), (2212, .invokevirtual 234, 3), (2215, .lstore 6, 2), (2217, .goto 3, 3), (2220, .iinc 4 10, 3), (2223, .goto (-2200), 3), (2226, .iconst 1, 1), (2227, .ireturn, 1)]
theorem D_lw_36_ok : dtOK code D_lw_36 = true := by decide +kernel
theorem d_lw_2206 : decode code 2206 = .ok (.aload_n 0, 1) := dt_get (q := (2206, .aload_n 0, 1)) D_lw_36_ok 0 rfl
theorem d_lw_2207 : decode code 2207 = .ok (.iload 4, 2) := dt_get (q := (2207, .iload 4, 2)) D_lw_36_ok 1 rfl
theorem d_lw_2209 : decode code 2209 = .ok (.iconst 1, 1) := dt_get (q := (2209, .iconst 1, 1)) D_lw_36_ok 2 rfl
theorem d_lw_2210 : decode code 2210 = .ok (.iadd, 1) := dt_get (q := (2210, .iadd, 1)) D_lw_36_ok 3 rfl
theorem d_lw_2211 : decode code 2211 = .ok (.iaload, 1) := dt_get (q := (2211, .iaload, 1)) D_lw_36_ok 4 rfl
theorem d_lw_2212 : decode code 2212 = .ok (.invokevirtual 234, 3) := dt_get (q := (2212, .invokevirtual 234, 3)) D_lw_36_ok 5 rfl
theorem d_lw_2215 : decode code 2215 = .ok (.lstore 6, 2) := dt_get (q := (2215, .lstore 6, 2)) D_lw_36_ok 6 rfl
theorem d_lw_2217 : decode code 2217 = .ok (.goto 3, 3) := dt_get (q := (2217, .goto 3, 3)) D_lw_36_ok 7 rfl
theorem d_lw_2220 : decode code 2220 = .ok (.iinc 4 10, 3) := dt_get (q := (2220, .iinc 4 10, 3)) D_lw_36_ok 8 rfl
theorem d_lw_2223 : decode code 2223 = .ok (.goto (-2200), 3) := dt_get (q := (2223, .goto (-2200), 3)) D_lw_36_ok 9 rfl
theorem d_lw_2226 : decode code 2226 = .ok (.iconst 1, 1) := dt_get (q := (2226, .iconst 1, 1)) D_lw_36_ok 10 rfl
theorem d_lw_2227 : decode code 2227 = .ok (.ireturn, 1) := dt_get (q := (2227, .ireturn, 1)) D_lw_36_ok 11 rfl
