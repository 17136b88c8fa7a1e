section
abbrev C_X0_seatFrom_7 : CE := ([(2, 18, 0), (2, 5, 0), (0, 1, 1), (0, 0, 255), (0, -2147483648, 2147483647), (0, -2147483648, 2147483647)], [], [], [(none, [], [], [])], [(18, 6), (20, 999), (21, 999)], 8, 212)
theorem ac_X0_seatFrom_7 (l : Launch) (G : KG) : ACt l G TX yX0_seatFrom cX0_seatFrom 8 none C_X0_seatFrom_7 := acert (tab := D_X0_seatFrom) (fld := fld_0) (put := put_0) (cst := cst_0) (cstl := cstl_0) (cal := [(49, 1, 4, C_X10_sizeOf_0), (53, 1, 3, C_X10_copy_0), (45, 0, 8, C_X0_seatFrom_6)]) (rk := 0) (cuts := [(50, ([(0, 0, false), (1, 1, false), (2, 2, false), (3, 3, false), (4, 4, false), (5, 5, false), (6, 500, false)], [], [(0, (2, 18, 0)), (1, (2, 5, 0)), (2, (0, 1, 1)), (3, (0, 0, 255)), (4, (0, -2147483648, 2147483647)), (5, (0, -2147483648, 2147483647)), (500, (0, 0, 8)), (501, (0, 2, 8))], [(18, 0, 501)], [(500, 501, 0)], 1000), 9, [(1, 500)])]) (fuel := 4000) (by decide) (Or.inl ⟨rfl, rfl⟩) fld_0_ok put_0_ok cst_0_ok cstl_0_ok (List.forall_mem_cons.mpr ⟨cok_sn k_0_49 (ac_X10_sizeOf_0 l G) rfl, List.forall_mem_cons.mpr ⟨cok_sn k_0_53 (ac_X10_copy_0 l G) rfl, List.forall_mem_cons.mpr ⟨cok_v k_0_45 (ac_X0_seatFrom_6 l G) rfl rfl rfl rfl rfl rfl, fun _ h => absurd h List.not_mem_nil⟩⟩⟩) D_X0_seatFrom_ok (by decide +kernel)
abbrev C_X0_seatFrom_8 : CE := ([(2, 18, 0), (2, 5, 0), (0, 0, 0), (0, 0, 0), (0, 0, 0), (0, 0, 0)], [], [], [(none, [], [], [])], [(18, 6), (20, 999), (21, 999)], 9, 239)
theorem ac_X0_seatFrom_8 (l : Launch) (G : KG) : ACt l G TX yX0_seatFrom cX0_seatFrom 8 none C_X0_seatFrom_8 := acert (tab := D_X0_seatFrom) (fld := fld_0) (put := put_0) (cst := cst_0) (cstl := cstl_0) (cal := [(49, 1, 4, C_X10_sizeOf_0), (53, 1, 3, C_X10_copy_0), (45, 0, 8, C_X0_seatFrom_7)]) (rk := 0) (cuts := [(50, ([(0, 0, false), (1, 1, false), (2, 2, false), (3, 3, false), (4, 4, false), (5, 5, false), (6, 500, false)], [], [(0, (2, 18, 0)), (1, (2, 5, 0)), (2, (0, 0, 0)), (3, (0, 0, 0)), (4, (0, 0, 0)), (5, (0, 0, 0)), (500, (0, 0, 8)), (501, (0, 1, 8))], [(18, 0, 501)], [(500, 501, 0)], 1000), 9, [(1, 500)])]) (fuel := 4000) (by decide) (Or.inl ⟨rfl, rfl⟩) fld_0_ok put_0_ok cst_0_ok cstl_0_ok (List.forall_mem_cons.mpr ⟨cok_sn k_0_49 (ac_X10_sizeOf_0 l G) rfl, List.forall_mem_cons.mpr ⟨cok_sn k_0_53 (ac_X10_copy_0 l G) rfl, List.forall_mem_cons.mpr ⟨cok_v k_0_45 (ac_X0_seatFrom_7 l G) rfl rfl rfl rfl rfl rfl, fun _ h => absurd h List.not_mem_nil⟩⟩⟩) D_X0_seatFrom_ok (by decide +kernel)
def D_X0_findLeast : DT := [(0, .aload_n 0, 1), (1, .ldc2_w 39, 3), (4, .putfield 41, 3), (7, .aload_n 0, 1), (8, .aload_n 1, 1), (9, .iconst 0, 1), (10, .iconst 0, 1), (11, .iconst 0, 1), (12, .iconst 0, 1), (13, .invokevirtual 45, 3), (16, .return_, 1)]
theorem D_X0_findLeast_ok : dtOK cX0_findLeast D_X0_findLeast = true := by decide +kernel
abbrev C_X0_findLeast_0 : CE := ([(2, 18, 0), (2, 5, 0)], [], [], [(none, [], [], [])], [(18, 6), (20, 999), (21, 999)], 10, 266)
theorem ac_X0_findLeast_0 (l : Launch) (G : KG) : ACt l G TX yX0_findLeast cX0_findLeast 2 none C_X0_findLeast_0 := acert (tab := D_X0_findLeast) (fld := fld_0) (put := put_0) (cst := cst_0) (cstl := cstl_0) (cal := [(45, 0, 8, C_X0_seatFrom_8)]) (rk := 0) (cuts := []) (fuel := 4000) (by decide) (Or.inl ⟨rfl, rfl⟩) fld_0_ok put_0_ok cst_0_ok cstl_0_ok (List.forall_mem_cons.mpr ⟨cok_v k_0_45 (ac_X0_seatFrom_8 l G) rfl rfl rfl rfl rfl rfl, fun _ h => absurd h List.not_mem_nil⟩) D_X0_findLeast_ok (by decide +kernel)
def D_X10_order : DT := [(0, .aload_n 0, 1), (1, .invokevirtual 452, 3), (4, .ifCond .ne 7, 3), (7, .ldc2_w 346, 3), (10, .lreturn, 1), (11, .aload_n 0, 1), (12, .getfield 40, 3), (15, .aload_n 0, 1), (16, .getfield 26, 3), (19, .invokevirtual 464, 3), (22, .aload_n 0, 1), (23, .getfield 12, 3), (26, .invokevirtual 180, 3), (29, .iconst 0, 1), (30, .istore_n 1, 1), (31, .iload_n 1, 1), (32, .aload_n 0, 1), (33, .getfield 40, 3), (36, .getfield 467, 3), (39, .if_icmp .ge 26, 3), (42, .aload_n 0, 1), (43, .getfield 12, 3), (46, .aload_n 0, 1), (47, .getfield 40, 3), (50, .getfield 468, 3), (53, .iload_n 1, 1), (54, .iaload, 1), (55, .i2l, 1), (56, .invokevirtual 183, 3), (59, .iinc 1 1, 3), (62, .goto (-31), 3), (65, .aload_n 0, 1), (66, .getfield 40, 3), (69, .getfield 469, 3), (72, .lreturn, 1)]
theorem D_X10_order_ok : dtOK cX10_order D_X10_order = true := by decide +kernel
abbrev C_X10_order_0 : CE := ([(2, 0, 0)], [], [], [(some (1, -9223372036854775808, 9223372036854775807), [], [], [])], [(1, 1), (2, 999), (18, 6), (20, 999), (21, 999)], 11, 287)
theorem ac_X10_order_0 (l : Launch) (G : KG) : ACt l G TX yX10_order cX10_order 2 (some .long) C_X10_order_0 := acert (tab := D_X10_order) (fld := fld_10) (put := put_10) (cst := cst_10) (cstl := cstl_10) (cal := [(452, 0, 1, C_X10_cogsHavePlaces_0), (464, 0, 2, C_X0_findLeast_0), (180, 0, 1, C_X8_start_0), (183, 0, 3, C_X8_add_0)]) (rk := 2) (cuts := [(31, ([(0, 0, false), (1, 500, false)], [], [(0, (2, 0, 0)), (500, (0, 0, 8)), (501, (2, 1, 0)), (502, (2, 5, 0)), (503, (2, 18, 0)), (504, (0, 0, 16)), (505, (0, 1, 16)), (506, (0, 1, 8))], [(0, 0, 501), (0, 2, 502), (0, 4, 503), (1, 1, 504), (5, 0, 505), (18, 0, 506)], [(500, 506, 0)], 1000), 9, [(1, 500)])]) (fuel := 4000) (by decide) (Or.inr (Or.inr (Or.inl ⟨rfl, rfl⟩))) fld_10_ok put_10_ok cst_10_ok cstl_10_ok (List.forall_mem_cons.mpr ⟨cok_v k_10_452 (ac_X10_cogsHavePlaces_0 l G) rfl rfl rfl rfl rfl rfl, List.forall_mem_cons.mpr ⟨cok_v k_10_464 (ac_X0_findLeast_0 l G) rfl rfl rfl rfl rfl rfl, List.forall_mem_cons.mpr ⟨cok_v k_10_180 (ac_X8_start_0 l G) rfl rfl rfl rfl rfl rfl, List.forall_mem_cons.mpr ⟨cok_v k_10_183 (ac_X8_add_0 l G) rfl rfl rfl rfl rfl rfl, fun _ h => absurd h List.not_mem_nil⟩⟩⟩⟩) D_X10_order_ok (by decide +kernel)
def D_X0_moved : DT := [(0, .aload_n 0, 1), (1, .getfield 9, 3), (4, .aload_n 0, 1), (5, .getfield 15, 3), (8, .iload_n 2, 1), (9, .iaload, 1), (10, .iaload, 1), (11, .aload_n 0, 1), (12, .getfield 9, 3), (15, .aload_n 0, 1), (16, .getfield 15, 3), (19, .iload_n 1, 1), (20, .iaload, 1), (21, .iaload, 1), (22, .isub, 1), (23, .aload_n 3, 1), (24, .iload_n 1, 1), (25, .iaload, 1), (26, .aload_n 3, 1), (27, .iload_n 2, 1), (28, .iaload, 1), (29, .isub, 1), (30, .imul, 1), (31, .ireturn, 1)]
theorem D_X0_moved_ok : dtOK cX0_moved D_X0_moved = true := by decide +kernel
abbrev C_X0_moved_0 : CE := ([(2, 18, 0), (0, 0, 7), (0, 0, 7), (2, 7, 0)], [], [], [(some (0, -2147483648, 2147483647), [], [], [])], [], 0, 0)
theorem ac_X0_moved_0 (l : Launch) (G : KG) : ACt l G TX yX0_moved cX0_moved 4 (some .int) C_X0_moved_0 := acert (tab := D_X0_moved) (fld := fld_0) (put := put_0) (cst := cst_0) (cstl := cstl_0) (cal := []) (rk := 1) (cuts := []) (fuel := 4000) (by decide) (Or.inr (Or.inl ⟨rfl, rfl⟩)) fld_0_ok put_0_ok cst_0_ok cstl_0_ok (fun _ h => absurd h List.not_mem_nil) D_X0_moved_ok (by decide +kernel)
abbrev C_X0_moved_1 : CE := ([(2, 18, 0), (0, 0, 7), (0, 0, 7), (2, 8, 0)], [], [], [(some (0, -2147483648, 2147483647), [], [], [])], [], 0, 0)
theorem ac_X0_moved_1 (l : Launch) (G : KG) : ACt l G TX yX0_moved cX0_moved 4 (some .int) C_X0_moved_1 := acert (tab := D_X0_moved) (fld := fld_0) (put := put_0) (cst := cst_0) (cstl := cstl_0) (cal := []) (rk := 1) (cuts := []) (fuel := 4000) (by decide) (Or.inr (Or.inl ⟨rfl, rfl⟩)) fld_0_ok put_0_ok cst_0_ok cstl_0_ok (fun _ h => absurd h List.not_mem_nil) D_X0_moved_ok (by decide +kernel)
abbrev C_X0_moved_2 : CE := ([(2, 18, 0), (0, 0, 6), (0, 1, 7), (2, 7, 0)], [], [], [(some (0, -2147483648, 2147483647), [], [], [])], [], 0, 0)
theorem ac_X0_moved_2 (l : Launch) (G : KG) : ACt l G TX yX0_moved cX0_moved 4 (some .int) C_X0_moved_2 := acert (tab := D_X0_moved) (fld := fld_0) (put := put_0) (cst := cst_0) (cstl := cstl_0) (cal := []) (rk := 1) (cuts := []) (fuel := 4000) (by decide) (Or.inr (Or.inl ⟨rfl, rfl⟩)) fld_0_ok put_0_ok cst_0_ok cstl_0_ok (fun _ h => absurd h List.not_mem_nil) D_X0_moved_ok (by decide +kernel)
abbrev C_X0_moved_3 : CE := ([(2, 18, 0), (0, 0, 6), (0, 1, 7), (2, 8, 0)], [], [], [(some (0, -2147483648, 2147483647), [], [], [])], [], 0, 0)
theorem ac_X0_moved_3 (l : Launch) (G : KG) : ACt l G TX yX0_moved cX0_moved 4 (some .int) C_X0_moved_3 := acert (tab := D_X0_moved) (fld := fld_0) (put := put_0) (cst := cst_0) (cstl := cstl_0) (cal := []) (rk := 1) (cuts := []) (fuel := 4000) (by decide) (Or.inr (Or.inl ⟨rfl, rfl⟩)) fld_0_ok put_0_ok cst_0_ok cstl_0_ok (fun _ h => absurd h List.not_mem_nil) D_X0_moved_ok (by decide +kernel)
def D_X0_exchangeBest : DT := [(0, .iconst (-1), 1), (1, .istore_n 2, 1), (2, .iconst (-1), 1), (3, .istore_n 3, 1), (4, .aload_n 0, 1), (5, .getfield 21, 3), (8, .i2l, 1), (9, .aload_n 0, 1), (10, .getfield 25, 3), (13, .i2l, 1), (14, .invokestatic 49, 3), (17, .lstore 4, 2), (19, .iconst 0, 1), (20, .istore 6, 2), (22, .iload 6, 2), (24, .aload_n 0, 1), (25, .getfield 28, 3), (28, .if_icmp .ge 89, 3), (31, .iload 6, 2), (33, .iconst 1, 1), (34, .iadd, 1), (35, .istore 7, 2), (37, .iload 7, 2), (39, .aload_n 0, 1), (40, .getfield 28, 3), (43, .if_icmp .ge 68, 3), (46, .aload_n 0, 1), (47, .getfield 21, 3), (50, .aload_n 0, 1), (51, .iload 6, 2), (53, .iload 7, 2), (55, .aload_n 1, 1), (56, .getfield 31, 3), (59, .invokevirtual 57, 3), (62, .iadd, 1), (63, .i2l, 1), (64, .aload_n 0, 1), (65, .getfield 25, 3), (68, .aload_n 0, 1), (69, .iload 6, 2), (71, .iload 7, 2), (73, .aload_n 1, 1), (74, .getfield 35, 3), (77, .invokevirtual 57, 3), (80, .iadd, 1), (81, .i2l, 1), (82, .invokestatic 49, 3), (85, .lstore 8, 2), (87, .lload 8, 2), (89, .lload 4, 2), (91, .lcmp, 1), (92, .ifCond .ge 13, 3), (95, .lload 8, 2), (97, .lstore 4, 2), (99, .iload 6, 2), (101, .istore_n 2, 1), (102, .iload 7, 2), (104, .istore_n 3, 1), (105, .iinc 7 1, 3), (108, .goto (-71), 3), (111, .iinc 6 1, 3), (114, .goto (-92), 3), (117, .iload_n 2, 1), (118, .ifCond .lt 7, 3), (121, .iload_n 3, 1), (122, .ifCond .ge 5, 3), (125, .iconst 0, 1), (126, .ireturn, 1), (127, .aload_n 0, 1), (128, .dup, 1), (129, .getfield 21, 3), (132, .aload_n 0, 1), (133, .iload_n 2, 1), (134, .iload_n 3, 1), (135, .aload_n 1, 1), (136, .getfield 31, 3), (139, .invokevirtual 57, 3), (142, .iadd, 1), (143, .putfield 21, 3), (146, .aload_n 0, 1), (147, .dup, 1), (148, .getfield 25, 3), (151, .aload_n 0, 1), (152, .iload_n 2, 1), (153, .iload_n 3, 1), (154, .aload_n 1, 1), (155, .getfield 35, 3), (158, .invokevirtual 57, 3), (161, .iadd, 1), (162, .putfield 25, 3), (165, .aload_n 0, 1), (166, .getfield 15, 3), (169, .iload_n 2, 1), (170, .iaload, 1), (171, .istore 6, 2), (173, .aload_n 0, 1), (174, .getfield 15, 3), (177, .iload_n 2, 1), (178, .aload_n 0, 1), (179, .getfield 15, 3), (182, .iload_n 3, 1), (183, .iaload, 1), (184, .iastore, 1), (185, .aload_n 0, 1), (186, .getfield 15, 3), (189, .iload_n 3, 1), (190, .iload 6, 2), (192, .iastore, 1), (193, .iconst 1, 1), (194, .ireturn, 1)]
theorem D_X0_exchangeBest_ok : dtOK cX0_exchangeBest D_X0_exchangeBest = true := by decide +kernel
abbrev C_X0_exchangeBest_0 : CE := ([(2, 18, 0), (2, 5, 0)], [], [], [(some (0, 0, 0), [], [], []), (some (0, 1, 1), [], [], [])], [(18, 4), (18, 5), (20, 999)], 1, 23)
theorem ac_X0_exchangeBest_0 (l : Launch) (G : KG) : ACt l G TX yX0_exchangeBest cX0_exchangeBest 10 (some .boolean) C_X0_exchangeBest_0 := acert (tab := D_X0_exchangeBest) (fld := fld_0) (put := put_0) (cst := cst_0) (cstl := cstl_0) (cal := [(49, 1, 4, C_X10_sizeOf_0), (57, 0, 4, C_X0_moved_0), (57, 0, 4, C_X0_moved_1), (57, 0, 4, C_X0_moved_2), (57, 0, 4, C_X0_moved_3)]) (rk := 3) (cuts := [(22, ([(0, 0, false), (1, 1, false), (2, 500, false), (3, 501, false), (4, 502, true), (6, 503, false)], [], [(0, (2, 18, 0)), (1, (2, 5, 0)), (500, (0, -1, 7)), (501, (0, -1, 7)), (502, (1, -9223372036854775808, 9223372036854775807)), (503, (0, 0, 8)), (504, (0, -2147483648, 2147483647)), (505, (0, -2147483648, 2147483647))], [(18, 4, 504), (18, 5, 505)], [(500, 501, 0)], 1000), 81, [(10, 503), (0, 500)]), (37, ([(0, 0, false), (1, 1, false), (2, 500, false), (3, 501, false), (4, 502, true), (6, 503, false), (7, 504, false)], [], [(0, (2, 18, 0)), (1, (2, 5, 0)), (500, (0, -1, 7)), (501, (0, -1, 7)), (502, (1, -9223372036854775808, 9223372036854775807)), (503, (0, 0, 7)), (504, (0, 1, 8)), (505, (0, 1, 8)), (506, (0, -2147483648, 2147483647)), (507, (0, -2147483648, 2147483647))], [(18, 0, 505), (18, 4, 506), (18, 5, 507)], [(500, 501, 0), (503, 504, -1), (503, 505, -1), (504, 505, 0)], 1000), 80, [(10, 503), (1, 504)])]) (fuel := 4000) (by decide) (Or.inr (Or.inr (Or.inr ⟨rfl, rfl⟩))) fld_0_ok put_0_ok cst_0_ok cstl_0_ok (List.forall_mem_cons.mpr ⟨cok_sn k_0_49 (ac_X10_sizeOf_0 l G) rfl, List.forall_mem_cons.mpr ⟨cok_v k_0_57 (ac_X0_moved_0 l G) rfl rfl rfl rfl rfl rfl, List.forall_mem_cons.mpr ⟨cok_v k_0_57 (ac_X0_moved_1 l G) rfl rfl rfl rfl rfl rfl, List.forall_mem_cons.mpr ⟨cok_v k_0_57 (ac_X0_moved_2 l G) rfl rfl rfl rfl rfl rfl, List.forall_mem_cons.mpr ⟨cok_v k_0_57 (ac_X0_moved_3 l G) rfl rfl rfl rfl rfl rfl, fun _ h => absurd h List.not_mem_nil⟩⟩⟩⟩⟩) D_X0_exchangeBest_ok (by decide +kernel)
def D_X10_round : DT := [(0, .aload_n 0, 1), (1, .invokevirtual 452, 3), (4, .ifCond .ne 5, 3), (7, .iconst (-1), 1), (8, .ireturn, 1), (9, .aload_n 0, 1), (10, .getfield 40, 3), (13, .aload_n 0, 1), (14, .getfield 26, 3), (17, .invokevirtual 456, 3), (20, .iconst 0, 1), (21, .istore_n 1, 1), (22, .iload_n 1, 1), (23, .ldc_w 473, 3), (26, .if_icmp .ge 23, 3), (29, .aload_n 0, 1), (30, .getfield 40, 3), (33, .aload_n 0, 1), (34, .getfield 26, 3), (37, .invokevirtual 474, 3), (40, .ifCond .eq 9, 3), (43, .iinc 1 1, 3), (46, .goto (-24), 3), (49, .aload_n 0, 1), (50, .getfield 12, 3), (53, .invokevirtual 180, 3), (56, .iconst 0, 1), (57, .istore_n 2, 1), (58, .iload_n 2, 1), (59, .aload_n 0, 1), (60, .getfield 40, 3), (63, .getfield 467, 3), (66, .if_icmp .ge 26, 3), (69, .aload_n 0, 1), (70, .getfield 12, 3), (73, .aload_n 0, 1), (74, .getfield 40, 3), (77, .getfield 478, 3), (80, .iload_n 2, 1), (81, .iaload, 1), (82, .i2l, 1), (83, .invokevirtual 183, 3), (86, .iinc 2 1, 3), (89, .goto (-31), 3), (92, .aload_n 0, 1), (93, .getfield 12, 3), (96, .aload_n 0, 1), (97, .getfield 40, 3), (100, .getfield 460, 3), (103, .i2l, 1), (104, .aload_n 0, 1), (105, .getfield 40, 3), (108, .getfield 462, 3), (111, .i2l, 1), (112, .invokestatic 187, 3), (115, .invokevirtual 183, 3), (118, .iload_n 1, 1), (119, .ireturn, 1)]
theorem D_X10_round_ok : dtOK cX10_round D_X10_round = true := by decide +kernel
abbrev C_X10_round_0 : CE := ([(2, 0, 0)], [], [], [(some (0, -1, 1000000), [], [], [])], [(1, 1), (2, 999), (18, 4), (18, 5), (20, 999)], 2, 52)
theorem ac_X10_round_0 (l : Launch) (G : KG) : ACt l G TX yX10_round cX10_round 3 (some .int) C_X10_round_0 := acert (tab := D_X10_round) (fld := fld_10) (put := put_10) (cst := cst_10) (cstl := cstl_10) (cal := [(452, 0, 1, C_X10_cogsHavePlaces_0), (456, 0, 3, C_X0_seatAsTold_0), (474, 0, 10, C_X0_exchangeBest_0), (180, 0, 1, C_X8_start_0), (183, 0, 3, C_X8_add_0), (187, 1, 4, C_X10_sizeOf_0)]) (rk := 1) (cuts := [(22, ([(0, 0, false), (1, 500, false)], [], [(0, (2, 0, 0)), (500, (0, 0, 1000000)), (501, (2, 5, 0)), (502, (2, 18, 0)), (503, (0, 1, 16)), (504, (0, 1, 8))], [(0, 2, 501), (0, 4, 502), (5, 0, 503), (18, 0, 504)], [], 1000), 1000011, [(1, 500)]), (58, ([(0, 0, false), (1, 500, false), (2, 501, false)], [], [(0, (2, 0, 0)), (500, (0, 0, 1000000)), (501, (0, 0, 8)), (502, (2, 1, 0)), (503, (2, 5, 0)), (504, (2, 18, 0)), (505, (0, 0, 16)), (506, (0, 1, 16)), (507, (0, 1, 8))], [(0, 0, 502), (0, 2, 503), (0, 4, 504), (1, 1, 505), (5, 0, 506), (18, 0, 507)], [(501, 507, 0)], 1000), 9, [(1, 501)])]) (fuel := 4000) (by decide) (Or.inr (Or.inl ⟨rfl, rfl⟩)) fld_10_ok put_10_ok cst_10_ok cstl_10_ok (List.forall_mem_cons.mpr ⟨cok_v k_10_452 (ac_X10_cogsHavePlaces_0 l G) rfl rfl rfl rfl rfl rfl, List.forall_mem_cons.mpr ⟨cok_v k_10_456 (ac_X0_seatAsTold_0 l G) rfl rfl rfl rfl rfl rfl, List.forall_mem_cons.mpr ⟨cok_v k_10_474 (ac_X0_exchangeBest_0 l G) rfl rfl rfl rfl rfl rfl, List.forall_mem_cons.mpr ⟨cok_v k_10_180 (ac_X8_start_0 l G) rfl rfl rfl rfl rfl rfl, List.forall_mem_cons.mpr ⟨cok_v k_10_183 (ac_X8_add_0 l G) rfl rfl rfl rfl rfl rfl, List.forall_mem_cons.mpr ⟨cok_s k_10_187 (ac_X10_sizeOf_0 l G) rfl, fun _ h => absurd h List.not_mem_nil⟩⟩⟩⟩⟩⟩) D_X10_round_ok (by decide +kernel)
abbrev C_X10_copy_1 : CE := ([(2, 10, 0), (2, 85, 0)], [], [], [(none, [], [], [])], [(85, 999)], 0, 0)
theorem ac_X10_copy_1 (l : Launch) (G : KG) : ACt l G TX yX10_copy cX10_copy 3 none C_X10_copy_1 := acert (tab := D_X10_copy) (fld := fld_10) (put := put_10) (cst := cst_10) (cstl := cstl_10) (cal := []) (rk := 0) (cuts := [(2, ([(0, 0, false), (1, 1, false), (2, 500, false)], [], [(0, (2, 10, 0)), (1, (2, 85, 0)), (500, (0, 0, 16))], [], [], 1000), 17, [(1, 500)])]) (fuel := 4000) (by decide) (Or.inl ⟨rfl, rfl⟩) fld_10_ok put_10_ok cst_10_ok cstl_10_ok (fun _ h => absurd h List.not_mem_nil) D_X10_copy_ok (by decide +kernel)
abbrev C_X10_copy_2 : CE := ([(2, 105, 0), (2, 86, 0)], [], [], [(none, [], [], [])], [(86, 999)], 0, 0)
theorem ac_X10_copy_2 (l : Launch) (G : KG) : ACt l G TX yX10_copy cX10_copy 3 none C_X10_copy_2 := acert (tab := D_X10_copy) (fld := fld_10) (put := put_10) (cst := cst_10) (cstl := cstl_10) (cal := []) (rk := 0) (cuts := [(2, ([(0, 0, false), (1, 1, false), (2, 500, false)], [], [(0, (2, 105, 0)), (1, (2, 86, 0)), (500, (0, 0, 8))], [], [], 1000), 9, [(1, 500)])]) (fuel := 4000) (by decide) (Or.inl ⟨rfl, rfl⟩) fld_10_ok put_10_ok cst_10_ok cstl_10_ok (fun _ h => absurd h List.not_mem_nil) D_X10_copy_ok (by decide +kernel)
abbrev C_X10_copy_3 : CE := ([(2, 16, 0), (2, 91, 0)], [], [], [(none, [], [], [])], [(91, 999)], 0, 0)
theorem ac_X10_copy_3 (l : Launch) (G : KG) : ACt l G TX yX10_copy cX10_copy 3 none C_X10_copy_3 := acert (tab := D_X10_copy) (fld := fld_10) (put := put_10) (cst := cst_10) (cstl := cstl_10) (cal := []) (rk := 0) (cuts := [(2, ([(0, 0, false), (1, 1, false), (2, 500, false)], [], [(0, (2, 16, 0)), (1, (2, 91, 0)), (500, (0, 0, 6))], [], [], 1000), 7, [(1, 500)])]) (fuel := 4000) (by decide) (Or.inl ⟨rfl, rfl⟩) fld_10_ok put_10_ok cst_10_ok cstl_10_ok (fun _ h => absurd h List.not_mem_nil) D_X10_copy_ok (by decide +kernel)
abbrev C_X10_copy_4 : CE := ([(2, 17, 0), (2, 92, 0)], [], [], [(none, [], [], [])], [(92, 999)], 0, 0)
theorem ac_X10_copy_4 (l : Launch) (G : KG) : ACt l G TX yX10_copy cX10_copy 3 none C_X10_copy_4 := acert (tab := D_X10_copy) (fld := fld_10) (put := put_10) (cst := cst_10) (cstl := cstl_10) (cal := []) (rk := 0) (cuts := [(2, ([(0, 0, false), (1, 1, false), (2, 500, false)], [], [(0, (2, 17, 0)), (1, (2, 92, 0)), (500, (0, 0, 6))], [], [], 1000), 7, [(1, 500)])]) (fuel := 4000) (by decide) (Or.inl ⟨rfl, rfl⟩) fld_10_ok put_10_ok cst_10_ok cstl_10_ok (fun _ h => absurd h List.not_mem_nil) D_X10_copy_ok (by decide +kernel)
def D_X7_copyApart : DT := [(0, .aload_n 1, 1), (1, .getfield 22, 3), (4, .aload_n 0, 1), (5, .getfield 22, 3), (8, .invokestatic 32, 3), (11, .aload_n 1, 1), (12, .getfield 25, 3), (15, .aload_n 0, 1), (16, .getfield 25, 3), (19, .invokestatic 32, 3), (22, .iconst 0, 1), (23, .istore_n 2, 1), (24, .iload_n 2, 1), (25, .bipush 6, 2), (27, .if_icmp .ge 21, 3), (30, .aload_n 0, 1), (31, .getfield 18, 3), (34, .iload_n 2, 1), (35, .aload_n 1, 1), (36, .getfield 18, 3), (39, .iload_n 2, 1), (40, .baload, 1), (41, .bastore, 1), (42, .iinc 2 1, 3), (45, .goto (-21), 3), (48, .return_, 1)]
theorem D_X7_copyApart_ok : dtOK cX7_copyApart D_X7_copyApart = true := by decide +kernel
abbrev C_X7_copyApart_0 : CE := ([(2, 87, 0), (2, 12, 0)], [], [], [(none, [], [], [])], [(90, 999), (91, 999), (92, 999)], 1, 22)
theorem ac_X7_copyApart_0 (l : Launch) (G : KG) : ACt l G TX yX7_copyApart cX7_copyApart 3 none C_X7_copyApart_0 := acert (tab := D_X7_copyApart) (fld := fld_7) (put := put_7) (cst := cst_7) (cstl := cstl_7) (cal := [(32, 1, 3, C_X10_copy_3), (32, 1, 3, C_X10_copy_4)]) (rk := 0) (cuts := [(24, ([(0, 0, false), (1, 1, false), (2, 500, false)], [], [(0, (2, 87, 0)), (1, (2, 12, 0)), (500, (0, 0, 6)), (501, (2, 16, 0)), (502, (2, 17, 0)), (503, (2, 91, 0)), (504, (2, 92, 0))], [(12, 4, 501), (12, 5, 502), (87, 4, 503), (87, 5, 504)], [], 1000), 7, [(1, 500)])]) (fuel := 4000) (by decide) (Or.inl ⟨rfl, rfl⟩) fld_7_ok put_7_ok cst_7_ok cstl_7_ok (List.forall_mem_cons.mpr ⟨cok_sn k_7_32 (ac_X10_copy_3 l G) rfl, List.forall_mem_cons.mpr ⟨cok_sn k_7_32 (ac_X10_copy_4 l G) rfl, fun _ h => absurd h List.not_mem_nil⟩⟩) D_X7_copyApart_ok (by decide +kernel)
abbrev C_X10_copy_5 : CE := ([(2, 23, 0), (2, 94, 0)], [], [], [(none, [], [], [])], [(94, 999)], 0, 0)
theorem ac_X10_copy_5 (l : Launch) (G : KG) : ACt l G TX yX10_copy cX10_copy 3 none C_X10_copy_5 := acert (tab := D_X10_copy) (fld := fld_10) (put := put_10) (cst := cst_10) (cstl := cstl_10) (cal := []) (rk := 0) (cuts := [(2, ([(0, 0, false), (1, 1, false), (2, 500, false)], [], [(0, (2, 23, 0)), (1, (2, 94, 0)), (500, (0, 0, 12))], [], [], 1000), 13, [(1, 500)])]) (fuel := 4000) (by decide) (Or.inl ⟨rfl, rfl⟩) fld_10_ok put_10_ok cst_10_ok cstl_10_ok (fun _ h => absurd h List.not_mem_nil) D_X10_copy_ok (by decide +kernel)
abbrev C_X10_copy_6 : CE := ([(2, 25, 0), (2, 96, 0)], [], [], [(none, [], [], [])], [(96, 999)], 0, 0)
theorem ac_X10_copy_6 (l : Launch) (G : KG) : ACt l G TX yX10_copy cX10_copy 3 none C_X10_copy_6 := acert (tab := D_X10_copy) (fld := fld_10) (put := put_10) (cst := cst_10) (cstl := cstl_10) (cal := []) (rk := 0) (cuts := [(2, ([(0, 0, false), (1, 1, false), (2, 500, false)], [], [(0, (2, 25, 0)), (1, (2, 96, 0)), (500, (0, 0, 12))], [], [], 1000), 13, [(1, 500)])]) (fuel := 4000) (by decide) (Or.inl ⟨rfl, rfl⟩) fld_10_ok put_10_ok cst_10_ok cstl_10_ok (fun _ h => absurd h List.not_mem_nil) D_X10_copy_ok (by decide +kernel)
abbrev C_X10_copy_7 : CE := ([(2, 26, 0), (2, 97, 0)], [], [], [(none, [], [], [])], [(97, 999)], 0, 0)
theorem ac_X10_copy_7 (l : Launch) (G : KG) : ACt l G TX yX10_copy cX10_copy 3 none C_X10_copy_7 := acert (tab := D_X10_copy) (fld := fld_10) (put := put_10) (cst := cst_10) (cstl := cstl_10) (cal := []) (rk := 0) (cuts := [(2, ([(0, 0, false), (1, 1, false), (2, 500, false)], [], [(0, (2, 26, 0)), (1, (2, 97, 0)), (500, (0, 0, 12))], [], [], 1000), 13, [(1, 500)])]) (fuel := 4000) (by decide) (Or.inl ⟨rfl, rfl⟩) fld_10_ok put_10_ok cst_10_ok cstl_10_ok (fun _ h => absurd h List.not_mem_nil) D_X10_copy_ok (by decide +kernel)
abbrev C_X10_copy_8 : CE := ([(2, 27, 0), (2, 98, 0)], [], [], [(none, [], [], [])], [(98, 999)], 0, 0)
theorem ac_X10_copy_8 (l : Launch) (G : KG) : ACt l G TX yX10_copy cX10_copy 3 none C_X10_copy_8 := acert (tab := D_X10_copy) (fld := fld_10) (put := put_10) (cst := cst_10) (cstl := cstl_10) (cal := []) (rk := 0) (cuts := [(2, ([(0, 0, false), (1, 1, false), (2, 500, false)], [], [(0, (2, 27, 0)), (1, (2, 98, 0)), (500, (0, 0, 12))], [], [], 1000), 13, [(1, 500)])]) (fuel := 4000) (by decide) (Or.inl ⟨rfl, rfl⟩) fld_10_ok put_10_ok cst_10_ok cstl_10_ok (fun _ h => absurd h List.not_mem_nil) D_X10_copy_ok (by decide +kernel)
abbrev C_X10_copy_9 : CE := ([(2, 28, 0), (2, 99, 0)], [], [], [(none, [], [], [])], [(99, 999)], 0, 0)
theorem ac_X10_copy_9 (l : Launch) (G : KG) : ACt l G TX yX10_copy cX10_copy 3 none C_X10_copy_9 := acert (tab := D_X10_copy) (fld := fld_10) (put := put_10) (cst := cst_10) (cstl := cstl_10) (cal := []) (rk := 0) (cuts := [(2, ([(0, 0, false), (1, 1, false), (2, 500, false)], [], [(0, (2, 28, 0)), (1, (2, 99, 0)), (500, (0, 0, 48))], [], [], 1000), 49, [(1, 500)])]) (fuel := 4000) (by decide) (Or.inl ⟨rfl, rfl⟩) fld_10_ok put_10_ok cst_10_ok cstl_10_ok (fun _ h => absurd h List.not_mem_nil) D_X10_copy_ok (by decide +kernel)
def D_X9_copyTrials : DT := [(0, .aload_n 0, 1), (1, .aload_n 1, 1), (2, .getfield 44, 3), (5, .putfield 44, 3), (8, .aload_n 1, 1), (9, .getfield 9, 3), (12, .aload_n 0, 1), (13, .getfield 9, 3), (16, .invokestatic 66, 3), (19, .aload_n 1, 1), (20, .getfield 19, 3), (23, .aload_n 0, 1), (24, .getfield 19, 3), (27, .invokestatic 66, 3), (30, .aload_n 1, 1), (31, .getfield 22, 3), (34, .aload_n 0, 1), (35, .getfield 22, 3), (38, .invokestatic 66, 3), (41, .aload_n 1, 1), (42, .getfield 25, 3), (45, .aload_n 0, 1), (46, .getfield 25, 3), (49, .invokestatic 66, 3), (52, .aload_n 1, 1), (53, .getfield 28, 3), (56, .aload_n 0, 1), (57, .getfield 28, 3), (60, .invokestatic 66, 3), (63, .iconst 0, 1), (64, .istore_n 2, 1), (65, .iload_n 2, 1), (66, .bipush 12, 2), (68, .if_icmp .ge 21, 3), (71, .aload_n 0, 1), (72, .getfield 15, 3), (75, .iload_n 2, 1), (76, .aload_n 1, 1), (77, .getfield 15, 3), (80, .iload_n 2, 1), (81, .baload, 1), (82, .bastore, 1), (83, .iinc 2 1, 3), (86, .goto (-21), 3), (89, .return_, 1)]
theorem D_X9_copyTrials_ok : dtOK cX9_copyTrials D_X9_copyTrials = true := by decide +kernel
abbrev C_X9_copyTrials_0 : CE := ([(2, 93, 0), (2, 22, 0)], [], [], [(none, [], [], [])], [(93, 0), (94, 999), (95, 999), (96, 999), (97, 999), (98, 999), (99, 999)], 1, 22)
theorem ac_X9_copyTrials_0 (l : Launch) (G : KG) : ACt l G TX yX9_copyTrials cX9_copyTrials 3 none C_X9_copyTrials_0 := acert (tab := D_X9_copyTrials) (fld := fld_9) (put := put_9) (cst := cst_9) (cstl := cstl_9) (cal := [(66, 1, 3, C_X10_copy_5), (66, 1, 3, C_X10_copy_6), (66, 1, 3, C_X10_copy_7), (66, 1, 3, C_X10_copy_8), (66, 1, 3, C_X10_copy_9)]) (rk := 0) (cuts := [(65, ([(0, 0, false), (1, 1, false), (2, 500, false)], [], [(0, (2, 93, 0)), (1, (2, 22, 0)), (500, (0, 0, 12)), (501, (0, 0, 12)), (502, (2, 23, 0)), (503, (2, 25, 0)), (504, (2, 26, 0)), (505, (2, 27, 0)), (506, (2, 28, 0)), (507, (2, 94, 0)), (508, (2, 96, 0)), (509, (2, 97, 0)), (510, (2, 98, 0)), (511, (2, 99, 0))], [(22, 0, 501), (22, 1, 502), (22, 3, 503), (22, 4, 504), (22, 5, 505), (22, 6, 506), (93, 0, 501), (93, 1, 507), (93, 3, 508), (93, 4, 509), (93, 5, 510), (93, 6, 511)], [], 1000), 13, [(1, 500)])]) (fuel := 4000) (by decide) (Or.inl ⟨rfl, rfl⟩) fld_9_ok put_9_ok cst_9_ok cstl_9_ok (List.forall_mem_cons.mpr ⟨cok_sn k_9_66 (ac_X10_copy_5 l G) rfl, List.forall_mem_cons.mpr ⟨cok_sn k_9_66 (ac_X10_copy_6 l G) rfl, List.forall_mem_cons.mpr ⟨cok_sn k_9_66 (ac_X10_copy_7 l G) rfl, List.forall_mem_cons.mpr ⟨cok_sn k_9_66 (ac_X10_copy_8 l G) rfl, List.forall_mem_cons.mpr ⟨cok_sn k_9_66 (ac_X10_copy_9 l G) rfl, fun _ h => absurd h List.not_mem_nil⟩⟩⟩⟩⟩) D_X9_copyTrials_ok (by decide +kernel)
def D_X2_store : DT := [(0, .aload_n 0, 1), (1, .iconst 1, 1), (2, .putfield 32, 3), (5, .aload_n 1, 1), (6, .getfield 36, 3), (9, .aload_n 0, 1), (10, .getfield 9, 3), (13, .invokestatic 39, 3), (16, .aload 4, 2), (18, .aload_n 0, 1), (19, .getfield 15, 3), (22, .invokestatic 39, 3), (25, .aload_n 0, 1), (26, .getfield 21, 3), (29, .aload_n 2, 1), (30, .invokevirtual 43, 3), (33, .aload_n 0, 1), (34, .getfield 28, 3), (37, .aload_n 3, 1), (38, .invokevirtual 47, 3), (41, .aload_n 0, 1), (42, .aload_n 1, 1), (43, .getfield 51, 3), (46, .putfield 55, 3), (49, .aload_n 0, 1), (50, .aload_n 1, 1), (51, .getfield 56, 3), (54, .putfield 59, 3), (57, .return_, 1)]
theorem D_X2_store_ok : dtOK cX2_store D_X2_store = true := by decide +kernel
abbrev C_X2_store_0 : CE := ([(2, 84, 0), (2, 5, 0), (2, 12, 0), (2, 22, 0), (2, 105, 0)], [], [], [(none, [], [(84, 0, (0, 1, 1))], [])], [(84, 0), (84, 5), (84, 6), (85, 999), (86, 999), (90, 999), (91, 999), (92, 999), (93, 0), (94, 999), (95, 999), (96, 999), (97, 999), (98, 999), (99, 999)], 2, 44)
theorem ac_X2_store_0 (l : Launch) (G : KG) : ACt l G TX yX2_store cX2_store 5 none C_X2_store_0 := acert (tab := D_X2_store) (fld := fld_2) (put := put_2) (cst := cst_2) (cstl := cstl_2) (cal := [(39, 1, 3, C_X10_copy_1), (39, 1, 3, C_X10_copy_2), (43, 0, 3, C_X7_copyApart_0), (47, 0, 3, C_X9_copyTrials_0)]) (rk := 0) (cuts := []) (fuel := 4000) (by decide) (Or.inl ⟨rfl, rfl⟩) fld_2_ok put_2_ok cst_2_ok cstl_2_ok (List.forall_mem_cons.mpr ⟨cok_sn k_2_39 (ac_X10_copy_1 l G) rfl, List.forall_mem_cons.mpr ⟨cok_sn k_2_39 (ac_X10_copy_2 l G) rfl, List.forall_mem_cons.mpr ⟨cok_v k_2_43 (ac_X7_copyApart_0 l G) rfl rfl rfl rfl rfl rfl, List.forall_mem_cons.mpr ⟨cok_v k_2_47 (ac_X9_copyTrials_0 l G) rfl rfl rfl rfl rfl rfl, fun _ h => absurd h List.not_mem_nil⟩⟩⟩⟩) D_X2_store_ok (by decide +kernel)
abbrev C_X10_copy_10 : CE := ([(2, 10, 0), (2, 66, 0)], [], [], [(none, [], [], [])], [(66, 999)], 0, 0)
theorem ac_X10_copy_10 (l : Launch) (G : KG) : ACt l G TX yX10_copy cX10_copy 3 none C_X10_copy_10 := acert (tab := D_X10_copy) (fld := fld_10) (put := put_10) (cst := cst_10) (cstl := cstl_10) (cal := []) (rk := 0) (cuts := [(2, ([(0, 0, false), (1, 1, false), (2, 500, false)], [], [(0, (2, 10, 0)), (1, (2, 66, 0)), (500, (0, 0, 16))], [], [], 1000), 17, [(1, 500)])]) (fuel := 4000) (by decide) (Or.inl ⟨rfl, rfl⟩) fld_10_ok put_10_ok cst_10_ok cstl_10_ok (fun _ h => absurd h List.not_mem_nil) D_X10_copy_ok (by decide +kernel)
abbrev C_X10_copy_11 : CE := ([(2, 105, 0), (2, 67, 0)], [], [], [(none, [], [], [])], [(67, 999)], 0, 0)
theorem ac_X10_copy_11 (l : Launch) (G : KG) : ACt l G TX yX10_copy cX10_copy 3 none C_X10_copy_11 := acert (tab := D_X10_copy) (fld := fld_10) (put := put_10) (cst := cst_10) (cstl := cstl_10) (cal := []) (rk := 0) (cuts := [(2, ([(0, 0, false), (1, 1, false), (2, 500, false)], [], [(0, (2, 105, 0)), (1, (2, 67, 0)), (500, (0, 0, 8))], [], [], 1000), 9, [(1, 500)])]) (fuel := 4000) (by decide) (Or.inl ⟨rfl, rfl⟩) fld_10_ok put_10_ok cst_10_ok cstl_10_ok (fun _ h => absurd h List.not_mem_nil) D_X10_copy_ok (by decide +kernel)
abbrev C_X10_copy_12 : CE := ([(2, 16, 0), (2, 72, 0)], [], [], [(none, [], [], [])], [(72, 999)], 0, 0)
theorem ac_X10_copy_12 (l : Launch) (G : KG) : ACt l G TX yX10_copy cX10_copy 3 none C_X10_copy_12 := acert (tab := D_X10_copy) (fld := fld_10) (put := put_10) (cst := cst_10) (cstl := cstl_10) (cal := []) (rk := 0) (cuts := [(2, ([(0, 0, false), (1, 1, false), (2, 500, false)], [], [(0, (2, 16, 0)), (1, (2, 72, 0)), (500, (0, 0, 6))], [], [], 1000), 7, [(1, 500)])]) (fuel := 4000) (by decide) (Or.inl ⟨rfl, rfl⟩) fld_10_ok put_10_ok cst_10_ok cstl_10_ok (fun _ h => absurd h List.not_mem_nil) D_X10_copy_ok (by decide +kernel)
abbrev C_X10_copy_13 : CE := ([(2, 17, 0), (2, 73, 0)], [], [], [(none, [], [], [])], [(73, 999)], 0, 0)
theorem ac_X10_copy_13 (l : Launch) (G : KG) : ACt l G TX yX10_copy cX10_copy 3 none C_X10_copy_13 := acert (tab := D_X10_copy) (fld := fld_10) (put := put_10) (cst := cst_10) (cstl := cstl_10) (cal := []) (rk := 0) (cuts := [(2, ([(0, 0, false), (1, 1, false), (2, 500, false)], [], [(0, (2, 17, 0)), (1, (2, 73, 0)), (500, (0, 0, 6))], [], [], 1000), 7, [(1, 500)])]) (fuel := 4000) (by decide) (Or.inl ⟨rfl, rfl⟩) fld_10_ok put_10_ok cst_10_ok cstl_10_ok (fun _ h => absurd h List.not_mem_nil) D_X10_copy_ok (by decide +kernel)
abbrev C_X7_copyApart_1 : CE := ([(2, 68, 0), (2, 12, 0)], [], [], [(none, [], [], [])], [(71, 999), (72, 999), (73, 999)], 1, 22)
theorem ac_X7_copyApart_1 (l : Launch) (G : KG) : ACt l G TX yX7_copyApart cX7_copyApart 3 none C_X7_copyApart_1 := acert (tab := D_X7_copyApart) (fld := fld_7) (put := put_7) (cst := cst_7) (cstl := cstl_7) (cal := [(32, 1, 3, C_X10_copy_12), (32, 1, 3, C_X10_copy_13)]) (rk := 0) (cuts := [(24, ([(0, 0, false), (1, 1, false), (2, 500, false)], [], [(0, (2, 68, 0)), (1, (2, 12, 0)), (500, (0, 0, 6)), (501, (2, 16, 0)), (502, (2, 17, 0)), (503, (2, 72, 0)), (504, (2, 73, 0))], [(12, 4, 501), (12, 5, 502), (68, 4, 503), (68, 5, 504)], [], 1000), 7, [(1, 500)])]) (fuel := 4000) (by decide) (Or.inl ⟨rfl, rfl⟩) fld_7_ok put_7_ok cst_7_ok cstl_7_ok (List.forall_mem_cons.mpr ⟨cok_sn k_7_32 (ac_X10_copy_12 l G) rfl, List.forall_mem_cons.mpr ⟨cok_sn k_7_32 (ac_X10_copy_13 l G) rfl, fun _ h => absurd h List.not_mem_nil⟩⟩) D_X7_copyApart_ok (by decide +kernel)
abbrev C_X10_copy_14 : CE := ([(2, 23, 0), (2, 75, 0)], [], [], [(none, [], [], [])], [(75, 999)], 0, 0)
theorem ac_X10_copy_14 (l : Launch) (G : KG) : ACt l G TX yX10_copy cX10_copy 3 none C_X10_copy_14 := acert (tab := D_X10_copy) (fld := fld_10) (put := put_10) (cst := cst_10) (cstl := cstl_10) (cal := []) (rk := 0) (cuts := [(2, ([(0, 0, false), (1, 1, false), (2, 500, false)], [], [(0, (2, 23, 0)), (1, (2, 75, 0)), (500, (0, 0, 12))], [], [], 1000), 13, [(1, 500)])]) (fuel := 4000) (by decide) (Or.inl ⟨rfl, rfl⟩) fld_10_ok put_10_ok cst_10_ok cstl_10_ok (fun _ h => absurd h List.not_mem_nil) D_X10_copy_ok (by decide +kernel)
abbrev C_X10_copy_15 : CE := ([(2, 25, 0), (2, 77, 0)], [], [], [(none, [], [], [])], [(77, 999)], 0, 0)
theorem ac_X10_copy_15 (l : Launch) (G : KG) : ACt l G TX yX10_copy cX10_copy 3 none C_X10_copy_15 := acert (tab := D_X10_copy) (fld := fld_10) (put := put_10) (cst := cst_10) (cstl := cstl_10) (cal := []) (rk := 0) (cuts := [(2, ([(0, 0, false), (1, 1, false), (2, 500, false)], [], [(0, (2, 25, 0)), (1, (2, 77, 0)), (500, (0, 0, 12))], [], [], 1000), 13, [(1, 500)])]) (fuel := 4000) (by decide) (Or.inl ⟨rfl, rfl⟩) fld_10_ok put_10_ok cst_10_ok cstl_10_ok (fun _ h => absurd h List.not_mem_nil) D_X10_copy_ok (by decide +kernel)
abbrev C_X10_copy_16 : CE := ([(2, 26, 0), (2, 78, 0)], [], [], [(none, [], [], [])], [(78, 999)], 0, 0)
theorem ac_X10_copy_16 (l : Launch) (G : KG) : ACt l G TX yX10_copy cX10_copy 3 none C_X10_copy_16 := acert (tab := D_X10_copy) (fld := fld_10) (put := put_10) (cst := cst_10) (cstl := cstl_10) (cal := []) (rk := 0) (cuts := [(2, ([(0, 0, false), (1, 1, false), (2, 500, false)], [], [(0, (2, 26, 0)), (1, (2, 78, 0)), (500, (0, 0, 12))], [], [], 1000), 13, [(1, 500)])]) (fuel := 4000) (by decide) (Or.inl ⟨rfl, rfl⟩) fld_10_ok put_10_ok cst_10_ok cstl_10_ok (fun _ h => absurd h List.not_mem_nil) D_X10_copy_ok (by decide +kernel)
abbrev C_X10_copy_17 : CE := ([(2, 27, 0), (2, 79, 0)], [], [], [(none, [], [], [])], [(79, 999)], 0, 0)
theorem ac_X10_copy_17 (l : Launch) (G : KG) : ACt l G TX yX10_copy cX10_copy 3 none C_X10_copy_17 := acert (tab := D_X10_copy) (fld := fld_10) (put := put_10) (cst := cst_10) (cstl := cstl_10) (cal := []) (rk := 0) (cuts := [(2, ([(0, 0, false), (1, 1, false), (2, 500, false)], [], [(0, (2, 27, 0)), (1, (2, 79, 0)), (500, (0, 0, 12))], [], [], 1000), 13, [(1, 500)])]) (fuel := 4000) (by decide) (Or.inl ⟨rfl, rfl⟩) fld_10_ok put_10_ok cst_10_ok cstl_10_ok (fun _ h => absurd h List.not_mem_nil) D_X10_copy_ok (by decide +kernel)
abbrev C_X10_copy_18 : CE := ([(2, 28, 0), (2, 80, 0)], [], [], [(none, [], [], [])], [(80, 999)], 0, 0)
theorem ac_X10_copy_18 (l : Launch) (G : KG) : ACt l G TX yX10_copy cX10_copy 3 none C_X10_copy_18 := acert (tab := D_X10_copy) (fld := fld_10) (put := put_10) (cst := cst_10) (cstl := cstl_10) (cal := []) (rk := 0) (cuts := [(2, ([(0, 0, false), (1, 1, false), (2, 500, false)], [], [(0, (2, 28, 0)), (1, (2, 80, 0)), (500, (0, 0, 48))], [], [], 1000), 49, [(1, 500)])]) (fuel := 4000) (by decide) (Or.inl ⟨rfl, rfl⟩) fld_10_ok put_10_ok cst_10_ok cstl_10_ok (fun _ h => absurd h List.not_mem_nil) D_X10_copy_ok (by decide +kernel)
abbrev C_X9_copyTrials_1 : CE := ([(2, 74, 0), (2, 22, 0)], [], [], [(none, [], [], [])], [(74, 0), (75, 999), (76, 999), (77, 999), (78, 999), (79, 999), (80, 999)], 1, 22)
theorem ac_X9_copyTrials_1 (l : Launch) (G : KG) : ACt l G TX yX9_copyTrials cX9_copyTrials 3 none C_X9_copyTrials_1 := acert (tab := D_X9_copyTrials) (fld := fld_9) (put := put_9) (cst := cst_9) (cstl := cstl_9) (cal := [(66, 1, 3, C_X10_copy_14), (66, 1, 3, C_X10_copy_15), (66, 1, 3, C_X10_copy_16), (66, 1, 3, C_X10_copy_17), (66, 1, 3, C_X10_copy_18)]) (rk := 0) (cuts := [(65, ([(0, 0, false), (1, 1, false), (2, 500, false)], [], [(0, (2, 74, 0)), (1, (2, 22, 0)), (500, (0, 0, 12)), (501, (0, 0, 12)), (502, (2, 23, 0)), (503, (2, 25, 0)), (504, (2, 26, 0)), (505, (2, 27, 0)), (506, (2, 28, 0)), (507, (2, 75, 0)), (508, (2, 77, 0)), (509, (2, 78, 0)), (510, (2, 79, 0)), (511, (2, 80, 0))], [(22, 0, 501), (22, 1, 502), (22, 3, 503), (22, 4, 504), (22, 5, 505), (22, 6, 506), (74, 0, 501), (74, 1, 507), (74, 3, 508), (74, 4, 509), (74, 5, 510), (74, 6, 511)], [], 1000), 13, [(1, 500)])]) (fuel := 4000) (by decide) (Or.inl ⟨rfl, rfl⟩) fld_9_ok put_9_ok cst_9_ok cstl_9_ok (List.forall_mem_cons.mpr ⟨cok_sn k_9_66 (ac_X10_copy_14 l G) rfl, List.forall_mem_cons.mpr ⟨cok_sn k_9_66 (ac_X10_copy_15 l G) rfl, List.forall_mem_cons.mpr ⟨cok_sn k_9_66 (ac_X10_copy_16 l G) rfl, List.forall_mem_cons.mpr ⟨cok_sn k_9_66 (ac_X10_copy_17 l G) rfl, List.forall_mem_cons.mpr ⟨cok_sn k_9_66 (ac_X10_copy_18 l G) rfl, fun _ h => absurd h List.not_mem_nil⟩⟩⟩⟩⟩) D_X9_copyTrials_ok (by decide +kernel)
abbrev C_X2_store_1 : CE := ([(2, 65, 0), (2, 5, 0), (2, 12, 0), (2, 22, 0), (2, 105, 0)], [], [], [(none, [], [(65, 0, (0, 1, 1))], [])], [(65, 0), (65, 5), (65, 6), (66, 999), (67, 999), (71, 999), (72, 999), (73, 999), (74, 0), (75, 999), (76, 999), (77, 999), (78, 999), (79, 999), (80, 999)], 2, 44)
theorem ac_X2_store_1 (l : Launch) (G : KG) : ACt l G TX yX2_store cX2_store 5 none C_X2_store_1 := acert (tab := D_X2_store) (fld := fld_2) (put := put_2) (cst := cst_2) (cstl := cstl_2) (cal := [(39, 1, 3, C_X10_copy_10), (39, 1, 3, C_X10_copy_11), (43, 0, 3, C_X7_copyApart_1), (47, 0, 3, C_X9_copyTrials_1)]) (rk := 0) (cuts := []) (fuel := 4000) (by decide) (Or.inl ⟨rfl, rfl⟩) fld_2_ok put_2_ok cst_2_ok cstl_2_ok (List.forall_mem_cons.mpr ⟨cok_sn k_2_39 (ac_X10_copy_10 l G) rfl, List.forall_mem_cons.mpr ⟨cok_sn k_2_39 (ac_X10_copy_11 l G) rfl, List.forall_mem_cons.mpr ⟨cok_v k_2_43 (ac_X7_copyApart_1 l G) rfl rfl rfl rfl rfl rfl, List.forall_mem_cons.mpr ⟨cok_v k_2_47 (ac_X9_copyTrials_1 l G) rfl rfl rfl rfl rfl rfl, fun _ h => absurd h List.not_mem_nil⟩⟩⟩⟩) D_X2_store_ok (by decide +kernel)
abbrev C_X10_copy_19 : CE := ([(2, 10, 0), (2, 47, 0)], [], [], [(none, [], [], [])], [(47, 999)], 0, 0)
theorem ac_X10_copy_19 (l : Launch) (G : KG) : ACt l G TX yX10_copy cX10_copy 3 none C_X10_copy_19 := acert (tab := D_X10_copy) (fld := fld_10) (put := put_10) (cst := cst_10) (cstl := cstl_10) (cal := []) (rk := 0) (cuts := [(2, ([(0, 0, false), (1, 1, false), (2, 500, false)], [], [(0, (2, 10, 0)), (1, (2, 47, 0)), (500, (0, 0, 16))], [], [], 1000), 17, [(1, 500)])]) (fuel := 4000) (by decide) (Or.inl ⟨rfl, rfl⟩) fld_10_ok put_10_ok cst_10_ok cstl_10_ok (fun _ h => absurd h List.not_mem_nil) D_X10_copy_ok (by decide +kernel)
abbrev C_X10_copy_20 : CE := ([(2, 105, 0), (2, 48, 0)], [], [], [(none, [], [], [])], [(48, 999)], 0, 0)
theorem ac_X10_copy_20 (l : Launch) (G : KG) : ACt l G TX yX10_copy cX10_copy 3 none C_X10_copy_20 := acert (tab := D_X10_copy) (fld := fld_10) (put := put_10) (cst := cst_10) (cstl := cstl_10) (cal := []) (rk := 0) (cuts := [(2, ([(0, 0, false), (1, 1, false), (2, 500, false)], [], [(0, (2, 105, 0)), (1, (2, 48, 0)), (500, (0, 0, 8))], [], [], 1000), 9, [(1, 500)])]) (fuel := 4000) (by decide) (Or.inl ⟨rfl, rfl⟩) fld_10_ok put_10_ok cst_10_ok cstl_10_ok (fun _ h => absurd h List.not_mem_nil) D_X10_copy_ok (by decide +kernel)
abbrev C_X10_copy_21 : CE := ([(2, 16, 0), (2, 53, 0)], [], [], [(none, [], [], [])], [(53, 999)], 0, 0)
theorem ac_X10_copy_21 (l : Launch) (G : KG) : ACt l G TX yX10_copy cX10_copy 3 none C_X10_copy_21 := acert (tab := D_X10_copy) (fld := fld_10) (put := put_10) (cst := cst_10) (cstl := cstl_10) (cal := []) (rk := 0) (cuts := [(2, ([(0, 0, false), (1, 1, false), (2, 500, false)], [], [(0, (2, 16, 0)), (1, (2, 53, 0)), (500, (0, 0, 6))], [], [], 1000), 7, [(1, 500)])]) (fuel := 4000) (by decide) (Or.inl ⟨rfl, rfl⟩) fld_10_ok put_10_ok cst_10_ok cstl_10_ok (fun _ h => absurd h List.not_mem_nil) D_X10_copy_ok (by decide +kernel)
abbrev C_X10_copy_22 : CE := ([(2, 17, 0), (2, 54, 0)], [], [], [(none, [], [], [])], [(54, 999)], 0, 0)
theorem ac_X10_copy_22 (l : Launch) (G : KG) : ACt l G TX yX10_copy cX10_copy 3 none C_X10_copy_22 := acert (tab := D_X10_copy) (fld := fld_10) (put := put_10) (cst := cst_10) (cstl := cstl_10) (cal := []) (rk := 0) (cuts := [(2, ([(0, 0, false), (1, 1, false), (2, 500, false)], [], [(0, (2, 17, 0)), (1, (2, 54, 0)), (500, (0, 0, 6))], [], [], 1000), 7, [(1, 500)])]) (fuel := 4000) (by decide) (Or.inl ⟨rfl, rfl⟩) fld_10_ok put_10_ok cst_10_ok cstl_10_ok (fun _ h => absurd h List.not_mem_nil) D_X10_copy_ok (by decide +kernel)
abbrev C_X7_copyApart_2 : CE := ([(2, 49, 0), (2, 12, 0)], [], [], [(none, [], [], [])], [(52, 999), (53, 999), (54, 999)], 1, 22)
theorem ac_X7_copyApart_2 (l : Launch) (G : KG) : ACt l G TX yX7_copyApart cX7_copyApart 3 none C_X7_copyApart_2 := acert (tab := D_X7_copyApart) (fld := fld_7) (put := put_7) (cst := cst_7) (cstl := cstl_7) (cal := [(32, 1, 3, C_X10_copy_21), (32, 1, 3, C_X10_copy_22)]) (rk := 0) (cuts := [(24, ([(0, 0, false), (1, 1, false), (2, 500, false)], [], [(0, (2, 49, 0)), (1, (2, 12, 0)), (500, (0, 0, 6)), (501, (2, 16, 0)), (502, (2, 17, 0)), (503, (2, 53, 0)), (504, (2, 54, 0))], [(12, 4, 501), (12, 5, 502), (49, 4, 503), (49, 5, 504)], [], 1000), 7, [(1, 500)])]) (fuel := 4000) (by decide) (Or.inl ⟨rfl, rfl⟩) fld_7_ok put_7_ok cst_7_ok cstl_7_ok (List.forall_mem_cons.mpr ⟨cok_sn k_7_32 (ac_X10_copy_21 l G) rfl, List.forall_mem_cons.mpr ⟨cok_sn k_7_32 (ac_X10_copy_22 l G) rfl, fun _ h => absurd h List.not_mem_nil⟩⟩) D_X7_copyApart_ok (by decide +kernel)
abbrev C_X10_copy_23 : CE := ([(2, 23, 0), (2, 56, 0)], [], [], [(none, [], [], [])], [(56, 999)], 0, 0)
theorem ac_X10_copy_23 (l : Launch) (G : KG) : ACt l G TX yX10_copy cX10_copy 3 none C_X10_copy_23 := acert (tab := D_X10_copy) (fld := fld_10) (put := put_10) (cst := cst_10) (cstl := cstl_10) (cal := []) (rk := 0) (cuts := [(2, ([(0, 0, false), (1, 1, false), (2, 500, false)], [], [(0, (2, 23, 0)), (1, (2, 56, 0)), (500, (0, 0, 12))], [], [], 1000), 13, [(1, 500)])]) (fuel := 4000) (by decide) (Or.inl ⟨rfl, rfl⟩) fld_10_ok put_10_ok cst_10_ok cstl_10_ok (fun _ h => absurd h List.not_mem_nil) D_X10_copy_ok (by decide +kernel)
abbrev C_X10_copy_24 : CE := ([(2, 25, 0), (2, 58, 0)], [], [], [(none, [], [], [])], [(58, 999)], 0, 0)
theorem ac_X10_copy_24 (l : Launch) (G : KG) : ACt l G TX yX10_copy cX10_copy 3 none C_X10_copy_24 := acert (tab := D_X10_copy) (fld := fld_10) (put := put_10) (cst := cst_10) (cstl := cstl_10) (cal := []) (rk := 0) (cuts := [(2, ([(0, 0, false), (1, 1, false), (2, 500, false)], [], [(0, (2, 25, 0)), (1, (2, 58, 0)), (500, (0, 0, 12))], [], [], 1000), 13, [(1, 500)])]) (fuel := 4000) (by decide) (Or.inl ⟨rfl, rfl⟩) fld_10_ok put_10_ok cst_10_ok cstl_10_ok (fun _ h => absurd h List.not_mem_nil) D_X10_copy_ok (by decide +kernel)
abbrev C_X10_copy_25 : CE := ([(2, 26, 0), (2, 59, 0)], [], [], [(none, [], [], [])], [(59, 999)], 0, 0)
theorem ac_X10_copy_25 (l : Launch) (G : KG) : ACt l G TX yX10_copy cX10_copy 3 none C_X10_copy_25 := acert (tab := D_X10_copy) (fld := fld_10) (put := put_10) (cst := cst_10) (cstl := cstl_10) (cal := []) (rk := 0) (cuts := [(2, ([(0, 0, false), (1, 1, false), (2, 500, false)], [], [(0, (2, 26, 0)), (1, (2, 59, 0)), (500, (0, 0, 12))], [], [], 1000), 13, [(1, 500)])]) (fuel := 4000) (by decide) (Or.inl ⟨rfl, rfl⟩) fld_10_ok put_10_ok cst_10_ok cstl_10_ok (fun _ h => absurd h List.not_mem_nil) D_X10_copy_ok (by decide +kernel)
abbrev C_X10_copy_26 : CE := ([(2, 27, 0), (2, 60, 0)], [], [], [(none, [], [], [])], [(60, 999)], 0, 0)
theorem ac_X10_copy_26 (l : Launch) (G : KG) : ACt l G TX yX10_copy cX10_copy 3 none C_X10_copy_26 := acert (tab := D_X10_copy) (fld := fld_10) (put := put_10) (cst := cst_10) (cstl := cstl_10) (cal := []) (rk := 0) (cuts := [(2, ([(0, 0, false), (1, 1, false), (2, 500, false)], [], [(0, (2, 27, 0)), (1, (2, 60, 0)), (500, (0, 0, 12))], [], [], 1000), 13, [(1, 500)])]) (fuel := 4000) (by decide) (Or.inl ⟨rfl, rfl⟩) fld_10_ok put_10_ok cst_10_ok cstl_10_ok (fun _ h => absurd h List.not_mem_nil) D_X10_copy_ok (by decide +kernel)
abbrev C_X10_copy_27 : CE := ([(2, 28, 0), (2, 61, 0)], [], [], [(none, [], [], [])], [(61, 999)], 0, 0)
theorem ac_X10_copy_27 (l : Launch) (G : KG) : ACt l G TX yX10_copy cX10_copy 3 none C_X10_copy_27 := acert (tab := D_X10_copy) (fld := fld_10) (put := put_10) (cst := cst_10) (cstl := cstl_10) (cal := []) (rk := 0) (cuts := [(2, ([(0, 0, false), (1, 1, false), (2, 500, false)], [], [(0, (2, 28, 0)), (1, (2, 61, 0)), (500, (0, 0, 48))], [], [], 1000), 49, [(1, 500)])]) (fuel := 4000) (by decide) (Or.inl ⟨rfl, rfl⟩) fld_10_ok put_10_ok cst_10_ok cstl_10_ok (fun _ h => absurd h List.not_mem_nil) D_X10_copy_ok (by decide +kernel)
abbrev C_X9_copyTrials_2 : CE := ([(2, 55, 0), (2, 22, 0)], [], [], [(none, [], [], [])], [(55, 0), (56, 999), (57, 999), (58, 999), (59, 999), (60, 999), (61, 999)], 1, 22)
theorem ac_X9_copyTrials_2 (l : Launch) (G : KG) : ACt l G TX yX9_copyTrials cX9_copyTrials 3 none C_X9_copyTrials_2 := acert (tab := D_X9_copyTrials) (fld := fld_9) (put := put_9) (cst := cst_9) (cstl := cstl_9) (cal := [(66, 1, 3, C_X10_copy_23), (66, 1, 3, C_X10_copy_24), (66, 1, 3, C_X10_copy_25), (66, 1, 3, C_X10_copy_26), (66, 1, 3, C_X10_copy_27)]) (rk := 0) (cuts := [(65, ([(0, 0, false), (1, 1, false), (2, 500, false)], [], [(0, (2, 55, 0)), (1, (2, 22, 0)), (500, (0, 0, 12)), (501, (0, 0, 12)), (502, (2, 23, 0)), (503, (2, 25, 0)), (504, (2, 26, 0)), (505, (2, 27, 0)), (506, (2, 28, 0)), (507, (2, 56, 0)), (508, (2, 58, 0)), (509, (2, 59, 0)), (510, (2, 60, 0)), (511, (2, 61, 0))], [(22, 0, 501), (22, 1, 502), (22, 3, 503), (22, 4, 504), (22, 5, 505), (22, 6, 506), (55, 0, 501), (55, 1, 507), (55, 3, 508), (55, 4, 509), (55, 5, 510), (55, 6, 511)], [], 1000), 13, [(1, 500)])]) (fuel := 4000) (by decide) (Or.inl ⟨rfl, rfl⟩) fld_9_ok put_9_ok cst_9_ok cstl_9_ok (List.forall_mem_cons.mpr ⟨cok_sn k_9_66 (ac_X10_copy_23 l G) rfl, List.forall_mem_cons.mpr ⟨cok_sn k_9_66 (ac_X10_copy_24 l G) rfl, List.forall_mem_cons.mpr ⟨cok_sn k_9_66 (ac_X10_copy_25 l G) rfl, List.forall_mem_cons.mpr ⟨cok_sn k_9_66 (ac_X10_copy_26 l G) rfl, List.forall_mem_cons.mpr ⟨cok_sn k_9_66 (ac_X10_copy_27 l G) rfl, fun _ h => absurd h List.not_mem_nil⟩⟩⟩⟩⟩) D_X9_copyTrials_ok (by decide +kernel)
end
section
abbrev C_X2_store_2 : CE := ([(2, 46, 0), (2, 5, 0), (2, 12, 0), (2, 22, 0), (2, 105, 0)], [], [], [(none, [], [(46, 0, (0, 1, 1))], [])], [(46, 0), (46, 5), (46, 6), (47, 999), (48, 999), (52, 999), (53, 999), (54, 999), (55, 0), (56, 999), (57, 999), (58, 999), (59, 999), (60, 999), (61, 999)], 2, 44)
theorem ac_X2_store_2 (l : Launch) (G : KG) : ACt l G TX yX2_store cX2_store 5 none C_X2_store_2 := acert (tab := D_X2_store) (fld := fld_2) (put := put_2) (cst := cst_2) (cstl := cstl_2) (cal := [(39, 1, 3, C_X10_copy_19), (39, 1, 3, C_X10_copy_20), (43, 0, 3, C_X7_copyApart_2), (47, 0, 3, C_X9_copyTrials_2)]) (rk := 0) (cuts := []) (fuel := 4000) (by decide) (Or.inl ⟨rfl, rfl⟩) fld_2_ok put_2_ok cst_2_ok cstl_2_ok (List.forall_mem_cons.mpr ⟨cok_sn k_2_39 (ac_X10_copy_19 l G) rfl, List.forall_mem_cons.mpr ⟨cok_sn k_2_39 (ac_X10_copy_20 l G) rfl, List.forall_mem_cons.mpr ⟨cok_v k_2_43 (ac_X7_copyApart_2 l G) rfl rfl rfl rfl rfl rfl, List.forall_mem_cons.mpr ⟨cok_v k_2_47 (ac_X9_copyTrials_2 l G) rfl rfl rfl rfl rfl rfl, fun _ h => absurd h List.not_mem_nil⟩⟩⟩⟩) D_X2_store_ok (by decide +kernel)
def D_X10_keep : DT := [(0, .iload_n 1, 1), (1, .ifCond .lt 17, 3), (4, .iload_n 1, 1), (5, .iconst 3, 1), (6, .if_icmp .ge 12, 3), (9, .aload_n 0, 1), (10, .getfield 67, 3), (13, .iload_n 1, 1), (14, .aaload, 1), (15, .ifnonnull 5, 3), (18, .iconst 0, 1), (19, .ireturn, 1), (20, .aload_n 0, 1), (21, .getfield 67, 3), (24, .iload_n 1, 1), (25, .aaload, 1), (26, .aload_n 0, 1), (27, .getfield 26, 3), (30, .aload_n 0, 1), (31, .getfield 33, 3), (34, .aload_n 0, 1), (35, .getfield 47, 3), (38, .aload_n 0, 1), (39, .getfield 78, 3), (42, .invokevirtual 481, 3), (45, .iconst 1, 1), (46, .ireturn, 1)]
theorem D_X10_keep_ok : dtOK cX10_keep D_X10_keep = true := by decide +kernel
abbrev C_X10_keep_0 : CE := ([(2, 0, 0), (0, -2147483648, 2147483647)], [], [], [(some (0, 0, 0), [], [], []), (some (0, 1, 1), [(1, (0, 0, 2))], [], [])], [(46, 0), (46, 5), (46, 6), (47, 999), (48, 999), (52, 999), (53, 999), (54, 999), (55, 0), (56, 999), (57, 999), (58, 999), (59, 999), (60, 999), (61, 999), (65, 0), (65, 5), (65, 6), (66, 999), (67, 999), (71, 999), (72, 999), (73, 999), (74, 0), (75, 999), (76, 999), (77, 999), (78, 999), (79, 999), (80, 999), (84, 0), (84, 5), (84, 6), (85, 999), (86, 999), (90, 999), (91, 999), (92, 999), (93, 0), (94, 999), (95, 999), (96, 999), (97, 999), (98, 999), (99, 999)], 3, 68)
theorem ac_X10_keep_0 (l : Launch) (G : KG) : ACt l G TX yX10_keep cX10_keep 2 (some .boolean) C_X10_keep_0 := acert (tab := D_X10_keep) (fld := fld_10) (put := put_10) (cst := cst_10) (cstl := cstl_10) (cal := [(481, 0, 5, C_X2_store_0), (481, 0, 5, C_X2_store_1), (481, 0, 5, C_X2_store_2)]) (rk := 3) (cuts := []) (fuel := 4000) (by decide) (Or.inr (Or.inr (Or.inr ⟨rfl, rfl⟩))) fld_10_ok put_10_ok cst_10_ok cstl_10_ok (List.forall_mem_cons.mpr ⟨cok_v k_10_481 (ac_X2_store_0 l G) rfl rfl rfl rfl rfl rfl, List.forall_mem_cons.mpr ⟨cok_v k_10_481 (ac_X2_store_1 l G) rfl rfl rfl rfl rfl rfl, List.forall_mem_cons.mpr ⟨cok_v k_10_481 (ac_X2_store_2 l G) rfl rfl rfl rfl rfl rfl, fun _ h => absurd h List.not_mem_nil⟩⟩⟩) D_X10_keep_ok (by decide +kernel)
abbrev C_X10_copy_28 : CE := ([(2, 85, 0), (2, 10, 0)], [], [], [(none, [], [], [])], [(10, 999)], 0, 0)
theorem ac_X10_copy_28 (l : Launch) (G : KG) : ACt l G TX yX10_copy cX10_copy 3 none C_X10_copy_28 := acert (tab := D_X10_copy) (fld := fld_10) (put := put_10) (cst := cst_10) (cstl := cstl_10) (cal := []) (rk := 0) (cuts := [(2, ([(0, 0, false), (1, 1, false), (2, 500, false)], [], [(0, (2, 85, 0)), (1, (2, 10, 0)), (500, (0, 0, 16))], [], [], 1000), 17, [(1, 500)])]) (fuel := 4000) (by decide) (Or.inl ⟨rfl, rfl⟩) fld_10_ok put_10_ok cst_10_ok cstl_10_ok (fun _ h => absurd h List.not_mem_nil) D_X10_copy_ok (by decide +kernel)
abbrev C_X10_copy_29 : CE := ([(2, 86, 0), (2, 105, 0)], [], [], [(none, [], [], [])], [(105, 999)], 0, 0)
theorem ac_X10_copy_29 (l : Launch) (G : KG) : ACt l G TX yX10_copy cX10_copy 3 none C_X10_copy_29 := acert (tab := D_X10_copy) (fld := fld_10) (put := put_10) (cst := cst_10) (cstl := cstl_10) (cal := []) (rk := 0) (cuts := [(2, ([(0, 0, false), (1, 1, false), (2, 500, false)], [], [(0, (2, 86, 0)), (1, (2, 105, 0)), (500, (0, 0, 8))], [], [], 1000), 9, [(1, 500)])]) (fuel := 4000) (by decide) (Or.inl ⟨rfl, rfl⟩) fld_10_ok put_10_ok cst_10_ok cstl_10_ok (fun _ h => absurd h List.not_mem_nil) D_X10_copy_ok (by decide +kernel)
abbrev C_X10_copy_30 : CE := ([(2, 91, 0), (2, 16, 0)], [], [], [(none, [], [], [])], [(16, 999)], 0, 0)
theorem ac_X10_copy_30 (l : Launch) (G : KG) : ACt l G TX yX10_copy cX10_copy 3 none C_X10_copy_30 := acert (tab := D_X10_copy) (fld := fld_10) (put := put_10) (cst := cst_10) (cstl := cstl_10) (cal := []) (rk := 0) (cuts := [(2, ([(0, 0, false), (1, 1, false), (2, 500, false)], [], [(0, (2, 91, 0)), (1, (2, 16, 0)), (500, (0, 0, 6))], [], [], 1000), 7, [(1, 500)])]) (fuel := 4000) (by decide) (Or.inl ⟨rfl, rfl⟩) fld_10_ok put_10_ok cst_10_ok cstl_10_ok (fun _ h => absurd h List.not_mem_nil) D_X10_copy_ok (by decide +kernel)
abbrev C_X10_copy_31 : CE := ([(2, 92, 0), (2, 17, 0)], [], [], [(none, [], [], [])], [(17, 999)], 0, 0)
theorem ac_X10_copy_31 (l : Launch) (G : KG) : ACt l G TX yX10_copy cX10_copy 3 none C_X10_copy_31 := acert (tab := D_X10_copy) (fld := fld_10) (put := put_10) (cst := cst_10) (cstl := cstl_10) (cal := []) (rk := 0) (cuts := [(2, ([(0, 0, false), (1, 1, false), (2, 500, false)], [], [(0, (2, 92, 0)), (1, (2, 17, 0)), (500, (0, 0, 6))], [], [], 1000), 7, [(1, 500)])]) (fuel := 4000) (by decide) (Or.inl ⟨rfl, rfl⟩) fld_10_ok put_10_ok cst_10_ok cstl_10_ok (fun _ h => absurd h List.not_mem_nil) D_X10_copy_ok (by decide +kernel)
abbrev C_X7_copyApart_3 : CE := ([(2, 12, 0), (2, 87, 0)], [], [], [(none, [], [], [])], [(15, 999), (16, 999), (17, 999)], 1, 22)
theorem ac_X7_copyApart_3 (l : Launch) (G : KG) : ACt l G TX yX7_copyApart cX7_copyApart 3 none C_X7_copyApart_3 := acert (tab := D_X7_copyApart) (fld := fld_7) (put := put_7) (cst := cst_7) (cstl := cstl_7) (cal := [(32, 1, 3, C_X10_copy_30), (32, 1, 3, C_X10_copy_31)]) (rk := 0) (cuts := [(24, ([(0, 0, false), (1, 1, false), (2, 500, false)], [], [(0, (2, 12, 0)), (1, (2, 87, 0)), (500, (0, 0, 6)), (501, (2, 16, 0)), (502, (2, 17, 0)), (503, (2, 91, 0)), (504, (2, 92, 0))], [(12, 4, 501), (12, 5, 502), (87, 4, 503), (87, 5, 504)], [], 1000), 7, [(1, 500)])]) (fuel := 4000) (by decide) (Or.inl ⟨rfl, rfl⟩) fld_7_ok put_7_ok cst_7_ok cstl_7_ok (List.forall_mem_cons.mpr ⟨cok_sn k_7_32 (ac_X10_copy_30 l G) rfl, List.forall_mem_cons.mpr ⟨cok_sn k_7_32 (ac_X10_copy_31 l G) rfl, fun _ h => absurd h List.not_mem_nil⟩⟩) D_X7_copyApart_ok (by decide +kernel)
abbrev C_X10_copy_32 : CE := ([(2, 94, 0), (2, 23, 0)], [], [], [(none, [], [], [])], [(23, 999)], 0, 0)
theorem ac_X10_copy_32 (l : Launch) (G : KG) : ACt l G TX yX10_copy cX10_copy 3 none C_X10_copy_32 := acert (tab := D_X10_copy) (fld := fld_10) (put := put_10) (cst := cst_10) (cstl := cstl_10) (cal := []) (rk := 0) (cuts := [(2, ([(0, 0, false), (1, 1, false), (2, 500, false)], [], [(0, (2, 94, 0)), (1, (2, 23, 0)), (500, (0, 0, 12))], [], [], 1000), 13, [(1, 500)])]) (fuel := 4000) (by decide) (Or.inl ⟨rfl, rfl⟩) fld_10_ok put_10_ok cst_10_ok cstl_10_ok (fun _ h => absurd h List.not_mem_nil) D_X10_copy_ok (by decide +kernel)
abbrev C_X10_copy_33 : CE := ([(2, 96, 0), (2, 25, 0)], [], [], [(none, [], [], [])], [(25, 999)], 0, 0)
theorem ac_X10_copy_33 (l : Launch) (G : KG) : ACt l G TX yX10_copy cX10_copy 3 none C_X10_copy_33 := acert (tab := D_X10_copy) (fld := fld_10) (put := put_10) (cst := cst_10) (cstl := cstl_10) (cal := []) (rk := 0) (cuts := [(2, ([(0, 0, false), (1, 1, false), (2, 500, false)], [], [(0, (2, 96, 0)), (1, (2, 25, 0)), (500, (0, 0, 12))], [], [], 1000), 13, [(1, 500)])]) (fuel := 4000) (by decide) (Or.inl ⟨rfl, rfl⟩) fld_10_ok put_10_ok cst_10_ok cstl_10_ok (fun _ h => absurd h List.not_mem_nil) D_X10_copy_ok (by decide +kernel)
abbrev C_X10_copy_34 : CE := ([(2, 97, 0), (2, 26, 0)], [], [], [(none, [], [], [])], [(26, 999)], 0, 0)
theorem ac_X10_copy_34 (l : Launch) (G : KG) : ACt l G TX yX10_copy cX10_copy 3 none C_X10_copy_34 := acert (tab := D_X10_copy) (fld := fld_10) (put := put_10) (cst := cst_10) (cstl := cstl_10) (cal := []) (rk := 0) (cuts := [(2, ([(0, 0, false), (1, 1, false), (2, 500, false)], [], [(0, (2, 97, 0)), (1, (2, 26, 0)), (500, (0, 0, 12))], [], [], 1000), 13, [(1, 500)])]) (fuel := 4000) (by decide) (Or.inl ⟨rfl, rfl⟩) fld_10_ok put_10_ok cst_10_ok cstl_10_ok (fun _ h => absurd h List.not_mem_nil) D_X10_copy_ok (by decide +kernel)
abbrev C_X10_copy_35 : CE := ([(2, 98, 0), (2, 27, 0)], [], [], [(none, [], [], [])], [(27, 999)], 0, 0)
theorem ac_X10_copy_35 (l : Launch) (G : KG) : ACt l G TX yX10_copy cX10_copy 3 none C_X10_copy_35 := acert (tab := D_X10_copy) (fld := fld_10) (put := put_10) (cst := cst_10) (cstl := cstl_10) (cal := []) (rk := 0) (cuts := [(2, ([(0, 0, false), (1, 1, false), (2, 500, false)], [], [(0, (2, 98, 0)), (1, (2, 27, 0)), (500, (0, 0, 12))], [], [], 1000), 13, [(1, 500)])]) (fuel := 4000) (by decide) (Or.inl ⟨rfl, rfl⟩) fld_10_ok put_10_ok cst_10_ok cstl_10_ok (fun _ h => absurd h List.not_mem_nil) D_X10_copy_ok (by decide +kernel)
abbrev C_X10_copy_36 : CE := ([(2, 99, 0), (2, 28, 0)], [], [], [(none, [], [], [])], [(28, 999)], 0, 0)
theorem ac_X10_copy_36 (l : Launch) (G : KG) : ACt l G TX yX10_copy cX10_copy 3 none C_X10_copy_36 := acert (tab := D_X10_copy) (fld := fld_10) (put := put_10) (cst := cst_10) (cstl := cstl_10) (cal := []) (rk := 0) (cuts := [(2, ([(0, 0, false), (1, 1, false), (2, 500, false)], [], [(0, (2, 99, 0)), (1, (2, 28, 0)), (500, (0, 0, 48))], [], [], 1000), 49, [(1, 500)])]) (fuel := 4000) (by decide) (Or.inl ⟨rfl, rfl⟩) fld_10_ok put_10_ok cst_10_ok cstl_10_ok (fun _ h => absurd h List.not_mem_nil) D_X10_copy_ok (by decide +kernel)
abbrev C_X9_copyTrials_3 : CE := ([(2, 22, 0), (2, 93, 0)], [], [], [(none, [], [], [])], [(22, 0), (23, 999), (24, 999), (25, 999), (26, 999), (27, 999), (28, 999)], 1, 22)
theorem ac_X9_copyTrials_3 (l : Launch) (G : KG) : ACt l G TX yX9_copyTrials cX9_copyTrials 3 none C_X9_copyTrials_3 := acert (tab := D_X9_copyTrials) (fld := fld_9) (put := put_9) (cst := cst_9) (cstl := cstl_9) (cal := [(66, 1, 3, C_X10_copy_32), (66, 1, 3, C_X10_copy_33), (66, 1, 3, C_X10_copy_34), (66, 1, 3, C_X10_copy_35), (66, 1, 3, C_X10_copy_36)]) (rk := 0) (cuts := [(65, ([(0, 0, false), (1, 1, false), (2, 500, false)], [], [(0, (2, 22, 0)), (1, (2, 93, 0)), (500, (0, 0, 12)), (501, (0, 0, 12)), (502, (2, 23, 0)), (503, (2, 25, 0)), (504, (2, 26, 0)), (505, (2, 27, 0)), (506, (2, 28, 0)), (507, (2, 94, 0)), (508, (2, 96, 0)), (509, (2, 97, 0)), (510, (2, 98, 0)), (511, (2, 99, 0))], [(22, 0, 501), (22, 1, 502), (22, 3, 503), (22, 4, 504), (22, 5, 505), (22, 6, 506), (93, 0, 501), (93, 1, 507), (93, 3, 508), (93, 4, 509), (93, 5, 510), (93, 6, 511)], [], 1000), 13, [(1, 500)])]) (fuel := 4000) (by decide) (Or.inl ⟨rfl, rfl⟩) fld_9_ok put_9_ok cst_9_ok cstl_9_ok (List.forall_mem_cons.mpr ⟨cok_sn k_9_66 (ac_X10_copy_32 l G) rfl, List.forall_mem_cons.mpr ⟨cok_sn k_9_66 (ac_X10_copy_33 l G) rfl, List.forall_mem_cons.mpr ⟨cok_sn k_9_66 (ac_X10_copy_34 l G) rfl, List.forall_mem_cons.mpr ⟨cok_sn k_9_66 (ac_X10_copy_35 l G) rfl, List.forall_mem_cons.mpr ⟨cok_sn k_9_66 (ac_X10_copy_36 l G) rfl, fun _ h => absurd h List.not_mem_nil⟩⟩⟩⟩⟩) D_X9_copyTrials_ok (by decide +kernel)
def D_X2_bringBack : DT := [(0, .aload_n 0, 1), (1, .getfield 9, 3), (4, .aload_n 1, 1), (5, .getfield 36, 3), (8, .invokestatic 39, 3), (11, .aload_n 0, 1), (12, .getfield 15, 3), (15, .aload 4, 2), (17, .invokestatic 39, 3), (20, .aload_n 2, 1), (21, .aload_n 0, 1), (22, .getfield 21, 3), (25, .invokevirtual 43, 3), (28, .aload_n 3, 1), (29, .aload_n 0, 1), (30, .getfield 28, 3), (33, .invokevirtual 47, 3), (36, .aload_n 1, 1), (37, .aload_n 0, 1), (38, .getfield 55, 3), (41, .putfield 51, 3), (44, .aload_n 1, 1), (45, .aload_n 0, 1), (46, .getfield 59, 3), (49, .putfield 56, 3), (52, .return_, 1)]
theorem D_X2_bringBack_ok : dtOK cX2_bringBack D_X2_bringBack = true := by decide +kernel
abbrev C_X2_bringBack_0 : CE := ([(2, 84, 0), (2, 5, 0), (2, 12, 0), (2, 22, 0), (2, 105, 0)], [], [], [(none, [], [], [])], [(5, 7), (5, 8), (10, 999), (15, 999), (16, 999), (17, 999), (22, 0), (23, 999), (24, 999), (25, 999), (26, 999), (27, 999), (28, 999), (105, 999)], 2, 44)
theorem ac_X2_bringBack_0 (l : Launch) (G : KG) : ACt l G TX yX2_bringBack cX2_bringBack 5 none C_X2_bringBack_0 := acert (tab := D_X2_bringBack) (fld := fld_2) (put := put_2) (cst := cst_2) (cstl := cstl_2) (cal := [(39, 1, 3, C_X10_copy_28), (39, 1, 3, C_X10_copy_29), (43, 0, 3, C_X7_copyApart_3), (47, 0, 3, C_X9_copyTrials_3)]) (rk := 0) (cuts := []) (fuel := 4000) (by decide) (Or.inl ⟨rfl, rfl⟩) fld_2_ok put_2_ok cst_2_ok cstl_2_ok (List.forall_mem_cons.mpr ⟨cok_sn k_2_39 (ac_X10_copy_28 l G) rfl, List.forall_mem_cons.mpr ⟨cok_sn k_2_39 (ac_X10_copy_29 l G) rfl, List.forall_mem_cons.mpr ⟨cok_v k_2_43 (ac_X7_copyApart_3 l G) rfl rfl rfl rfl rfl rfl, List.forall_mem_cons.mpr ⟨cok_v k_2_47 (ac_X9_copyTrials_3 l G) rfl rfl rfl rfl rfl rfl, fun _ h => absurd h List.not_mem_nil⟩⟩⟩⟩) D_X2_bringBack_ok (by decide +kernel)
abbrev C_X10_copy_37 : CE := ([(2, 66, 0), (2, 10, 0)], [], [], [(none, [], [], [])], [(10, 999)], 0, 0)
theorem ac_X10_copy_37 (l : Launch) (G : KG) : ACt l G TX yX10_copy cX10_copy 3 none C_X10_copy_37 := acert (tab := D_X10_copy) (fld := fld_10) (put := put_10) (cst := cst_10) (cstl := cstl_10) (cal := []) (rk := 0) (cuts := [(2, ([(0, 0, false), (1, 1, false), (2, 500, false)], [], [(0, (2, 66, 0)), (1, (2, 10, 0)), (500, (0, 0, 16))], [], [], 1000), 17, [(1, 500)])]) (fuel := 4000) (by decide) (Or.inl ⟨rfl, rfl⟩) fld_10_ok put_10_ok cst_10_ok cstl_10_ok (fun _ h => absurd h List.not_mem_nil) D_X10_copy_ok (by decide +kernel)
abbrev C_X10_copy_38 : CE := ([(2, 67, 0), (2, 105, 0)], [], [], [(none, [], [], [])], [(105, 999)], 0, 0)
theorem ac_X10_copy_38 (l : Launch) (G : KG) : ACt l G TX yX10_copy cX10_copy 3 none C_X10_copy_38 := acert (tab := D_X10_copy) (fld := fld_10) (put := put_10) (cst := cst_10) (cstl := cstl_10) (cal := []) (rk := 0) (cuts := [(2, ([(0, 0, false), (1, 1, false), (2, 500, false)], [], [(0, (2, 67, 0)), (1, (2, 105, 0)), (500, (0, 0, 8))], [], [], 1000), 9, [(1, 500)])]) (fuel := 4000) (by decide) (Or.inl ⟨rfl, rfl⟩) fld_10_ok put_10_ok cst_10_ok cstl_10_ok (fun _ h => absurd h List.not_mem_nil) D_X10_copy_ok (by decide +kernel)
abbrev C_X10_copy_39 : CE := ([(2, 72, 0), (2, 16, 0)], [], [], [(none, [], [], [])], [(16, 999)], 0, 0)
theorem ac_X10_copy_39 (l : Launch) (G : KG) : ACt l G TX yX10_copy cX10_copy 3 none C_X10_copy_39 := acert (tab := D_X10_copy) (fld := fld_10) (put := put_10) (cst := cst_10) (cstl := cstl_10) (cal := []) (rk := 0) (cuts := [(2, ([(0, 0, false), (1, 1, false), (2, 500, false)], [], [(0, (2, 72, 0)), (1, (2, 16, 0)), (500, (0, 0, 6))], [], [], 1000), 7, [(1, 500)])]) (fuel := 4000) (by decide) (Or.inl ⟨rfl, rfl⟩) fld_10_ok put_10_ok cst_10_ok cstl_10_ok (fun _ h => absurd h List.not_mem_nil) D_X10_copy_ok (by decide +kernel)
abbrev C_X10_copy_40 : CE := ([(2, 73, 0), (2, 17, 0)], [], [], [(none, [], [], [])], [(17, 999)], 0, 0)
theorem ac_X10_copy_40 (l : Launch) (G : KG) : ACt l G TX yX10_copy cX10_copy 3 none C_X10_copy_40 := acert (tab := D_X10_copy) (fld := fld_10) (put := put_10) (cst := cst_10) (cstl := cstl_10) (cal := []) (rk := 0) (cuts := [(2, ([(0, 0, false), (1, 1, false), (2, 500, false)], [], [(0, (2, 73, 0)), (1, (2, 17, 0)), (500, (0, 0, 6))], [], [], 1000), 7, [(1, 500)])]) (fuel := 4000) (by decide) (Or.inl ⟨rfl, rfl⟩) fld_10_ok put_10_ok cst_10_ok cstl_10_ok (fun _ h => absurd h List.not_mem_nil) D_X10_copy_ok (by decide +kernel)
abbrev C_X7_copyApart_4 : CE := ([(2, 12, 0), (2, 68, 0)], [], [], [(none, [], [], [])], [(15, 999), (16, 999), (17, 999)], 1, 22)
theorem ac_X7_copyApart_4 (l : Launch) (G : KG) : ACt l G TX yX7_copyApart cX7_copyApart 3 none C_X7_copyApart_4 := acert (tab := D_X7_copyApart) (fld := fld_7) (put := put_7) (cst := cst_7) (cstl := cstl_7) (cal := [(32, 1, 3, C_X10_copy_39), (32, 1, 3, C_X10_copy_40)]) (rk := 0) (cuts := [(24, ([(0, 0, false), (1, 1, false), (2, 500, false)], [], [(0, (2, 12, 0)), (1, (2, 68, 0)), (500, (0, 0, 6)), (501, (2, 16, 0)), (502, (2, 17, 0)), (503, (2, 72, 0)), (504, (2, 73, 0))], [(12, 4, 501), (12, 5, 502), (68, 4, 503), (68, 5, 504)], [], 1000), 7, [(1, 500)])]) (fuel := 4000) (by decide) (Or.inl ⟨rfl, rfl⟩) fld_7_ok put_7_ok cst_7_ok cstl_7_ok (List.forall_mem_cons.mpr ⟨cok_sn k_7_32 (ac_X10_copy_39 l G) rfl, List.forall_mem_cons.mpr ⟨cok_sn k_7_32 (ac_X10_copy_40 l G) rfl, fun _ h => absurd h List.not_mem_nil⟩⟩) D_X7_copyApart_ok (by decide +kernel)
abbrev C_X10_copy_41 : CE := ([(2, 75, 0), (2, 23, 0)], [], [], [(none, [], [], [])], [(23, 999)], 0, 0)
theorem ac_X10_copy_41 (l : Launch) (G : KG) : ACt l G TX yX10_copy cX10_copy 3 none C_X10_copy_41 := acert (tab := D_X10_copy) (fld := fld_10) (put := put_10) (cst := cst_10) (cstl := cstl_10) (cal := []) (rk := 0) (cuts := [(2, ([(0, 0, false), (1, 1, false), (2, 500, false)], [], [(0, (2, 75, 0)), (1, (2, 23, 0)), (500, (0, 0, 12))], [], [], 1000), 13, [(1, 500)])]) (fuel := 4000) (by decide) (Or.inl ⟨rfl, rfl⟩) fld_10_ok put_10_ok cst_10_ok cstl_10_ok (fun _ h => absurd h List.not_mem_nil) D_X10_copy_ok (by decide +kernel)
abbrev C_X10_copy_42 : CE := ([(2, 77, 0), (2, 25, 0)], [], [], [(none, [], [], [])], [(25, 999)], 0, 0)
theorem ac_X10_copy_42 (l : Launch) (G : KG) : ACt l G TX yX10_copy cX10_copy 3 none C_X10_copy_42 := acert (tab := D_X10_copy) (fld := fld_10) (put := put_10) (cst := cst_10) (cstl := cstl_10) (cal := []) (rk := 0) (cuts := [(2, ([(0, 0, false), (1, 1, false), (2, 500, false)], [], [(0, (2, 77, 0)), (1, (2, 25, 0)), (500, (0, 0, 12))], [], [], 1000), 13, [(1, 500)])]) (fuel := 4000) (by decide) (Or.inl ⟨rfl, rfl⟩) fld_10_ok put_10_ok cst_10_ok cstl_10_ok (fun _ h => absurd h List.not_mem_nil) D_X10_copy_ok (by decide +kernel)
abbrev C_X10_copy_43 : CE := ([(2, 78, 0), (2, 26, 0)], [], [], [(none, [], [], [])], [(26, 999)], 0, 0)
theorem ac_X10_copy_43 (l : Launch) (G : KG) : ACt l G TX yX10_copy cX10_copy 3 none C_X10_copy_43 := acert (tab := D_X10_copy) (fld := fld_10) (put := put_10) (cst := cst_10) (cstl := cstl_10) (cal := []) (rk := 0) (cuts := [(2, ([(0, 0, false), (1, 1, false), (2, 500, false)], [], [(0, (2, 78, 0)), (1, (2, 26, 0)), (500, (0, 0, 12))], [], [], 1000), 13, [(1, 500)])]) (fuel := 4000) (by decide) (Or.inl ⟨rfl, rfl⟩) fld_10_ok put_10_ok cst_10_ok cstl_10_ok (fun _ h => absurd h List.not_mem_nil) D_X10_copy_ok (by decide +kernel)
abbrev C_X10_copy_44 : CE := ([(2, 79, 0), (2, 27, 0)], [], [], [(none, [], [], [])], [(27, 999)], 0, 0)
theorem ac_X10_copy_44 (l : Launch) (G : KG) : ACt l G TX yX10_copy cX10_copy 3 none C_X10_copy_44 := acert (tab := D_X10_copy) (fld := fld_10) (put := put_10) (cst := cst_10) (cstl := cstl_10) (cal := []) (rk := 0) (cuts := [(2, ([(0, 0, false), (1, 1, false), (2, 500, false)], [], [(0, (2, 79, 0)), (1, (2, 27, 0)), (500, (0, 0, 12))], [], [], 1000), 13, [(1, 500)])]) (fuel := 4000) (by decide) (Or.inl ⟨rfl, rfl⟩) fld_10_ok put_10_ok cst_10_ok cstl_10_ok (fun _ h => absurd h List.not_mem_nil) D_X10_copy_ok (by decide +kernel)
abbrev C_X10_copy_45 : CE := ([(2, 80, 0), (2, 28, 0)], [], [], [(none, [], [], [])], [(28, 999)], 0, 0)
theorem ac_X10_copy_45 (l : Launch) (G : KG) : ACt l G TX yX10_copy cX10_copy 3 none C_X10_copy_45 := acert (tab := D_X10_copy) (fld := fld_10) (put := put_10) (cst := cst_10) (cstl := cstl_10) (cal := []) (rk := 0) (cuts := [(2, ([(0, 0, false), (1, 1, false), (2, 500, false)], [], [(0, (2, 80, 0)), (1, (2, 28, 0)), (500, (0, 0, 48))], [], [], 1000), 49, [(1, 500)])]) (fuel := 4000) (by decide) (Or.inl ⟨rfl, rfl⟩) fld_10_ok put_10_ok cst_10_ok cstl_10_ok (fun _ h => absurd h List.not_mem_nil) D_X10_copy_ok (by decide +kernel)
abbrev C_X9_copyTrials_4 : CE := ([(2, 22, 0), (2, 74, 0)], [], [], [(none, [], [], [])], [(22, 0), (23, 999), (24, 999), (25, 999), (26, 999), (27, 999), (28, 999)], 1, 22)
theorem ac_X9_copyTrials_4 (l : Launch) (G : KG) : ACt l G TX yX9_copyTrials cX9_copyTrials 3 none C_X9_copyTrials_4 := acert (tab := D_X9_copyTrials) (fld := fld_9) (put := put_9) (cst := cst_9) (cstl := cstl_9) (cal := [(66, 1, 3, C_X10_copy_41), (66, 1, 3, C_X10_copy_42), (66, 1, 3, C_X10_copy_43), (66, 1, 3, C_X10_copy_44), (66, 1, 3, C_X10_copy_45)]) (rk := 0) (cuts := [(65, ([(0, 0, false), (1, 1, false), (2, 500, false)], [], [(0, (2, 22, 0)), (1, (2, 74, 0)), (500, (0, 0, 12)), (501, (0, 0, 12)), (502, (2, 23, 0)), (503, (2, 25, 0)), (504, (2, 26, 0)), (505, (2, 27, 0)), (506, (2, 28, 0)), (507, (2, 75, 0)), (508, (2, 77, 0)), (509, (2, 78, 0)), (510, (2, 79, 0)), (511, (2, 80, 0))], [(22, 0, 501), (22, 1, 502), (22, 3, 503), (22, 4, 504), (22, 5, 505), (22, 6, 506), (74, 0, 501), (74, 1, 507), (74, 3, 508), (74, 4, 509), (74, 5, 510), (74, 6, 511)], [], 1000), 13, [(1, 500)])]) (fuel := 4000) (by decide) (Or.inl ⟨rfl, rfl⟩) fld_9_ok put_9_ok cst_9_ok cstl_9_ok (List.forall_mem_cons.mpr ⟨cok_sn k_9_66 (ac_X10_copy_41 l G) rfl, List.forall_mem_cons.mpr ⟨cok_sn k_9_66 (ac_X10_copy_42 l G) rfl, List.forall_mem_cons.mpr ⟨cok_sn k_9_66 (ac_X10_copy_43 l G) rfl, List.forall_mem_cons.mpr ⟨cok_sn k_9_66 (ac_X10_copy_44 l G) rfl, List.forall_mem_cons.mpr ⟨cok_sn k_9_66 (ac_X10_copy_45 l G) rfl, fun _ h => absurd h List.not_mem_nil⟩⟩⟩⟩⟩) D_X9_copyTrials_ok (by decide +kernel)
abbrev C_X2_bringBack_1 : CE := ([(2, 65, 0), (2, 5, 0), (2, 12, 0), (2, 22, 0), (2, 105, 0)], [], [], [(none, [], [], [])], [(5, 7), (5, 8), (10, 999), (15, 999), (16, 999), (17, 999), (22, 0), (23, 999), (24, 999), (25, 999), (26, 999), (27, 999), (28, 999), (105, 999)], 2, 44)
theorem ac_X2_bringBack_1 (l : Launch) (G : KG) : ACt l G TX yX2_bringBack cX2_bringBack 5 none C_X2_bringBack_1 := acert (tab := D_X2_bringBack) (fld := fld_2) (put := put_2) (cst := cst_2) (cstl := cstl_2) (cal := [(39, 1, 3, C_X10_copy_37), (39, 1, 3, C_X10_copy_38), (43, 0, 3, C_X7_copyApart_4), (47, 0, 3, C_X9_copyTrials_4)]) (rk := 0) (cuts := []) (fuel := 4000) (by decide) (Or.inl ⟨rfl, rfl⟩) fld_2_ok put_2_ok cst_2_ok cstl_2_ok (List.forall_mem_cons.mpr ⟨cok_sn k_2_39 (ac_X10_copy_37 l G) rfl, List.forall_mem_cons.mpr ⟨cok_sn k_2_39 (ac_X10_copy_38 l G) rfl, List.forall_mem_cons.mpr ⟨cok_v k_2_43 (ac_X7_copyApart_4 l G) rfl rfl rfl rfl rfl rfl, List.forall_mem_cons.mpr ⟨cok_v k_2_47 (ac_X9_copyTrials_4 l G) rfl rfl rfl rfl rfl rfl, fun _ h => absurd h List.not_mem_nil⟩⟩⟩⟩) D_X2_bringBack_ok (by decide +kernel)
abbrev C_X10_copy_46 : CE := ([(2, 47, 0), (2, 10, 0)], [], [], [(none, [], [], [])], [(10, 999)], 0, 0)
theorem ac_X10_copy_46 (l : Launch) (G : KG) : ACt l G TX yX10_copy cX10_copy 3 none C_X10_copy_46 := acert (tab := D_X10_copy) (fld := fld_10) (put := put_10) (cst := cst_10) (cstl := cstl_10) (cal := []) (rk := 0) (cuts := [(2, ([(0, 0, false), (1, 1, false), (2, 500, false)], [], [(0, (2, 47, 0)), (1, (2, 10, 0)), (500, (0, 0, 16))], [], [], 1000), 17, [(1, 500)])]) (fuel := 4000) (by decide) (Or.inl ⟨rfl, rfl⟩) fld_10_ok put_10_ok cst_10_ok cstl_10_ok (fun _ h => absurd h List.not_mem_nil) D_X10_copy_ok (by decide +kernel)
abbrev C_X10_copy_47 : CE := ([(2, 48, 0), (2, 105, 0)], [], [], [(none, [], [], [])], [(105, 999)], 0, 0)
theorem ac_X10_copy_47 (l : Launch) (G : KG) : ACt l G TX yX10_copy cX10_copy 3 none C_X10_copy_47 := acert (tab := D_X10_copy) (fld := fld_10) (put := put_10) (cst := cst_10) (cstl := cstl_10) (cal := []) (rk := 0) (cuts := [(2, ([(0, 0, false), (1, 1, false), (2, 500, false)], [], [(0, (2, 48, 0)), (1, (2, 105, 0)), (500, (0, 0, 8))], [], [], 1000), 9, [(1, 500)])]) (fuel := 4000) (by decide) (Or.inl ⟨rfl, rfl⟩) fld_10_ok put_10_ok cst_10_ok cstl_10_ok (fun _ h => absurd h List.not_mem_nil) D_X10_copy_ok (by decide +kernel)
abbrev C_X10_copy_48 : CE := ([(2, 53, 0), (2, 16, 0)], [], [], [(none, [], [], [])], [(16, 999)], 0, 0)
theorem ac_X10_copy_48 (l : Launch) (G : KG) : ACt l G TX yX10_copy cX10_copy 3 none C_X10_copy_48 := acert (tab := D_X10_copy) (fld := fld_10) (put := put_10) (cst := cst_10) (cstl := cstl_10) (cal := []) (rk := 0) (cuts := [(2, ([(0, 0, false), (1, 1, false), (2, 500, false)], [], [(0, (2, 53, 0)), (1, (2, 16, 0)), (500, (0, 0, 6))], [], [], 1000), 7, [(1, 500)])]) (fuel := 4000) (by decide) (Or.inl ⟨rfl, rfl⟩) fld_10_ok put_10_ok cst_10_ok cstl_10_ok (fun _ h => absurd h List.not_mem_nil) D_X10_copy_ok (by decide +kernel)
abbrev C_X10_copy_49 : CE := ([(2, 54, 0), (2, 17, 0)], [], [], [(none, [], [], [])], [(17, 999)], 0, 0)
theorem ac_X10_copy_49 (l : Launch) (G : KG) : ACt l G TX yX10_copy cX10_copy 3 none C_X10_copy_49 := acert (tab := D_X10_copy) (fld := fld_10) (put := put_10) (cst := cst_10) (cstl := cstl_10) (cal := []) (rk := 0) (cuts := [(2, ([(0, 0, false), (1, 1, false), (2, 500, false)], [], [(0, (2, 54, 0)), (1, (2, 17, 0)), (500, (0, 0, 6))], [], [], 1000), 7, [(1, 500)])]) (fuel := 4000) (by decide) (Or.inl ⟨rfl, rfl⟩) fld_10_ok put_10_ok cst_10_ok cstl_10_ok (fun _ h => absurd h List.not_mem_nil) D_X10_copy_ok (by decide +kernel)
abbrev C_X7_copyApart_5 : CE := ([(2, 12, 0), (2, 49, 0)], [], [], [(none, [], [], [])], [(15, 999), (16, 999), (17, 999)], 1, 22)
theorem ac_X7_copyApart_5 (l : Launch) (G : KG) : ACt l G TX yX7_copyApart cX7_copyApart 3 none C_X7_copyApart_5 := acert (tab := D_X7_copyApart) (fld := fld_7) (put := put_7) (cst := cst_7) (cstl := cstl_7) (cal := [(32, 1, 3, C_X10_copy_48), (32, 1, 3, C_X10_copy_49)]) (rk := 0) (cuts := [(24, ([(0, 0, false), (1, 1, false), (2, 500, false)], [], [(0, (2, 12, 0)), (1, (2, 49, 0)), (500, (0, 0, 6)), (501, (2, 16, 0)), (502, (2, 17, 0)), (503, (2, 53, 0)), (504, (2, 54, 0))], [(12, 4, 501), (12, 5, 502), (49, 4, 503), (49, 5, 504)], [], 1000), 7, [(1, 500)])]) (fuel := 4000) (by decide) (Or.inl ⟨rfl, rfl⟩) fld_7_ok put_7_ok cst_7_ok cstl_7_ok (List.forall_mem_cons.mpr ⟨cok_sn k_7_32 (ac_X10_copy_48 l G) rfl, List.forall_mem_cons.mpr ⟨cok_sn k_7_32 (ac_X10_copy_49 l G) rfl, fun _ h => absurd h List.not_mem_nil⟩⟩) D_X7_copyApart_ok (by decide +kernel)
abbrev C_X10_copy_50 : CE := ([(2, 56, 0), (2, 23, 0)], [], [], [(none, [], [], [])], [(23, 999)], 0, 0)
theorem ac_X10_copy_50 (l : Launch) (G : KG) : ACt l G TX yX10_copy cX10_copy 3 none C_X10_copy_50 := acert (tab := D_X10_copy) (fld := fld_10) (put := put_10) (cst := cst_10) (cstl := cstl_10) (cal := []) (rk := 0) (cuts := [(2, ([(0, 0, false), (1, 1, false), (2, 500, false)], [], [(0, (2, 56, 0)), (1, (2, 23, 0)), (500, (0, 0, 12))], [], [], 1000), 13, [(1, 500)])]) (fuel := 4000) (by decide) (Or.inl ⟨rfl, rfl⟩) fld_10_ok put_10_ok cst_10_ok cstl_10_ok (fun _ h => absurd h List.not_mem_nil) D_X10_copy_ok (by decide +kernel)
abbrev C_X10_copy_51 : CE := ([(2, 58, 0), (2, 25, 0)], [], [], [(none, [], [], [])], [(25, 999)], 0, 0)
theorem ac_X10_copy_51 (l : Launch) (G : KG) : ACt l G TX yX10_copy cX10_copy 3 none C_X10_copy_51 := acert (tab := D_X10_copy) (fld := fld_10) (put := put_10) (cst := cst_10) (cstl := cstl_10) (cal := []) (rk := 0) (cuts := [(2, ([(0, 0, false), (1, 1, false), (2, 500, false)], [], [(0, (2, 58, 0)), (1, (2, 25, 0)), (500, (0, 0, 12))], [], [], 1000), 13, [(1, 500)])]) (fuel := 4000) (by decide) (Or.inl ⟨rfl, rfl⟩) fld_10_ok put_10_ok cst_10_ok cstl_10_ok (fun _ h => absurd h List.not_mem_nil) D_X10_copy_ok (by decide +kernel)
abbrev C_X10_copy_52 : CE := ([(2, 59, 0), (2, 26, 0)], [], [], [(none, [], [], [])], [(26, 999)], 0, 0)
theorem ac_X10_copy_52 (l : Launch) (G : KG) : ACt l G TX yX10_copy cX10_copy 3 none C_X10_copy_52 := acert (tab := D_X10_copy) (fld := fld_10) (put := put_10) (cst := cst_10) (cstl := cstl_10) (cal := []) (rk := 0) (cuts := [(2, ([(0, 0, false), (1, 1, false), (2, 500, false)], [], [(0, (2, 59, 0)), (1, (2, 26, 0)), (500, (0, 0, 12))], [], [], 1000), 13, [(1, 500)])]) (fuel := 4000) (by decide) (Or.inl ⟨rfl, rfl⟩) fld_10_ok put_10_ok cst_10_ok cstl_10_ok (fun _ h => absurd h List.not_mem_nil) D_X10_copy_ok (by decide +kernel)
abbrev C_X10_copy_53 : CE := ([(2, 60, 0), (2, 27, 0)], [], [], [(none, [], [], [])], [(27, 999)], 0, 0)
theorem ac_X10_copy_53 (l : Launch) (G : KG) : ACt l G TX yX10_copy cX10_copy 3 none C_X10_copy_53 := acert (tab := D_X10_copy) (fld := fld_10) (put := put_10) (cst := cst_10) (cstl := cstl_10) (cal := []) (rk := 0) (cuts := [(2, ([(0, 0, false), (1, 1, false), (2, 500, false)], [], [(0, (2, 60, 0)), (1, (2, 27, 0)), (500, (0, 0, 12))], [], [], 1000), 13, [(1, 500)])]) (fuel := 4000) (by decide) (Or.inl ⟨rfl, rfl⟩) fld_10_ok put_10_ok cst_10_ok cstl_10_ok (fun _ h => absurd h List.not_mem_nil) D_X10_copy_ok (by decide +kernel)
abbrev C_X10_copy_54 : CE := ([(2, 61, 0), (2, 28, 0)], [], [], [(none, [], [], [])], [(28, 999)], 0, 0)
theorem ac_X10_copy_54 (l : Launch) (G : KG) : ACt l G TX yX10_copy cX10_copy 3 none C_X10_copy_54 := acert (tab := D_X10_copy) (fld := fld_10) (put := put_10) (cst := cst_10) (cstl := cstl_10) (cal := []) (rk := 0) (cuts := [(2, ([(0, 0, false), (1, 1, false), (2, 500, false)], [], [(0, (2, 61, 0)), (1, (2, 28, 0)), (500, (0, 0, 48))], [], [], 1000), 49, [(1, 500)])]) (fuel := 4000) (by decide) (Or.inl ⟨rfl, rfl⟩) fld_10_ok put_10_ok cst_10_ok cstl_10_ok (fun _ h => absurd h List.not_mem_nil) D_X10_copy_ok (by decide +kernel)
abbrev C_X9_copyTrials_5 : CE := ([(2, 22, 0), (2, 55, 0)], [], [], [(none, [], [], [])], [(22, 0), (23, 999), (24, 999), (25, 999), (26, 999), (27, 999), (28, 999)], 1, 22)
theorem ac_X9_copyTrials_5 (l : Launch) (G : KG) : ACt l G TX yX9_copyTrials cX9_copyTrials 3 none C_X9_copyTrials_5 := acert (tab := D_X9_copyTrials) (fld := fld_9) (put := put_9) (cst := cst_9) (cstl := cstl_9) (cal := [(66, 1, 3, C_X10_copy_50), (66, 1, 3, C_X10_copy_51), (66, 1, 3, C_X10_copy_52), (66, 1, 3, C_X10_copy_53), (66, 1, 3, C_X10_copy_54)]) (rk := 0) (cuts := [(65, ([(0, 0, false), (1, 1, false), (2, 500, false)], [], [(0, (2, 22, 0)), (1, (2, 55, 0)), (500, (0, 0, 12)), (501, (0, 0, 12)), (502, (2, 23, 0)), (503, (2, 25, 0)), (504, (2, 26, 0)), (505, (2, 27, 0)), (506, (2, 28, 0)), (507, (2, 56, 0)), (508, (2, 58, 0)), (509, (2, 59, 0)), (510, (2, 60, 0)), (511, (2, 61, 0))], [(22, 0, 501), (22, 1, 502), (22, 3, 503), (22, 4, 504), (22, 5, 505), (22, 6, 506), (55, 0, 501), (55, 1, 507), (55, 3, 508), (55, 4, 509), (55, 5, 510), (55, 6, 511)], [], 1000), 13, [(1, 500)])]) (fuel := 4000) (by decide) (Or.inl ⟨rfl, rfl⟩) fld_9_ok put_9_ok cst_9_ok cstl_9_ok (List.forall_mem_cons.mpr ⟨cok_sn k_9_66 (ac_X10_copy_50 l G) rfl, List.forall_mem_cons.mpr ⟨cok_sn k_9_66 (ac_X10_copy_51 l G) rfl, List.forall_mem_cons.mpr ⟨cok_sn k_9_66 (ac_X10_copy_52 l G) rfl, List.forall_mem_cons.mpr ⟨cok_sn k_9_66 (ac_X10_copy_53 l G) rfl, List.forall_mem_cons.mpr ⟨cok_sn k_9_66 (ac_X10_copy_54 l G) rfl, fun _ h => absurd h List.not_mem_nil⟩⟩⟩⟩⟩) D_X9_copyTrials_ok (by decide +kernel)
abbrev C_X2_bringBack_2 : CE := ([(2, 46, 0), (2, 5, 0), (2, 12, 0), (2, 22, 0), (2, 105, 0)], [], [], [(none, [], [], [])], [(5, 7), (5, 8), (10, 999), (15, 999), (16, 999), (17, 999), (22, 0), (23, 999), (24, 999), (25, 999), (26, 999), (27, 999), (28, 999), (105, 999)], 2, 44)
theorem ac_X2_bringBack_2 (l : Launch) (G : KG) : ACt l G TX yX2_bringBack cX2_bringBack 5 none C_X2_bringBack_2 := acert (tab := D_X2_bringBack) (fld := fld_2) (put := put_2) (cst := cst_2) (cstl := cstl_2) (cal := [(39, 1, 3, C_X10_copy_46), (39, 1, 3, C_X10_copy_47), (43, 0, 3, C_X7_copyApart_5), (47, 0, 3, C_X9_copyTrials_5)]) (rk := 0) (cuts := []) (fuel := 4000) (by decide) (Or.inl ⟨rfl, rfl⟩) fld_2_ok put_2_ok cst_2_ok cstl_2_ok (List.forall_mem_cons.mpr ⟨cok_sn k_2_39 (ac_X10_copy_46 l G) rfl, List.forall_mem_cons.mpr ⟨cok_sn k_2_39 (ac_X10_copy_47 l G) rfl, List.forall_mem_cons.mpr ⟨cok_v k_2_43 (ac_X7_copyApart_5 l G) rfl rfl rfl rfl rfl rfl, List.forall_mem_cons.mpr ⟨cok_v k_2_47 (ac_X9_copyTrials_5 l G) rfl rfl rfl rfl rfl rfl, fun _ h => absurd h List.not_mem_nil⟩⟩⟩⟩) D_X2_bringBack_ok (by decide +kernel)
def D_X10_again : DT := [(0, .iload_n 1, 1), (1, .ifCond .lt 29, 3), (4, .iload_n 1, 1), (5, .iconst 3, 1), (6, .if_icmp .ge 24, 3), (9, .aload_n 0, 1), (10, .getfield 67, 3), (13, .iload_n 1, 1), (14, .aaload, 1), (15, .ifnull 15, 3), (18, .aload_n 0, 1), (19, .getfield 67, 3), (22, .iload_n 1, 1), (23, .aaload, 1), (24, .getfield 485, 3), (27, .ifCond .ne 5, 3), (30, .iconst 0, 1), (31, .ireturn, 1), (32, .aload_n 0, 1), (33, .getfield 67, 3), (36, .iload_n 1, 1), (37, .aaload, 1), (38, .aload_n 0, 1), (39, .getfield 26, 3), (42, .aload_n 0, 1), (43, .getfield 33, 3), (46, .aload_n 0, 1), (47, .getfield 47, 3), (50, .aload_n 0, 1), (51, .getfield 78, 3), (54, .invokevirtual 489, 3), (57, .iconst 1, 1), (58, .ireturn, 1)]
theorem D_X10_again_ok : dtOK cX10_again D_X10_again = true := by decide +kernel
abbrev C_X10_again_0 : CE := ([(2, 0, 0), (0, -2147483648, 2147483647)], [], [], [(some (0, 0, 0), [], [], []), (some (0, 1, 1), [(1, (0, 0, 2))], [], [])], [(5, 7), (5, 8), (10, 999), (15, 999), (16, 999), (17, 999), (22, 0), (23, 999), (24, 999), (25, 999), (26, 999), (27, 999), (28, 999), (105, 999)], 3, 68)
theorem ac_X10_again_0 (l : Launch) (G : KG) : ACt l G TX yX10_again cX10_again 2 (some .boolean) C_X10_again_0 := acert (tab := D_X10_again) (fld := fld_10) (put := put_10) (cst := cst_10) (cstl := cstl_10) (cal := [(489, 0, 5, C_X2_bringBack_0), (489, 0, 5, C_X2_bringBack_1), (489, 0, 5, C_X2_bringBack_2)]) (rk := 3) (cuts := []) (fuel := 4000) (by decide) (Or.inr (Or.inr (Or.inr ⟨rfl, rfl⟩))) fld_10_ok put_10_ok cst_10_ok cstl_10_ok (List.forall_mem_cons.mpr ⟨cok_v k_10_489 (ac_X2_bringBack_0 l G) rfl rfl rfl rfl rfl rfl, List.forall_mem_cons.mpr ⟨cok_v k_10_489 (ac_X2_bringBack_1 l G) rfl rfl rfl rfl rfl rfl, List.forall_mem_cons.mpr ⟨cok_v k_10_489 (ac_X2_bringBack_2 l G) rfl rfl rfl rfl rfl rfl, fun _ h => absurd h List.not_mem_nil⟩⟩⟩) D_X10_again_ok (by decide +kernel)
def D_X10_count : DT := [(0, .iload_n 1, 1), (1, .tableswitch 123 0 8 #[51, 59, 67, 75, 83, 91, 99, 107, 115], 51), (52, .aload_n 0, 1), (53, .getfield 26, 3), (56, .getfield 136, 3), (59, .ireturn, 1), (60, .aload_n 0, 1), (61, .getfield 33, 3), (64, .getfield 191, 3), (67, .ireturn, 1), (68, .aload_n 0, 1), (69, .getfield 40, 3), (72, .getfield 467, 3), (75, .ireturn, 1), (76, .aload_n 0, 1), (77, .getfield 47, 3), (80, .getfield 206, 3), (83, .ireturn, 1), (84, .aload_n 0, 1), (85, .getfield 26, 3), (88, .invokevirtual 152, 3), (91, .ireturn, 1), (92, .aload_n 0, 1), (93, .getfield 26, 3), (96, .getfield 167, 3), (99, .ireturn, 1), (100, .aload_n 0, 1), (101, .getfield 26, 3), (104, .getfield 170, 3), (107, .ireturn, 1), (108, .aload_n 0, 1), (109, .getfield 12, 3), (112, .getfield 492, 3), (115, .ireturn, 1), (116, .aload_n 0, 1), (117, .getfield 19, 3), (120, .getfield 495, 3), (123, .ireturn, 1), (124, .iconst (-1), 1), (125, .ireturn, 1)]
theorem D_X10_count_ok : dtOK cX10_count D_X10_count = true := by decide +kernel
abbrev C_X10_count_0 : CE := ([(2, 0, 0), (0, -2147483648, 2147483647)], [], [], [(some (0, -2147483648, 2147483647), [], [], [])], [], 1, 22)
theorem ac_X10_count_0 (l : Launch) (G : KG) : ACt l G TX yX10_count cX10_count 2 (some .int) C_X10_count_0 := acert (tab := D_X10_count) (fld := fld_10) (put := put_10) (cst := cst_10) (cstl := cstl_10) (cal := [(152, 0, 3, C_X5_ouncesInAll_0)]) (rk := 1) (cuts := []) (fuel := 4000) (by decide) (Or.inr (Or.inl ⟨rfl, rfl⟩)) fld_10_ok put_10_ok cst_10_ok cstl_10_ok (List.forall_mem_cons.mpr ⟨cok_v k_10_152 (ac_X5_ouncesInAll_0 l G) rfl rfl rfl rfl rfl rfl, fun _ h => absurd h List.not_mem_nil⟩) D_X10_count_ok (by decide +kernel)
def D_X4_empty : DT := [(0, .aload_n 0, 1), (1, .iconst 0, 1), (2, .putfield 15, 3), (5, .return_, 1)]
theorem D_X4_empty_ok : dtOK cX4_empty D_X4_empty = true := by decide +kernel
abbrev C_X4_empty_0 : CE := ([(2, 3, 0)], [], [], [(none, [], [(3, 1, (0, 0, 0))], [])], [(3, 1)], 0, 0)
theorem ac_X4_empty_0 (l : Launch) (G : KG) : ACt l G TX yX4_empty cX4_empty 1 none C_X4_empty_0 := acert (tab := D_X4_empty) (fld := fld_4) (put := put_4) (cst := cst_4) (cstl := cstl_4) (cal := []) (rk := 0) (cuts := []) (fuel := 4000) (by decide) (Or.inl ⟨rfl, rfl⟩) fld_4_ok put_4_ok cst_4_ok cstl_4_ok (fun _ h => absurd h List.not_mem_nil) D_X4_empty_ok (by decide +kernel)
def D_X10_gatherFitting : DT := [(0, .iconst 0, 1), (1, .istore_n 3, 1), (2, .iconst 0, 1), (3, .istore 4, 2), (5, .iload 4, 2), (7, .aload_n 0, 1), (8, .getfield 26, 3), (11, .getfield 136, 3), (14, .if_icmp .ge 47, 3), (17, .aload_n 0, 1), (18, .getfield 26, 3), (21, .getfield 116, 3), (24, .iload 4, 2), (26, .iaload, 1), (27, .iload_n 1, 1), (28, .if_icmp .ne 27, 3), (31, .aload_n 0, 1), (32, .getfield 26, 3), (35, .iload 4, 2), (37, .invokevirtual 371, 3), (40, .iload_n 2, 1), (41, .if_icmp .lt 14, 3), (44, .aload_n 0, 1), (45, .getfield 87, 3), (48, .iload_n 3, 1), (49, .iload 4, 2), (51, .iastore, 1), (52, .iinc 3 1, 3), (55, .iinc 4 1, 3), (58, .goto (-53), 3), (61, .iload_n 3, 1), (62, .ireturn, 1)]
theorem D_X10_gatherFitting_ok : dtOK cX10_gatherFitting D_X10_gatherFitting = true := by decide +kernel
abbrev C_X10_gatherFitting_0 : CE := ([(2, 0, 0), (0, -2147483648, 2147483647), (0, -2147483648, 2147483647)], [], [], [(some (0, 0, 16), [], [], [])], [(108, 999)], 1, 21)
theorem ac_X10_gatherFitting_0 (l : Launch) (G : KG) : ACt l G TX yX10_gatherFitting cX10_gatherFitting 5 (some .int) C_X10_gatherFitting_0 := acert (tab := D_X10_gatherFitting) (fld := fld_10) (put := put_10) (cst := cst_10) (cstl := cstl_10) (cal := [(371, 0, 2, C_X5_roomLeft_0)]) (rk := 1) (cuts := [(5, ([(0, 0, false), (1, 1, false), (2, 2, false), (3, 500, false), (4, 501, false)], [], [(0, (2, 0, 0)), (1, (0, -2147483648, 2147483647)), (2, (0, -2147483648, 2147483647)), (500, (0, 0, 16)), (501, (0, 0, 16))], [], [(500, 501, 0)], 1000), 17, [(1, 501)])]) (fuel := 4000) (by decide) (Or.inr (Or.inl ⟨rfl, rfl⟩)) fld_10_ok put_10_ok cst_10_ok cstl_10_ok (List.forall_mem_cons.mpr ⟨cok_v k_10_371 (ac_X5_roomLeft_0 l G) rfl rfl rfl rfl rfl rfl, fun _ h => absurd h List.not_mem_nil⟩) D_X10_gatherFitting_ok (by decide +kernel)
def D_X10_isFewer : DT := [(0, .iload_n 0, 1), (1, .invokestatic 256, 3), (4, .iload_n 1, 1), (5, .invokestatic 256, 3), (8, .isub, 1), (9, .istore_n 2, 1), (10, .iload_n 2, 1), (11, .ifCond .lt 12, 3), (14, .iload_n 2, 1), (15, .ifCond .ne 12, 3), (18, .iload_n 0, 1), (19, .iload_n 1, 1), (20, .if_icmp .ge 7, 3), (23, .iconst 1, 1), (24, .goto 4, 3), (27, .iconst 0, 1), (28, .ireturn, 1)]
theorem D_X10_isFewer_ok : dtOK cX10_isFewer D_X10_isFewer = true := by decide +kernel
abbrev C_X10_isFewer_0 : CE := ([(0, -2147483648, 2147483647), (0, -2147483648, 2147483647)], [], [], [(some (0, 0, 0), [], [], []), (some (0, 1, 1), [], [], [])], [], 1, 20)
theorem ac_X10_isFewer_0 (l : Launch) (G : KG) : ACt l G TX yX10_isFewer cX10_isFewer 3 (some .boolean) C_X10_isFewer_0 := acert (tab := D_X10_isFewer) (fld := fld_10) (put := put_10) (cst := cst_10) (cstl := cstl_10) (cal := [(256, 1, 1, C_x_J6_bitCount_0f7a4_0)]) (rk := 3) (cuts := []) (fuel := 4000) (by decide) (Or.inr (Or.inr (Or.inr ⟨rfl, rfl⟩))) fld_10_ok put_10_ok cst_10_ok cstl_10_ok (List.forall_mem_cons.mpr ⟨cok_s k_10_256 (ac_x_J6_bitCount_0f7a4_0 l G) rfl, fun _ h => absurd h List.not_mem_nil⟩) D_X10_isFewer_ok (by decide +kernel)
end
section
/-! for proofs by hand, between segments -/
section HL
variable {p : Program} {l : Launch} {e : Env} {R : Room} {s : State} {m : MethodId} {args : Array Value} {below : List Frame} {meth : Method} {c : Code} {nL : Nat} {G : KG} {A : Nat → Prop} {Q : State → Prop} {cc : ByteArray} {own : String} {ret : Option FieldType} {nm : String} {kc ks : Nat}
variable {ad : Nat → Nat} {T : List TE} {mk : List (Nat × Nat)} {w0 : va_W} {pin : List (Nat × Value)}
variable {lv : ALv} {st : List Nat} {ev : AEv} {ca : ACa} {rl : ARl} {nx pc : Nat} {ν : Nat → Value} {ws : va_W} {lw : List (Nat × Value)} {sw : List Value}
theorem put_row (X : ZC p s m args meth c cc nL own G A ret nm) {idx ci j kd : Nat} (hP : PA own idx ci j kd) {t : VT} (hk : kOK kd t = true) (hdg : decode cc pc = .ok (.putfield idx, 3)) {k a : Nat} {fs : List Value} {v : Value} {rest : List Value} (w1 : ws[k]? = some (a, ob ci fs)) (w2 : j < fs.length) (w3 : vty ad t v) (kz : Z p l e R s m args below meth c nL G A Q (pc + 3) lw rest (ws.set k (a, ob ci (fs.set j v))) kc ks) : Z p l e R s m args below meth c nL G A Q pc lw (v :: .ref a :: rest) ws kc ks := by
  obtain ⟨hF2, C, Tt, N, ty, p1, p2, p3, p4⟩ := hP
  have fin : narrow ty v = v ∧ fits ty v = true := by
    unfold kOK at hk
    rcases p4 with ⟨k0, rfl⟩ | ⟨k0, rfl⟩ | ⟨k0, rfl⟩
    · rw [k0] at hk
      have hk : (Nat.beq t.1 0 && true) = true := hk
      obtain ⟨x, rfl, -⟩ := vty0 w3 (Nat.eq_of_beq_eq_true (and2 hk).1)
      exact ⟨rfl, rfl⟩
    · rw [k0] at hk
      have hk : Nat.beq t.1 1 = true := hk
      obtain ⟨x, rfl, -⟩ := vty1 w3 (Nat.eq_of_beq_eq_true hk)
      exact ⟨rfl, rfl⟩
    · rw [k0] at hk
      have hk : (Nat.beq t.1 0 && (decide (0 ≤ t.2.1) && decide (t.2.2 ≤ 1))) = true := hk
      obtain ⟨g1, g2⟩ := and2 hk
      obtain ⟨g2, g3⟩ := and2 g2
      obtain ⟨x, rfl, x1, x2⟩ := vty0 w3 (Nat.eq_of_beq_eq_true g1)
      have g2 := of_decide_eq_true g2
      have g3 := of_decide_eq_true g3
      exact ⟨nar_z (by omega) (by omega), fit_z (by omega) (by omega)⟩
  rcases hF2 with hF2 | hF2
  · exact z_put X hF2 hdg _ w1 p1 (Or.inl p2) p3 fin.1 fin.2 w2 rfl kz
  · exact z_putN X hF2 hdg _ w1 p1 p2 p3 fin.1 fin.2 w2 rfl kz
theorem AG.put {r x j ci : Nat} {ts : List VT} {t : VT} (h : AG G ad T mk w0 pin (lv, x :: r :: st, ev, ca, rl, nx) ν lw sw ws) (hr : (aty ev r).1 = 2) (hT : T[(aty ev r).2.1.toNat]? = some (.inl (ci, ts))) (ht : ts[j]? = some t) (hm : mkq mk (aty ev r).2.1.toNat j = true)
    (hW : ∀ fs, ws[(aty ev r).2.1.toNat]? = some (ad (aty ev r).2.1.toNat, ob ci fs) → WT G ad T (ws.set (aty ev r).2.1.toNat (ad (aty ev r).2.1.toNat, ob ci (fs.set j (ν x))))) :
    ∃ fs, ws[(aty ev r).2.1.toNat]? = some (ad (aty ev r).2.1.toNat, ob ci fs) ∧ j < fs.length ∧ sw = ν x :: .ref (ad (aty ev r).2.1.toNat) :: st.map ν ∧ AG G ad T mk w0 pin (lv, st, ev, ((aty ev r).2.1.toNat, j, x) :: acut (aty ev r).2.1.toNat j ca, rl, nx) ν lw (st.map ν) (ws.set (aty ev r).2.1.toNat (ad (aty ev r).2.1.toNat, ob ci (fs.set j (ν x)))) := by
  obtain ⟨h1, h2, h3⟩ := h
  have h3 : AK G ad T mk w0 pin (lv, st, ev, ca, rl, nx) ν ws := h3
  have h2' : sw = ν x :: ν r :: st.map ν := h2
  obtain ⟨fs, v, q1, q2, q3, q4⟩ := h3.2.2.2.2.2.1.obj hT ht
  have hj := lt_of_getE q3
  refine ⟨fs, q1, hj, by rw [h2', h3.ref hr], h1, rfl, h3.1, h3.2.1, fun q hq => ?_, h3.2.2.2.1, h3.2.2.2.2.1, hW fs q1, ?_⟩
  · rcases List.mem_cons.mp hq with e | hq
    · rw [e]
      show fget _ _ j = some (ν x)
      rw [fget_of (set_same q1), List.getElem?_set_self hj]
    · obtain ⟨m1, m2⟩ := List.mem_filter.mp hq
      rw [fget_set q1]
      · exact h3.2.2.1 q m1
      · rintro ⟨e1, e2⟩
        rw [e1, e2] at m2
        simp at m2
  · obtain ⟨f1, f2⟩ := h3.2.2.2.2.2.2
    refine ⟨by rw [List.length_set]; exact f1, fun k' j' hk => ?_⟩
    rw [cget_set q1]
    · exact f2 k' j' hk
    · rintro ⟨e1, e2⟩
      rw [e1, e2, hm] at hk
      cases hk
/-- the arrays that lean on a field: one alone -/
def onlyB (T : List TE) (cell j ka : Nat) : Bool := T.zipIdx.all (fun q => match q.1 with
  | .inr o => !(Nat.ble 2 o.2.2.1 && (Nat.beq (pcl o.2.2.1) cell && Nat.beq (pfl o.2.2.1) j)) || Nat.beq q.2 ka
  | .inl _ => true)
theorem onlyB_ok {cell j ka k' n kd : Nat} {t' : VT} (h : onlyB T cell j ka = true) (g1 : T[k']? = some (.inr (kd, n, t'))) (g2 : 2 ≤ t'.1) (g3 : pcl t'.1 = cell) (g4 : pfl t'.1 = j) : k' = ka := by
  have h1 := List.all_eq_true.mp h (.inr (kd, n, t'), k') (List.mem_zipIdx_iff_getElem?.mpr g1)
  have h1 : (!(Nat.ble 2 t'.1 && (Nat.beq (pcl t'.1) cell && Nat.beq (pfl t'.1) j)) || Nat.beq k' ka) = true := h1
  have e : (Nat.ble 2 t'.1 && (Nat.beq (pcl t'.1) cell && Nat.beq (pfl t'.1) j)) = true := by
    rw [Bool.and_eq_true, Bool.and_eq_true, g3, g4]
    exact ⟨Nat.ble_eq.mpr g2, Nat.beq_refl _, Nat.beq_refl _⟩
  rw [e] at h1
  exact Nat.eq_of_beq_eq_true h1
/-- a field that tells how many are good goes up by one: the next is good -/
theorem WT.inc (h : WT G ad T ws) {k ci j ka n : Nat} {ts : List VT} {t ta : VT} {fs : List Value} {o x : Int32} {f : Nat → Int32} (hT : T[k]? = some (.inl (ci, ts))) (ht : ts[j]? = some t) (hw : ws[k]? = some (ad k, ob ci fs)) (hv : vty ad t (.int x)) (ho : fs[j]? = some (.int o)) (hx : x.toInt ≤ o.toInt + 1) (hTa : T[ka]? = some (.inr (0, n, ta))) (hf : ws[ka]? = some (ad ka, aI G n f)) (hk1 : pkd ta.1 ≤ 1) (hgood : ((pkd ta.1 : Nat) : Int) ≤ (f o.toInt.toNat).toInt) (hon : onlyB T k j ka = true) (h0 : 0 ≤ o.toInt) : WT G ad T (ws.set k (ad k, ob ci (fs.set j (.int x)))) := by
  have hka : ka ≠ k := by
    intro e
    subst e
    rw [hw] at hf
    cases hf
  refine ⟨by rw [List.length_set]; exact h.1, fun k' te hT' => ?_, ?_⟩
  · by_cases e : k' = k
    · subst e
      rw [hT] at hT'
      cases hT'
      obtain ⟨en, h1, fs', rfl, h2, h3⟩ := h.2.1 k' _ hT
      rw [hw] at h1
      cases h1
      refine ⟨_, set_same hw, _, rfl, by rw [List.length_set]; exact h2, fun j' t' v' ht' hv' => ?_⟩
      by_cases e : j' = j
      · subst e
        rw [ht] at ht'
        cases ht'
        rw [List.getElem?_set_self (lt_of_getE ho)] at hv'
        cases hv'
        exact hv
      · rw [List.getElem?_set_ne (fun h => e h.symm)] at hv'
        exact h3 j' t' v' ht' hv'
    · obtain ⟨en, h1, h2⟩ := h.2.1 k' te hT'
      exact ⟨en, by rw [set_other (fun h => e h.symm)]; exact h1, h2⟩
  · intro k' n' t' a f' c i hT' h2 hw' hf' hi
    have hk : k' ≠ k := by
      intro e
      subst e
      rw [set_same hw] at hw'
      cases hw'
    rw [set_other (fun h => hk h.symm)] at hw'
    by_cases e : pcl t'.1 = k ∧ pfl t'.1 = j
    · have e2 := onlyB_ok hon hT' h2 e.1 e.2
      subst e2
      rw [hTa] at hT'
      cases hT'
      rw [hf] at hw'
      have ef : f = f' := by
        have := congrArg Prod.snd (Option.some.inj hw')
        exact Sum.inl.inj (congrArg (fun z => z.2.2) (Sum.inl.inj this))
      subst ef
      rw [e.1, e.2, fget_of (set_same hw), List.getElem?_set_self (lt_of_getE ho)] at hf'
      cases hf'
      refine Or.inl ⟨hk1, fun hic => ?_⟩
      by_cases hlt : (i : Int) < o.toInt
      · rcases h.2.2 k' n ta _ f o i hTa h2 hf (by rw [e.1, e.2, fget_of hw]; exact ho) hi with ⟨_, hp⟩ | ⟨hp, _⟩
        · exact hp hlt
        · omega
      · have : i = o.toInt.toNat := by omega
        rw [this]
        exact hgood
    · rw [fget_set hw e] at hf'
      exact h.2.2 k' n' t' a f' c i hT' h2 hw' hf' hi
/-- what is not masked is as it was -/
theorem FRM.arr (h : FRM mk w0 ws) {k a : Nat} {y : ClassId × vp_A} (hm : mkq mk k 0 = false) (hw : w0[k]? = some (a, .inl y)) : ∃ b, ws[k]? = some (b, .inl y) := by
  have h1 := h.2 k 0 hm
  unfold cget at h1
  rw [hw] at h1
  cases h2 : ws[k]? with
  | none => rw [h2] at h1; cases h1
  | some q =>
    rw [h2] at h1
    obtain ⟨b, en⟩ := q
    cases en with
    | inl y' =>
      have h1 : (some (.inr y') : Option (Value ⊕ (ClassId × vp_A))) = some (.inr y) := h1
      cases h1
      exact ⟨b, rfl⟩
    | inr o =>
      have h1 : (o.2[0]?).map Sum.inl = (some (.inr y) : Option (Value ⊕ (ClassId × vp_A))) := h1
      cases h3 : o.2[0]? with
      | none => rw [h3] at h1; cases h1
      | some v => rw [h3] at h1; cases h1
theorem WT.adr {T : List TE} (h : WT G ad T ws) {k b : Nat} {te : TE} {en : va_E} (hT : T[k]? = some te) (hw : ws[k]? = some (b, en)) : b = ad k := by
  obtain ⟨en', h1, -⟩ := h.2.1 k te hT
  rw [hw] at h1
  exact congrArg Prod.fst (Option.some.inj h1)
theorem WT.ints (h : WT G ad T ws) {k n : Nat} {t : VT} (hT : T[k]? = some (.inr (0, n, t))) : ∃ f, ws[k]? = some (ad k, aI G n f) ∧ aint n t f := by
  obtain ⟨en, h1, h2⟩ := h.arr hT
  rcases h2 with ⟨-, f, rfl, h3⟩ | ⟨h9, -⟩ | ⟨h9, -⟩ | ⟨h9, -⟩
  · exact ⟨f, h1, h3⟩
  · cases h9
  · cases h9
  · cases h9
theorem POST.mono {C C' : CE} {μ : Nat → Value} {wa : va_W} {r : Option Value} {w1 : va_W} (h : POST G ad T C μ wa r w1) (hA : C.2.2.2.1 = C'.2.2.2.1) (hF : FRM C'.2.2.2.2.1 w0 wa) (hc : cov C'.2.2.2.2.1 C.2.2.2.2.1 = true) : POST G ad T C' μ w0 r w1 := by
  obtain ⟨A, h1, μ', h2, h3, h4, h5, h6, h7, h8, h9⟩ := h
  exact ⟨A, by rw [← hA]; exact h1, μ', h2, h3, h4, h5, h6, h7, h8, frm_trans hF h9 hc⟩
end HL
end
section
/-! the reference's common (Euclid): by hand -/
theorem d_X11_common_0 : decode cX11_common 0 = .ok (.lload_n 0, 1) := by decide +kernel
theorem d_X11_common_1 : decode cX11_common 1 = .ok (.lconst 0, 1) := by decide +kernel
theorem d_X11_common_2 : decode cX11_common 2 = .ok (.lcmp, 1) := by decide +kernel
theorem d_X11_common_3 : decode cX11_common 3 = .ok (.ifCond .ge 8, 3) := by decide +kernel
theorem d_X11_common_6 : decode cX11_common 6 = .ok (.lload_n 0, 1) := by decide +kernel
theorem d_X11_common_7 : decode cX11_common 7 = .ok (.lneg, 1) := by decide +kernel
theorem d_X11_common_8 : decode cX11_common 8 = .ok (.goto 4, 3) := by decide +kernel
theorem d_X11_common_11 : decode cX11_common 11 = .ok (.lload_n 0, 1) := by decide +kernel
theorem d_X11_common_12 : decode cX11_common 12 = .ok (.lstore 4, 2) := by decide +kernel
theorem d_X11_common_14 : decode cX11_common 14 = .ok (.lload_n 2, 1) := by decide +kernel
theorem d_X11_common_15 : decode cX11_common 15 = .ok (.lconst 0, 1) := by decide +kernel
theorem d_X11_common_16 : decode cX11_common 16 = .ok (.lcmp, 1) := by decide +kernel
theorem d_X11_common_17 : decode cX11_common 17 = .ok (.ifCond .ge 8, 3) := by decide +kernel
theorem d_X11_common_20 : decode cX11_common 20 = .ok (.lload_n 2, 1) := by decide +kernel
theorem d_X11_common_21 : decode cX11_common 21 = .ok (.lneg, 1) := by decide +kernel
theorem d_X11_common_22 : decode cX11_common 22 = .ok (.goto 4, 3) := by decide +kernel
theorem d_X11_common_25 : decode cX11_common 25 = .ok (.lload_n 2, 1) := by decide +kernel
theorem d_X11_common_26 : decode cX11_common 26 = .ok (.lstore 6, 2) := by decide +kernel
theorem d_X11_common_28 : decode cX11_common 28 = .ok (.lload 6, 2) := by decide +kernel
theorem d_X11_common_30 : decode cX11_common 30 = .ok (.lconst 0, 1) := by decide +kernel
theorem d_X11_common_31 : decode cX11_common 31 = .ok (.lcmp, 1) := by decide +kernel
theorem d_X11_common_32 : decode cX11_common 32 = .ok (.ifCond .eq 21, 3) := by decide +kernel
theorem d_X11_common_35 : decode cX11_common 35 = .ok (.lload 4, 2) := by decide +kernel
theorem d_X11_common_37 : decode cX11_common 37 = .ok (.lload 6, 2) := by decide +kernel
theorem d_X11_common_39 : decode cX11_common 39 = .ok (.lrem, 1) := by decide +kernel
theorem d_X11_common_40 : decode cX11_common 40 = .ok (.lstore 8, 2) := by decide +kernel
theorem d_X11_common_42 : decode cX11_common 42 = .ok (.lload 6, 2) := by decide +kernel
theorem d_X11_common_44 : decode cX11_common 44 = .ok (.lstore 4, 2) := by decide +kernel
theorem d_X11_common_46 : decode cX11_common 46 = .ok (.lload 8, 2) := by decide +kernel
theorem d_X11_common_48 : decode cX11_common 48 = .ok (.lstore 6, 2) := by decide +kernel
theorem d_X11_common_50 : decode cX11_common 50 = .ok (.goto (-22), 3) := by decide +kernel
theorem d_X11_common_53 : decode cX11_common 53 = .ok (.lload 4, 2) := by decide +kernel
theorem d_X11_common_55 : decode cX11_common 55 = .ok (.lreturn, 1) := by decide +kernel
theorem lrem_t (x y : Int64) : (x - x / y * y).toInt = x.toInt.tmod y.toInt := by
  have h1 := Int64.le_toInt (x % y)
  have h2 := Int64.toInt_lt (x % y)
  rw [Int64.toInt_sub, Int64.toInt_mul, Int64.toInt_div, Int.bmod_mul_bmod, Int.sub_bmod_bmod, Int.mul_comm (x.toInt.tdiv y.toInt), ← Int.tmod_def, ← Int64.toInt_mod]
  exact Int.bmod_eq_of_le_mul_two (by omega) (by omega)
abbrev cmAlts : List ALT := [(some (1, 1, 9223372036854775807), [], [], []), (some (1, -9223372036854775807, -1), [], [], []), (some (1, -9223372036854775808, -9223372036854775808), [], [], [])]
abbrev C_common_P : CE := ([tL0, (1, 1, 9223372036854775807)], [], [], cmAlts, [], 0, 0)
abbrev C_common_N : CE := ([tL0, (1, -9223372036854775808, -1)], [], [], cmAlts, [], 0, 0)
theorem cm_post {G : KG} {ad : Nat → Nat} {T : List TE} {C : CE} {μ : Nat → Value} {ws : va_W} (hC : C.2.2.2.1 = cmAlts) (hW : WT G ad T ws) (g : Int64) (hg : g.toInt ≠ 0) : POST G ad T C μ ws (some (.long g)) ws := by
  have h1 := i64_lo g
  have h2 := i64_hi g
  unfold lMin at h1
  unfold lMax at h2
  rcases (by omega : 1 ≤ g.toInt ∨ (-9223372036854775807 ≤ g.toInt ∧ g.toInt ≤ -1) ∨ g.toInt = -9223372036854775808) with h | h | h
  · exact post_pure (t := (1, 1, 9223372036854775807)) (rl := []) (by rw [hC]; exact List.mem_cons_self) hW (vty_l h h2) (fun q hq => by cases hq)
  · exact post_pure (t := (1, -9223372036854775807, -1)) (rl := []) (by rw [hC]; exact List.mem_cons_of_mem _ List.mem_cons_self) hW (vty_l h.1 h.2) (fun q hq => by cases hq)
  · exact post_pure (t := (1, -9223372036854775808, -9223372036854775808)) (rl := []) (by rw [hC]; exact List.mem_cons_of_mem _ (List.mem_cons_of_mem _ List.mem_cons_self)) hW (vty_l (by omega) (by omega)) (fun q hq => by cases hq)
section CM
variable {p : Program} {l : Launch} {e : Env} {R : Room} {s : State} {m : MethodId} {args : Array Value} {below : List Frame} {meth : Method} {c : Code} {G : KG} {A : Nat → Prop}
theorem cm_loop {post : Option Value → va_W → Prop} {ws : va_W} (X : ZC p s m args meth c cX11_common 10 RX11 G A (some .long) "common") (hp : ∀ g : Int64, g.toInt ≠ 0 → post (some (.long g)) ws) : ∀ (n : Nat) (x y : Int64) (lw : List (Nat × Value)), y.toInt.natAbs < n → (x.toInt ≠ 0 ∨ y.toInt ≠ 0) → (4, .long x) ∈ lw → (6, .long y) ∈ lw → Z p l e R s m args below meth c 10 G A (MQ below (QQ G A post) args s R.cells R.slots A) 28 lw [] ws 0 0
  | 0, _, _, _, h, _, _, _ => absurd h (Nat.not_lt_zero _)
  | n + 1, x, y, lw, h, h0, m1, m2 => by
    refine Z.mono (lw' := [(6, .long y), (4, .long x)]) (fun q hq => by
      rcases List.mem_cons.mp hq with e | hq
      · rw [e]; exact m2
      · rw [List.mem_singleton.mp hq]; exact m1) ?_
    refine z_lload X d_X11_common_28 0 rfl (z_lconst X d_X11_common_30 rfl (zl_eq X d_X11_common_31 d_X11_common_32 (tgt := 53) (by decide) (a := y.toInt) (b := 0) rfl rfl (fun hy => ?_) (fun hy => ?_)))
    · refine z_lload X d_X11_common_53 1 rfl ?_
      exact z_lret X rfl d_X11_common_55 (Nat.zero_le _) (Nat.zero_le _) (hp x (h0.resolve_right (fun q => q hy)))
    · have hy0 : ¬ y = 0 := fun q => hy (by rw [q]; rfl)
      refine z_lload X d_X11_common_35 1 rfl (z_lload X d_X11_common_37 0 rfl (z_lrem X d_X11_common_39 hy0 ?_))
      refine z_lstore X d_X11_common_40 (by decide) (lv' := [(8, .long (x - x / y * y)), (6, .long y), (4, .long x)]) rfl ?_
      refine z_lload X d_X11_common_42 1 rfl (z_lstore X d_X11_common_44 (by decide) (lv' := [(4, .long y), (8, .long (x - x / y * y)), (6, .long y)]) rfl ?_)
      refine z_lload X d_X11_common_46 1 rfl (z_lstore X d_X11_common_48 (by decide) (lv' := [(6, .long (x - x / y * y)), (4, .long y), (8, .long (x - x / y * y))]) rfl ?_)
      refine z_goto X d_X11_common_50 (tgt := 28) (by decide) ?_
      refine cm_loop X hp n y _ _ ?_ (Or.inl hy) (List.mem_cons_of_mem _ List.mem_cons_self) List.mem_cons_self
      rw [lrem_t, Int.natAbs_tmod]
      have := Nat.mod_lt x.toInt.natAbs (show 0 < y.toInt.natAbs by omega)
      omega
theorem neg_ne {x : Int64} (h : x.toInt ≠ 0) : (-x).toInt ≠ 0 := by
  have h1 := i64_lo x
  have h2 := i64_hi x
  unfold lMin at h1
  unfold lMax at h2
  rw [Int64.toInt_neg]
  rcases (by omega : x.toInt = -9223372036854775808 ∨ -9223372036854775808 < x.toInt) with e | e
  · rw [e]; decide
  · rw [b64 (by omega) (by omega)]; omega
theorem cm_body {post : Option Value → va_W → Prop} {ws : va_W} {x y : Int64} (hy : y.toInt ≠ 0) (X : ZC p s m args meth c cX11_common 10 RX11 G A (some .long) "common") (hp : ∀ g : Int64, g.toInt ≠ 0 → post (some (.long g)) ws) : Z p l e R s m args below meth c 10 G A (MQ below (QQ G A post) args s R.cells R.slots A) 0 [(0, .long x), (2, .long y)] [] ws 0 0 := by
  have two : ∀ x', Z p l e R s m args below meth c 10 G A (MQ below (QQ G A post) args s R.cells R.slots A) 14 [(4, .long x'), (0, .long x), (2, .long y)] [] ws 0 0 := by
    intro x'
    refine z_lload_n X d_X11_common_14 rfl 2 rfl (z_lconst X d_X11_common_15 rfl (zl_ge X d_X11_common_16 d_X11_common_17 (tgt := 25) (by decide) (a := y.toInt) (b := 0) rfl rfl (fun h => ?_) (fun h => ?_)))
    · refine z_lload_n X d_X11_common_25 rfl 2 rfl (z_lstore X d_X11_common_26 (by decide) (lv' := [(6, .long y), (4, .long x'), (0, .long x), (2, .long y)]) rfl ?_)
      exact cm_loop X hp _ x' y _ (Nat.lt_succ_self _) (Or.inr hy) (List.mem_cons_of_mem _ List.mem_cons_self) List.mem_cons_self
    · refine z_lload_n X d_X11_common_20 rfl 2 rfl (z_lneg X d_X11_common_21 (z_goto X d_X11_common_22 (tgt := 26) (by decide) (z_lstore X d_X11_common_26 (by decide) (lv' := [(6, .long (-y)), (4, .long x'), (0, .long x), (2, .long y)]) rfl ?_)))
      exact cm_loop X hp _ x' (-y) _ (Nat.lt_succ_self _) (Or.inr (neg_ne hy)) (List.mem_cons_of_mem _ List.mem_cons_self) List.mem_cons_self
  refine z_lload_n X d_X11_common_0 rfl 0 rfl (z_lconst X d_X11_common_1 rfl (zl_ge X d_X11_common_2 d_X11_common_3 (tgt := 11) (by decide) (a := x.toInt) (b := 0) rfl rfl (fun h => ?_) (fun h => ?_)))
  · exact z_lload_n X d_X11_common_11 rfl 0 rfl (z_lstore X d_X11_common_12 (by decide) (lv' := [(4, .long x), (0, .long x), (2, .long y)]) rfl (two x))
  · exact z_lload_n X d_X11_common_6 rfl 0 rfl (z_lneg X d_X11_common_7 (z_goto X d_X11_common_8 (tgt := 12) (by decide) (z_lstore X d_X11_common_12 (by decide) (lv' := [(4, .long (-x)), (0, .long x), (2, .long y)]) rfl (two (-x)))))
end CM
theorem ac_cm {T : List TE} {C : CE} {lo hi : Int} (h1 : C.1 = [tL0, (1, lo, hi)]) (h2 : C.2.2.2.1 = cmAlts) (h3 : C.2.2.2.2 = ([], 0, 0)) (h4 : 0 < lo ∨ hi < 0) (l : Launch) (G : KG) : ACt l G T yX11_common cX11_common 10 (some .long) C := by
  intro ad w0 μ hW hP
  obtain ⟨x, hx, -⟩ := vty1 (hP.1 0 tL0 (by rw [h1]; rfl)) rfl
  obtain ⟨y, hy, y1, y2⟩ := vty1 (hP.1 1 (1, lo, hi) (by rw [h1]; rfl)) rfl
  have y1 : lo ≤ y.toInt := y1
  have y2 : y.toInt ≤ hi := y2
  have e0 : (List.range C.1.length).map μ = [.long x, .long y] := by
    rw [h1]
    show [μ 0, μ 1] = _
    rw [hx, hy]
  rw [e0]
  refine ct_of _ (by decide) (Nat.le_of_ble_eq_true rfl) rfl ?_
  intro p e s m args below meth c A X
  exact cm_body (by omega) X (fun g hg => cm_post h2 hW g hg)
theorem ac_common_P (l : Launch) (G : KG) : ACt l G TM yX11_common cX11_common 10 (some .long) C_common_P := ac_cm rfl rfl rfl (Or.inl (by decide)) l G
theorem ac_common_N (l : Launch) (G : KG) : ACt l G TM yX11_common cX11_common 10 (some .long) C_common_N := ac_cm rfl rfl rfl (Or.inr (by decide)) l G
end
section
def TM0 : List TE := [.inl (11, [(0, 0, 1), (0, 0, 24), (2, 1, 0), (0, 0, 16), (2, 2, 0), (2, 3, 0), (2, 4, 0), (2, 5, 0), (2, 6, 0), (2, 7, 0), (0, 0, 6), (2, 8, 0), (2, 9, 0), (2, 10, 0), (2, 11, 0), (2, 12, 0), (0, 0, 8), (2, 13, 0), (2, 14, 0), (0, 0, 80), (0, 0, 60), (0, 0, 60), (0, 0, 1), (2, 15, 0), (2, 16, 0), (2, 17, 0), (2, 18, 0), (2, 19, 0), (0, -1, 15), (0, -2147483648, 2147483647), (2, 20, 0), (0, 0, 12), (2, 21, 0), (2, 22, 0), (2, 23, 0), (2, 24, 0), (2, 25, 0), (2, 26, 0), (1, -9223372036854775808, 9223372036854775807), (1, -9223372036854775808, 9223372036854775807), (1, -9223372036854775808, 9223372036854775807), (2, 27, 0), (2, 28, 0), (2, 29, 0), (2, 30, 0), (0, 0, 14641), (2, 31, 0), (2, 32, 0), (0, 0, 15), (0, -2147483648, 2147483647), (2, 33, 0), (2, 34, 0), (2, 35, 0), (2, 36, 0), (2, 37, 0), (2, 38, 0), (2, 39, 0), (2, 40, 0), (0, 0, 16), (0, -2147483648, 2147483647), (0, 0, 1), (1, -9223372036854775808, 9223372036854775807), (0, -2147483648, 2147483647), (0, -2147483648, 2147483647), (0, 0, 5), (1, -9223372036854775808, 9223372036854775807), (2, 41, 0), (2, 42, 0), (2, 43, 0), (2, 44, 0), (0, 0, 1), (1, -9223372036854775808, 9223372036854775807), (2, 45, 0), (2, 46, 0), (0, -2147483648, 2147483647)]), .inr (1, 24, (1, -9223372036854775808, 9223372036854775807)), .inr (0, 16, (14, -1, 1)), .inr (0, 16, (0, -2147483648, 2147483647)), .inr (0, 16, (0, -2147483648, 2147483647)), .inr (0, 16, (0, -1, 9)), .inr (0, 16, (0, 0, 9)), .inr (0, 16, (0, 0, 9)), .inr (0, 6, (43, -1, 9)), .inr (0, 6, (0, -2147483648, 2147483647)), .inr (2, 6, (0, 0, 1)), .inr (0, 6, (0, -2147483648, 2147483647)), .inr (0, 6, (0, -2147483648, 2147483647)), .inr (0, 8, (0, -2147483648, 2147483647)), .inr (0, 80, (0, 0, 255)), .inr (0, 4, (0, -9, 9)), .inr (0, 4, (0, -2147483648, 2147483647)), .inr (0, 4, (0, -2147483648, 2147483647)), .inr (0, 4, (0, -2147483648, 2147483647)), .inr (0, 4, (0, -2147483648, 2147483647)), .inr (0, 4, (0, -2147483648, 2147483647)), .inr (0, 12, (0, 0, 5)), .inr (2, 12, (0, 0, 1)), .inr (0, 12, (0, -2147483648, 2147483647)), .inr (0, 12, (0, -2147483648, 2147483647)), .inr (0, 12, (0, -2147483648, 2147483647)), .inr (0, 48, (0, -2147483648, 2147483647)), .inr (1, 12, (1, -9223372036854775808, 9223372036854775807)), .inr (1, 12, (1, -9223372036854775808, 9223372036854775807)), .inr (1, 12, (1, -9223372036854775808, 9223372036854775807)), .inr (0, 14641, (0, 0, 14640)), .inr (1, 14641, (1, -9223372036854775808, 9223372036854775807)), .inr (1, 14641, (1, -9223372036854775808, 9223372036854775807)), .inr (0, 6, (0, -2147483648, 2147483647)), .inr (0, 3, (0, 1, 99)), .inr (0, 3, (0, 1, 99)), .inr (0, 16, (0, 0, 15)), .inr (0, 16, (0, -18, 0)), .inr (0, 16, (0, -10, 18)), .inr (0, 16, (0, -2147483648, 2147483647)), .inr (0, 16, (0, -2147483648, 2147483647)), .inr (1, 9, (1, -9223372036854775808, 9223372036854775807)), .inr (0, 16, (0, -2147483648, 2147483647)), .inr (0, 8, (0, 0, 7)), .inr (0, 8, (0, -2147483648, 2147483647)), .inr (2, 3, (0, 0, 1)), .inr (0, 462, (1, -2147483648, 2147483647))]
abbrev C_z_X11_in_0 : CE := ([(1, -9223372036854775808, 9223372036854775807), (1, -9223372036854775808, 9223372036854775807), (1, -9223372036854775808, 9223372036854775807)], [], [], [(some (0, 0, 0), [], [], []), (some (0, 1, 1), [], [], [(0, 2, 0), (1, 0, 0), (1, 2, 0)])], [], 0, 0)
theorem ac_z_X11_in_0 (l : Launch) (G : KG) : ACt l G TM0 yX11_in cX11_in 6 (some .boolean) C_z_X11_in_0 := acert (tab := D_X11_in) (fld := fld_11) (put := put_11) (cst := cst_11) (cstl := cstl_11) (cal := []) (rk := 3) (cuts := []) (fuel := 4000) (by decide) (Or.inr (Or.inr (Or.inr ⟨rfl, rfl⟩))) fld_11_ok put_11_ok cst_11_ok cstl_11_ok (fun _ h => absurd h List.not_mem_nil) D_X11_in_ok (by decide +kernel)
def D_X11_isDigit : DT := [(0, .aload_n 0, 1), (1, .getfield 33, 3), (4, .aload_n 0, 1), (5, .getfield 36, 3), (8, .if_icmp .ge 29, 3), (11, .aload_n 0, 1), (12, .getfield 25, 3), (15, .aload_n 0, 1), (16, .getfield 33, 3), (19, .iaload, 1), (20, .i2l, 1), (21, .ldc2_w 43, 3), (24, .ldc2_w 45, 3), (27, .invokestatic 29, 3), (30, .ifCond .eq 7, 3), (33, .iconst 1, 1), (34, .goto 4, 3), (37, .iconst 0, 1), (38, .ireturn, 1)]
theorem D_X11_isDigit_ok : dtOK cX11_isDigit D_X11_isDigit = true := by decide +kernel
abbrev C_z_X11_isDigit_0 : CE := ([(2, 0, 0)], [(0, 20, (0, 0, 60))], [], [(some (0, 0, 0), [], [], []), (some (0, 1, 1), [(100, (0, 0, 59))], [(0, 21, (0, 1, 60))], [(100, 200, -1)])], [], 1, 25)
theorem ac_z_X11_isDigit_0 (l : Launch) (G : KG) : ACt l G TM0 yX11_isDigit cX11_isDigit 1 (some .boolean) C_z_X11_isDigit_0 := acert (tab := D_X11_isDigit) (fld := fld_11) (put := put_11) (cst := cst_11) (cstl := cstl_11) (cal := [(29, 1, 6, C_z_X11_in_0)]) (rk := 3) (cuts := []) (fuel := 4000) (by decide) (Or.inr (Or.inr (Or.inr ⟨rfl, rfl⟩))) fld_11_ok put_11_ok cst_11_ok cstl_11_ok (List.forall_mem_cons.mpr ⟨cok_s k_11_29 (ac_z_X11_in_0 l G) rfl, fun _ h => absurd h List.not_mem_nil⟩) D_X11_isDigit_ok (by decide +kernel)
def D_X11_number : DT := [(0, .aload_n 0, 1), (1, .invokevirtual 47, 3), (4, .ifCond .ne 5, 3), (7, .iconst (-1), 1), (8, .ireturn, 1), (9, .aload_n 0, 1), (10, .getfield 25, 3), (13, .aload_n 0, 1), (14, .getfield 33, 3), (17, .iaload, 1), (18, .bipush 48, 2), (20, .isub, 1), (21, .istore_n 3, 1), (22, .aload_n 0, 1), (23, .dup, 1), (24, .getfield 33, 3), (27, .iconst 1, 1), (28, .iadd, 1), (29, .putfield 33, 3), (32, .aload_n 0, 1), (33, .invokevirtual 47, 3), (36, .ifCond .eq 31, 3), (39, .bipush 10, 2), (41, .iload_n 3, 1), (42, .imul, 1), (43, .aload_n 0, 1), (44, .getfield 25, 3), (47, .aload_n 0, 1), (48, .getfield 33, 3), (51, .iaload, 1), (52, .iadd, 1), (53, .bipush 48, 2), (55, .isub, 1), (56, .istore_n 3, 1), (57, .aload_n 0, 1), (58, .dup, 1), (59, .getfield 33, 3), (62, .iconst 1, 1), (63, .iadd, 1), (64, .putfield 33, 3), (67, .iload_n 3, 1), (68, .i2l, 1), (69, .iload_n 1, 1), (70, .i2l, 1), (71, .iload_n 2, 1), (72, .i2l, 1), (73, .invokestatic 29, 3), (76, .ifCond .ne 15, 3), (79, .aload_n 0, 1), (80, .dup, 1), (81, .getfield 33, 3), (84, .iconst 1, 1), (85, .isub, 1), (86, .putfield 33, 3), (89, .iconst (-1), 1), (90, .ireturn, 1), (91, .iload_n 3, 1), (92, .ireturn, 1)]
theorem D_X11_number_ok : dtOK cX11_number D_X11_number = true := by decide +kernel
abbrev C_z_X11_number_0 : CE := ([(2, 0, 0), (0, 0, 0), (0, 1, 1)], [(0, 20, (0, 0, 60))], [], [(some (0, 0, 1), [(100, (0, 0, 59))], [(0, 20, (0, 1, 60)), (0, 21, (0, 1, 60))], [(100, 200, -1), (200, 100, 2), (100, 201, -1)]), (some (0, -1, -1), [], [(0, 20, (0, 0, 60))], [(100, 200, 0), (200, 100, 1)])], [(0, 20)], 2, 45)
theorem ac_z_X11_number_0 (l : Launch) (G : KG) : ACt l G TM0 yX11_number cX11_number 4 (some .int) C_z_X11_number_0 := acert (tab := D_X11_number) (fld := fld_11) (put := put_11) (cst := cst_11) (cstl := cstl_11) (cal := [(47, 0, 1, C_z_X11_isDigit_0), (29, 1, 6, C_z_X11_in_0)]) (rk := 1) (cuts := []) (fuel := 4000) (by decide) (Or.inr (Or.inl ⟨rfl, rfl⟩)) fld_11_ok put_11_ok cst_11_ok cstl_11_ok (List.forall_mem_cons.mpr ⟨cok_v k_11_47 (ac_z_X11_isDigit_0 l G) rfl rfl rfl rfl rfl rfl, List.forall_mem_cons.mpr ⟨cok_s k_11_29 (ac_z_X11_in_0 l G) rfl, fun _ h => absurd h List.not_mem_nil⟩⟩) D_X11_number_ok (by decide +kernel)
abbrev C_z_X11_number_1 : CE := ([(2, 0, 0), (0, 1, 1), (0, 9, 9)], [(0, 20, (0, 0, 60))], [], [(some (0, 1, 9), [(100, (0, 0, 59))], [(0, 20, (0, 1, 60)), (0, 21, (0, 1, 60))], [(100, 200, -1), (200, 100, 2), (100, 201, -1)]), (some (0, -1, -1), [], [(0, 20, (0, 0, 60))], [(100, 200, 0), (200, 100, 1)])], [(0, 20)], 2, 45)
theorem ac_z_X11_number_1 (l : Launch) (G : KG) : ACt l G TM0 yX11_number cX11_number 4 (some .int) C_z_X11_number_1 := acert (tab := D_X11_number) (fld := fld_11) (put := put_11) (cst := cst_11) (cstl := cstl_11) (cal := [(47, 0, 1, C_z_X11_isDigit_0), (29, 1, 6, C_z_X11_in_0)]) (rk := 1) (cuts := []) (fuel := 4000) (by decide) (Or.inr (Or.inl ⟨rfl, rfl⟩)) fld_11_ok put_11_ok cst_11_ok cstl_11_ok (List.forall_mem_cons.mpr ⟨cok_v k_11_47 (ac_z_X11_isDigit_0 l G) rfl rfl rfl rfl rfl rfl, List.forall_mem_cons.mpr ⟨cok_s k_11_29 (ac_z_X11_in_0 l G) rfl, fun _ h => absurd h List.not_mem_nil⟩⟩) D_X11_number_ok (by decide +kernel)
abbrev C_z_X11_number_2 : CE := ([(2, 0, 0), (0, 0, 0), (0, 99, 99)], [(0, 20, (0, 0, 60))], [], [(some (0, 0, 99), [(100, (0, 0, 59))], [(0, 20, (0, 1, 60)), (0, 21, (0, 1, 60))], [(100, 200, -1), (200, 100, 2), (100, 201, -1)]), (some (0, -1, -1), [], [(0, 20, (0, 0, 60))], [(100, 200, 0), (200, 100, 1)])], [(0, 20)], 2, 45)
theorem ac_z_X11_number_2 (l : Launch) (G : KG) : ACt l G TM0 yX11_number cX11_number 4 (some .int) C_z_X11_number_2 := acert (tab := D_X11_number) (fld := fld_11) (put := put_11) (cst := cst_11) (cstl := cstl_11) (cal := [(47, 0, 1, C_z_X11_isDigit_0), (29, 1, 6, C_z_X11_in_0)]) (rk := 1) (cuts := []) (fuel := 4000) (by decide) (Or.inr (Or.inl ⟨rfl, rfl⟩)) fld_11_ok put_11_ok cst_11_ok cstl_11_ok (List.forall_mem_cons.mpr ⟨cok_v k_11_47 (ac_z_X11_isDigit_0 l G) rfl rfl rfl rfl rfl rfl, List.forall_mem_cons.mpr ⟨cok_s k_11_29 (ac_z_X11_in_0 l G) rfl, fun _ h => absurd h List.not_mem_nil⟩⟩) D_X11_number_ok (by decide +kernel)
abbrev C_z_X11_flag_0 : CE := ([(0, 0, 1)], [], [], [(some (0, 0, 1), [], [], [(0, 50, 0), (50, 0, 0)])], [], 0, 0)
theorem ac_z_X11_flag_0 (l : Launch) (G : KG) : ACt l G TM0 yX11_flag cX11_flag 1 (some .int) C_z_X11_flag_0 := acert (tab := D_X11_flag) (fld := fld_11) (put := put_11) (cst := cst_11) (cstl := cstl_11) (cal := []) (rk := 1) (cuts := []) (fuel := 4000) (by decide) (Or.inr (Or.inl ⟨rfl, rfl⟩)) fld_11_ok put_11_ok cst_11_ok cstl_11_ok (fun _ h => absurd h List.not_mem_nil) D_X11_flag_ok (by decide +kernel)
def D_X11_takes : DT := [(0, .aload_n 0, 1), (1, .getfield 33, 3), (4, .aload_n 0, 1), (5, .getfield 36, 3), (8, .if_icmp .ge 20, 3), (11, .aload_n 0, 1), (12, .getfield 25, 3), (15, .aload_n 0, 1), (16, .getfield 33, 3), (19, .iaload, 1), (20, .iload_n 1, 1), (21, .if_icmp .ne 7, 3), (24, .iconst 1, 1), (25, .goto 4, 3), (28, .iconst 0, 1), (29, .istore_n 2, 1), (30, .aload_n 0, 1), (31, .dup, 1), (32, .getfield 33, 3), (35, .iload_n 2, 1), (36, .invokestatic 39, 3), (39, .iadd, 1), (40, .putfield 33, 3), (43, .iload_n 2, 1), (44, .ireturn, 1)]
theorem D_X11_takes_ok : dtOK cX11_takes D_X11_takes = true := by decide +kernel
abbrev C_z_X11_takes_0 : CE := ([(2, 0, 0), (0, -2147483648, 2147483647)], [(0, 20, (0, 0, 60))], [], [(some (0, 0, 0), [], [(0, 20, (0, 0, 60))], [(100, 200, 0), (200, 100, 0)]), (some (0, 1, 1), [(1, (0, 0, 255)), (100, (0, 0, 59))], [(0, 20, (0, 1, 60)), (0, 21, (0, 1, 60))], [(100, 200, -1), (200, 100, 1), (100, 201, -1)])], [(0, 20)], 1, 20)
theorem ac_z_X11_takes_0 (l : Launch) (G : KG) : ACt l G TM0 yX11_takes cX11_takes 3 (some .boolean) C_z_X11_takes_0 := acert (tab := D_X11_takes) (fld := fld_11) (put := put_11) (cst := cst_11) (cstl := cstl_11) (cal := [(39, 1, 1, C_z_X11_flag_0)]) (rk := 3) (cuts := []) (fuel := 4000) (by decide) (Or.inr (Or.inr (Or.inr ⟨rfl, rfl⟩))) fld_11_ok put_11_ok cst_11_ok cstl_11_ok (List.forall_mem_cons.mpr ⟨cok_s k_11_39 (ac_z_X11_flag_0 l G) rfl, fun _ h => absurd h List.not_mem_nil⟩) D_X11_takes_ok (by decide +kernel)
def D_X11_signed : DT := [(0, .aload_n 0, 1), (1, .bipush 45, 2), (3, .invokevirtual 51, 3), (6, .istore_n 1, 1), (7, .aload_n 0, 1), (8, .iconst 0, 1), (9, .bipush 99, 2), (11, .invokevirtual 55, 3), (14, .istore_n 2, 1), (15, .aload_n 0, 1), (16, .iload_n 2, 1), (17, .ifCond .lt 7, 3), (20, .iconst 1, 1), (21, .goto 4, 3), (24, .iconst 0, 1), (25, .putfield 59, 3), (28, .iload_n 1, 1), (29, .ifCond .eq 8, 3), (32, .iload_n 2, 1), (33, .ineg, 1), (34, .goto 4, 3), (37, .iload_n 2, 1), (38, .ireturn, 1)]
theorem D_X11_signed_ok : dtOK cX11_signed D_X11_signed = true := by decide +kernel
abbrev C_z_X11_signed_0 : CE := ([(2, 0, 0)], [(0, 20, (0, 0, 60))], [], [(some (0, -99, 99), [], [(0, 20, (0, 0, 60)), (0, 22, (0, 0, 1))], [(100, 50, 157), (100, 200, 0), (200, 100, 3), (50, 200, 98), (50, 201, 98)])], [(0, 20), (0, 22)], 3, 68)
theorem ac_z_X11_signed_0 (l : Launch) (G : KG) : ACt l G TM0 yX11_signed cX11_signed 3 (some .int) C_z_X11_signed_0 := acert (tab := D_X11_signed) (fld := fld_11) (put := put_11) (cst := cst_11) (cstl := cstl_11) (cal := [(51, 0, 3, C_z_X11_takes_0), (55, 0, 4, C_z_X11_number_2)]) (rk := 1) (cuts := []) (fuel := 4000) (by decide) (Or.inr (Or.inl ⟨rfl, rfl⟩)) fld_11_ok put_11_ok cst_11_ok cstl_11_ok (List.forall_mem_cons.mpr ⟨cok_v k_11_51 (ac_z_X11_takes_0 l G) rfl rfl rfl rfl rfl rfl, List.forall_mem_cons.mpr ⟨cok_v k_11_55 (ac_z_X11_number_2 l G) rfl rfl rfl rfl rfl rfl, fun _ h => absurd h List.not_mem_nil⟩⟩) D_X11_signed_ok (by decide +kernel)
abbrev C_z_X11_number_3 : CE := ([(2, 0, 0), (0, 0, 0), (0, 9, 9)], [(0, 20, (0, 0, 60))], [], [(some (0, 0, 9), [(100, (0, 0, 59))], [(0, 20, (0, 1, 60)), (0, 21, (0, 1, 60))], [(100, 200, -1), (200, 100, 2), (100, 201, -1)]), (some (0, -1, -1), [], [(0, 20, (0, 0, 60))], [(100, 200, 0), (200, 100, 1)])], [(0, 20)], 2, 45)
theorem ac_z_X11_number_3 (l : Launch) (G : KG) : ACt l G TM0 yX11_number cX11_number 4 (some .int) C_z_X11_number_3 := acert (tab := D_X11_number) (fld := fld_11) (put := put_11) (cst := cst_11) (cstl := cstl_11) (cal := [(47, 0, 1, C_z_X11_isDigit_0), (29, 1, 6, C_z_X11_in_0)]) (rk := 1) (cuts := []) (fuel := 4000) (by decide) (Or.inr (Or.inl ⟨rfl, rfl⟩)) fld_11_ok put_11_ok cst_11_ok cstl_11_ok (List.forall_mem_cons.mpr ⟨cok_v k_11_47 (ac_z_X11_isDigit_0 l G) rfl rfl rfl rfl rfl rfl, List.forall_mem_cons.mpr ⟨cok_s k_11_29 (ac_z_X11_in_0 l G) rfl, fun _ h => absurd h List.not_mem_nil⟩⟩) D_X11_number_ok (by decide +kernel)
def D_X11_readsLine : DT := [(0, .aload_n 0, 1), (1, .getfield 33, 3), (4, .aload_n 0, 1), (5, .getfield 36, 3), (8, .if_icmp .ge 202, 3), (11, .aload_n 0, 1), (12, .getfield 25, 3), (15, .aload_n 0, 1), (16, .getfield 33, 3), (19, .iaload, 1), (20, .bipush 104, 2), (22, .if_icmp .ne 188, 3), (25, .aload_n 0, 1), (26, .getfield 63, 3), (29, .bipush 16, 2), (31, .if_icmp .ge 179, 3), (34, .aload_n 0, 1), (35, .dup, 1), (36, .getfield 33, 3), (39, .iconst 1, 1), (40, .iadd, 1), (41, .putfield 33, 3), (44, .aload_n 0, 1), (45, .getfield 66, 3), (48, .aload_n 0, 1), (49, .getfield 63, 3), (52, .aload_n 0, 1), (53, .iconst 0, 1), (54, .iconst 1, 1), (55, .invokevirtual 55, 3), (58, .iastore, 1), (59, .aload_n 0, 1), (60, .getfield 66, 3), (63, .aload_n 0, 1), (64, .getfield 63, 3), (67, .iaload, 1), (68, .ifCond .lt 12, 3), (71, .aload_n 0, 1), (72, .bipush 44, 2), (74, .invokevirtual 51, 3), (77, .ifCond .ne 5, 3), (80, .iconst 0, 1), (81, .ireturn, 1), (82, .aload_n 0, 1), (83, .getfield 69, 3), (86, .aload_n 0, 1), (87, .getfield 63, 3), (90, .aload_n 0, 1), (91, .invokevirtual 72, 3), (94, .iastore, 1), (95, .aload_n 0, 1), (96, .getfield 59, 3), (99, .ifCond .eq 12, 3), (102, .aload_n 0, 1), (103, .bipush 44, 2), (105, .invokevirtual 51, 3), (108, .ifCond .ne 5, 3), (111, .iconst 0, 1), (112, .ireturn, 1), (113, .aload_n 0, 1), (114, .getfield 76, 3), (117, .aload_n 0, 1), (118, .getfield 63, 3), (121, .aload_n 0, 1), (122, .invokevirtual 72, 3), (125, .iastore, 1), (126, .aload_n 0, 1), (127, .getfield 59, 3), (130, .ifCond .eq 12, 3), (133, .aload_n 0, 1), (134, .bipush 44, 2), (136, .invokevirtual 51, 3), (139, .ifCond .ne 5, 3), (142, .iconst 0, 1), (143, .ireturn, 1), (144, .aload_n 0, 1), (145, .getfield 79, 3), (148, .aload_n 0, 1), (149, .getfield 63, 3), (152, .aload_n 0, 1), (153, .iconst 0, 1), (154, .bipush 9, 2), (156, .invokevirtual 55, 3), (159, .iastore, 1), (160, .aload_n 0, 1), (161, .getfield 82, 3), (164, .aload_n 0, 1), (165, .getfield 63, 3), (168, .iconst 0, 1), (169, .iastore, 1), (170, .aload_n 0, 1), (171, .getfield 85, 3), (174, .aload_n 0, 1), (175, .getfield 63, 3), (178, .iconst 0, 1), (179, .iastore, 1), (180, .aload_n 0, 1), (181, .dup, 1), (182, .getfield 63, 3), (185, .iconst 1, 1), (186, .iadd, 1), (187, .putfield 63, 3), (190, .aload_n 0, 1), (191, .getfield 79, 3), (194, .aload_n 0, 1), (195, .getfield 63, 3), (198, .iconst 1, 1), (199, .isub, 1), (200, .iaload, 1), (201, .ifCond .lt 7, 3), (204, .iconst 1, 1), (205, .goto 4, 3), (208, .iconst 0, 1), (209, .ireturn, 1), (210, .aload_n 0, 1), (211, .getfield 33, 3), (214, .aload_n 0, 1), (215, .getfield 36, 3), (218, .if_icmp .ge 131, 3), (221, .aload_n 0, 1), (222, .getfield 25, 3), (225, .aload_n 0, 1), (226, .getfield 33, 3), (229, .iaload, 1), (230, .bipush 115, 2), (232, .if_icmp .ne 117, 3), (235, .aload_n 0, 1), (236, .getfield 88, 3), (239, .bipush 6, 2), (241, .if_icmp .ge 108, 3), (244, .aload_n 0, 1), (245, .dup, 1), (246, .getfield 33, 3), (249, .iconst 1, 1), (250, .iadd, 1), (251, .putfield 33, 3), (254, .aload_n 0, 1), (255, .getfield 91, 3), (258, .aload_n 0, 1), (259, .getfield 88, 3), (262, .aload_n 0, 1), (263, .iconst 1, 1), (264, .bipush 9, 2), (266, .invokevirtual 55, 3), (269, .iastore, 1), (270, .aload_n 0, 1), (271, .getfield 91, 3), (274, .aload_n 0, 1), (275, .getfield 88, 3), (278, .iaload, 1), (279, .ifCond .lt 12, 3), (282, .aload_n 0, 1), (283, .bipush 44, 2), (285, .invokevirtual 51, 3), (288, .ifCond .ne 5, 3), (291, .iconst 0, 1), (292, .ireturn, 1), (293, .aload_n 0, 1), (294, .getfield 94, 3), (297, .aload_n 0, 1), (298, .getfield 88, 3), (301, .aload_n 0, 1), (302, .iconst 0, 1), (303, .bipush 9, 2), (305, .invokevirtual 55, 3), (308, .iastore, 1), (309, .aload_n 0, 1), (310, .getfield 97, 3), (313, .aload_n 0, 1), (314, .getfield 88, 3), (317, .iconst 0, 1), (318, .bastore, 1), (319, .aload_n 0, 1), (320, .dup, 1), (321, .getfield 88, 3), (324, .iconst 1, 1), (325, .iadd, 1), (326, .putfield 88, 3), (329, .aload_n 0, 1), (330, .getfield 94, 3), (333, .aload_n 0, 1), (334, .getfield 88, 3), (337, .iconst 1, 1), (338, .isub, 1), (339, .iaload, 1), (340, .ifCond .lt 7, 3), (343, .iconst 1, 1), (344, .goto 4, 3), (347, .iconst 0, 1), (348, .ireturn, 1), (349, .aload_n 0, 1), (350, .getfield 33, 3), (353, .aload_n 0, 1), (354, .getfield 36, 3), (357, .if_icmp .ge 82, 3), (360, .aload_n 0, 1), (361, .getfield 25, 3), (364, .aload_n 0, 1), (365, .getfield 33, 3), (368, .iaload, 1), (369, .bipush 99, 2), (371, .if_icmp .ne 68, 3), (374, .aload_n 0, 1), (375, .getfield 101, 3), (378, .bipush 8, 2), (380, .if_icmp .ge 59, 3), (383, .aload_n 0, 1), (384, .dup, 1), (385, .getfield 33, 3), (388, .iconst 1, 1), (389, .iadd, 1), (390, .putfield 33, 3), (393, .aload_n 0, 1), (394, .getfield 104, 3), (397, .aload_n 0, 1), (398, .getfield 101, 3), (401, .aload_n 0, 1), (402, .iconst 0, 1), (403, .bipush 99, 2), (405, .invokevirtual 55, 3), (408, .iastore, 1), (409, .aload_n 0, 1), (410, .dup, 1), (411, .getfield 101, 3), (414, .iconst 1, 1), (415, .iadd, 1), (416, .putfield 101, 3), (419, .aload_n 0, 1), (420, .getfield 104, 3), (423, .aload_n 0, 1), (424, .getfield 101, 3), (427, .iconst 1, 1), (428, .isub, 1), (429, .iaload, 1), (430, .ifCond .lt 7, 3), (433, .iconst 1, 1), (434, .goto 4, 3), (437, .iconst 0, 1), (438, .ireturn, 1), (439, .iconst 0, 1), (440, .ireturn, 1)]
theorem D_X11_readsLine_ok : dtOK cX11_readsLine D_X11_readsLine = true := by decide +kernel
abbrev C_readsLine : CE := ([(2, 0, 0)], [(0, 3, (0, 0, 16)), (0, 10, (0, 0, 6)), (0, 20, (0, 0, 60))], [], [(some (0, 0, 1), [], [(0, 3, (0, 0, 16)), (0, 10, (0, 0, 6)), (0, 20, (0, 0, 60))], [(100, 200, 0), (101, 201, 0), (102, 202, 0)])], [(0, 3), (0, 10), (0, 16), (0, 20), (0, 22), (2, 999), (3, 999), (4, 999), (5, 999), (6, 999), (7, 999), (8, 999), (9, 999), (10, 999), (13, 999)], 4, 90)
abbrev sC_rl1 : CE := C_readsLine
def sl_rl1 : List CAL := [(55, 0, 4, C_z_X11_number_0), (55, 0, 4, C_z_X11_number_1), (55, 0, 4, C_z_X11_number_2)]
theorem sl_rl1_ok (l : Launch) (G : KG) : ∀ q ∈ sl_rl1, COK l G RX11 TM0 q := List.forall_mem_cons.mpr ⟨cok_v k_11_55 (ac_z_X11_number_0 l G) rfl rfl rfl rfl rfl rfl, List.forall_mem_cons.mpr ⟨cok_v k_11_55 (ac_z_X11_number_1 l G) rfl rfl rfl rfl rfl rfl, List.forall_mem_cons.mpr ⟨cok_v k_11_55 (ac_z_X11_number_2 l G) rfl rfl rfl rfl rfl rfl, fun _ h => absurd h List.not_mem_nil⟩⟩⟩
def sk_rl1 : List CUT := []
abbrev se_rl1_67 : CUT := (67, ([(0, 0, false)], [100, 500], [(0, (2, 0, 0)), (100, (0, 0, 15)), (101, (0, 0, 6)), (102, (0, 0, 59)), (500, (2, 2, 0)), (501, (2, 14, 0)), (502, (0, 1, 60)), (503, (0, 1, 60))], [(0, 3, 100), (0, 4, 500), (0, 10, 101), (0, 18, 501), (0, 20, 502), (0, 21, 503)], [(102, 502, -1), (102, 503, -1), (502, 102, 3), (502, 503, 1)], 1000), 0, [(0, 0)])
abbrev se_rl1_269 : CUT := (269, ([(0, 0, false)], [500, 101, 501], [(0, (2, 0, 0)), (100, (0, 0, 16)), (101, (0, 0, 5)), (102, (0, 0, 59)), (500, (0, -1, -1)), (501, (2, 8, 0)), (502, (2, 14, 0)), (503, (0, 1, 60)), (504, (0, 1, 60))], [(0, 3, 100), (0, 10, 101), (0, 11, 501), (0, 18, 502), (0, 20, 503), (0, 21, 504)], [(102, 503, -1), (102, 504, -1), (503, 102, 2), (503, 504, 1)], 1000), 0, [(0, 0)])
abbrev se_rl1_269_1 : CUT := (269, ([(0, 0, false)], [500, 101, 501], [(0, (2, 0, 0)), (100, (0, 0, 16)), (101, (0, 0, 5)), (102, (0, 0, 58)), (500, (0, 1, 9)), (501, (2, 8, 0)), (502, (2, 14, 0)), (503, (0, 2, 60)), (504, (0, 2, 60))], [(0, 3, 100), (0, 10, 101), (0, 11, 501), (0, 18, 502), (0, 20, 503), (0, 21, 504)], [(102, 503, -2), (102, 504, -2), (503, 504, 1)], 1000), 0, [(0, 0)])
def sx_rl1 : List CUT := [se_rl1_67, se_rl1_269, se_rl1_269_1]
abbrev ss_rl1 : AS := ([(0, 0, false)], [], [(0, (2, 0, 0)), (100, (0, 0, 16)), (101, (0, 0, 6)), (102, (0, 0, 60))], [(0, 3, 100), (0, 10, 101), (0, 20, 102)], [], 1000)
theorem sg_rl1 : xcheckS hk0 D_X11_readsLine 1 TM0 fld_11 put_11 cst_11 cstl_11 sl_rl1 3 sC_rl1 sk_rl1 sx_rl1 [0, 100, 101, 102] 4000 0 ss_rl1 = true := by decide +kernel
abbrev sC_rl270 : CE := ([(2, 0, 0)], [(0, 3, (0, 0, 16)), (0, 10, (0, 0, 6)), (0, 20, (0, 0, 60))], [], [(some (0, 0, 1), [], [(0, 3, (0, 0, 16)), (0, 10, (0, 0, 6)), (0, 20, (0, 0, 60))], [(100, 200, 0), (101, 201, 0), (102, 202, 0)])], [], 4, 90)
def sl_rl270 : List CAL := []
theorem sl_rl270_ok (l : Launch) (G : KG) : ∀ q ∈ sl_rl270, COK l G RX11 TM0 q := fun _ h => absurd h List.not_mem_nil
def sk_rl270 : List CUT := []
abbrev se_rl270_278 : CUT := (278, ([(0, 0, false)], [101, 500], [(0, (2, 0, 0)), (100, (0, 0, 16)), (101, (0, 0, 5)), (102, (0, 0, 59)), (500, (2, 8, 0)), (501, (2, 14, 0)), (502, (0, 1, 60)), (503, (0, 1, 60))], [(0, 3, 100), (0, 10, 101), (0, 11, 500), (0, 18, 501), (0, 20, 502), (0, 21, 503)], [(102, 502, -1), (102, 503, -1), (502, 503, 1)], 1000), 0, [(0, 0)])
def sx_rl270 : List CUT := [se_rl270_278]
abbrev ss_rl270 : AS := ([(0, 0, false)], [], [(0, (2, 0, 0)), (100, (0, 0, 16)), (101, (0, 0, 5)), (102, (0, 0, 59)), (500, (2, 8, 0)), (501, (2, 14, 0)), (502, (0, 1, 60)), (503, (0, 1, 60))], [(0, 3, 100), (0, 10, 101), (0, 11, 500), (0, 18, 501), (0, 20, 502), (0, 21, 503)], [(102, 502, -1), (102, 503, -1), (502, 503, 1)], 1000)
theorem sg_rl270 : xcheckS hk0 D_X11_readsLine 1 TM0 fld_11 put_11 cst_11 cstl_11 sl_rl270 3 sC_rl270 sk_rl270 sx_rl270 [0, 100, 101, 102] 4000 270 ss_rl270 = true := by decide +kernel
abbrev sC_rl80 : CE := C_readsLine
def sl_rl80 : List CAL := []
theorem sl_rl80_ok (l : Launch) (G : KG) : ∀ q ∈ sl_rl80, COK l G RX11 TM0 q := fun _ h => absurd h List.not_mem_nil
def sk_rl80 : List CUT := []
def sx_rl80 : List CUT := []
abbrev ss_rl80 : AS := ([(0, 0, false)], [], [(0, (2, 0, 0)), (100, (0, 0, 15)), (101, (0, 0, 6)), (102, (0, 0, 59)), (500, (2, 2, 0)), (501, (2, 14, 0)), (502, (0, 1, 60)), (503, (0, 1, 60))], [(0, 3, 100), (0, 4, 500), (0, 10, 101), (0, 18, 501), (0, 20, 502), (0, 21, 503)], [(102, 502, -1), (102, 503, -1), (502, 102, 3), (502, 503, 1)], 1000)
theorem sg_rl80 : xcheckS hk0 D_X11_readsLine 1 TM0 fld_11 put_11 cst_11 cstl_11 sl_rl80 3 sC_rl80 sk_rl80 sx_rl80 [0, 100, 101, 102] 4000 80 ss_rl80 = true := by decide +kernel
abbrev sC_rl71 : CE := ([(2, 0, 0)], [(0, 3, (0, 0, 16)), (0, 10, (0, 0, 6)), (0, 20, (0, 0, 60))], [], [(some (0, 0, 1), [], [(0, 3, (0, 0, 16)), (0, 10, (0, 0, 6)), (0, 20, (0, 0, 60))], [(100, 200, 0), (101, 201, 0), (102, 202, 0)])], [(0, 20), (0, 22), (3, 999), (4, 999), (5, 999), (6, 999), (7, 999)], 4, 90)
def sl_rl71 : List CAL := [(51, 0, 3, C_z_X11_takes_0), (72, 0, 3, C_z_X11_signed_0), (55, 0, 4, C_z_X11_number_3)]
theorem sl_rl71_ok (l : Launch) (G : KG) : ∀ q ∈ sl_rl71, COK l G RX11 TM0 q := List.forall_mem_cons.mpr ⟨cok_v k_11_51 (ac_z_X11_takes_0 l G) rfl rfl rfl rfl rfl rfl, List.forall_mem_cons.mpr ⟨cok_v k_11_72 (ac_z_X11_signed_0 l G) rfl rfl rfl rfl rfl rfl, List.forall_mem_cons.mpr ⟨cok_v k_11_55 (ac_z_X11_number_3 l G) rfl rfl rfl rfl rfl rfl, fun _ h => absurd h List.not_mem_nil⟩⟩⟩
def sk_rl71 : List CUT := [(82, ([(0, 0, false)], [], [(0, (2, 0, 0)), (100, (0, 0, 15)), (101, (0, 0, 6)), (102, (0, 0, 58)), (500, (2, 2, 0)), (501, (2, 14, 0)), (502, (0, 2, 60)), (503, (0, 2, 60))], [(0, 3, 100), (0, 4, 500), (0, 10, 101), (0, 18, 501), (0, 20, 502), (0, 21, 503)], [(102, 502, -2), (102, 503, -2), (502, 503, 0)], 1000), 3, [(0, 0)]), (113, ([(0, 0, false)], [], [(0, (2, 0, 0)), (100, (0, 0, 15)), (101, (0, 0, 6)), (102, (0, 0, 57)), (500, (2, 2, 0)), (501, (2, 3, 0)), (502, (2, 14, 0)), (503, (0, 3, 60)), (504, (0, 3, 60)), (505, (0, 1, 1))], [(0, 3, 100), (0, 4, 500), (0, 5, 501), (0, 10, 101), (0, 18, 502), (0, 20, 503), (0, 21, 504), (0, 22, 505)], [(102, 503, -3), (102, 504, -3), (503, 504, 0)], 1000), 2, [(0, 0)]), (144, ([(0, 0, false)], [], [(0, (2, 0, 0)), (100, (0, 0, 15)), (101, (0, 0, 6)), (102, (0, 0, 56)), (500, (2, 2, 0)), (501, (2, 3, 0)), (502, (2, 4, 0)), (503, (2, 14, 0)), (504, (0, 4, 60)), (505, (0, 4, 60)), (506, (0, 1, 1))], [(0, 3, 100), (0, 4, 500), (0, 5, 501), (0, 6, 502), (0, 10, 101), (0, 18, 503), (0, 20, 504), (0, 21, 505), (0, 22, 506)], [(102, 504, -4), (102, 505, -4), (504, 505, 0)], 1000), 1, [(0, 0)])]
abbrev se_rl71_187 : CUT := (187, ([(0, 0, false)], [500, 0], [(0, (2, 0, 0)), (100, (0, 0, 15)), (101, (0, 0, 6)), (102, (0, 0, 56)), (500, (0, 1, 16)), (501, (2, 2, 0)), (502, (2, 3, 0)), (503, (2, 4, 0)), (504, (2, 5, 0)), (505, (2, 6, 0)), (506, (2, 7, 0)), (507, (2, 14, 0)), (508, (0, 4, 60)), (509, (0, 4, 60)), (510, (0, 1, 1))], [(0, 3, 100), (0, 4, 501), (0, 5, 502), (0, 6, 503), (0, 7, 504), (0, 8, 505), (0, 9, 506), (0, 10, 101), (0, 18, 507), (0, 20, 508), (0, 21, 509), (0, 22, 510)], [(100, 500, -1), (102, 508, -4), (102, 509, -4), (500, 100, 1), (508, 509, 1)], 1000), 0, [(0, 0)])
def sx_rl71 : List CUT := [se_rl71_187]
abbrev ss_rl71 : AS := ([(0, 0, false)], [], [(0, (2, 0, 0)), (100, (0, 0, 15)), (101, (0, 0, 6)), (102, (0, 0, 59)), (500, (2, 2, 0)), (501, (2, 14, 0)), (502, (0, 1, 60)), (503, (0, 1, 60))], [(0, 3, 100), (0, 4, 500), (0, 10, 101), (0, 18, 501), (0, 20, 502), (0, 21, 503)], [(102, 502, -1), (102, 503, -1), (502, 102, 3), (502, 503, 1)], 1000)
theorem sg_rl71 : xcheckS hk0 D_X11_readsLine 1 TM0 fld_11 put_11 cst_11 cstl_11 sl_rl71 3 sC_rl71 sk_rl71 sx_rl71 [0, 100, 101, 102] 4000 71 ss_rl71 = true := by decide +kernel
abbrev sC_rl291 : CE := C_readsLine
def sl_rl291 : List CAL := []
theorem sl_rl291_ok (l : Launch) (G : KG) : ∀ q ∈ sl_rl291, COK l G RX11 TM0 q := fun _ h => absurd h List.not_mem_nil
def sk_rl291 : List CUT := []
def sx_rl291 : List CUT := []
abbrev ss_rl291 : AS := ([(0, 0, false)], [], [(0, (2, 0, 0)), (100, (0, 0, 16)), (101, (0, 0, 5)), (102, (0, 0, 59)), (500, (2, 8, 0)), (501, (2, 14, 0)), (502, (0, 1, 60)), (503, (0, 1, 60))], [(0, 3, 100), (0, 10, 101), (0, 11, 500), (0, 18, 501), (0, 20, 502), (0, 21, 503)], [(102, 502, -1), (102, 503, -1), (502, 503, 1)], 1000)
theorem sg_rl291 : xcheckS hk0 D_X11_readsLine 1 TM0 fld_11 put_11 cst_11 cstl_11 sl_rl291 3 sC_rl291 sk_rl291 sx_rl291 [0, 100, 101, 102] 4000 291 ss_rl291 = true := by decide +kernel
abbrev sC_rl282 : CE := ([(2, 0, 0)], [(0, 3, (0, 0, 16)), (0, 10, (0, 0, 6)), (0, 20, (0, 0, 60))], [], [(some (0, 0, 1), [], [(0, 3, (0, 0, 16)), (0, 10, (0, 0, 6)), (0, 20, (0, 0, 60))], [(100, 200, 0), (101, 201, 0), (102, 202, 0)])], [(0, 20), (9, 999), (10, 999)], 4, 90)
def sl_rl282 : List CAL := [(51, 0, 3, C_z_X11_takes_0), (55, 0, 4, C_z_X11_number_3)]
theorem sl_rl282_ok (l : Launch) (G : KG) : ∀ q ∈ sl_rl282, COK l G RX11 TM0 q := List.forall_mem_cons.mpr ⟨cok_v k_11_51 (ac_z_X11_takes_0 l G) rfl rfl rfl rfl rfl rfl, List.forall_mem_cons.mpr ⟨cok_v k_11_55 (ac_z_X11_number_3 l G) rfl rfl rfl rfl rfl rfl, fun _ h => absurd h List.not_mem_nil⟩⟩
def sk_rl282 : List CUT := []
abbrev se_rl282_326 : CUT := (326, ([(0, 0, false)], [500, 0], [(0, (2, 0, 0)), (100, (0, 0, 16)), (101, (0, 0, 5)), (102, (0, 0, 58)), (500, (0, 1, 6)), (501, (2, 8, 0)), (502, (2, 9, 0)), (503, (2, 10, 0)), (504, (2, 14, 0)), (505, (0, 2, 60)), (506, (0, 2, 60))], [(0, 3, 100), (0, 10, 101), (0, 11, 501), (0, 12, 502), (0, 13, 503), (0, 18, 504), (0, 20, 505), (0, 21, 506)], [(101, 500, -1), (102, 505, -2), (102, 506, -2), (500, 101, 1), (505, 506, 1)], 1000), 0, [(0, 0)])
def sx_rl282 : List CUT := [se_rl282_326]
abbrev ss_rl282 : AS := ([(0, 0, false)], [], [(0, (2, 0, 0)), (100, (0, 0, 16)), (101, (0, 0, 5)), (102, (0, 0, 59)), (500, (2, 8, 0)), (501, (2, 14, 0)), (502, (0, 1, 60)), (503, (0, 1, 60))], [(0, 3, 100), (0, 10, 101), (0, 11, 500), (0, 18, 501), (0, 20, 502), (0, 21, 503)], [(102, 502, -1), (102, 503, -1), (502, 503, 1)], 1000)
theorem sg_rl282 : xcheckS hk0 D_X11_readsLine 1 TM0 fld_11 put_11 cst_11 cstl_11 sl_rl282 3 sC_rl282 sk_rl282 sx_rl282 [0, 100, 101, 102] 4000 282 ss_rl282 = true := by decide +kernel
abbrev sC_rl190 : CE := C_readsLine
def sl_rl190 : List CAL := []
theorem sl_rl190_ok (l : Launch) (G : KG) : ∀ q ∈ sl_rl190, COK l G RX11 TM0 q := fun _ h => absurd h List.not_mem_nil
def sk_rl190 : List CUT := []
def sx_rl190 : List CUT := []
abbrev ss_rl190 : AS := ([(0, 0, false)], [], [(0, (2, 0, 0)), (100, (0, 0, 15)), (101, (0, 0, 6)), (102, (0, 0, 56)), (500, (0, 1, 16)), (501, (2, 2, 0)), (502, (2, 3, 0)), (503, (2, 4, 0)), (504, (2, 5, 0)), (505, (2, 6, 0)), (506, (2, 7, 0)), (507, (2, 14, 0)), (508, (0, 4, 60)), (509, (0, 4, 60)), (510, (0, 1, 1))], [(0, 3, 500), (0, 4, 501), (0, 5, 502), (0, 6, 503), (0, 7, 504), (0, 8, 505), (0, 9, 506), (0, 10, 101), (0, 18, 507), (0, 20, 508), (0, 21, 509), (0, 22, 510)], [(100, 500, -1), (102, 508, -4), (102, 509, -4), (500, 100, 1), (508, 509, 1)], 1000)
theorem sg_rl190 : xcheckS hk0 D_X11_readsLine 1 TM0 fld_11 put_11 cst_11 cstl_11 sl_rl190 3 sC_rl190 sk_rl190 sx_rl190 [0, 100, 101, 102] 4000 190 ss_rl190 = true := by decide +kernel
abbrev sC_rl329 : CE := C_readsLine
def sl_rl329 : List CAL := []
theorem sl_rl329_ok (l : Launch) (G : KG) : ∀ q ∈ sl_rl329, COK l G RX11 TM0 q := fun _ h => absurd h List.not_mem_nil
def sk_rl329 : List CUT := []
def sx_rl329 : List CUT := []
abbrev ss_rl329 : AS := ([(0, 0, false)], [], [(0, (2, 0, 0)), (100, (0, 0, 16)), (101, (0, 0, 5)), (102, (0, 0, 58)), (500, (0, 1, 6)), (501, (2, 8, 0)), (502, (2, 9, 0)), (503, (2, 10, 0)), (504, (2, 14, 0)), (505, (0, 2, 60)), (506, (0, 2, 60))], [(0, 10, 500), (0, 3, 100), (0, 11, 501), (0, 12, 502), (0, 13, 503), (0, 18, 504), (0, 20, 505), (0, 21, 506)], [(101, 500, -1), (102, 505, -2), (102, 506, -2), (500, 101, 1), (505, 506, 1)], 1000)
theorem sg_rl329 : xcheckS hk0 D_X11_readsLine 1 TM0 fld_11 put_11 cst_11 cstl_11 sl_rl329 3 sC_rl329 sk_rl329 sx_rl329 [0, 100, 101, 102] 4000 329 ss_rl329 = true := by decide +kernel
end
section
section HL2
variable {l : Launch} {G : KG} {T : List TE} {cc : ByteArray} {nL : Nat} {ret : Option FieldType} {C : CE} {y : MethodName}
def spin (C : CE) (μ : Nat → Value) : List (Nat × Value) := (List.range C.1.length).map (fun j => (j, μ j)) ++ (List.range C.2.1.length).map (fun j => (100 + j, μ (100 + j)))
theorem spin1 {μ : Nat → Value} : ∀ j, j < C.1.length → (j, μ j) ∈ spin C μ := fun j hj => List.mem_append_left _ (List.mem_map.mpr ⟨j, List.mem_range.mpr hj, rfl⟩)
theorem spin2 {μ : Nat → Value} : ∀ j, j < C.2.1.length → (100 + j, μ (100 + j)) ∈ spin C μ := fun j hj => List.mem_append_right _ (List.mem_map.mpr ⟨j, List.mem_range.mpr hj, rfl⟩)
theorem spin3 {μ : Nat → Value} : ∀ q ∈ spin C μ, q.1 ∈ apids C := by
  intro q hq
  unfold apids
  rcases List.mem_append.mp hq with hq | hq
  · obtain ⟨j, hj, rfl⟩ := List.mem_map.mp hq
    exact List.mem_append_left _ hj
  · obtain ⟨j, hj, rfl⟩ := List.mem_map.mp hq
    exact List.mem_append_right _ (List.mem_map.mpr ⟨j, hj, rfl⟩)
/-- a contract, by hand from its start -/
theorem hand_of (hy : plainName y.cls = true) (c1 : C.1.length ≤ 50) (c2 : C.2.1.length ≤ 100) (c3 : aslots C.1 ≤ nL) (c4 : ∀ t ∈ C.1, t.1 ≤ 2)
    (body : ∀ (p : Program) (e : Env) (s : State) (m : MethodId) (args : Array Value) (below : List Frame) (meth : Method) (c : Code) (A : Nat → Prop), ZC p s m args meth c cc nL y.cls G A ret y.name → ∀ (ad : Nat → Nat) (w0 : va_W) (μ : Nat → Value) (lw : List (Nat × Value)), WT G ad T w0 → PRE ad C μ w0 → AG G ad T C.2.2.2.2.1 w0 (spin C μ) (ast0 C) μ lw [] w0 → Z p l e (rmOf C) s m args below meth c nL G A (MQ below (QQ G A (fun r w1 => POST G ad T C μ w0 r w1)) args s 0 0 A) 0 lw [] w0 0 0) : ACt l G T y cc nL ret C := by
  intro ad w0 μ hW hPre
  obtain ⟨r1, r2, r3⟩ := lv0_ok (μ := μ) (ad := ad) C.1 0 0 c4 (fun k t hk => by rw [Nat.zero_add]; exact hPre.1 k t hk)
  rw [List.range_eq_range']
  refine ct_of _ hy (by rw [r3]; exact c3) rfl ?_
  intro p e s m args below meth c A X
  refine body p e s m args below meth c A X ad w0 μ _ hW hPre ⟨r1, rfl, r2, fun q hq => ?_, fun q hq => ?_, hPre.2.2, ?_, hW, rfl, fun k j _ => rfl⟩
  · rcases List.mem_append.mp hq with hq | hq
    · obtain ⟨z, hz, rfl⟩ := List.mem_map.mp hq
      exact hPre.1 z.2 z.1 (zipIdx_mem hz)
    · obtain ⟨z, hz, rfl⟩ := List.mem_map.mp hq
      exact (hPre.2.1 z.2 z.1 (zipIdx_mem hz)).1
  · obtain ⟨z, hz, rfl⟩ := List.mem_map.mp hq
    exact (hPre.2.1 z.2 z.1 (zipIdx_mem hz)).2
  · intro q hq
    rcases List.mem_append.mp hq with hq | hq
    · obtain ⟨j, hj, rfl⟩ := List.mem_map.mp hq
      have := List.mem_range.mp hj
      exact ⟨by show j < 1000; omega, rfl⟩
    · obtain ⟨j, hj, rfl⟩ := List.mem_map.mp hq
      have := List.mem_range.mp hj
      exact ⟨by show 100 + j < 1000; omega, rfl⟩
theorem AG.rebase {ad : Nat → Nat} {mk mk2 : List (Nat × Nat)} {w0 wa ws : va_W} {pin : List (Nat × Value)} {σ : AS} {ν : Nat → Value} {lw : List (Nat × Value)} {sw : List Value} (h : AG G ad T mk2 wa pin σ ν lw sw ws) (hF : FRM mk w0 wa) (hc : cov mk mk2 = true) : AG G ad T mk w0 pin σ ν lw sw ws := ⟨h.1, h.2.1, h.2.2.1, h.2.2.2.1, h.2.2.2.2.1, h.2.2.2.2.2.1, h.2.2.2.2.2.2.1, h.2.2.2.2.2.2.2.1, frm_trans hF h.2.2.2.2.2.2.2.2 hc⟩
theorem AG.rew {ad : Nat → Nat} {mk mk2 : List (Nat × Nat)} {w0 ws : va_W} {pin : List (Nat × Value)} {lv : ALv} {st st2 : List Nat} {ev : AEv} {ca : ACa} {rl : ARl} {nx : Nat} {ν : Nat → Value} {lw : List (Nat × Value)} {sw : List Value} (h : AG G ad T mk w0 pin (lv, st, ev, ca, rl, nx) ν lw sw ws) : AG G ad T mk2 ws pin (lv, st2, ev, ca, rl, nx) ν lw (st2.map ν) ws := ⟨h.1, rfl, h.2.2.1, h.2.2.2.1, h.2.2.2.2.1, h.2.2.2.2.2.1, h.2.2.2.2.2.2.1, h.2.2.2.2.2.2.2.1, rfl, fun _ _ _ => rfl⟩
theorem AG.stk {ad : Nat → Nat} {mk : List (Nat × Nat)} {w0 ws : va_W} {pin : List (Nat × Value)} {lv : ALv} {st st2 : List Nat} {ev : AEv} {ca : ACa} {rl : ARl} {nx : Nat} {ν : Nat → Value} {lw : List (Nat × Value)} {sw : List Value} (h : AG G ad T mk w0 pin (lv, st, ev, ca, rl, nx) ν lw sw ws) : AG G ad T mk w0 pin (lv, st2, ev, ca, rl, nx) ν lw (st2.map ν) ws := ⟨h.1, rfl, h.2.2⟩
end HL2
theorem d_rl_67 : decode cX11_readsLine 67 = .ok (.iaload, 1) := by decide +kernel
theorem d_rl_68 : decode cX11_readsLine 68 = .ok (.ifCond .lt 12, 3) := by decide +kernel
theorem d_rl_187 : decode cX11_readsLine 187 = .ok (.putfield 63, 3) := by decide +kernel
theorem d_rl_269 : decode cX11_readsLine 269 = .ok (.iastore, 1) := by decide +kernel
theorem d_rl_278 : decode cX11_readsLine 278 = .ok (.iaload, 1) := by decide +kernel
theorem d_rl_279 : decode cX11_readsLine 279 = .ok (.ifCond .lt 12, 3) := by decide +kernel
theorem d_rl_326 : decode cX11_readsLine 326 = .ok (.putfield 88, 3) := by decide +kernel
theorem rl_67 {p : Program} {l : Launch} {e : Env} {s : State} {m : MethodId} {args : Array Value} {below : List Frame} {meth : Method} {c : Code} {G : KG} {A : Nat → Prop} (X : ZC p s m args meth c cX11_readsLine 1 RX11 G A (some .boolean) "readsLine") {ad : Nat → Nat} {w0 : va_W} {μ : Nat → Value} {ν : Nat → Value} {lw : List (Nat × Value)} {sw : List Value} {ws : va_W} {mk0 : List (Nat × Nat)} {wA : va_W} (hg0 : AG G ad TM0 mk0 wA (spin C_readsLine μ) se_rl1_67.2.1 ν lw sw ws) (hFA : FRM C_readsLine.2.2.2.2.1 w0 wA) (hcv : cov C_readsLine.2.2.2.2.1 mk0 = true)  : Z p l e (rmOf C_readsLine) s m args below meth c 1 G A (MQ below (QQ G A (fun r w1 => POST G ad TM0 C_readsLine μ w0 r w1)) args s 0 0 A) 67 lw sw ws 0 0 := by
  have hg : AG G ad TM0 C_readsLine.2.2.2.2.1 w0 (spin C_readsLine μ) se_rl1_67.2.1 ν lw sw ws := AG.rebase hg0 hFA hcv
  have h3 := hg.2.2
  have h2 : sw = [ν 100, ν 500] := hg.2.1
  obtain ⟨o, ho⟩ := h3.int (i := 100) rfl
  have hr := h3.ref (i := 500) rfl
  have hr : ν 500 = .ref (ad 2) := hr
  obtain ⟨f, w1, w2⟩ := WT.ints (k := 2) (n := 16) h3.2.2.2.2.2.1 rfl
  have hb := h3.2.1 (100, (0, 0, 15)) (by decide)
  obtain ⟨o', e', b1, b2⟩ := vty0 hb rfl
  have e' : ν 100 = .int o' := e'
  rw [ho] at e'
  cases e'
  have b1 : 0 ≤ o.toInt := b1
  have b2 : o.toInt ≤ 15 := b2
  rw [h2, ho, hr]
  have hvin : vp_in o 16 := by
    unfold vp_in
    rintro (h | h)
    · have := Int32.lt_iff_toInt_lt.mp h
      have e0 : (0 : Int32).toInt = 0 := rfl
      omega
    · have e0 : o.toNatClampNeg = o.toInt.toNat := rfl
      omega
  refine z_iald X d_rl_67 2 w1 hvin rfl ?_
  refine zi_lt X d_rl_68 (tgt := 80) (by decide) (a := (f o.toNatClampNeg).toInt) rfl (fun hlt => ?_) (fun hge => ?_)
  · exact aseg (fld := fld_11) (put := put_11) (cst := cst_11) (cstl := cstl_11) (hk := hk0) (tab := D_X11_readsLine) (C := sC_rl80) (PO := fun r w1 => POST G ad TM0 C_readsLine μ w0 r w1) (rk := 3) (pids := [0, 100, 101, 102]) D_X11_readsLine_ok X rfl rfl hok0 (Or.inr (Or.inr (Or.inr ⟨rfl, rfl⟩))) (Nat.le_refl 0) (Nat.le_refl 0) (spin1 (C := C_readsLine)) (spin2 (C := C_readsLine)) (fun r w1 h => h) fld_11_ok put_11_ok cst_11_ok cstl_11_ok (sl_rl80_ok l G) (Nat.le_refl 0) (Nat.le_refl 0) spin3 sg_rl80 (fun d hd => absurd hd List.not_mem_nil) ν lw [] ws (AG.stk (st2 := []) hg)
  · have hF0 := h3.2.2.2.2.2.2
    refine aseg (fld := fld_11) (put := put_11) (cst := cst_11) (cstl := cstl_11) (hk := hk0) (tab := D_X11_readsLine) (C := sC_rl71) (PO := fun r w1 => POST G ad TM0 C_readsLine μ w0 r w1) (rk := 3) (pids := [0, 100, 101, 102]) D_X11_readsLine_ok X rfl rfl hok0 (Or.inr (Or.inr (Or.inr ⟨rfl, rfl⟩))) (Nat.le_refl 0) (Nat.le_refl 0) (spin1 (C := C_readsLine)) (spin2 (C := C_readsLine)) (fun r w1 h => POST.mono (C := sC_rl71) (C' := C_readsLine) h rfl hF0 (by decide)) fld_11_ok put_11_ok cst_11_ok cstl_11_ok (sl_rl71_ok l G) (Nat.le_refl 0) (Nat.le_refl 0) spin3 sg_rl71 (fun d hd ν2 lw2 sw2 ws2 hg2 => ?_) ν lw [] ws (AG.rew (st2 := []) hg)
    rw [List.mem_singleton.mp hd] at hg2 ⊢
    have hF2 := hg2.2.2.2.2.2.2.2.2
    have hg3 : AG G ad TM0 C_readsLine.2.2.2.2.1 w0 (spin C_readsLine μ) se_rl71_187.2.1 ν2 lw2 sw2 ws2 := AG.rebase hg2 hF0 (by decide)
    have k3 := hg3.2.2
    have hp1 := (k3.2.2.2.2.1 (100, μ 100) (spin2 (C := C_readsLine) 0 (by decide))).2
    have hp0 := (h3.2.2.2.2.1 (100, μ 100) (spin2 (C := C_readsLine) 0 (by decide))).2
    have hp1 : ν2 100 = μ 100 := hp1
    have hp0 : ν 100 = μ 100 := hp0
    rw [← hp0, ho] at hp1
    obtain ⟨x, hx⟩ := k3.int (i := 500) rfl
    have hca := k3.2.2.1 (0, 3, 100) (by decide)
    have hca : fget ws2 0 3 = some (ν2 100) := hca
    rw [hp1] at hca
    have hxl : vI (ν2 500) ≤ vI (ν2 100) + 1 := k3.dl (a := 500) (b := 100) (c := 1) (by decide)
    rw [hx, hp1] at hxl
    have hxl : x.toInt ≤ o.toInt + 1 := hxl
    have hxt := k3.2.1 (500, (0, 1, 16)) (by decide)
    have hxt : vty ad (0, 1, 16) (ν2 500) := hxt
    obtain ⟨b, hb2⟩ := hF2.arr (k := 2) (by decide) w1
    have hba := WT.adr (T := TM0) (k := 2) k3.2.2.2.2.2.1 rfl hb2
    subst hba
    obtain ⟨fs, q1, q2, q3, q4⟩ := AG.put hg3 (r := 0) (x := 500) (j := 3) rfl rfl rfl (by decide) (fun fs hfs => by
      have hfo : fs[3]? = some (.int o) := by
        have : fget ws2 0 3 = fs[3]? := fget_of hfs
        rw [← this]; exact hca
      rw [hx]
      refine WT.inc (T := TM0) k3.2.2.2.2.2.1 (k := 0) (j := 3) (ka := 2) (n := 16) (f := f) rfl rfl hfs ?_ hfo hxl rfl hb2 (by decide) ?_ (by decide) b1
      · rw [hx] at hxt
        obtain ⟨x', e9, u1, u2⟩ := vty0 hxt rfl
        cases e9
        have u1 : 1 ≤ x.toInt := u1
        have u2 : x.toInt ≤ 16 := u2
        exact vty_i (by omega) (by omega)
      · exact hge)
    have q3 : sw2 = [ν2 500, .ref (ad 0)] := q3
    rw [q3]
    have hxt2 : vty ad (0, 0, 16) (ν2 500) := by
      rw [hx] at hxt ⊢
      obtain ⟨x', e9, u1, u2⟩ := vty0 hxt rfl
      cases e9
      have u1 : 1 ≤ x.toInt := u1
      exact vty_i (by omega) u2
    refine put_row X (put_11_ok (63, 11, 3, 0) (by decide)) (t := (0, 0, 16)) (by decide) d_rl_187 q1 q2 hxt2 ?_
    exact aseg (fld := fld_11) (put := put_11) (cst := cst_11) (cstl := cstl_11) (hk := hk0) (tab := D_X11_readsLine) (C := sC_rl190) (PO := fun r w1 => POST G ad TM0 C_readsLine μ w0 r w1) (rk := 3) (pids := [0, 100, 101, 102]) D_X11_readsLine_ok X rfl rfl hok0 (Or.inr (Or.inr (Or.inr ⟨rfl, rfl⟩))) (Nat.le_refl 0) (Nat.le_refl 0) (spin1 (C := C_readsLine)) (spin2 (C := C_readsLine)) (fun r w1 h => h) fld_11_ok put_11_ok cst_11_ok cstl_11_ok (sl_rl190_ok l G) (Nat.le_refl 0) (Nat.le_refl 0) spin3 sg_rl190 (fun d hd => absurd hd List.not_mem_nil) ν2 lw2 [] _ q4
theorem rl_278 {p : Program} {l : Launch} {e : Env} {s : State} {m : MethodId} {args : Array Value} {below : List Frame} {meth : Method} {c : Code} {G : KG} {A : Nat → Prop} (X : ZC p s m args meth c cX11_readsLine 1 RX11 G A (some .boolean) "readsLine") {ad : Nat → Nat} {w0 : va_W} {μ : Nat → Value} {ν : Nat → Value} {lw : List (Nat × Value)} {sw : List Value} {ws : va_W} {mk0 : List (Nat × Nat)} {wA : va_W} (hg0 : AG G ad TM0 mk0 wA (spin C_readsLine μ) se_rl270_278.2.1 ν lw sw ws) (hFA : FRM C_readsLine.2.2.2.2.1 w0 wA) (hcv : cov C_readsLine.2.2.2.2.1 mk0 = true) {f1 : Nat → Int32} (hKm : mkq mk0 8 0 = false) (hKw : wA[8]? = some (ad 8, aI G 6 f1)) (hK : ∀ o : Int32, μ 101 = .int o → (f1 o.toNatClampNeg).toInt = -1 ∨ 1 ≤ (f1 o.toNatClampNeg).toInt) : Z p l e (rmOf C_readsLine) s m args below meth c 1 G A (MQ below (QQ G A (fun r w1 => POST G ad TM0 C_readsLine μ w0 r w1)) args s 0 0 A) 278 lw sw ws 0 0 := by
  have hg : AG G ad TM0 C_readsLine.2.2.2.2.1 w0 (spin C_readsLine μ) se_rl270_278.2.1 ν lw sw ws := AG.rebase hg0 hFA hcv
  have h3 := hg.2.2
  have h2 : sw = [ν 101, ν 500] := hg.2.1
  obtain ⟨o, ho⟩ := h3.int (i := 101) rfl
  have hr := h3.ref (i := 500) rfl
  have hr : ν 500 = .ref (ad 8) := hr
  obtain ⟨f, w1, w2⟩ := WT.ints (k := 8) (n := 6) h3.2.2.2.2.2.1 rfl
  have hb := h3.2.1 (101, (0, 0, 5)) (by decide)
  obtain ⟨o', e', b1, b2⟩ := vty0 hb rfl
  have e' : ν 101 = .int o' := e'
  rw [ho] at e'
  cases e'
  have b1 : 0 ≤ o.toInt := b1
  have b2 : o.toInt ≤ 5 := b2
  rw [h2, ho, hr]
  have hvin : vp_in o 6 := by
    unfold vp_in
    rintro (h | h)
    · have := Int32.lt_iff_toInt_lt.mp h
      have e0 : (0 : Int32).toInt = 0 := rfl
      omega
    · have e0 : o.toNatClampNeg = o.toInt.toNat := rfl
      omega
  refine z_iald X d_rl_278 8 w1 hvin rfl ?_
  refine zi_lt X d_rl_279 (tgt := 291) (by decide) (a := (f o.toNatClampNeg).toInt) rfl (fun hlt => ?_) (fun hge => ?_)
  · exact aseg (fld := fld_11) (put := put_11) (cst := cst_11) (cstl := cstl_11) (hk := hk0) (tab := D_X11_readsLine) (C := sC_rl291) (PO := fun r w1 => POST G ad TM0 C_readsLine μ w0 r w1) (rk := 3) (pids := [0, 100, 101, 102]) D_X11_readsLine_ok X rfl rfl hok0 (Or.inr (Or.inr (Or.inr ⟨rfl, rfl⟩))) (Nat.le_refl 0) (Nat.le_refl 0) (spin1 (C := C_readsLine)) (spin2 (C := C_readsLine)) (fun r w1 h => h) fld_11_ok put_11_ok cst_11_ok cstl_11_ok (sl_rl291_ok l G) (Nat.le_refl 0) (Nat.le_refl 0) spin3 sg_rl291 (fun d hd => absurd hd List.not_mem_nil) ν lw [] ws (AG.stk (st2 := []) hg)
  · have hF0 := h3.2.2.2.2.2.2
    refine aseg (fld := fld_11) (put := put_11) (cst := cst_11) (cstl := cstl_11) (hk := hk0) (tab := D_X11_readsLine) (C := sC_rl282) (PO := fun r w1 => POST G ad TM0 C_readsLine μ w0 r w1) (rk := 3) (pids := [0, 100, 101, 102]) D_X11_readsLine_ok X rfl rfl hok0 (Or.inr (Or.inr (Or.inr ⟨rfl, rfl⟩))) (Nat.le_refl 0) (Nat.le_refl 0) (spin1 (C := C_readsLine)) (spin2 (C := C_readsLine)) (fun r w1 h => POST.mono (C := sC_rl282) (C' := C_readsLine) h rfl hF0 (by decide)) fld_11_ok put_11_ok cst_11_ok cstl_11_ok (sl_rl282_ok l G) (Nat.le_refl 0) (Nat.le_refl 0) spin3 sg_rl282 (fun d hd ν2 lw2 sw2 ws2 hg2 => ?_) ν lw [] ws (AG.rew (st2 := []) hg)
    rw [List.mem_singleton.mp hd] at hg2 ⊢
    have hF2 := hg2.2.2.2.2.2.2.2.2
    have hg3 : AG G ad TM0 C_readsLine.2.2.2.2.1 w0 (spin C_readsLine μ) se_rl282_326.2.1 ν2 lw2 sw2 ws2 := AG.rebase hg2 hF0 (by decide)
    have k3 := hg3.2.2
    have hp1 := (k3.2.2.2.2.1 (101, μ 101) (spin2 (C := C_readsLine) 1 (by decide))).2
    have hp0 := (h3.2.2.2.2.1 (101, μ 101) (spin2 (C := C_readsLine) 1 (by decide))).2
    have hp1 : ν2 101 = μ 101 := hp1
    have hp0 : ν 101 = μ 101 := hp0
    rw [← hp0, ho] at hp1
    obtain ⟨x, hx⟩ := k3.int (i := 500) rfl
    have hca := k3.2.2.1 (0, 10, 101) (by decide)
    have hca : fget ws2 0 10 = some (ν2 101) := hca
    rw [hp1] at hca
    have hxl : vI (ν2 500) ≤ vI (ν2 101) + 1 := k3.dl (a := 500) (b := 101) (c := 1) (by decide)
    rw [hx, hp1] at hxl
    have hxl : x.toInt ≤ o.toInt + 1 := hxl
    have hxt := k3.2.1 (500, (0, 1, 6)) (by decide)
    have hxt : vty ad (0, 1, 6) (ν2 500) := hxt
    obtain ⟨b, hb2⟩ := hF2.arr (k := 8) (by decide) w1
    have hba := WT.adr (T := TM0) (k := 8) k3.2.2.2.2.2.1 rfl hb2
    subst hba
    obtain ⟨fs, q1, q2, q3, q4⟩ := AG.put hg3 (r := 0) (x := 500) (j := 10) rfl rfl rfl (by decide) (fun fs hfs => by
      have hfo : fs[10]? = some (.int o) := by
        have : fget ws2 0 10 = fs[10]? := fget_of hfs
        rw [← this]; exact hca
      rw [hx]
      refine WT.inc (T := TM0) k3.2.2.2.2.2.1 (k := 0) (j := 10) (ka := 8) (n := 6) (f := f) rfl rfl hfs ?_ hfo hxl rfl hb2 (by decide) ?_ (by decide) b1
      · rw [hx] at hxt
        obtain ⟨x', e9, u1, u2⟩ := vty0 hxt rfl
        cases e9
        have u1 : 1 ≤ x.toInt := u1
        have u2 : x.toInt ≤ 6 := u2
        exact vty_i (by omega) (by omega)
      · have ef : f1 = f := by
          obtain ⟨b7, hb7⟩ := (hg0.2.2.2.2.2.2.2.2).arr (k := 8) hKm hKw
          rw [w1] at hb7
          exact (Sum.inl.inj (congrArg (fun z : ClassId × vp_A => z.2.2) (Sum.inl.inj (congrArg Prod.snd (Option.some.inj hb7))))).symm
        have hgo := hK o (by rw [← hp0, ho])
        rw [ef] at hgo
        have hge : 0 ≤ (f o.toNatClampNeg).toInt := hge
        show (1 : Int) ≤ (f o.toNatClampNeg).toInt
        omega)
    have q3 : sw2 = [ν2 500, .ref (ad 0)] := q3
    rw [q3]
    have hxt2 : vty ad (0, 0, 6) (ν2 500) := by
      rw [hx] at hxt ⊢
      obtain ⟨x', e9, u1, u2⟩ := vty0 hxt rfl
      cases e9
      have u1 : 1 ≤ x.toInt := u1
      exact vty_i (by omega) u2
    refine put_row X (put_11_ok (88, 11, 10, 0) (by decide)) (t := (0, 0, 6)) (by decide) d_rl_326 q1 q2 hxt2 ?_
    exact aseg (fld := fld_11) (put := put_11) (cst := cst_11) (cstl := cstl_11) (hk := hk0) (tab := D_X11_readsLine) (C := sC_rl329) (PO := fun r w1 => POST G ad TM0 C_readsLine μ w0 r w1) (rk := 3) (pids := [0, 100, 101, 102]) D_X11_readsLine_ok X rfl rfl hok0 (Or.inr (Or.inr (Or.inr ⟨rfl, rfl⟩))) (Nat.le_refl 0) (Nat.le_refl 0) (spin1 (C := C_readsLine)) (spin2 (C := C_readsLine)) (fun r w1 h => h) fld_11_ok put_11_ok cst_11_ok cstl_11_ok (sl_rl329_ok l G) (Nat.le_refl 0) (Nat.le_refl 0) spin3 sg_rl329 (fun d hd => absurd hd List.not_mem_nil) ν2 lw2 [] _ q4
theorem rl_269 {p : Program} {l : Launch} {e : Env} {s : State} {m : MethodId} {args : Array Value} {below : List Frame} {meth : Method} {c : Code} {G : KG} {A : Nat → Prop} (X : ZC p s m args meth c cX11_readsLine 1 RX11 G A (some .boolean) "readsLine") {ad : Nat → Nat} {w0 : va_W} {μ : Nat → Value} {ν : Nat → Value} {lw : List (Nat × Value)} {sw : List Value} {ws : va_W} (hg : AG G ad TM0 C_readsLine.2.2.2.2.1 w0 (spin C_readsLine μ) se_rl1_269.2.1 ν lw sw ws) : Z p l e (rmOf C_readsLine) s m args below meth c 1 G A (MQ below (QQ G A (fun r w1 => POST G ad TM0 C_readsLine μ w0 r w1)) args s 0 0 A) 269 lw sw ws 0 0 := by
  have h3 := hg.2.2
  have h2 : sw = [ν 500, ν 101, ν 501] := hg.2.1
  obtain ⟨o, ho⟩ := h3.int (i := 101) rfl
  have hr := h3.ref (i := 501) rfl
  have hr : ν 501 = .ref (ad 8) := hr
  obtain ⟨f, w1, w2⟩ := WT.ints (k := 8) (n := 6) h3.2.2.2.2.2.1 rfl
  have hb := h3.2.1 (101, (0, 0, 5)) (by decide)
  obtain ⟨o', e', b1, b2⟩ := vty0 hb rfl
  have e' : ν 101 = .int o' := e'
  rw [ho] at e'
  cases e'
  have b1 : 0 ≤ o.toInt := b1
  have b2 : o.toInt ≤ 5 := b2
  have hv := h3.2.1 (500, (0, -1, -1)) (by decide)
  obtain ⟨v, ev, v1, v2⟩ := vty0 hv rfl
  have ev : ν 500 = .int v := ev
  have v1 : -1 ≤ v.toInt := v1
  have v2 : v.toInt ≤ -1 := v2
  rw [h2, ho, hr, ev]
  have hvin : vp_in o 6 := by
    unfold vp_in
    rintro (h | h)
    · have := Int32.lt_iff_toInt_lt.mp h
      have e0 : (0 : Int32).toInt = 0 := rfl
      omega
    · have e0 : o.toNatClampNeg = o.toInt.toNat := rfl
      omega
  have hca := h3.2.2.1 (0, 10, 101) (by decide)
  have hca : fget ws 0 10 = some (ν 101) := hca
  rw [ho] at hca
  have g3 := h3.setA (k := 8) (te := .inr (0, 6, (43, -1, 9))) (y := (cyI G, 6, .inl (upd f o.toNatClampNeg v))) rfl w1 (Or.inl ⟨rfl, _, rfl, aint_upd w2 (by show (-1 : Int) ≤ _; omega) (by show _ ≤ (9 : Int); omega) (fun e => by cases e)⟩) (fun n' t' e' g2 f' c i g3 g4 g5 => by
    cases e'
    cases g3
    have g4 : fget ws 0 10 = some (.int c) := g4
    rw [hca] at g4
    cases g4
    refine Or.inl ⟨by decide, fun hi => ?_⟩
    unfold upd
    split
    · rename_i e0
      have e0 : i = o.toInt.toNat := e0
      omega
    · rcases h3.2.2.2.2.2.1.2.2 8 6 _ _ f o i rfl (by decide) w1 hca g5 with ⟨_, hp⟩ | ⟨hp, _⟩
      · exact hp hi
      · exact absurd hp (by decide)) (by decide)
  refine z_iast X d_rl_269 8 w1 hvin rfl ?_
  have g4 : AG G ad TM0 C_readsLine.2.2.2.2.1 w0 (spin C_readsLine μ) (se_rl1_269.2.1.1, [], se_rl1_269.2.1.2.2) ν lw [] (ws.set 8 (ad 8, aI G 6 (upd f o.toNatClampNeg v))) := ⟨hg.1, rfl, g3⟩
  have hF1 := g4.2.2.2.2.2.2.2.2
  have g5 : AG G ad TM0 sC_rl270.2.2.2.2.1 (ws.set 8 (ad 8, aI G 6 (upd f o.toNatClampNeg v))) (spin C_readsLine μ) (se_rl1_269.2.1.1, [], se_rl1_269.2.1.2.2) ν lw [] (ws.set 8 (ad 8, aI G 6 (upd f o.toNatClampNeg v))) := AG.rew (st2 := []) g4
  obtain ⟨ν', lw', q1, q2, -, -⟩ := aarr_ok (d := (270, ss_rl270, 0, [(0, 0)])) (pids := [0, 100, 101, 102]) (sr := none) g5 spin3 (by decide +kernel) (by decide)
  refine Z.mono q2 ?_
  refine aseg (fld := fld_11) (put := put_11) (cst := cst_11) (cstl := cstl_11) (hk := hk0) (tab := D_X11_readsLine) (C := sC_rl270) (PO := fun r w1 => POST G ad TM0 C_readsLine μ w0 r w1) (rk := 3) (pids := [0, 100, 101, 102]) D_X11_readsLine_ok X rfl rfl hok0 (Or.inr (Or.inr (Or.inr ⟨rfl, rfl⟩))) (Nat.le_refl 0) (Nat.le_refl 0) (spin1 (C := C_readsLine)) (spin2 (C := C_readsLine)) (fun r w1 h => POST.mono (C := sC_rl270) (C' := C_readsLine) h rfl hF1 (by decide)) fld_11_ok put_11_ok cst_11_ok cstl_11_ok (sl_rl270_ok l G) (Nat.le_refl 0) (Nat.le_refl 0) spin3 sg_rl270 (fun d hd ν2 lw2 sw2 ws2 hg2 => ?_) ν' lw' [] _ q1
  rw [List.mem_singleton.mp hd] at hg2 ⊢
  refine rl_278 X (f1 := upd f o.toNatClampNeg v) hg2 hF1 (by decide) (by decide) (set_same w1) (fun o2 ho2 => ?_)
  have hp0 := (h3.2.2.2.2.1 (101, μ 101) (spin2 (C := C_readsLine) 1 (by decide))).2
  have hp0 : ν 101 = μ 101 := hp0
  rw [← hp0, ho] at ho2
  cases ho2
  unfold upd
  rw [if_pos rfl]
  omega
theorem rl_269_1 {p : Program} {l : Launch} {e : Env} {s : State} {m : MethodId} {args : Array Value} {below : List Frame} {meth : Method} {c : Code} {G : KG} {A : Nat → Prop} (X : ZC p s m args meth c cX11_readsLine 1 RX11 G A (some .boolean) "readsLine") {ad : Nat → Nat} {w0 : va_W} {μ : Nat → Value} {ν : Nat → Value} {lw : List (Nat × Value)} {sw : List Value} {ws : va_W} (hg : AG G ad TM0 C_readsLine.2.2.2.2.1 w0 (spin C_readsLine μ) se_rl1_269_1.2.1 ν lw sw ws) : Z p l e (rmOf C_readsLine) s m args below meth c 1 G A (MQ below (QQ G A (fun r w1 => POST G ad TM0 C_readsLine μ w0 r w1)) args s 0 0 A) 269 lw sw ws 0 0 := by
  have h3 := hg.2.2
  have h2 : sw = [ν 500, ν 101, ν 501] := hg.2.1
  obtain ⟨o, ho⟩ := h3.int (i := 101) rfl
  have hr := h3.ref (i := 501) rfl
  have hr : ν 501 = .ref (ad 8) := hr
  obtain ⟨f, w1, w2⟩ := WT.ints (k := 8) (n := 6) h3.2.2.2.2.2.1 rfl
  have hb := h3.2.1 (101, (0, 0, 5)) (by decide)
  obtain ⟨o', e', b1, b2⟩ := vty0 hb rfl
  have e' : ν 101 = .int o' := e'
  rw [ho] at e'
  cases e'
  have b1 : 0 ≤ o.toInt := b1
  have b2 : o.toInt ≤ 5 := b2
  have hv := h3.2.1 (500, (0, 1, 9)) (by decide)
  obtain ⟨v, ev, v1, v2⟩ := vty0 hv rfl
  have ev : ν 500 = .int v := ev
  have v1 : 1 ≤ v.toInt := v1
  have v2 : v.toInt ≤ 9 := v2
  rw [h2, ho, hr, ev]
  have hvin : vp_in o 6 := by
    unfold vp_in
    rintro (h | h)
    · have := Int32.lt_iff_toInt_lt.mp h
      have e0 : (0 : Int32).toInt = 0 := rfl
      omega
    · have e0 : o.toNatClampNeg = o.toInt.toNat := rfl
      omega
  have hca := h3.2.2.1 (0, 10, 101) (by decide)
  have hca : fget ws 0 10 = some (ν 101) := hca
  rw [ho] at hca
  have g3 := h3.setA (k := 8) (te := .inr (0, 6, (43, -1, 9))) (y := (cyI G, 6, .inl (upd f o.toNatClampNeg v))) rfl w1 (Or.inl ⟨rfl, _, rfl, aint_upd w2 (by show (-1 : Int) ≤ _; omega) (by show _ ≤ (9 : Int); omega) (fun e => by cases e)⟩) (fun n' t' e' g2 f' c i g3 g4 g5 => by
    cases e'
    cases g3
    have g4 : fget ws 0 10 = some (.int c) := g4
    rw [hca] at g4
    cases g4
    refine Or.inl ⟨by decide, fun hi => ?_⟩
    unfold upd
    split
    · rename_i e0
      have e0 : i = o.toInt.toNat := e0
      omega
    · rcases h3.2.2.2.2.2.1.2.2 8 6 _ _ f o i rfl (by decide) w1 hca g5 with ⟨_, hp⟩ | ⟨hp, _⟩
      · exact hp hi
      · exact absurd hp (by decide)) (by decide)
  refine z_iast X d_rl_269 8 w1 hvin rfl ?_
  have g4 : AG G ad TM0 C_readsLine.2.2.2.2.1 w0 (spin C_readsLine μ) (se_rl1_269_1.2.1.1, [], se_rl1_269_1.2.1.2.2) ν lw [] (ws.set 8 (ad 8, aI G 6 (upd f o.toNatClampNeg v))) := ⟨hg.1, rfl, g3⟩
  have hF1 := g4.2.2.2.2.2.2.2.2
  have g5 : AG G ad TM0 sC_rl270.2.2.2.2.1 (ws.set 8 (ad 8, aI G 6 (upd f o.toNatClampNeg v))) (spin C_readsLine μ) (se_rl1_269_1.2.1.1, [], se_rl1_269_1.2.1.2.2) ν lw [] (ws.set 8 (ad 8, aI G 6 (upd f o.toNatClampNeg v))) := AG.rew (st2 := []) g4
  obtain ⟨ν', lw', q1, q2, -, -⟩ := aarr_ok (d := (270, ss_rl270, 0, [(0, 0)])) (pids := [0, 100, 101, 102]) (sr := none) g5 spin3 (by decide +kernel) (by decide)
  refine Z.mono q2 ?_
  refine aseg (fld := fld_11) (put := put_11) (cst := cst_11) (cstl := cstl_11) (hk := hk0) (tab := D_X11_readsLine) (C := sC_rl270) (PO := fun r w1 => POST G ad TM0 C_readsLine μ w0 r w1) (rk := 3) (pids := [0, 100, 101, 102]) D_X11_readsLine_ok X rfl rfl hok0 (Or.inr (Or.inr (Or.inr ⟨rfl, rfl⟩))) (Nat.le_refl 0) (Nat.le_refl 0) (spin1 (C := C_readsLine)) (spin2 (C := C_readsLine)) (fun r w1 h => POST.mono (C := sC_rl270) (C' := C_readsLine) h rfl hF1 (by decide)) fld_11_ok put_11_ok cst_11_ok cstl_11_ok (sl_rl270_ok l G) (Nat.le_refl 0) (Nat.le_refl 0) spin3 sg_rl270 (fun d hd ν2 lw2 sw2 ws2 hg2 => ?_) ν' lw' [] _ q1
  rw [List.mem_singleton.mp hd] at hg2 ⊢
  refine rl_278 X (f1 := upd f o.toNatClampNeg v) hg2 hF1 (by decide) (by decide) (set_same w1) (fun o2 ho2 => ?_)
  have hp0 := (h3.2.2.2.2.1 (101, μ 101) (spin2 (C := C_readsLine) 1 (by decide))).2
  have hp0 : ν 101 = μ 101 := hp0
  rw [← hp0, ho] at ho2
  cases ho2
  unfold upd
  rw [if_pos rfl]
  omega
theorem ac_readsLine (l : Launch) (G : KG) : ACt l G TM0 yX11_readsLine cX11_readsLine 1 (some .boolean) C_readsLine := by
  refine hand_of (by decide) (by decide) (by decide) (by decide) (by decide) ?_
  intro p e s m args below meth c A X ad w0 μ lw hW hPre hg
  refine aseg (fld := fld_11) (put := put_11) (cst := cst_11) (cstl := cstl_11) (hk := hk0) (tab := D_X11_readsLine) (C := sC_rl1) (PO := fun r w1 => POST G ad TM0 C_readsLine μ w0 r w1) (rk := 3) (pids := [0, 100, 101, 102]) D_X11_readsLine_ok X rfl rfl hok0 (Or.inr (Or.inr (Or.inr ⟨rfl, rfl⟩))) (Nat.le_refl 0) (Nat.le_refl 0) (spin1 (C := C_readsLine)) (spin2 (C := C_readsLine)) (fun r w1 h => h) fld_11_ok put_11_ok cst_11_ok cstl_11_ok (sl_rl1_ok l G) (Nat.le_refl 0) (Nat.le_refl 0) spin3 sg_rl1 (fun d hd ν2 lw2 sw2 ws2 hg2 => ?_) μ lw [] w0 hg
  rcases List.mem_cons.mp hd with e1 | hd
  · rw [e1] at hg2 ⊢
    exact rl_67 X hg2 (w0 := w0) ⟨rfl, fun _ _ _ => rfl⟩ (by decide)
  rcases List.mem_cons.mp hd with e1 | hd
  · rw [e1] at hg2 ⊢
    exact rl_269 X hg2
  · rw [List.mem_singleton.mp hd] at hg2 ⊢
    exact rl_269_1 X hg2
end
section
def D_X11_mill : DT := [(0, .aload_n 0, 1), (1, .iconst 0, 1), (2, .putfield 3, 3), (5, .aload_n 0, 1), (6, .getfield 22, 3), (9, .istore_n 1, 1), (10, .aload_n 0, 1), (11, .getfield 63, 3), (14, .istore_n 2, 1), (15, .aload_n 0, 1), (16, .getfield 88, 3), (19, .istore_n 3, 1), (20, .aload_n 0, 1), (21, .getfield 101, 3), (24, .istore 4, 2), (26, .aload_n 0, 1), (27, .iconst 0, 1), (28, .putfield 22, 3), (31, .aload_n 0, 1), (32, .iconst 0, 1), (33, .putfield 33, 3), (36, .aload_n 0, 1), (37, .iload_n 1, 1), (38, .bipush 60, 2), (40, .invokestatic 107, 3), (43, .putfield 36, 3), (46, .iconst 0, 1), (47, .istore 5, 2), (49, .iconst 1, 1), (50, .istore 6, 2), (52, .iload_n 1, 1), (53, .ifCond .le 7, 3), (56, .iconst 1, 1), (57, .goto 4, 3), (60, .iconst 0, 1), (61, .istore 7, 2), (63, .iload 7, 2), (65, .ifCond .eq 36, 3), (68, .aload_n 0, 1), (69, .invokevirtual 112, 3), (72, .istore 6, 2), (74, .iinc 5 1, 3), (77, .iload 6, 2), (79, .ifCond .eq 16, 3), (82, .aload_n 0, 1), (83, .bipush 59, 2), (85, .invokevirtual 51, 3), (88, .ifCond .eq 7, 3), (91, .iconst 1, 1), (92, .goto 4, 3), (95, .iconst 0, 1), (96, .istore 7, 2), (98, .goto (-35), 3), (101, .iload 6, 2), (103, .ifCond .eq 18, 3), (106, .aload_n 0, 1), (107, .getfield 33, 3), (110, .aload_n 0, 1), (111, .getfield 36, 3), (114, .if_icmp .ne 7, 3), (117, .iconst 1, 1), (118, .goto 4, 3), (121, .iconst 0, 1), (122, .istore 8, 2), (124, .iload 8, 2), (126, .ifCond .eq 7, 3), (129, .iconst 0, 1), (130, .goto 9, 3), (133, .iconst (-1), 1), (134, .aload_n 0, 1), (135, .getfield 33, 3), (138, .isub, 1), (139, .istore 9, 2), (141, .iload_n 1, 1), (142, .bipush 60, 2), (144, .if_icmp .le 21, 3), (147, .iload 8, 2), (149, .ifCond .ne 12, 3), (152, .aload_n 0, 1), (153, .getfield 33, 3), (156, .bipush 60, 2), (158, .if_icmp .lt 7, 3), (161, .bipush (-61), 2), (163, .istore 9, 2), (165, .iload 9, 2), (167, .ifCond .ge 22, 3), (170, .aload_n 0, 1), (171, .iload_n 2, 1), (172, .putfield 63, 3), (175, .aload_n 0, 1), (176, .iload_n 3, 1), (177, .putfield 88, 3), (180, .aload_n 0, 1), (181, .iload 4, 2), (183, .putfield 101, 3), (186, .iload 9, 2), (188, .ireturn, 1), (189, .iload 5, 2), (191, .ireturn, 1)]
theorem D_X11_mill_ok : dtOK cX11_mill D_X11_mill = true := by decide +kernel
abbrev C_z_X11_mill_0 : CE := ([(2, 0, 0)], [(0, 3, (0, 0, 16)), (0, 10, (0, 0, 6))], [], [(some (0, -2147483648, 2147483647), [], [(0, 0, (0, 0, 0)), (0, 3, (0, 0, 16)), (0, 10, (0, 0, 6)), (0, 19, (0, 0, 0))], [(100, 201, 0), (101, 202, 0)])], [(0, 0), (0, 3), (0, 10), (0, 16), (0, 19), (0, 20), (0, 21), (0, 22), (2, 999), (3, 999), (4, 999), (5, 999), (6, 999), (7, 999), (8, 999), (9, 999), (10, 999), (13, 999)], 5, 110)
theorem ac_z_X11_mill_0 (l : Launch) (G : KG) : ACt l G TM0 yX11_mill cX11_mill 10 (some .int) C_z_X11_mill_0 := acert (tab := D_X11_mill) (fld := fld_11) (put := put_11) (cst := cst_11) (cstl := cstl_11) (cal := [(107, 1, 2, C_mmin), (112, 0, 1, C_readsLine), (51, 0, 3, C_z_X11_takes_0)]) (rk := 1) (cuts := [(63, ([(0, 0, false), (1, 500, false), (2, 100, false), (3, 101, false), (4, 501, false), (5, 502, false), (6, 503, false), (7, 504, false)], [], [(0, (2, 0, 0)), (100, (0, 0, 16)), (101, (0, 0, 6)), (500, (0, 0, 80)), (501, (0, 0, 8)), (502, (0, -2147483648, 2147483647)), (503, (0, 0, 1)), (504, (0, 0, 1)), (505, (0, 0, 0)), (506, (0, 0, 16)), (507, (0, 0, 6)), (508, (0, 0, 0)), (509, (0, 0, 60)), (510, (0, 0, 60))], [(0, 0, 505), (0, 3, 506), (0, 10, 507), (0, 19, 508), (0, 20, 509), (0, 21, 510)], [(100, 506, 0), (101, 507, 0), (100, 506, 0), (101, 507, 0), (504, 500, 0), (504, 510, 0), (504, 503, 0)], 1000), 61, [(1, 509), (-1, 504)])]) (fuel := 4000) (by decide) (Or.inr (Or.inl ⟨rfl, rfl⟩)) fld_11_ok put_11_ok cst_11_ok cstl_11_ok (List.forall_mem_cons.mpr ⟨cok_m (row_mmin k_11_107.1 k_11_107.2.1 k_11_107.2.2.1 k_11_107.2.2.2.1), List.forall_mem_cons.mpr ⟨cok_v k_11_112 (ac_readsLine l G) rfl rfl rfl rfl rfl rfl, List.forall_mem_cons.mpr ⟨cok_v k_11_51 (ac_z_X11_takes_0 l G) rfl rfl rfl rfl rfl rfl, fun _ h => absurd h List.not_mem_nil⟩⟩⟩) D_X11_mill_ok (by decide +kernel)
end
section
section HL3
variable {p : Program} {l : Launch} {e : Env} {R : Room} {s : State} {m : MethodId} {args : Array Value} {below : List Frame} {meth : Method} {c : Code} {nL : Nat} {G : KG} {A : Nat → Prop} {Q : State → Prop} {cc : ByteArray} {own : String} {ret : Option FieldType} {nm : String} {kc ks : Nat}
variable {ad : Nat → Nat} {T : List TE} {mk : List (Nat × Nat)} {w0 : va_W} {pin : List (Nat × Value)}
variable {lv : ALv} {st : List Nat} {ev : AEv} {ca : ACa} {rl : ARl} {nx pc : Nat} {ν : Nat → Value} {ws : va_W} {lw : List (Nat × Value)} {sw : List Value}
/-- a name that a state doesn't use -/
def nfree (n : Nat) (lv : ALv) (st : List Nat) (ev : AEv) (ca : ACa) (rl : ARl) : Bool := lv.all (fun q => !Nat.beq q.2.1 n) && (st.all (fun i => !Nat.beq i n) && (ev.all (fun q => !Nat.beq q.1 n) && (ca.all (fun q => !Nat.beq q.2.2 n) && rl.all (fun q => !Nat.beq q.1 n && !Nat.beq q.2.1 n))))
theorem nbq {a b : Nat} (h : (!Nat.beq a b) = true) : a ≠ b := by
  intro e
  rw [e, Nat.beq_refl] at h
  cases h
/-- a value gets a name of its own: pushed, pinned -/
theorem AG.pushN {n : Nat} {t : VT} {v : Value} (h : AG G ad T mk w0 pin (lv, st, ev, ca, rl, nx) ν lw sw ws) (hn : nfree n lv st ev ca rl = true) (h9 : n < 1000) (hp : ∀ q ∈ pin, q.1 ≠ n) (hv : vty ad t v) : AG G ad T mk w0 ((n, v) :: pin) (lv, n :: st, (n, t) :: ev, ca, rl, nx) (nup ν n v) lw (v :: sw) ws := by
  unfold nfree at hn
  obtain ⟨n1, hn⟩ := and2 hn
  obtain ⟨n2, hn⟩ := and2 hn
  obtain ⟨n3, hn⟩ := and2 hn
  obtain ⟨n4, n5⟩ := and2 hn
  have e1 : ∀ i, i ≠ n → nup ν n v i = ν i := fun i hi => if_neg hi
  obtain ⟨h1, h2, h3⟩ := h
  have m1 : ∀ q ∈ lv, nup ν n v q.2.1 = ν q.2.1 := fun q hq => e1 _ (nbq (List.all_eq_true.mp n1 q hq))
  have m2 : ∀ i ∈ st, nup ν n v i = ν i := fun q hq => e1 _ (nbq (List.all_eq_true.mp n2 q hq))
  refine ⟨?_, ?_, fun q hq => ?_, fun q hq => ?_, fun q hq => ?_, fun q hq => ?_, fun q hq => ?_, h3.2.2.2.2.2.1, h3.2.2.2.2.2.2⟩
  · rw [h1]
    exact (List.map_congr_left (fun q hq => by rw [m1 q hq])).symm
  · show v :: sw = nup ν n v n :: st.map (nup ν n v)
    rw [nup_eq, h2]
    exact congrArg _ (List.map_congr_left (fun q hq => (m2 q hq).symm))
  · show (nup ν n v q.2.1).category = _
    rw [m1 q hq]; exact h3.1 q hq
  · rcases List.mem_cons.mp hq with e | hq
    · rw [e]; show vty ad t (nup ν n v n); rw [nup_eq]; exact hv
    · rw [e1 _ (nbq (List.all_eq_true.mp n3 q hq))]; exact h3.2.1 q hq
  · rw [e1 _ (nbq (List.all_eq_true.mp n4 q hq))]; exact h3.2.2.1 q hq
  · obtain ⟨a1, a2⟩ := and2 (List.all_eq_true.mp n5 q hq)
    rw [e1 _ (nbq a1), e1 _ (nbq a2)]; exact h3.2.2.2.1 q hq
  · rcases List.mem_cons.mp hq with e | hq
    · rw [e]; exact ⟨h9, nup_eq⟩
    · exact ⟨(h3.2.2.2.2.1 q hq).1, by rw [e1 _ (hp q hq)]; exact (h3.2.2.2.2.1 q hq).2⟩
/-- pins of one's own -/
theorem AG.pins {pin2 : List (Nat × Value)} {σ : AS} (h : AG G ad T mk w0 pin σ ν lw sw ws) (hp : ∀ q ∈ pin2, q.1 < 1000 ∧ ν q.1 = q.2) : AG G ad T mk w0 pin2 σ ν lw sw ws := ⟨h.1, h.2.1, h.2.2.1, h.2.2.2.1, h.2.2.2.2.1, h.2.2.2.2.2.1, hp, h.2.2.2.2.2.2.2⟩
theorem vp_of {x : Int32} {n : Nat} (h1 : 0 ≤ x.toInt) (h2 : x.toInt < (n : Int)) : vp_in x n := by
  unfold vp_in
  rintro (h | h)
  · have := Int32.lt_iff_toInt_lt.mp h
    have e0 : (0 : Int32).toInt = 0 := rfl
    omega
  · have e0 : x.toNatClampNeg = x.toInt.toNat := rfl
    omega
/-- what a name's type says -/
theorem AK.rng {σ : AS} (h : AK G ad T mk w0 pin σ ν ws) {i : Nat} {a b : Int} (hm : (i, (0, a, b)) ∈ σ.2.2.1) : ∃ x : Int32, ν i = .int x ∧ a ≤ x.toInt ∧ x.toInt ≤ b := vty0 (h.2.1 _ hm) rfl
/-- an int of an array, on top of the index: the array, the place, the value -/
theorem AG.elem {i r k n : Nat} {a b : Int} {t : VT} (h : AG G ad T mk w0 pin (lv, i :: r :: st, ev, ca, rl, nx) ν lw sw ws) (hi : (i, (0, a, b)) ∈ ev) (ha : 0 ≤ a) (hb : b < (n : Int)) (hr : (aty ev r).1 = 2) (hk : (aty ev r).2.1.toNat = k) (hT : T[k]? = some (.inr (0, n, t))) : ∃ (x : Int32) (f : Nat → Int32), ν i = .int x ∧ sw = .int x :: .ref (ad k) :: st.map ν ∧ ws[k]? = some (ad k, aI G n f) ∧ aint n t f ∧ vp_in x n ∧ 0 ≤ x.toInt ∧ x.toInt < (n : Int) ∧ x.toNatClampNeg < n := by
  obtain ⟨h1, h2, h3⟩ := h
  obtain ⟨x, hx, x1, x2⟩ := h3.rng hi
  obtain ⟨f, w1, w2⟩ := WT.ints h3.2.2.2.2.2.1 hT
  have h2 : sw = ν i :: ν r :: st.map ν := h2
  have hr' := h3.ref (i := r) hr
  rw [hk] at hr'
  have e0 : x.toNatClampNeg = x.toInt.toNat := rfl
  exact ⟨x, f, hx, by rw [h2, hx, hr'], w1, w2, vp_of (by omega) (by omega), by omega, by omega, by omega⟩
/-- back at a head: its own names -/
theorem AG.arrive {d : CUT} {pids : List Nat} {σ : AS} (h : AG G ad T mk w0 pin σ ν lw sw ws) (hp : ∀ q ∈ pin, q.1 ∈ pids) (ha : aarr pids none d σ = true) (hr : rposB d = true) : ∃ (ν' : Nat → Value) (lw' : List (Nat × Value)), AG G ad T mk w0 pin d.2.1 ν' lw' sw ws ∧ ∀ q ∈ lw', q ∈ lw := by
  obtain ⟨ν', lw', q1, q2, -, -⟩ := aarr_ok h hp ha hr
  exact ⟨ν', lw', q1, q2⟩
end HL3
theorem Ct.weak {l : Launch} {G : KG} {y : MethodName} {cc : ByteArray} {maxL : Nat} {ret : Option FieldType} {rm : Room} {av : List Value} {w0 : va_W} {post post' : Option Value → va_W → Prop} (h : Ct l G y cc maxL ret rm av w0 post) (hi : ∀ r w1, post r w1 → post' r w1) : Ct l G y cc maxL ret rm av w0 post' := by
  intro sz
  have h0 := h sz
  unfold Met at h0 ⊢
  unfold MetFree at h0 ⊢
  intro p e ha hc s m args below hf happ hP hK hT
  obtain ⟨n, o, h1, h2, h3, h4⟩ := h0 p e ha hc s m args below hf happ hP hK hT
  refine ⟨n, o, h1, h2, h3, ?_⟩
  obtain ⟨⟨⟨r, w1, e1, e2, e3⟩, e4⟩, e5⟩ := h4
  exact ⟨⟨⟨r, w1, e1, hi r w1 e2, e3⟩, e4⟩, e5⟩
end
section
abbrev C_ounceOf : CE := ([(2, 0, 0), (0, 0, 1), (0, 0, 1)], [(0, 3, (0, 0, 16))], [], [(some (0, -1, 15), [], [], [])], [(0, 65), (20, 999)], 2, 44)
def D_X11_settle : DT := [(0, .aload_n 0, 1), (1, .iconst 0, 1), (2, .putfield 3, 3), (5, .iload_n 1, 1), (6, .invokestatic 130, 3), (9, .ifCond .ne 5, 3), (12, .iconst (-1), 1), (13, .ireturn, 1), (14, .iconst 0, 1), (15, .istore_n 2, 1), (16, .iload_n 2, 1), (17, .sipush 200, 3), (20, .if_icmp .ge 105, 3), (23, .aload_n 0, 1), (24, .iconst (-1), 1), (25, .iconst 0, 1), (26, .invokevirtual 169, 3), (29, .aload_n 0, 1), (30, .iload_n 1, 1), (31, .invokevirtual 358, 3), (34, .lstore_n 3, 1), (35, .iconst (-1), 1), (36, .istore 5, 2), (38, .iconst 0, 1), (39, .istore 6, 2), (41, .iconst 0, 1), (42, .istore 7, 2), (44, .iload 7, 2), (46, .iconst 2, 1), (47, .if_icmp .ge 53, 3), (50, .aload_n 0, 1), (51, .iload_n 1, 1), (52, .iload 7, 2), (54, .invokevirtual 424, 3), (57, .istore 8, 2), (59, .iload 8, 2), (61, .ifCond .lt 33, 3), (64, .aload_n 0, 1), (65, .getfield 421, 3), (68, .lload_n 3, 1), (69, .lcmp, 1), (70, .ifCond .ge 24, 3), (73, .aload_n 0, 1), (74, .getfield 421, 3), (77, .lstore_n 3, 1), (78, .iload 8, 2), (80, .istore 5, 2), (82, .iload 7, 2), (84, .ifCond .ne 7, 3), (87, .iconst 1, 1), (88, .goto 4, 3), (91, .iconst (-1), 1), (92, .istore 6, 2), (94, .iinc 7 1, 3), (97, .goto (-53), 3), (100, .iload 5, 2), (102, .ifCond .ge 5, 3), (105, .iload_n 2, 1), (106, .ireturn, 1), (107, .aload_n 0, 1), (108, .getfield 82, 3), (111, .iload 5, 2), (113, .dup2, 1), (114, .iaload, 1), (115, .iload 6, 2), (117, .iadd, 1), (118, .iastore, 1), (119, .iinc 2 1, 3), (122, .goto (-106), 3), (125, .sipush 200, 3), (128, .ireturn, 1)]
theorem D_X11_settle_ok : dtOK cX11_settle D_X11_settle = true := by decide +kernel
abbrev C_oc0 : CE := ([(2, 0, 0), (0, 0, 1), (0, 0, 1)], [(0, 3, (0, 0, 16))], [], [], [(0, 65), (20, 999)], 2, 44)
abbrev sC_ocS : CE := ([(2, 0, 0), (0, 0, 1), (0, 0, 1)], [(0, 3, (0, 0, 16))], [], [], [(0, 65), (20, 999)], 2, 44)
def sl_ocS : List CAL := []
theorem sl_ocS_ok (l : Launch) (G : KG) : ∀ q ∈ sl_ocS, COK l G RX11 TM q := fun _ h => absurd h List.not_mem_nil
def sk_ocS : List CUT := []
abbrev se_ocS_5 : CUT := (5, ([(0, 0, false), (1, 1, false), (2, 2, false), (3, 500, false), (4, 501, false)], [], [(0, (2, 0, 0)), (1, (0, 0, 1)), (2, (0, 0, 1)), (100, (0, 0, 16)), (500, (0, -1, -1)), (501, (0, 0, 0))], [(0, 3, 100)], [], 1000), 0, [(0, 0)])
def sx_ocS : List CUT := [se_ocS_5]
abbrev ss_ocS : AS := ([(0, 0, false), (1, 1, false), (2, 2, false)], [], [(0, (2, 0, 0)), (1, (0, 0, 1)), (2, (0, 0, 1)), (100, (0, 0, 16))], [(0, 3, 100)], [], 1000)
theorem sg_ocS : xcheckS hk0 D_X11_ounceOf 6 TM fld_11 put_11 cst_11 cstl_11 sl_ocS 1 sC_ocS sk_ocS sx_ocS [0, 1, 2, 100] 4000 0 ss_ocS = true := by decide +kernel
abbrev ocH : CUT := (5, ([(0, 0, false), (1, 1, false), (2, 2, false), (3, 700, false), (4, 701, false)], [], [(0, (2, 0, 0)), (1, (0, 0, 1)), (2, (0, 0, 1)), (100, (0, 0, 16)), (700, (0, -1, 15)), (701, (0, 0, 16))], [(0, 3, 100)], [(701, 100, 0)], 1000), 0, [(0, 0)])
abbrev sC_ocA : CE := ([(2, 0, 0), (0, 0, 1), (0, 0, 1)], [(0, 3, (0, 0, 16))], [], [], [(0, 65), (20, 999)], 2, 44)
def sl_ocA : List CAL := []
theorem sl_ocA_ok (l : Launch) (G : KG) : ∀ q ∈ sl_ocA, COK l G RX11 TM q := fun _ h => absurd h List.not_mem_nil
def sk_ocA : List CUT := []
abbrev se_ocA_24 : CUT := (24, ([(0, 0, false), (1, 1, false), (2, 2, false), (3, 700, false), (4, 701, false)], [701, 500], [(0, (2, 0, 0)), (1, (0, 0, 1)), (2, (0, 0, 0)), (100, (0, 1, 16)), (500, (2, 6, 0)), (700, (0, -1, 15)), (701, (0, 0, 15))], [(0, 3, 100), (0, 8, 500)], [(701, 100, -1)], 1000), 0, [(0, 0)])
abbrev se_ocA_49 : CUT := (49, ([(0, 0, false), (1, 1, false), (2, 2, false), (3, 700, false), (4, 701, false)], [701, 500], [(0, (2, 0, 0)), (1, (0, 0, 1)), (2, (0, 1, 1)), (100, (0, 1, 16)), (500, (2, 6, 0)), (700, (0, -1, 15)), (701, (0, 0, 15))], [(0, 3, 100), (0, 8, 500)], [(701, 100, -1)], 1000), 0, [(0, 0)])
abbrev se_ocA_130 : CUT := (130, ([(0, 0, false), (1, 1, false), (2, 2, false), (3, 700, false), (4, 701, false)], [700], [(0, (2, 0, 0)), (1, (0, 0, 1)), (2, (0, 0, 1)), (100, (0, 0, 16)), (700, (0, -1, 15)), (701, (0, 0, 16))], [(0, 3, 100)], [(100, 701, 0), (701, 100, 0)], 1000), 0, [(0, 0)])
def sx_ocA : List CUT := [se_ocA_24, se_ocA_49, se_ocA_130]
abbrev ss_ocA : AS := ocH.2.1
theorem sg_ocA : xcheckS hk0 D_X11_ounceOf 6 TM fld_11 put_11 cst_11 cstl_11 sl_ocA 1 sC_ocA sk_ocA sx_ocA [0, 1, 2, 100, 700, 701] 4000 5 ss_ocA = true := by decide +kernel
abbrev sC_ocB : CE := ([(2, 0, 0), (0, 0, 1), (0, 0, 1)], [(0, 3, (0, 0, 16))], [], [], [(0, 65), (20, 999)], 2, 44)
def sl_ocB : List CAL := []
theorem sl_ocB_ok (l : Launch) (G : KG) : ∀ q ∈ sl_ocB, COK l G RX11 TM q := fun _ h => absurd h List.not_mem_nil
def sk_ocB : List CUT := []
abbrev se_ocB_31 : CUT := (31, ([(0, 0, false), (1, 1, false), (2, 2, false), (3, 700, false), (4, 701, false)], [701, 500, 702], [(0, (2, 0, 0)), (1, (0, 0, 1)), (2, (0, 0, 0)), (100, (0, 1, 16)), (500, (2, 5, 0)), (501, (2, 6, 0)), (700, (0, -1, 15)), (701, (0, 0, 15)), (702, (0, 0, 9))], [(0, 3, 100), (0, 7, 500), (0, 8, 501)], [(701, 100, -1)], 1000), 0, [(0, 0)])
def sx_ocB : List CUT := [se_ocB_31]
abbrev ss_ocB : AS := (se_ocA_24.2.1.1, [702], (702, (0, 0, 9)) :: se_ocA_24.2.1.2.2.1, se_ocA_24.2.1.2.2.2.1, se_ocA_24.2.1.2.2.2.2.1, 1000)
theorem sg_ocB : xcheckS hk0 D_X11_ounceOf 6 TM fld_11 put_11 cst_11 cstl_11 sl_ocB 1 sC_ocB sk_ocB sx_ocB [0, 1, 2, 100, 700, 701, 702] 4000 25 ss_ocB = true := by decide +kernel
abbrev sC_ocC : CE := ([(2, 0, 0), (0, 0, 1), (0, 0, 1)], [(0, 3, (0, 0, 16))], [], [], [(0, 65), (20, 999)], 2, 44)
def sl_ocC : List CAL := [(169, 0, 5, C_X11_leads_0), (358, 0, 2, C_X11_restOf_0)]
theorem sl_ocC_ok (l : Launch) (G : KG) : ∀ q ∈ sl_ocC, COK l G RX11 TM q := List.forall_mem_cons.mpr ⟨cok_v k_11_169 (ac_X11_leads_0 l G) rfl rfl rfl rfl rfl rfl, List.forall_mem_cons.mpr ⟨cok_v k_11_358 (ac_X11_restOf_0 l G) rfl rfl rfl rfl rfl rfl, fun _ h => absurd h List.not_mem_nil⟩⟩
def sk_ocC : List CUT := []
abbrev se_ocC_5 : CUT := (5, ([(0, 0, false), (1, 1, false), (2, 2, false), (3, 700, false), (4, 500, false), (5, 501, false)], [], [(0, (2, 0, 0)), (1, (0, 0, 1)), (2, (0, 0, 0)), (100, (0, 1, 16)), (500, (0, 1, 16)), (501, (0, 0, 1)), (502, (2, 2, 0)), (503, (2, 5, 0)), (504, (2, 6, 0)), (700, (0, -1, 15)), (701, (0, 0, 15)), (702, (0, 0, 9)), (703, (0, -1, 9))], [(0, 3, 100), (0, 4, 502), (0, 7, 503), (0, 8, 504)], [(701, 100, -1), (701, 500, -1), (500, 100, 0), (500, 701, 1), (501, 703, 1)], 1000), 0, [(0, 0)])
abbrev se_ocC_5_1 : CUT := (5, ([(0, 0, false), (1, 1, false), (2, 2, false), (3, 701, false), (4, 500, false), (5, 501, false)], [], [(0, (2, 0, 0)), (1, (0, 0, 1)), (2, (0, 0, 0)), (100, (0, 1, 16)), (500, (0, 1, 16)), (501, (0, 1, 1)), (502, (2, 2, 0)), (503, (2, 5, 0)), (504, (2, 6, 0)), (505, (1, -9223372036854775808, 9223372036854775807)), (700, (0, -1, 15)), (701, (0, 0, 15)), (702, (0, 0, 8)), (703, (0, 1, 9))], [(0, 3, 100), (0, 4, 502), (0, 7, 503), (0, 8, 504), (0, 65, 505)], [(701, 100, -1), (701, 500, -1), (702, 703, -1), (500, 100, 0), (500, 701, 1)], 1000), 0, [(0, 0)])
def sx_ocC : List CUT := [se_ocC_5, se_ocC_5_1]
abbrev ss_ocC : AS := (se_ocB_31.2.1.1, [703, 702], (703, (0, -1, 9)) :: se_ocB_31.2.1.2.2.1, se_ocB_31.2.1.2.2.2.1, se_ocB_31.2.1.2.2.2.2.1, 1000)
theorem sg_ocC : xcheckS hk0 D_X11_ounceOf 6 TM fld_11 put_11 cst_11 cstl_11 sl_ocC 1 sC_ocC sk_ocC sx_ocC [0, 1, 2, 100, 700, 701, 702, 703] 4000 32 ss_ocC = true := by decide +kernel
abbrev sC_ocD : CE := ([(2, 0, 0), (0, 0, 1), (0, 0, 1)], [(0, 3, (0, 0, 16))], [], [], [(0, 65), (20, 999)], 2, 44)
def sl_ocD : List CAL := [(169, 0, 5, C_X11_leads_0), (358, 0, 2, C_X11_restOf_0)]
theorem sl_ocD_ok (l : Launch) (G : KG) : ∀ q ∈ sl_ocD, COK l G RX11 TM q := List.forall_mem_cons.mpr ⟨cok_v k_11_169 (ac_X11_leads_0 l G) rfl rfl rfl rfl rfl rfl, List.forall_mem_cons.mpr ⟨cok_v k_11_358 (ac_X11_restOf_0 l G) rfl rfl rfl rfl rfl rfl, fun _ h => absurd h List.not_mem_nil⟩⟩
def sk_ocD : List CUT := []
abbrev se_ocD_5 : CUT := (5, ([(0, 0, false), (1, 1, false), (2, 2, false), (3, 700, false), (4, 500, false), (5, 501, false)], [], [(0, (2, 0, 0)), (1, (0, 0, 1)), (2, (0, 1, 1)), (100, (0, 1, 16)), (500, (0, 1, 16)), (501, (0, 0, 1)), (502, (2, 2, 0)), (503, (2, 6, 0)), (700, (0, -1, 15)), (701, (0, 0, 15)), (702, (0, 0, 9))], [(0, 3, 100), (0, 4, 502), (0, 8, 503)], [(701, 100, -1), (701, 500, -1), (500, 100, 0), (500, 701, 1), (501, 702, 0)], 1000), 0, [(0, 0)])
abbrev se_ocD_5_1 : CUT := (5, ([(0, 0, false), (1, 1, false), (2, 2, false), (3, 701, false), (4, 500, false), (5, 501, false)], [], [(0, (2, 0, 0)), (1, (0, 0, 1)), (2, (0, 1, 1)), (100, (0, 1, 16)), (500, (0, 1, 16)), (501, (0, 1, 1)), (502, (2, 2, 0)), (503, (2, 6, 0)), (504, (1, -9223372036854775808, 9223372036854775807)), (700, (0, -1, 15)), (701, (0, 0, 15)), (702, (0, 1, 9))], [(0, 3, 100), (0, 4, 502), (0, 8, 503), (0, 65, 504)], [(701, 100, -1), (701, 500, -1), (500, 100, 0), (500, 701, 1)], 1000), 0, [(0, 0)])
def sx_ocD : List CUT := [se_ocD_5, se_ocD_5_1]
abbrev ss_ocD : AS := (se_ocA_49.2.1.1, [702], (702, (0, 0, 9)) :: se_ocA_49.2.1.2.2.1, se_ocA_49.2.1.2.2.2.1, se_ocA_49.2.1.2.2.2.2.1, 1000)
theorem sg_ocD : xcheckS hk0 D_X11_ounceOf 6 TM fld_11 put_11 cst_11 cstl_11 sl_ocD 1 sC_ocD sk_ocD sx_ocD [0, 1, 2, 100, 700, 701, 702] 4000 50 ss_ocD = true := by decide +kernel
abbrev C_settle : CE := ([(2, 0, 0), (0, -2147483648, 2147483647)], [], [], [(some (0, -1, 200), [], [], [])], [(0, 0), (0, 65), (6, 999), (20, 999)], 3, 69)
abbrev sC_stO : CE := C_settle
def sl_stO : List CAL := [(130, 1, 1, C_X11_isPlane_0)]
theorem sl_stO_ok (l : Launch) (G : KG) : ∀ q ∈ sl_stO, COK l G RX11 TM q := List.forall_mem_cons.mpr ⟨cok_s k_11_130 (ac_X11_isPlane_0 l G) rfl, fun _ h => absurd h List.not_mem_nil⟩
def sk_stO : List CUT := []
abbrev se_stO_16 : CUT := (16, ([(0, 0, false), (1, 1, false), (2, 500, false)], [], [(0, (2, 0, 0)), (1, (0, 0, 1)), (500, (0, 0, 0)), (501, (0, 0, 0))], [(0, 0, 501)], [], 1000), 0, [(0, 0)])
def sx_stO : List CUT := [se_stO_16]
abbrev ss_stO : AS := ([(0, 0, false), (1, 1, false)], [], [(0, (2, 0, 0)), (1, (0, -2147483648, 2147483647))], [], [], 1000)
theorem sg_stO : xcheckS hk0 D_X11_settle 9 TM fld_11 put_11 cst_11 cstl_11 sl_stO 1 sC_stO sk_stO sx_stO [0, 1] 4000 0 ss_stO = true := by decide +kernel
abbrev st16 : CUT := (16, ([(0, 0, false), (1, 1, false), (2, 720, false)], [], [(0, (2, 0, 0)), (1, (0, 0, 1)), (720, (0, 0, 200))], [], [], 1000), 0, [(0, 0)])
abbrev sC_stP : CE := C_settle
def sl_stP : List CAL := [(169, 0, 5, C_X11_leads_0), (358, 0, 2, C_X11_restOf_0)]
theorem sl_stP_ok (l : Launch) (G : KG) : ∀ q ∈ sl_stP, COK l G RX11 TM q := List.forall_mem_cons.mpr ⟨cok_v k_11_169 (ac_X11_leads_0 l G) rfl rfl rfl rfl rfl rfl, List.forall_mem_cons.mpr ⟨cok_v k_11_358 (ac_X11_restOf_0 l G) rfl rfl rfl rfl rfl rfl, fun _ h => absurd h List.not_mem_nil⟩⟩
def sk_stP : List CUT := []
abbrev se_stP_44 : CUT := (44, ([(0, 0, false), (1, 1, false), (2, 720, false), (3, 500, true), (5, 501, false), (6, 502, false), (7, 503, false)], [], [(0, (2, 0, 0)), (1, (0, 0, 1)), (500, (1, -9223372036854775808, 9223372036854775807)), (501, (0, -1, -1)), (502, (0, 0, 0)), (503, (0, 0, 0)), (504, (0, 0, 16)), (720, (0, 0, 199))], [(0, 3, 504)], [], 1000), 0, [(0, 0)])
def sx_stP : List CUT := [se_stP_44]
abbrev ss_stP : AS := st16.2.1
theorem sg_stP : xcheckS hk0 D_X11_settle 9 TM fld_11 put_11 cst_11 cstl_11 sl_stP 1 sC_stP sk_stP sx_stP [0, 1, 720] 4000 16 ss_stP = true := by decide +kernel
abbrev st44 : CUT := (44, ([(0, 0, false), (1, 1, false), (2, 720, false), (3, 721, true), (5, 722, false), (6, 723, false), (7, 724, false)], [], [(0, (2, 0, 0)), (1, (0, 0, 1)), (720, (0, 0, 199)), (721, (1, -9223372036854775808, 9223372036854775807)), (722, (0, -1, 15)), (723, (0, -1, 1)), (724, (0, 0, 2))], [], [], 1000), 0, [(0, 0)])
abbrev sC_stQ : CE := ([(2, 0, 0), (0, -2147483648, 2147483647)], [], [], [(some (0, -1, 200), [], [], [])], [], 3, 69)
def sl_stQ : List CAL := []
theorem sl_stQ_ok (l : Launch) (G : KG) : ∀ q ∈ sl_stQ, COK l G RX11 TM q := fun _ h => absurd h List.not_mem_nil
def sk_stQ : List CUT := []
abbrev se_stQ_54 : CUT := (54, ([(0, 0, false), (1, 1, false), (2, 720, false), (3, 721, true), (5, 722, false), (6, 723, false), (7, 724, false)], [724, 1, 0], [(0, (2, 0, 0)), (1, (0, 0, 1)), (720, (0, 0, 199)), (721, (1, -9223372036854775808, 9223372036854775807)), (722, (0, -1, 15)), (723, (0, -1, 1)), (724, (0, 0, 1))], [], [], 1000), 0, [(0, 0)])
abbrev se_stQ_114 : CUT := (114, ([(0, 0, false), (1, 1, false), (2, 720, false), (3, 721, true), (5, 722, false), (6, 723, false), (7, 724, false)], [722, 500, 722, 500], [(0, (2, 0, 0)), (1, (0, 0, 1)), (500, (2, 6, 0)), (720, (0, 0, 199)), (721, (1, -9223372036854775808, 9223372036854775807)), (722, (0, 0, 15)), (723, (0, -1, 1)), (724, (0, 2, 2))], [(0, 8, 500)], [], 1000), 0, [(0, 0)])
def sx_stQ : List CUT := [se_stQ_54, se_stQ_114]
abbrev ss_stQ : AS := st44.2.1
theorem sg_stQ : xcheckS hk0 D_X11_settle 9 TM fld_11 put_11 cst_11 cstl_11 sl_stQ 1 sC_stQ sk_stQ sx_stQ [0, 1, 720, 721, 722, 723, 724] 4000 44 ss_stQ = true := by decide +kernel
abbrev sC_stR : CE := ([(2, 0, 0), (0, -2147483648, 2147483647)], [], [], [(some (0, -1, 200), [], [], [])], [], 3, 69)
def sl_stR : List CAL := []
theorem sl_stR_ok (l : Launch) (G : KG) : ∀ q ∈ sl_stR, COK l G RX11 TM q := fun _ h => absurd h List.not_mem_nil
def sk_stR : List CUT := []
abbrev se_stR_44 : CUT := (44, ([(0, 0, false), (1, 1, false), (2, 720, false), (3, 721, true), (5, 722, false), (6, 723, false), (7, 500, false), (8, 725, false)], [], [(0, (2, 0, 0)), (1, (0, 0, 1)), (500, (0, 1, 2)), (720, (0, 0, 199)), (721, (1, -9223372036854775808, 9223372036854775807)), (722, (0, -1, 15)), (723, (0, -1, 1)), (724, (0, 0, 1)), (725, (0, -1, 15))], [], [(724, 500, -1), (500, 724, 1)], 1000), 0, [(0, 0)])
abbrev se_stR_44_1 : CUT := (44, ([(0, 0, false), (1, 1, false), (2, 720, false), (3, 500, true), (5, 725, false), (6, 501, false), (7, 502, false), (8, 725, false)], [], [(0, (2, 0, 0)), (1, (0, 0, 1)), (500, (1, -9223372036854775808, 9223372036854775806)), (501, (0, -1, -1)), (502, (0, 2, 2)), (720, (0, 0, 199)), (721, (1, -9223372036854775807, 9223372036854775807)), (722, (0, -1, 15)), (723, (0, -1, 1)), (724, (0, 1, 1)), (725, (0, 0, 15))], [(0, 65, 500)], [(500, 721, -1)], 1000), 0, [(0, 0)])
abbrev se_stR_44_2 : CUT := (44, ([(0, 0, false), (1, 1, false), (2, 720, false), (3, 500, true), (5, 725, false), (6, 501, false), (7, 502, false), (8, 725, false)], [], [(0, (2, 0, 0)), (1, (0, 0, 1)), (500, (1, -9223372036854775808, 9223372036854775806)), (501, (0, 1, 1)), (502, (0, 1, 1)), (720, (0, 0, 199)), (721, (1, -9223372036854775807, 9223372036854775807)), (722, (0, -1, 15)), (723, (0, -1, 1)), (724, (0, 0, 0)), (725, (0, 0, 15))], [(0, 65, 500)], [(500, 721, -1)], 1000), 0, [(0, 0)])
def sx_stR : List CUT := [se_stR_44, se_stR_44_1, se_stR_44_2]
abbrev ss_stR : AS := (se_stQ_54.2.1.1, [725], (725, (0, -1, 15)) :: se_stQ_54.2.1.2.2.1, [], se_stQ_54.2.1.2.2.2.2.1, 1000)
theorem sg_stR : xcheckS hk0 D_X11_settle 9 TM fld_11 put_11 cst_11 cstl_11 sl_stR 1 sC_stR sk_stR sx_stR [0, 1, 720, 721, 722, 723, 724, 725] 4000 57 ss_stR = true := by decide +kernel
abbrev sC_stU : CE := C_settle
def sl_stU : List CAL := []
theorem sl_stU_ok (l : Launch) (G : KG) : ∀ q ∈ sl_stU, COK l G RX11 TM q := fun _ h => absurd h List.not_mem_nil
def sk_stU : List CUT := []
abbrev se_stU_16 : CUT := (16, ([(0, 0, false), (1, 1, false), (2, 500, false), (3, 721, true), (5, 722, false), (6, 723, false), (7, 724, false)], [], [(0, (2, 0, 0)), (1, (0, 0, 1)), (500, (0, 1, 200)), (501, (2, 6, 0)), (720, (0, 0, 199)), (721, (1, -9223372036854775808, 9223372036854775807)), (722, (0, 0, 15)), (723, (0, -1, 1)), (724, (0, 2, 2))], [(0, 8, 501)], [(720, 500, -1), (500, 720, 1)], 1000), 0, [(0, 0)])
def sx_stU : List CUT := [se_stU_16]
abbrev ss_stU : AS := (se_stQ_114.2.1.1, [], se_stQ_114.2.1.2.2.1, se_stQ_114.2.1.2.2.2.1, se_stQ_114.2.1.2.2.2.2.1, 1000)
theorem sg_stU : xcheckS hk0 D_X11_settle 9 TM fld_11 put_11 cst_11 cstl_11 sl_stU 1 sC_stU sk_stU sx_stU [0, 1, 720, 721, 722, 723, 724] 4000 119 ss_stU = true := by decide +kernel
theorem d_oc_24 : decode cX11_ounceOf 24 = .ok (.iaload, 1) := by decide +kernel
theorem d_oc_31 : decode cX11_ounceOf 31 = .ok (.iaload, 1) := by decide +kernel
theorem d_oc_49 : decode cX11_ounceOf 49 = .ok (.iaload, 1) := by decide +kernel
theorem d_oc_130 : decode cX11_ounceOf 130 = .ok (.ireturn, 1) := by decide +kernel
theorem d_st_54 : decode cX11_settle 54 = .ok (.invokevirtual 424, 3) := by decide +kernel
theorem d_st_114 : decode cX11_settle 114 = .ok (.iaload, 1) := by decide +kernel
theorem d_st_115 : decode cX11_settle 115 = .ok (.iload 6, 2) := by decide +kernel
theorem d_st_117 : decode cX11_settle 117 = .ok (.iadd, 1) := by decide +kernel
theorem d_st_118 : decode cX11_settle 118 = .ok (.iastore, 1) := by decide +kernel
end
