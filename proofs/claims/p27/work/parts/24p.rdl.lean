def D_X4_isDigitHere : DT := [(0, .aload_n 0, 1), (1, .getfield 28, 3), (4, .aload_n 0, 1), (5, .getfield 25, 3), (8, .if_icmp .ge 35, 3), (11, .aload_n 0, 1), (12, .getfield 9, 3), (15, .aload_n 0, 1), (16, .getfield 28, 3), (19, .iaload, 1), (20, .bipush 48, 2), (22, .if_icmp .lt 21, 3), (25, .aload_n 0, 1), (26, .getfield 9, 3), (29, .aload_n 0, 1), (30, .getfield 28, 3), (33, .iaload, 1), (34, .bipush 57, 2), (36, .if_icmp .gt 7, 3), (39, .iconst 1, 1), (40, .goto 4, 3), (43, .iconst 0, 1), (44, .ireturn, 1)]
theorem D_X4_isDigitHere_ok : dtOK cX4_isDigitHere D_X4_isDigitHere = true := by decide +kernel
abbrev C_u_X4_isDigitHere_0 : CE := ([(2, 3, 0)], [], [], [(some (0, 0, 0), [], [], []), (some (0, 1, 1), [], [(3, 2, (0, 1, 60)), (3, 3, (0, 0, 59))], [])], [], 0, 0)
theorem ac_u_X4_isDigitHere_0 (l : Launch) (G : KG) : ACt l G TX yX4_isDigitHere cX4_isDigitHere 1 (some .boolean) C_u_X4_isDigitHere_0 := acert (tab := D_X4_isDigitHere) (fld := fld_4) (put := put_4) (cst := cst_4) (cstl := cstl_4) (cal := []) (rk := 3) (cuts := []) (fuel := 4000) (by decide) (Or.inr (Or.inr (Or.inr ⟨rfl, rfl⟩))) fld_4_ok put_4_ok cst_4_ok cstl_4_ok (fun _ h => absurd h List.not_mem_nil) D_X4_isDigitHere_ok (by decide +kernel)
def D_X4_readNumber : DT := [(0, .aload_n 0, 1), (1, .invokevirtual 103, 3), (4, .ifCond .ne 5, 3), (7, .iconst 0, 1), (8, .ireturn, 1), (9, .aload_n 0, 1), (10, .aload_n 0, 1), (11, .getfield 9, 3), (14, .aload_n 0, 1), (15, .getfield 28, 3), (18, .iaload, 1), (19, .bipush 48, 2), (21, .isub, 1), (22, .putfield 78, 3), (25, .aload_n 0, 1), (26, .dup, 1), (27, .getfield 28, 3), (30, .iconst 1, 1), (31, .iadd, 1), (32, .putfield 28, 3), (35, .aload_n 0, 1), (36, .invokevirtual 103, 3), (39, .ifCond .eq 37, 3), (42, .aload_n 0, 1), (43, .bipush 10, 2), (45, .aload_n 0, 1), (46, .getfield 78, 3), (49, .imul, 1), (50, .aload_n 0, 1), (51, .getfield 9, 3), (54, .aload_n 0, 1), (55, .getfield 28, 3), (58, .iaload, 1), (59, .iadd, 1), (60, .bipush 48, 2), (62, .isub, 1), (63, .putfield 78, 3), (66, .aload_n 0, 1), (67, .dup, 1), (68, .getfield 28, 3), (71, .iconst 1, 1), (72, .iadd, 1), (73, .putfield 28, 3), (76, .aload_n 0, 1), (77, .getfield 78, 3), (80, .iload_n 1, 1), (81, .if_icmp .lt 11, 3), (84, .aload_n 0, 1), (85, .getfield 78, 3), (88, .iload_n 2, 1), (89, .if_icmp .le 15, 3), (92, .aload_n 0, 1), (93, .dup, 1), (94, .getfield 28, 3), (97, .iconst 1, 1), (98, .isub, 1), (99, .putfield 28, 3), (102, .iconst 0, 1), (103, .ireturn, 1), (104, .iconst 1, 1), (105, .ireturn, 1)]
theorem D_X4_readNumber_ok : dtOK cX4_readNumber D_X4_readNumber = true := by decide +kernel
abbrev C_u_X4_readNumber_1 : CE := ([(2, 3, 0), (0, -2147483648, 2147483647), (0, -2147483648, 2147483647)], [], [], [(some (0, 0, 0), [], [], []), (some (0, 1, 1), [], [(3, 2, (0, 1, 60)), (3, 3, (0, 1, 60)), (3, 4, (0, -2147483648, 2147483647))], [(1, 2, 0), (1, 202, 0), (202, 2, 0)])], [(3, 3), (3, 4)], 1, 20)
theorem ac_u_X4_readNumber_1 (l : Launch) (G : KG) : ACt l G TX yX4_readNumber cX4_readNumber 3 (some .boolean) C_u_X4_readNumber_1 := acert (tab := D_X4_readNumber) (fld := fld_4) (put := put_4) (cst := cst_4) (cstl := cstl_4) (cal := [(103, 0, 1, C_u_X4_isDigitHere_0)]) (rk := 3) (cuts := []) (fuel := 4000) (by decide) (Or.inr (Or.inr (Or.inr ⟨rfl, rfl⟩))) fld_4_ok put_4_ok cst_4_ok cstl_4_ok (List.forall_mem_cons.mpr ⟨cok_v k_4_103 (ac_u_X4_isDigitHere_0 l G) rfl rfl rfl rfl rfl rfl, fun _ h => absurd h List.not_mem_nil⟩) D_X4_readNumber_ok (by decide +kernel)
def D_X4_readSign : DT := [(0, .aload_n 0, 1), (1, .getfield 28, 3), (4, .aload_n 0, 1), (5, .getfield 25, 3), (8, .if_icmp .ge 16, 3), (11, .aload_n 0, 1), (12, .getfield 9, 3), (15, .aload_n 0, 1), (16, .getfield 28, 3), (19, .iaload, 1), (20, .iload_n 1, 1), (21, .if_icmp .eq 5, 3), (24, .iconst 0, 1), (25, .ireturn, 1), (26, .aload_n 0, 1), (27, .dup, 1), (28, .getfield 28, 3), (31, .iconst 1, 1), (32, .iadd, 1), (33, .putfield 28, 3), (36, .iconst 1, 1), (37, .ireturn, 1)]
theorem D_X4_readSign_ok : dtOK cX4_readSign D_X4_readSign = true := by decide +kernel
abbrev C_u_X4_readSign_2 : CE := ([(2, 3, 0), (0, -2147483648, 2147483647)], [], [], [(some (0, 0, 0), [], [], []), (some (0, 1, 1), [(1, (0, 0, 255))], [(3, 2, (0, 1, 60)), (3, 3, (0, 1, 60))], [])], [(3, 3)], 0, 0)
theorem ac_u_X4_readSign_2 (l : Launch) (G : KG) : ACt l G TX yX4_readSign cX4_readSign 2 (some .boolean) C_u_X4_readSign_2 := acert (tab := D_X4_readSign) (fld := fld_4) (put := put_4) (cst := cst_4) (cstl := cstl_4) (cal := []) (rk := 3) (cuts := []) (fuel := 4000) (by decide) (Or.inr (Or.inr (Or.inr ⟨rfl, rfl⟩))) fld_4_ok put_4_ok cst_4_ok cstl_4_ok (fun _ h => absurd h List.not_mem_nil) D_X4_readSign_ok (by decide +kernel)
def D_X4_readSigned : DT := [(0, .aload_n 0, 1), (1, .bipush 45, 2), (3, .invokevirtual 55, 3), (6, .istore_n 1, 1), (7, .aload_n 0, 1), (8, .iconst 0, 1), (9, .bipush 99, 2), (11, .invokevirtual 71, 3), (14, .ifCond .ne 5, 3), (17, .iconst 0, 1), (18, .ireturn, 1), (19, .iload_n 1, 1), (20, .ifCond .eq 12, 3), (23, .aload_n 0, 1), (24, .aload_n 0, 1), (25, .getfield 78, 3), (28, .ineg, 1), (29, .putfield 78, 3), (32, .iconst 1, 1), (33, .ireturn, 1)]
theorem D_X4_readSigned_ok : dtOK cX4_readSigned D_X4_readSigned = true := by decide +kernel
abbrev C_u_X4_readSigned_3 : CE := ([(2, 3, 0)], [], [], [(some (0, 0, 0), [], [], []), (some (0, 1, 1), [], [(3, 2, (0, 1, 60)), (3, 3, (0, 1, 60)), (3, 4, (0, -99, 99))], [])], [(3, 3), (3, 4)], 2, 42)
theorem ac_u_X4_readSigned_3 (l : Launch) (G : KG) : ACt l G TX yX4_readSigned cX4_readSigned 2 (some .boolean) C_u_X4_readSigned_3 := acert (tab := D_X4_readSigned) (fld := fld_4) (put := put_4) (cst := cst_4) (cstl := cstl_4) (cal := [(55, 0, 2, C_u_X4_readSign_2), (71, 0, 3, C_u_X4_readNumber_1)]) (rk := 3) (cuts := []) (fuel := 4000) (by decide) (Or.inr (Or.inr (Or.inr ⟨rfl, rfl⟩))) fld_4_ok put_4_ok cst_4_ok cstl_4_ok (List.forall_mem_cons.mpr ⟨cok_v k_4_55 (ac_u_X4_readSign_2 l G) rfl rfl rfl rfl rfl rfl, List.forall_mem_cons.mpr ⟨cok_v k_4_71 (ac_u_X4_readNumber_1 l G) rfl rfl rfl rfl rfl rfl, fun _ h => absurd h List.not_mem_nil⟩⟩) D_X4_readSigned_ok (by decide +kernel)
def CFg (cell mf MX : Nat) (msk : List (Nat × Nat)) (fr lo n : Nat) : CE := ([(2, 3, 0), (2, (cell : Int), 0)], [(3, 3, (0, 0, 59)), (cell, 0, (0, (n : Int), (n : Int))), (3, mf, (0, 0, (MX : Int) - (n : Int)))], [], [(some (0, 0, 0), [], [(3, mf, (0, 0, (MX : Int) - (n : Int)))], []), (some (0, 1, 1), [], [(3, mf, (0, 0, (MX : Int) - (n : Int)))], [])], msk, fr, lo)
def D_X4_readHole : DT := [(0, .aload_n 1, 1), (1, .getfield 44, 3), (4, .aload_n 0, 1), (5, .getfield 31, 3), (8, .iadd, 1), (9, .istore_n 2, 1), (10, .iload_n 2, 1), (11, .bipush 16, 2), (13, .if_icmp .lt 5, 3), (16, .iconst 0, 1), (17, .ireturn, 1), (18, .aload_n 0, 1), (19, .dup, 1), (20, .getfield 28, 3), (23, .iconst 1, 1), (24, .iadd, 1), (25, .putfield 28, 3), (28, .aload_n 0, 1), (29, .iconst 0, 1), (30, .iconst 1, 1), (31, .invokevirtual 71, 3), (34, .ifCond .ne 5, 3), (37, .iconst 0, 1), (38, .ireturn, 1), (39, .aload_n 1, 1), (40, .getfield 75, 3), (43, .iload_n 2, 1), (44, .aload_n 0, 1), (45, .getfield 78, 3), (48, .iastore, 1), (49, .aload_n 0, 1), (50, .bipush 44, 2), (52, .invokevirtual 55, 3), (55, .ifCond .eq 10, 3), (58, .aload_n 0, 1), (59, .invokevirtual 81, 3), (62, .ifCond .ne 5, 3), (65, .iconst 0, 1), (66, .ireturn, 1), (67, .aload_n 1, 1), (68, .getfield 85, 3), (71, .iload_n 2, 1), (72, .aload_n 0, 1), (73, .getfield 78, 3), (76, .iastore, 1), (77, .aload_n 0, 1), (78, .bipush 44, 2), (80, .invokevirtual 55, 3), (83, .ifCond .eq 10, 3), (86, .aload_n 0, 1), (87, .invokevirtual 81, 3), (90, .ifCond .ne 5, 3), (93, .iconst 0, 1), (94, .ireturn, 1), (95, .aload_n 1, 1), (96, .getfield 88, 3), (99, .iload_n 2, 1), (100, .aload_n 0, 1), (101, .getfield 78, 3), (104, .iastore, 1), (105, .aload_n 0, 1), (106, .bipush 44, 2), (108, .invokevirtual 55, 3), (111, .ifCond .eq 13, 3), (114, .aload_n 0, 1), (115, .iconst 0, 1), (116, .bipush 9, 2), (118, .invokevirtual 71, 3), (121, .ifCond .ne 5, 3), (124, .iconst 0, 1), (125, .ireturn, 1), (126, .aload_n 1, 1), (127, .getfield 91, 3), (130, .iload_n 2, 1), (131, .aload_n 0, 1), (132, .getfield 78, 3), (135, .iastore, 1), (136, .aload_n 0, 1), (137, .dup, 1), (138, .getfield 31, 3), (141, .iconst 1, 1), (142, .iadd, 1), (143, .putfield 31, 3), (146, .iconst 1, 1), (147, .ireturn, 1)]
theorem D_X4_readHole_ok : dtOK cX4_readHole D_X4_readHole = true := by decide +kernel
abbrev mk_rh : List (Nat × Nat) := [(3, 3), (3, 4), (3, 5), (6, 999), (7, 999), (8, 999), (9, 999)]
def sl_rh : List CAL := [(71, 0, 3, C_u_X4_readNumber_1), (55, 0, 2, C_u_X4_readSign_2), (81, 0, 2, C_u_X4_readSigned_3)]
theorem sl_rh_ok (l : Launch) (G : KG) : ∀ q ∈ sl_rh, COK l G RX4 TX q := List.forall_mem_cons.mpr ⟨cok_v k_4_71 (ac_u_X4_readNumber_1 l G) rfl rfl rfl rfl rfl rfl, List.forall_mem_cons.mpr ⟨cok_v k_4_55 (ac_u_X4_readSign_2 l G) rfl rfl rfl rfl rfl rfl, List.forall_mem_cons.mpr ⟨cok_v k_4_81 (ac_u_X4_readSigned_3 l G) rfl rfl rfl rfl rfl rfl, fun _ h => absurd h List.not_mem_nil⟩⟩⟩
theorem CF_rh_chk : (List.range 17).all (fun n => xcheckH hk0 D_X4_readHole 3 TX fld_4 put_4 cst_4 cstl_4 sl_rh 3 (CFg 5 5 16 mk_rh 3 63 n) [] 1000) = true := by decide +kernel
theorem ac_rh (l : Launch) (G : KG) (n : Nat) (h : n < 17) : ACt l G TX yX4_readHole cX4_readHole 3 (some .boolean) (CFg 5 5 16 mk_rh 3 63 n) := acert (tab := D_X4_readHole) (fld := fld_4) (put := put_4) (cst := cst_4) (cstl := cstl_4) (cal := sl_rh) (rk := 3) (cuts := []) (fuel := 1000) (by decide) (Or.inr (Or.inr (Or.inr ⟨rfl, rfl⟩))) fld_4_ok put_4_ok cst_4_ok cstl_4_ok (sl_rh_ok l G) D_X4_readHole_ok (List.all_eq_true.mp CF_rh_chk n (List.mem_range.mpr h))
def D_X4_readSpeed : DT := [(0, .aload_n 1, 1), (1, .getfield 49, 3), (4, .aload_n 0, 1), (5, .getfield 34, 3), (8, .iadd, 1), (9, .istore_n 2, 1), (10, .iload_n 2, 1), (11, .bipush 6, 2), (13, .if_icmp .lt 5, 3), (16, .iconst 0, 1), (17, .ireturn, 1), (18, .aload_n 0, 1), (19, .dup, 1), (20, .getfield 28, 3), (23, .iconst 1, 1), (24, .iadd, 1), (25, .putfield 28, 3), (28, .aload_n 0, 1), (29, .iconst 1, 1), (30, .bipush 9, 2), (32, .invokevirtual 71, 3), (35, .ifCond .ne 5, 3), (38, .iconst 0, 1), (39, .ireturn, 1), (40, .aload_n 1, 1), (41, .getfield 94, 3), (44, .iload_n 2, 1), (45, .aload_n 0, 1), (46, .getfield 78, 3), (49, .iastore, 1), (50, .aload_n 0, 1), (51, .bipush 44, 2), (53, .invokevirtual 55, 3), (56, .ifCond .eq 13, 3), (59, .aload_n 0, 1), (60, .iconst 0, 1), (61, .bipush 9, 2), (63, .invokevirtual 71, 3), (66, .ifCond .ne 5, 3), (69, .iconst 0, 1), (70, .ireturn, 1), (71, .aload_n 1, 1), (72, .getfield 97, 3), (75, .iload_n 2, 1), (76, .aload_n 0, 1), (77, .getfield 78, 3), (80, .iastore, 1), (81, .aload_n 0, 1), (82, .dup, 1), (83, .getfield 34, 3), (86, .iconst 1, 1), (87, .iadd, 1), (88, .putfield 34, 3), (91, .iconst 1, 1), (92, .ireturn, 1)]
theorem D_X4_readSpeed_ok : dtOK cX4_readSpeed D_X4_readSpeed = true := by decide +kernel
abbrev mk_rs : List (Nat × Nat) := [(3, 3), (3, 4), (3, 6), (13, 999), (14, 999)]
def sl_rs : List CAL := [(71, 0, 3, C_u_X4_readNumber_1), (55, 0, 2, C_u_X4_readSign_2)]
theorem sl_rs_ok (l : Launch) (G : KG) : ∀ q ∈ sl_rs, COK l G RX4 TX q := List.forall_mem_cons.mpr ⟨cok_v k_4_71 (ac_u_X4_readNumber_1 l G) rfl rfl rfl rfl rfl rfl, List.forall_mem_cons.mpr ⟨cok_v k_4_55 (ac_u_X4_readSign_2 l G) rfl rfl rfl rfl rfl rfl, fun _ h => absurd h List.not_mem_nil⟩⟩
theorem CF_rs_chk : (List.range 7).all (fun n => xcheckH hk0 D_X4_readSpeed 3 TX fld_4 put_4 cst_4 cstl_4 sl_rs 3 (CFg 12 6 6 mk_rs 2 42 n) [] 1000) = true := by decide +kernel
theorem ac_rs (l : Launch) (G : KG) (n : Nat) (h : n < 7) : ACt l G TX yX4_readSpeed cX4_readSpeed 3 (some .boolean) (CFg 12 6 6 mk_rs 2 42 n) := acert (tab := D_X4_readSpeed) (fld := fld_4) (put := put_4) (cst := cst_4) (cstl := cstl_4) (cal := sl_rs) (rk := 3) (cuts := []) (fuel := 1000) (by decide) (Or.inr (Or.inr (Or.inr ⟨rfl, rfl⟩))) fld_4_ok put_4_ok cst_4_ok cstl_4_ok (sl_rs_ok l G) D_X4_readSpeed_ok (List.all_eq_true.mp CF_rs_chk n (List.mem_range.mpr h))
def D_X4_readCog : DT := [(0, .aload_n 1, 1), (1, .getfield 52, 3), (4, .aload_n 0, 1), (5, .getfield 37, 3), (8, .iadd, 1), (9, .istore_n 2, 1), (10, .iload_n 2, 1), (11, .bipush 8, 2), (13, .if_icmp .lt 5, 3), (16, .iconst 0, 1), (17, .ireturn, 1), (18, .aload_n 0, 1), (19, .dup, 1), (20, .getfield 28, 3), (23, .iconst 1, 1), (24, .iadd, 1), (25, .putfield 28, 3), (28, .aload_n 0, 1), (29, .iconst 0, 1), (30, .bipush 99, 2), (32, .invokevirtual 71, 3), (35, .ifCond .ne 5, 3), (38, .iconst 0, 1), (39, .ireturn, 1), (40, .aload_n 1, 1), (41, .getfield 100, 3), (44, .iload_n 2, 1), (45, .aload_n 0, 1), (46, .getfield 78, 3), (49, .iastore, 1), (50, .aload_n 0, 1), (51, .dup, 1), (52, .getfield 37, 3), (55, .iconst 1, 1), (56, .iadd, 1), (57, .putfield 37, 3), (60, .iconst 1, 1), (61, .ireturn, 1)]
theorem D_X4_readCog_ok : dtOK cX4_readCog D_X4_readCog = true := by decide +kernel
abbrev mk_rc : List (Nat × Nat) := [(3, 3), (3, 4), (3, 7), (19, 999)]
def sl_rc : List CAL := [(71, 0, 3, C_u_X4_readNumber_1)]
theorem sl_rc_ok (l : Launch) (G : KG) : ∀ q ∈ sl_rc, COK l G RX4 TX q := List.forall_mem_cons.mpr ⟨cok_v k_4_71 (ac_u_X4_readNumber_1 l G) rfl rfl rfl rfl rfl rfl, fun _ h => absurd h List.not_mem_nil⟩
theorem CF_rc_chk : (List.range 9).all (fun n => xcheckH hk0 D_X4_readCog 3 TX fld_4 put_4 cst_4 cstl_4 sl_rc 3 (CFg 18 7 8 mk_rc 2 42 n) [] 1000) = true := by decide +kernel
theorem ac_rc (l : Launch) (G : KG) (n : Nat) (h : n < 9) : ACt l G TX yX4_readCog cX4_readCog 3 (some .boolean) (CFg 18 7 8 mk_rc 2 42 n) := acert (tab := D_X4_readCog) (fld := fld_4) (put := put_4) (cst := cst_4) (cstl := cstl_4) (cal := sl_rc) (rk := 3) (cuts := []) (fuel := 1000) (by decide) (Or.inr (Or.inr (Or.inr ⟨rfl, rfl⟩))) fld_4_ok put_4_ok cst_4_ok cstl_4_ok (sl_rc_ok l G) D_X4_readCog_ok (List.all_eq_true.mp CF_rc_chk n (List.mem_range.mpr h))
abbrev mk_rl : List (Nat × Nat) := [(3, 3), (3, 4), (3, 5), (3, 6), (3, 7), (6, 999), (7, 999), (8, 999), (9, 999), (13, 999), (14, 999), (19, 999)]
abbrev rm_rl : Room := { frames := 4, cells := 0, slots := 0, locals := 85 }
abbrev C_readLines : CE := ([(2, 3, 0), (2, 5, 0), (2, 12, 0), (2, 18, 0)], [], [], [(some (0, -2147483648, 2147483647), [], [], [])], [(3, 2), (3, 3), (3, 4), (3, 5), (3, 6), (3, 7), (5, 0), (6, 999), (7, 999), (8, 999), (9, 999), (12, 0), (13, 999), (14, 999), (18, 0), (19, 999)], 5, 108)
theorem d_ll_0 : decode cX4_readLine 0 = .ok (.aload_n 0, 1) := by decide +kernel
theorem d_ll_1 : decode cX4_readLine 1 = .ok (.getfield 28, 3) := by decide +kernel
theorem d_ll_4 : decode cX4_readLine 4 = .ok (.aload_n 0, 1) := by decide +kernel
theorem d_ll_5 : decode cX4_readLine 5 = .ok (.getfield 25, 3) := by decide +kernel
theorem d_ll_8 : decode cX4_readLine 8 = .ok (.if_icmp .lt 5, 3) := by decide +kernel
theorem d_ll_11 : decode cX4_readLine 11 = .ok (.iconst 0, 1) := by decide +kernel
theorem d_ll_12 : decode cX4_readLine 12 = .ok (.ireturn, 1) := by decide +kernel
theorem d_ll_13 : decode cX4_readLine 13 = .ok (.aload_n 0, 1) := by decide +kernel
theorem d_ll_14 : decode cX4_readLine 14 = .ok (.getfield 9, 3) := by decide +kernel
theorem d_ll_17 : decode cX4_readLine 17 = .ok (.aload_n 0, 1) := by decide +kernel
theorem d_ll_18 : decode cX4_readLine 18 = .ok (.getfield 28, 3) := by decide +kernel
theorem d_ll_21 : decode cX4_readLine 21 = .ok (.iaload, 1) := by decide +kernel
theorem d_ll_22 : decode cX4_readLine 22 = .ok (.lookupswitch 52 #[(99, 46), (104, 34), (115, 40)], 34) := by decide +kernel
theorem d_ll_56 : decode cX4_readLine 56 = .ok (.aload_n 0, 1) := by decide +kernel
theorem d_ll_57 : decode cX4_readLine 57 = .ok (.aload_n 1, 1) := by decide +kernel
theorem d_ll_58 : decode cX4_readLine 58 = .ok (.invokevirtual 59, 3) := by decide +kernel
theorem d_ll_61 : decode cX4_readLine 61 = .ok (.ireturn, 1) := by decide +kernel
theorem d_ll_62 : decode cX4_readLine 62 = .ok (.aload_n 0, 1) := by decide +kernel
theorem d_ll_63 : decode cX4_readLine 63 = .ok (.aload_n 2, 1) := by decide +kernel
theorem d_ll_64 : decode cX4_readLine 64 = .ok (.invokevirtual 63, 3) := by decide +kernel
theorem d_ll_67 : decode cX4_readLine 67 = .ok (.ireturn, 1) := by decide +kernel
theorem d_ll_68 : decode cX4_readLine 68 = .ok (.aload_n 0, 1) := by decide +kernel
theorem d_ll_69 : decode cX4_readLine 69 = .ok (.aload_n 3, 1) := by decide +kernel
theorem d_ll_70 : decode cX4_readLine 70 = .ok (.invokevirtual 67, 3) := by decide +kernel
theorem d_ll_73 : decode cX4_readLine 73 = .ok (.ireturn, 1) := by decide +kernel
theorem d_ll_74 : decode cX4_readLine 74 = .ok (.iconst 0, 1) := by decide +kernel
theorem d_ll_75 : decode cX4_readLine 75 = .ok (.ireturn, 1) := by decide +kernel
def D_X4_readLines : DT := [(0, .aload_n 0, 1), (1, .getfield 15, 3), (4, .ifCond .ne 5, 3), (7, .iconst 0, 1), (8, .ireturn, 1), (9, .aload_n 0, 1), (10, .aload_n 0, 1), (11, .getfield 15, 3), (14, .bipush 60, 2), (16, .invokestatic 19, 3), (19, .putfield 25, 3), (22, .aload_n 0, 1), (23, .iconst 0, 1), (24, .putfield 28, 3), (27, .aload_n 0, 1), (28, .iconst 0, 1), (29, .putfield 31, 3), (32, .aload_n 0, 1), (33, .iconst 0, 1), (34, .putfield 34, 3), (37, .aload_n 0, 1), (38, .iconst 0, 1), (39, .putfield 37, 3), (42, .iconst 1, 1), (43, .istore 4, 2), (45, .iload 4, 2), (47, .bipush 60, 2), (49, .if_icmp .gt 95, 3), (52, .aload_n 0, 1), (53, .aload_n 1, 1), (54, .aload_n 2, 1), (55, .aload_n 3, 1), (56, .invokevirtual 40, 3), (59, .ifCond .ne 10, 3), (62, .iconst (-1), 1), (63, .aload_n 0, 1), (64, .getfield 28, 3), (67, .isub, 1), (68, .ireturn, 1), (69, .aload_n 0, 1), (70, .getfield 28, 3), (73, .aload_n 0, 1), (74, .getfield 15, 3), (77, .if_icmp .ne 45, 3), (80, .aload_n 1, 1), (81, .dup, 1), (82, .getfield 44, 3), (85, .aload_n 0, 1), (86, .getfield 31, 3), (89, .iadd, 1), (90, .putfield 44, 3), (93, .aload_n 2, 1), (94, .dup, 1), (95, .getfield 49, 3), (98, .aload_n 0, 1), (99, .getfield 34, 3), (102, .iadd, 1), (103, .putfield 49, 3), (106, .aload_n 3, 1), (107, .dup, 1), (108, .getfield 52, 3), (111, .aload_n 0, 1), (112, .getfield 37, 3), (115, .iadd, 1), (116, .putfield 52, 3), (119, .iload 4, 2), (121, .ireturn, 1), (122, .aload_n 0, 1), (123, .bipush 59, 2), (125, .invokevirtual 55, 3), (128, .ifCond .ne 10, 3), (131, .iconst (-1), 1), (132, .aload_n 0, 1), (133, .getfield 28, 3), (136, .isub, 1), (137, .ireturn, 1), (138, .iinc 4 1, 3), (141, .goto (-96), 3), (144, .iconst (-1), 1), (145, .aload_n 0, 1), (146, .getfield 28, 3), (149, .isub, 1), (150, .ireturn, 1)]
theorem D_X4_readLines_ok : dtOK cX4_readLines D_X4_readLines = true := by decide +kernel
theorem d_ls_0 : decode cX4_readLines 0 = .ok (.aload_n 0, 1) := by decide +kernel
theorem d_ls_1 : decode cX4_readLines 1 = .ok (.getfield 15, 3) := by decide +kernel
theorem d_ls_4 : decode cX4_readLines 4 = .ok (.ifCond .ne 5, 3) := by decide +kernel
theorem d_ls_7 : decode cX4_readLines 7 = .ok (.iconst 0, 1) := by decide +kernel
theorem d_ls_8 : decode cX4_readLines 8 = .ok (.ireturn, 1) := by decide +kernel
theorem d_ls_9 : decode cX4_readLines 9 = .ok (.aload_n 0, 1) := by decide +kernel
theorem d_ls_10 : decode cX4_readLines 10 = .ok (.aload_n 0, 1) := by decide +kernel
theorem d_ls_11 : decode cX4_readLines 11 = .ok (.getfield 15, 3) := by decide +kernel
theorem d_ls_14 : decode cX4_readLines 14 = .ok (.bipush 60, 2) := by decide +kernel
theorem d_ls_16 : decode cX4_readLines 16 = .ok (.invokestatic 19, 3) := by decide +kernel
theorem d_ls_19 : decode cX4_readLines 19 = .ok (.putfield 25, 3) := by decide +kernel
theorem d_ls_22 : decode cX4_readLines 22 = .ok (.aload_n 0, 1) := by decide +kernel
theorem d_ls_23 : decode cX4_readLines 23 = .ok (.iconst 0, 1) := by decide +kernel
theorem d_ls_24 : decode cX4_readLines 24 = .ok (.putfield 28, 3) := by decide +kernel
theorem d_ls_27 : decode cX4_readLines 27 = .ok (.aload_n 0, 1) := by decide +kernel
theorem d_ls_28 : decode cX4_readLines 28 = .ok (.iconst 0, 1) := by decide +kernel
theorem d_ls_29 : decode cX4_readLines 29 = .ok (.putfield 31, 3) := by decide +kernel
theorem d_ls_32 : decode cX4_readLines 32 = .ok (.aload_n 0, 1) := by decide +kernel
theorem d_ls_33 : decode cX4_readLines 33 = .ok (.iconst 0, 1) := by decide +kernel
theorem d_ls_34 : decode cX4_readLines 34 = .ok (.putfield 34, 3) := by decide +kernel
theorem d_ls_37 : decode cX4_readLines 37 = .ok (.aload_n 0, 1) := by decide +kernel
theorem d_ls_38 : decode cX4_readLines 38 = .ok (.iconst 0, 1) := by decide +kernel
theorem d_ls_39 : decode cX4_readLines 39 = .ok (.putfield 37, 3) := by decide +kernel
theorem d_ls_42 : decode cX4_readLines 42 = .ok (.iconst 1, 1) := by decide +kernel
theorem d_ls_43 : decode cX4_readLines 43 = .ok (.istore 4, 2) := by decide +kernel
theorem d_ls_45 : decode cX4_readLines 45 = .ok (.iload 4, 2) := by decide +kernel
theorem d_ls_47 : decode cX4_readLines 47 = .ok (.bipush 60, 2) := by decide +kernel
theorem d_ls_49 : decode cX4_readLines 49 = .ok (.if_icmp .gt 95, 3) := by decide +kernel
theorem d_ls_52 : decode cX4_readLines 52 = .ok (.aload_n 0, 1) := by decide +kernel
theorem d_ls_53 : decode cX4_readLines 53 = .ok (.aload_n 1, 1) := by decide +kernel
theorem d_ls_54 : decode cX4_readLines 54 = .ok (.aload_n 2, 1) := by decide +kernel
theorem d_ls_55 : decode cX4_readLines 55 = .ok (.aload_n 3, 1) := by decide +kernel
theorem d_ls_56 : decode cX4_readLines 56 = .ok (.invokevirtual 40, 3) := by decide +kernel
theorem d_ls_59 : decode cX4_readLines 59 = .ok (.ifCond .ne 10, 3) := by decide +kernel
theorem d_ls_62 : decode cX4_readLines 62 = .ok (.iconst (-1), 1) := by decide +kernel
theorem d_ls_63 : decode cX4_readLines 63 = .ok (.aload_n 0, 1) := by decide +kernel
theorem d_ls_64 : decode cX4_readLines 64 = .ok (.getfield 28, 3) := by decide +kernel
theorem d_ls_67 : decode cX4_readLines 67 = .ok (.isub, 1) := by decide +kernel
theorem d_ls_68 : decode cX4_readLines 68 = .ok (.ireturn, 1) := by decide +kernel
theorem d_ls_69 : decode cX4_readLines 69 = .ok (.aload_n 0, 1) := by decide +kernel
theorem d_ls_70 : decode cX4_readLines 70 = .ok (.getfield 28, 3) := by decide +kernel
theorem d_ls_73 : decode cX4_readLines 73 = .ok (.aload_n 0, 1) := by decide +kernel
theorem d_ls_74 : decode cX4_readLines 74 = .ok (.getfield 15, 3) := by decide +kernel
theorem d_ls_77 : decode cX4_readLines 77 = .ok (.if_icmp .ne 45, 3) := by decide +kernel
theorem d_ls_80 : decode cX4_readLines 80 = .ok (.aload_n 1, 1) := by decide +kernel
theorem d_ls_81 : decode cX4_readLines 81 = .ok (.dup, 1) := by decide +kernel
theorem d_ls_82 : decode cX4_readLines 82 = .ok (.getfield 44, 3) := by decide +kernel
theorem d_ls_85 : decode cX4_readLines 85 = .ok (.aload_n 0, 1) := by decide +kernel
theorem d_ls_86 : decode cX4_readLines 86 = .ok (.getfield 31, 3) := by decide +kernel
theorem d_ls_89 : decode cX4_readLines 89 = .ok (.iadd, 1) := by decide +kernel
theorem d_ls_90 : decode cX4_readLines 90 = .ok (.putfield 44, 3) := by decide +kernel
theorem d_ls_93 : decode cX4_readLines 93 = .ok (.aload_n 2, 1) := by decide +kernel
theorem d_ls_94 : decode cX4_readLines 94 = .ok (.dup, 1) := by decide +kernel
theorem d_ls_95 : decode cX4_readLines 95 = .ok (.getfield 49, 3) := by decide +kernel
theorem d_ls_98 : decode cX4_readLines 98 = .ok (.aload_n 0, 1) := by decide +kernel
theorem d_ls_99 : decode cX4_readLines 99 = .ok (.getfield 34, 3) := by decide +kernel
theorem d_ls_102 : decode cX4_readLines 102 = .ok (.iadd, 1) := by decide +kernel
theorem d_ls_103 : decode cX4_readLines 103 = .ok (.putfield 49, 3) := by decide +kernel
theorem d_ls_106 : decode cX4_readLines 106 = .ok (.aload_n 3, 1) := by decide +kernel
theorem d_ls_107 : decode cX4_readLines 107 = .ok (.dup, 1) := by decide +kernel
theorem d_ls_108 : decode cX4_readLines 108 = .ok (.getfield 52, 3) := by decide +kernel
theorem d_ls_111 : decode cX4_readLines 111 = .ok (.aload_n 0, 1) := by decide +kernel
theorem d_ls_112 : decode cX4_readLines 112 = .ok (.getfield 37, 3) := by decide +kernel
theorem d_ls_115 : decode cX4_readLines 115 = .ok (.iadd, 1) := by decide +kernel
theorem d_ls_116 : decode cX4_readLines 116 = .ok (.putfield 52, 3) := by decide +kernel
theorem d_ls_119 : decode cX4_readLines 119 = .ok (.iload 4, 2) := by decide +kernel
theorem d_ls_121 : decode cX4_readLines 121 = .ok (.ireturn, 1) := by decide +kernel
theorem d_ls_122 : decode cX4_readLines 122 = .ok (.aload_n 0, 1) := by decide +kernel
theorem d_ls_123 : decode cX4_readLines 123 = .ok (.bipush 59, 2) := by decide +kernel
theorem d_ls_125 : decode cX4_readLines 125 = .ok (.invokevirtual 55, 3) := by decide +kernel
theorem d_ls_128 : decode cX4_readLines 128 = .ok (.ifCond .ne 10, 3) := by decide +kernel
theorem d_ls_131 : decode cX4_readLines 131 = .ok (.iconst (-1), 1) := by decide +kernel
theorem d_ls_132 : decode cX4_readLines 132 = .ok (.aload_n 0, 1) := by decide +kernel
theorem d_ls_133 : decode cX4_readLines 133 = .ok (.getfield 28, 3) := by decide +kernel
theorem d_ls_136 : decode cX4_readLines 136 = .ok (.isub, 1) := by decide +kernel
theorem d_ls_137 : decode cX4_readLines 137 = .ok (.ireturn, 1) := by decide +kernel
theorem d_ls_138 : decode cX4_readLines 138 = .ok (.iinc 4 1, 3) := by decide +kernel
theorem d_ls_141 : decode cX4_readLines 141 = .ok (.goto (-96), 3) := by decide +kernel
theorem d_ls_144 : decode cX4_readLines 144 = .ok (.iconst (-1), 1) := by decide +kernel
theorem d_ls_145 : decode cX4_readLines 145 = .ok (.aload_n 0, 1) := by decide +kernel
theorem d_ls_146 : decode cX4_readLines 146 = .ok (.getfield 28, 3) := by decide +kernel
theorem d_ls_149 : decode cX4_readLines 149 = .ok (.isub, 1) := by decide +kernel
theorem d_ls_150 : decode cX4_readLines 150 = .ok (.ireturn, 1) := by decide +kernel
abbrev sC_ls : CE := C_readLines
def sl_ls : List CAL := [(19, 1, 2, C_mmin)]
theorem sl_ls_ok (l : Launch) (G : KG) : ∀ q ∈ sl_ls, COK l G RX4 TX q := List.forall_mem_cons.mpr ⟨cok_m (row_mmin k_4_19.1 k_4_19.2.1 k_4_19.2.2.1 k_4_19.2.2.2.1), fun _ h => absurd h List.not_mem_nil⟩
def sk_ls : List CUT := []
abbrev se_ls_45 : CUT := (45, ([(0, 0, false), (1, 1, false), (2, 2, false), (3, 3, false), (4, 500, false)], [], [(0, (2, 3, 0)), (1, (2, 5, 0)), (2, (2, 12, 0)), (3, (2, 18, 0)), (500, (0, 1, 1)), (501, (0, 1, 80)), (502, (0, 1, 60)), (503, (0, 0, 0)), (504, (0, 0, 0)), (505, (0, 0, 0)), (506, (0, 0, 0))], [(3, 1, 501), (3, 2, 502), (3, 3, 503), (3, 5, 504), (3, 6, 505), (3, 7, 506)], [(502, 501, 0)], 1000), 0, [(0, 0)])
def sx_ls : List CUT := [se_ls_45]
abbrev ss_ls : AS := ([(0, 0, false), (1, 1, false), (2, 2, false), (3, 3, false)], [], [(0, (2, 3, 0)), (1, (2, 5, 0)), (2, (2, 12, 0)), (3, (2, 18, 0))], [], [], 1000)
theorem sg_ls : xcheckS hk0 D_X4_readLines 5 TX fld_4 put_4 cst_4 cstl_4 sl_ls 1 sC_ls sk_ls sx_ls [0, 1, 2, 3] 4000 0 ss_ls = true := by decide +kernel
