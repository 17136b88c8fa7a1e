/-! next, enough: to the pulls -/
def D_X10_next : DT := [(0, .aload_n 0, 1), (1, .getfield 33, 3), (4, .iload_n 1, 1), (5, .invokevirtual 173, 3), (8, .ifCond .eq 13, 3), (11, .iload_n 2, 1), (12, .iconst 1, 1), (13, .if_icmp .lt 8, 3), (16, .iload_n 2, 1), (17, .iconst 4, 1), (18, .if_icmp .le 5, 3), (21, .iconst (-1), 1), (22, .ireturn, 1), (23, .aload_n 0, 1), (24, .getfield 26, 3), (27, .iconst 0, 1), (28, .invokevirtual 261, 3), (31, .ifCond .ne 6, 3), (34, .bipush (-2), 2), (36, .ireturn, 1), (37, .aload_n 0, 1), (38, .invokevirtual 264, 3), (41, .astore_n 3, 1), (42, .aload_n 3, 1), (43, .getfield 268, 3), (46, .ifCond .ne 6, 3), (49, .bipush (-2), 2), (51, .ireturn, 1), (52, .aload_n 0, 1), (53, .aload_n 3, 1), (54, .iload_n 1, 1), (55, .iload_n 2, 1), (56, .invokevirtual 271, 3), (59, .istore 4, 2), (61, .aload_n 0, 1), (62, .getfield 12, 3), (65, .invokevirtual 180, 3), (68, .aload_n 0, 1), (69, .getfield 12, 3), (72, .aload_n 3, 1), (73, .getfield 275, 3), (76, .i2l, 1), (77, .invokevirtual 183, 3), (80, .aload_n 0, 1), (81, .getfield 12, 3), (84, .aload_n 3, 1), (85, .getfield 278, 3), (88, .i2l, 1), (89, .invokevirtual 183, 3), (92, .iload 4, 2), (94, .ireturn, 1)]
theorem D_X10_next_ok : dtOK cX10_next D_X10_next = true := by decide +kernel
def D_X10_enough : DT := [(0, .aload_n 0, 1), (1, .getfield 33, 3), (4, .iload_n 1, 1), (5, .invokevirtual 173, 3), (8, .ifCond .eq 32, 3), (11, .iload_n 2, 1), (12, .bipush 60, 2), (14, .invokestatic 159, 3), (17, .ifCond .eq 23, 3), (20, .iload_n 3, 1), (21, .bipush 60, 2), (23, .invokestatic 159, 3), (26, .ifCond .eq 14, 3), (29, .aload_n 0, 1), (30, .getfield 26, 3), (33, .iconst 0, 1), (34, .invokevirtual 261, 3), (37, .ifCond .ne 5, 3), (40, .iconst (-1), 1), (41, .ireturn, 1), (42, .aload_n 0, 1), (43, .invokevirtual 242, 3), (46, .aload_n 0, 1), (47, .getfield 47, 3), (50, .iload_n 2, 1), (51, .iload_n 3, 1), (52, .invokevirtual 246, 3), (55, .bipush (-2), 2), (57, .if_icmp .eq 5, 3), (60, .iconst (-1), 1), (61, .ireturn, 1), (62, .aload_n 0, 1), (63, .invokevirtual 264, 3), (66, .astore 4, 2), (68, .iconst 0, 1), (69, .istore 5, 2), (71, .iload 5, 2), (73, .bipush 6, 2), (75, .if_icmp .ge 64, 3), (78, .aload 4, 2), (80, .getfield 268, 3), (83, .iconst 1, 1), (84, .if_icmp .le 55, 3), (87, .aload_n 0, 1), (88, .aload 4, 2), (90, .iload_n 1, 1), (91, .iconst 4, 1), (92, .invokevirtual 271, 3), (95, .pop, 1), (96, .aload_n 0, 1), (97, .aload 4, 2), (99, .iload_n 1, 1), (100, .aload 4, 2), (102, .getfield 275, 3), (105, .aload 4, 2), (107, .getfield 278, 3), (110, .invokevirtual 281, 3), (113, .aload 4, 2), (115, .iload_n 2, 1), (116, .iload_n 3, 1), (117, .invokevirtual 285, 3), (120, .aload 4, 2), (122, .getfield 288, 3), (125, .iload 5, 2), (127, .aload 4, 2), (129, .getfield 268, 3), (132, .iastore, 1), (133, .iinc 5 1, 3), (136, .goto (-65), 3), (139, .aload 4, 2), (141, .getfield 268, 3), (144, .iconst 1, 1), (145, .if_icmp .eq 6, 3), (148, .bipush (-2), 2), (150, .ireturn, 1), (151, .aload_n 0, 1), (152, .getfield 12, 3), (155, .invokevirtual 180, 3), (158, .iconst 0, 1), (159, .istore 6, 2), (161, .iload 6, 2), (163, .iload 5, 2), (165, .if_icmp .ge 25, 3), (168, .aload_n 0, 1), (169, .getfield 12, 3), (172, .aload 4, 2), (174, .getfield 288, 3), (177, .iload 6, 2), (179, .iaload, 1), (180, .i2l, 1), (181, .invokevirtual 183, 3), (184, .iinc 6 1, 3), (187, .goto (-26), 3), (190, .iload 5, 2), (192, .ireturn, 1)]
theorem D_X10_enough_ok : dtOK cX10_enough D_X10_enough = true := by decide +kernel
def D_X5_hasHoleOf : DT := [(0, .iconst 0, 1), (1, .istore_n 2, 1), (2, .iload_n 2, 1), (3, .aload_n 0, 1), (4, .getfield 34, 3), (7, .if_icmp .ge 21, 3), (10, .aload_n 0, 1), (11, .getfield 9, 3), (14, .iload_n 2, 1), (15, .iaload, 1), (16, .iload_n 1, 1), (17, .if_icmp .ne 5, 3), (20, .iconst 1, 1), (21, .ireturn, 1), (22, .iinc 2 1, 3), (25, .goto (-23), 3), (28, .iconst 0, 1), (29, .ireturn, 1)]
theorem D_X5_hasHoleOf_ok : dtOK cX5_hasHoleOf D_X5_hasHoleOf = true := by decide +kernel
abbrev C_q_X5_hasHoleOf_0 : CE := ([(2, 5, 0), (0, -2147483648, 2147483647)], [], [], [(some (0, 0, 0), [], [], []), (some (0, 1, 1), [(1, (0, 0, 1))], [(5, 0, (0, 1, 16))], [])], [], 0, 0)
theorem ac_q_X5_hasHoleOf_0 (l : Launch) (G : KG) : ACt l G TX yX5_hasHoleOf cX5_hasHoleOf 3 (some .boolean) C_q_X5_hasHoleOf_0 := acert (tab := D_X5_hasHoleOf) (fld := fld_5) (put := put_5) (cst := cst_5) (cstl := cstl_5) (cal := []) (rk := 3) (cuts := [(2, ([(0, 0, false), (1, 1, false), (2, 500, false)], [], [(0, (2, 5, 0)), (1, (0, -2147483648, 2147483647)), (500, (0, 0, 16))], [], [], 1000), 17, [(1, 500)])]) (fuel := 4000) (by decide) (Or.inr (Or.inr (Or.inr ⟨rfl, rfl⟩))) fld_5_ok put_5_ok cst_5_ok cstl_5_ok (fun _ h => absurd h List.not_mem_nil) D_X5_hasHoleOf_ok (by decide +kernel)
abbrev C_q_X7_isSpeed_1 : CE := ([(2, 12, 0), (0, -2147483648, 2147483647)], [], [], [(some (0, 0, 0), [], [], []), (some (0, 1, 1), [(1, (0, 0, 5))], [(12, 0, (0, 1, 6))], [(1, 200, -1)])], [], 0, 0)
theorem ac_q_X7_isSpeed_1 (l : Launch) (G : KG) : ACt l G TXP yX7_isSpeed cX7_isSpeed 2 (some .boolean) C_q_X7_isSpeed_1 := acert (tab := D_X7_isSpeed) (fld := fld_7) (put := put_7) (cst := cst_7) (cstl := cstl_7) (cal := []) (rk := 3) (cuts := []) (fuel := 4000) (by decide) (Or.inr (Or.inr (Or.inr ⟨rfl, rfl⟩))) fld_7_ok put_7_ok cst_7_ok cstl_7_ok (fun _ h => absurd h List.not_mem_nil) D_X7_isSpeed_ok (by decide +kernel)
abbrev C_q_X5_hasHoleOf_2 : CE := ([(2, 5, 0), (0, -2147483648, 2147483647)], [], [], [(some (0, 0, 0), [], [], []), (some (0, 1, 1), [(1, (0, 0, 1))], [(5, 0, (0, 1, 16))], [])], [], 0, 0)
theorem ac_q_X5_hasHoleOf_2 (l : Launch) (G : KG) : ACt l G TXP yX5_hasHoleOf cX5_hasHoleOf 3 (some .boolean) C_q_X5_hasHoleOf_2 := acert (tab := D_X5_hasHoleOf) (fld := fld_5) (put := put_5) (cst := cst_5) (cstl := cstl_5) (cal := []) (rk := 3) (cuts := [(2, ([(0, 0, false), (1, 1, false), (2, 500, false)], [], [(0, (2, 5, 0)), (1, (0, -2147483648, 2147483647)), (500, (0, 0, 16))], [], [], 1000), 17, [(1, 500)])]) (fuel := 4000) (by decide) (Or.inr (Or.inr (Or.inr ⟨rfl, rfl⟩))) fld_5_ok put_5_ok cst_5_ok cstl_5_ok (fun _ h => absurd h List.not_mem_nil) D_X5_hasHoleOf_ok (by decide +kernel)
abbrev C_q_X10_isWithin_3 : CE := ([(0, -2147483648, 2147483647), (0, 60, 60)], [], [], [(some (0, 0, 0), [], [], []), (some (0, 1, 1), [(0, (0, -60, 60))], [], [])], [], 0, 0)
theorem ac_q_X10_isWithin_3 (l : Launch) (G : KG) : ACt l G TX yX10_isWithin cX10_isWithin 2 (some .boolean) C_q_X10_isWithin_3 := acert (tab := D_X10_isWithin) (fld := fld_10) (put := put_10) (cst := cst_10) (cstl := cstl_10) (cal := []) (rk := 3) (cuts := []) (fuel := 4000) (by decide) (Or.inr (Or.inr (Or.inr ⟨rfl, rfl⟩))) fld_10_ok put_10_ok cst_10_ok cstl_10_ok (fun _ h => absurd h List.not_mem_nil) D_X10_isWithin_ok (by decide +kernel)
abbrev C_q_X10_isWithin_4 : CE := ([(0, -2147483648, 2147483647), (0, 60, 60)], [], [], [(some (0, 0, 0), [], [], []), (some (0, 1, 1), [(0, (0, -60, 60))], [], [])], [], 0, 0)
theorem ac_q_X10_isWithin_4 (l : Launch) (G : KG) : ACt l G TXP yX10_isWithin cX10_isWithin 2 (some .boolean) C_q_X10_isWithin_4 := acert (tab := D_X10_isWithin) (fld := fld_10) (put := put_10) (cst := cst_10) (cstl := cstl_10) (cal := []) (rk := 3) (cuts := []) (fuel := 4000) (by decide) (Or.inr (Or.inr (Or.inr ⟨rfl, rfl⟩))) fld_10_ok put_10_ok cst_10_ok cstl_10_ok (fun _ h => absurd h List.not_mem_nil) D_X10_isWithin_ok (by decide +kernel)
abbrev C_nx : CE := ([(2, 0, 0), (0, -2147483648, 2147483647), (0, -2147483648, 2147483647)], [], [], [(some (0, -2147483648, 2147483647), [], [], [])], [], 5, 120)
theorem d_nx_38 : decode cX10_next 38 = .ok (.invokevirtual 264, 3) := by decide +kernel
theorem d_nx_41 : decode cX10_next 41 = .ok (.astore_n 3, 1) := by decide +kernel
theorem d_nx_42 : decode cX10_next 42 = .ok (.aload_n 3, 1) := by decide +kernel
theorem d_nx_43 : decode cX10_next 43 = .ok (.getfield 268, 3) := by decide +kernel
theorem d_nx_46 : decode cX10_next 46 = .ok (.ifCond .ne 6, 3) := by decide +kernel
theorem d_nx_49 : decode cX10_next 49 = .ok (.bipush (-2), 2) := by decide +kernel
theorem d_nx_51 : decode cX10_next 51 = .ok (.ireturn, 1) := by decide +kernel
theorem d_nx_52 : decode cX10_next 52 = .ok (.aload_n 0, 1) := by decide +kernel
theorem d_nx_53 : decode cX10_next 53 = .ok (.aload_n 3, 1) := by decide +kernel
theorem d_nx_54 : decode cX10_next 54 = .ok (.iload_n 1, 1) := by decide +kernel
theorem d_nx_55 : decode cX10_next 55 = .ok (.iload_n 2, 1) := by decide +kernel
theorem d_nx_56 : decode cX10_next 56 = .ok (.invokevirtual 271, 3) := by decide +kernel
theorem d_nx_59 : decode cX10_next 59 = .ok (.istore 4, 2) := by decide +kernel
theorem d_nx_61 : decode cX10_next 61 = .ok (.aload_n 0, 1) := by decide +kernel
theorem d_nx_62 : decode cX10_next 62 = .ok (.getfield 12, 3) := by decide +kernel
theorem d_nx_65 : decode cX10_next 65 = .ok (.invokevirtual 180, 3) := by decide +kernel
theorem d_nx_68 : decode cX10_next 68 = .ok (.aload_n 0, 1) := by decide +kernel
theorem d_nx_69 : decode cX10_next 69 = .ok (.getfield 12, 3) := by decide +kernel
theorem d_nx_72 : decode cX10_next 72 = .ok (.aload_n 3, 1) := by decide +kernel
theorem d_nx_73 : decode cX10_next 73 = .ok (.getfield 275, 3) := by decide +kernel
theorem d_nx_76 : decode cX10_next 76 = .ok (.i2l, 1) := by decide +kernel
theorem d_nx_77 : decode cX10_next 77 = .ok (.invokevirtual 183, 3) := by decide +kernel
theorem d_nx_80 : decode cX10_next 80 = .ok (.aload_n 0, 1) := by decide +kernel
theorem d_nx_81 : decode cX10_next 81 = .ok (.getfield 12, 3) := by decide +kernel
theorem d_nx_84 : decode cX10_next 84 = .ok (.aload_n 3, 1) := by decide +kernel
theorem d_nx_85 : decode cX10_next 85 = .ok (.getfield 278, 3) := by decide +kernel
theorem d_nx_88 : decode cX10_next 88 = .ok (.i2l, 1) := by decide +kernel
theorem d_nx_89 : decode cX10_next 89 = .ok (.invokevirtual 183, 3) := by decide +kernel
theorem d_nx_92 : decode cX10_next 92 = .ok (.iload 4, 2) := by decide +kernel
theorem d_nx_94 : decode cX10_next 94 = .ok (.ireturn, 1) := by decide +kernel
abbrev C_en : CE := ([(2, 0, 0), (0, -2147483648, 2147483647), (0, -2147483648, 2147483647), (0, -2147483648, 2147483647)], [], [], [(some (0, -2147483648, 2147483647), [], [], [])], [(29, 999), (30, 999), (31, 999)], 5, 122)
theorem d_en_63 : decode cX10_enough 63 = .ok (.invokevirtual 264, 3) := by decide +kernel
theorem d_en_66 : decode cX10_enough 66 = .ok (.astore 4, 2) := by decide +kernel
theorem d_en_68 : decode cX10_enough 68 = .ok (.iconst 0, 1) := by decide +kernel
theorem d_en_69 : decode cX10_enough 69 = .ok (.istore 5, 2) := by decide +kernel
theorem d_en_71 : decode cX10_enough 71 = .ok (.iload 5, 2) := by decide +kernel
theorem d_en_73 : decode cX10_enough 73 = .ok (.bipush 6, 2) := by decide +kernel
theorem d_en_75 : decode cX10_enough 75 = .ok (.if_icmp .ge 64, 3) := by decide +kernel
theorem d_en_78 : decode cX10_enough 78 = .ok (.aload 4, 2) := by decide +kernel
theorem d_en_80 : decode cX10_enough 80 = .ok (.getfield 268, 3) := by decide +kernel
theorem d_en_83 : decode cX10_enough 83 = .ok (.iconst 1, 1) := by decide +kernel
theorem d_en_84 : decode cX10_enough 84 = .ok (.if_icmp .le 55, 3) := by decide +kernel
theorem d_en_87 : decode cX10_enough 87 = .ok (.aload_n 0, 1) := by decide +kernel
theorem d_en_88 : decode cX10_enough 88 = .ok (.aload 4, 2) := by decide +kernel
theorem d_en_90 : decode cX10_enough 90 = .ok (.iload_n 1, 1) := by decide +kernel
theorem d_en_91 : decode cX10_enough 91 = .ok (.iconst 4, 1) := by decide +kernel
theorem d_en_92 : decode cX10_enough 92 = .ok (.invokevirtual 271, 3) := by decide +kernel
theorem d_en_95 : decode cX10_enough 95 = .ok (.pop, 1) := by decide +kernel
theorem d_en_96 : decode cX10_enough 96 = .ok (.aload_n 0, 1) := by decide +kernel
theorem d_en_97 : decode cX10_enough 97 = .ok (.aload 4, 2) := by decide +kernel
theorem d_en_99 : decode cX10_enough 99 = .ok (.iload_n 1, 1) := by decide +kernel
theorem d_en_100 : decode cX10_enough 100 = .ok (.aload 4, 2) := by decide +kernel
theorem d_en_102 : decode cX10_enough 102 = .ok (.getfield 275, 3) := by decide +kernel
theorem d_en_105 : decode cX10_enough 105 = .ok (.aload 4, 2) := by decide +kernel
theorem d_en_107 : decode cX10_enough 107 = .ok (.getfield 278, 3) := by decide +kernel
theorem d_en_110 : decode cX10_enough 110 = .ok (.invokevirtual 281, 3) := by decide +kernel
theorem d_en_113 : decode cX10_enough 113 = .ok (.aload 4, 2) := by decide +kernel
theorem d_en_115 : decode cX10_enough 115 = .ok (.iload_n 2, 1) := by decide +kernel
theorem d_en_116 : decode cX10_enough 116 = .ok (.iload_n 3, 1) := by decide +kernel
theorem d_en_117 : decode cX10_enough 117 = .ok (.invokevirtual 285, 3) := by decide +kernel
theorem d_en_120 : decode cX10_enough 120 = .ok (.aload 4, 2) := by decide +kernel
theorem d_en_122 : decode cX10_enough 122 = .ok (.getfield 288, 3) := by decide +kernel
theorem d_en_125 : decode cX10_enough 125 = .ok (.iload 5, 2) := by decide +kernel
theorem d_en_127 : decode cX10_enough 127 = .ok (.aload 4, 2) := by decide +kernel
theorem d_en_129 : decode cX10_enough 129 = .ok (.getfield 268, 3) := by decide +kernel
theorem d_en_132 : decode cX10_enough 132 = .ok (.iastore, 1) := by decide +kernel
theorem d_en_133 : decode cX10_enough 133 = .ok (.iinc 5 1, 3) := by decide +kernel
theorem d_en_136 : decode cX10_enough 136 = .ok (.goto (-65), 3) := by decide +kernel
theorem d_en_139 : decode cX10_enough 139 = .ok (.aload 4, 2) := by decide +kernel
theorem d_en_141 : decode cX10_enough 141 = .ok (.getfield 268, 3) := by decide +kernel
theorem d_en_144 : decode cX10_enough 144 = .ok (.iconst 1, 1) := by decide +kernel
theorem d_en_145 : decode cX10_enough 145 = .ok (.if_icmp .eq 6, 3) := by decide +kernel
theorem d_en_148 : decode cX10_enough 148 = .ok (.bipush (-2), 2) := by decide +kernel
theorem d_en_150 : decode cX10_enough 150 = .ok (.ireturn, 1) := by decide +kernel
theorem d_en_151 : decode cX10_enough 151 = .ok (.aload_n 0, 1) := by decide +kernel
theorem d_en_152 : decode cX10_enough 152 = .ok (.getfield 12, 3) := by decide +kernel
theorem d_en_155 : decode cX10_enough 155 = .ok (.invokevirtual 180, 3) := by decide +kernel
theorem d_en_158 : decode cX10_enough 158 = .ok (.iconst 0, 1) := by decide +kernel
theorem d_en_159 : decode cX10_enough 159 = .ok (.istore 6, 2) := by decide +kernel
theorem d_en_161 : decode cX10_enough 161 = .ok (.iload 6, 2) := by decide +kernel
theorem d_en_163 : decode cX10_enough 163 = .ok (.iload 5, 2) := by decide +kernel
theorem d_en_165 : decode cX10_enough 165 = .ok (.if_icmp .ge 25, 3) := by decide +kernel
theorem d_en_168 : decode cX10_enough 168 = .ok (.aload_n 0, 1) := by decide +kernel
theorem d_en_169 : decode cX10_enough 169 = .ok (.getfield 12, 3) := by decide +kernel
theorem d_en_172 : decode cX10_enough 172 = .ok (.aload 4, 2) := by decide +kernel
theorem d_en_174 : decode cX10_enough 174 = .ok (.getfield 288, 3) := by decide +kernel
theorem d_en_177 : decode cX10_enough 177 = .ok (.iload 6, 2) := by decide +kernel
theorem d_en_179 : decode cX10_enough 179 = .ok (.iaload, 1) := by decide +kernel
theorem d_en_180 : decode cX10_enough 180 = .ok (.i2l, 1) := by decide +kernel
theorem d_en_181 : decode cX10_enough 181 = .ok (.invokevirtual 183, 3) := by decide +kernel
theorem d_en_184 : decode cX10_enough 184 = .ok (.iinc 6 1, 3) := by decide +kernel
theorem d_en_187 : decode cX10_enough 187 = .ok (.goto (-26), 3) := by decide +kernel
theorem d_en_190 : decode cX10_enough 190 = .ok (.iload 5, 2) := by decide +kernel
theorem d_en_192 : decode cX10_enough 192 = .ok (.ireturn, 1) := by decide +kernel
abbrev sC_nxA : CE := C_nx
def sl_nxA : List CAL := [(173, 0, 2, C_X7_isSpeed_0), (261, 0, 3, C_q_X5_hasHoleOf_0)]
theorem sl_nxA_ok (l : Launch) (G : KG) : ∀ q ∈ sl_nxA, COK l G RX10 TX q := List.forall_mem_cons.mpr ⟨cok_v k_10_173 (ac_X7_isSpeed_0 l G) rfl rfl rfl rfl rfl rfl, List.forall_mem_cons.mpr ⟨cok_v k_10_261 (ac_q_X5_hasHoleOf_0 l G) rfl rfl rfl rfl rfl rfl, fun _ h => absurd h List.not_mem_nil⟩⟩
def sk_nxA : List CUT := []
abbrev se_nxA_38 : CUT := (38, ([(0, 0, false), (1, 1, false), (2, 2, false)], [0], [(0, (2, 0, 0)), (1, (0, 0, 5)), (2, (0, 1, 4)), (500, (2, 5, 0)), (501, (2, 12, 0)), (502, (0, 1, 16)), (503, (0, 1, 6))], [(0, 2, 500), (0, 3, 501), (5, 0, 502), (12, 0, 503)], [(1, 503, -1)], 1000), 0, [(0, 0)])
def sx_nxA : List CUT := [se_nxA_38]
abbrev ss_nxA : AS := ([(0, 0, false), (1, 1, false), (2, 2, false)], [], [(0, (2, 0, 0)), (1, (0, -2147483648, 2147483647)), (2, (0, -2147483648, 2147483647))], [], [], 1000)
theorem sg_nxA : acheckS hk0 D_X10_next 5 TX fld_10 put_10 cst_10 cstl_10 sl_nxA 1 sC_nxA sk_nxA sx_nxA [0, 1, 2] 4000 0 ss_nxA = true := by decide +kernel
abbrev sC_nxR : CE := C_nx
def sl_nxR : List CAL := [(173, 0, 2, C_q_X7_isSpeed_1), (261, 0, 3, C_q_X5_hasHoleOf_2)]
theorem sl_nxR_ok (l : Launch) (G : KG) : ∀ q ∈ sl_nxR, COK l G RX10 TXP q := List.forall_mem_cons.mpr ⟨cok_v k_10_173 (ac_q_X7_isSpeed_1 l G) rfl rfl rfl rfl rfl rfl, List.forall_mem_cons.mpr ⟨cok_v k_10_261 (ac_q_X5_hasHoleOf_2 l G) rfl rfl rfl rfl rfl rfl, fun _ h => absurd h List.not_mem_nil⟩⟩
def sk_nxR : List CUT := []
abbrev se_nxR_38 : CUT := (38, ([(0, 0, false), (1, 1, false), (2, 2, false)], [0], [(0, (2, 0, 0)), (1, (0, 0, 5)), (2, (0, 1, 4)), (500, (2, 5, 0)), (501, (2, 12, 0)), (502, (0, 1, 16)), (503, (0, 1, 6))], [(0, 2, 500), (0, 3, 501), (5, 0, 502), (12, 0, 503)], [(1, 503, -1)], 1000), 0, [(0, 0)])
def sx_nxR : List CUT := [se_nxR_38]
abbrev ss_nxR : AS := ([(0, 0, false), (1, 1, false), (2, 2, false)], [], [(0, (2, 0, 0)), (1, (0, -2147483648, 2147483647)), (2, (0, -2147483648, 2147483647))], [], [], 1000)
theorem sg_nxR : acheckS hk0 D_X10_next 5 TXP fld_10 put_10 cst_10 cstl_10 sl_nxR 1 sC_nxR sk_nxR sx_nxR [0, 1, 2] 4000 0 ss_nxR = true := by decide +kernel
abbrev sC_enA : CE := C_en
def sl_enA : List CAL := [(173, 0, 2, C_X7_isSpeed_0), (159, 1, 2, C_q_X10_isWithin_3), (261, 0, 3, C_q_X5_hasHoleOf_0), (242, 0, 3, C_X10_prepareTrials_0), (246, 0, 4, C_X9_firstAgainst_0)]
theorem sl_enA_ok (l : Launch) (G : KG) : ∀ q ∈ sl_enA, COK l G RX10 TX q := List.forall_mem_cons.mpr ⟨cok_v k_10_173 (ac_X7_isSpeed_0 l G) rfl rfl rfl rfl rfl rfl, List.forall_mem_cons.mpr ⟨cok_s k_10_159 (ac_q_X10_isWithin_3 l G) rfl, List.forall_mem_cons.mpr ⟨cok_v k_10_261 (ac_q_X5_hasHoleOf_0 l G) rfl rfl rfl rfl rfl rfl, List.forall_mem_cons.mpr ⟨cok_v k_10_242 (ac_X10_prepareTrials_0 l G) rfl rfl rfl rfl rfl rfl, List.forall_mem_cons.mpr ⟨cok_v k_10_246 (ac_X9_firstAgainst_0 l G) rfl rfl rfl rfl rfl rfl, fun _ h => absurd h List.not_mem_nil⟩⟩⟩⟩⟩
def sk_enA : List CUT := []
abbrev se_enA_63 : CUT := (63, ([(0, 0, false), (1, 1, false), (2, 2, false), (3, 3, false)], [0], [(0, (2, 0, 0)), (1, (0, 0, 5)), (2, (0, -60, 60)), (3, (0, -60, 60)), (500, (2, 5, 0)), (501, (2, 12, 0)), (502, (2, 22, 0)), (503, (0, 1, 16)), (504, (0, 1, 6)), (505, (0, 0, 12))], [(0, 2, 500), (0, 3, 501), (0, 5, 502), (5, 0, 503), (12, 0, 504), (22, 0, 505)], [(1, 504, -1)], 1000), 0, [(0, 0)])
def sx_enA : List CUT := [se_enA_63]
abbrev ss_enA : AS := ([(0, 0, false), (1, 1, false), (2, 2, false), (3, 3, false)], [], [(0, (2, 0, 0)), (1, (0, -2147483648, 2147483647)), (2, (0, -2147483648, 2147483647)), (3, (0, -2147483648, 2147483647))], [], [], 1000)
theorem sg_enA : acheckS hk0 D_X10_enough 7 TX fld_10 put_10 cst_10 cstl_10 sl_enA 1 sC_enA sk_enA sx_enA [0, 1, 2, 3] 4000 0 ss_enA = true := by decide +kernel
abbrev sC_enR : CE := C_en
def sl_enR : List CAL := [(173, 0, 2, C_q_X7_isSpeed_1), (159, 1, 2, C_q_X10_isWithin_4), (261, 0, 3, C_q_X5_hasHoleOf_2), (242, 0, 3, C_p_X10_prepareTrials_0), (246, 0, 4, C_p_X9_firstAgainst_0)]
theorem sl_enR_ok (l : Launch) (G : KG) : ∀ q ∈ sl_enR, COK l G RX10 TXP q := List.forall_mem_cons.mpr ⟨cok_v k_10_173 (ac_q_X7_isSpeed_1 l G) rfl rfl rfl rfl rfl rfl, List.forall_mem_cons.mpr ⟨cok_s k_10_159 (ac_q_X10_isWithin_4 l G) rfl, List.forall_mem_cons.mpr ⟨cok_v k_10_261 (ac_q_X5_hasHoleOf_2 l G) rfl rfl rfl rfl rfl rfl, List.forall_mem_cons.mpr ⟨cok_v k_10_242 (ac_p_X10_prepareTrials_0 l G) rfl rfl rfl rfl rfl rfl, List.forall_mem_cons.mpr ⟨cok_v k_10_246 (ac_p_X9_firstAgainst_0 l G) rfl rfl rfl rfl rfl rfl, fun _ h => absurd h List.not_mem_nil⟩⟩⟩⟩⟩
def sk_enR : List CUT := []
abbrev se_enR_63 : CUT := (63, ([(0, 0, false), (1, 1, false), (2, 2, false), (3, 3, false)], [0], [(0, (2, 0, 0)), (1, (0, 0, 5)), (2, (0, -60, 60)), (3, (0, -60, 60)), (500, (2, 5, 0)), (501, (2, 12, 0)), (502, (2, 22, 0)), (503, (0, 1, 16)), (504, (0, 1, 6)), (505, (0, 0, 12))], [(0, 2, 500), (0, 3, 501), (0, 5, 502), (5, 0, 503), (12, 0, 504), (22, 0, 505)], [(1, 504, -1)], 1000), 0, [(0, 0)])
def sx_enR : List CUT := [se_enR_63]
abbrev ss_enR : AS := ([(0, 0, false), (1, 1, false), (2, 2, false), (3, 3, false)], [], [(0, (2, 0, 0)), (1, (0, -2147483648, 2147483647)), (2, (0, -2147483648, 2147483647)), (3, (0, -2147483648, 2147483647))], [], [], 1000)
theorem sg_enR : acheckS hk0 D_X10_enough 7 TXP fld_10 put_10 cst_10 cstl_10 sl_enR 1 sC_enR sk_enR sx_enR [0, 1, 2, 3] 4000 0 ss_enR = true := by decide +kernel
