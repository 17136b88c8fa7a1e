theorem d_cs_0 : decode cX11_cogSize 0 = .ok (.lconst 0, 1) := by decide +kernel
theorem d_cs_1 : decode cX11_cogSize 1 = .ok (.lstore_n 1, 1) := by decide +kernel
theorem d_cs_2 : decode cX11_cogSize 2 = .ok (.lconst 0, 1) := by decide +kernel
theorem d_cs_3 : decode cX11_cogSize 3 = .ok (.lstore_n 3, 1) := by decide +kernel
theorem d_cs_4 : decode cX11_cogSize 4 = .ok (.iconst 0, 1) := by decide +kernel
theorem d_cs_5 : decode cX11_cogSize 5 = .ok (.istore 5, 2) := by decide +kernel
theorem d_cs_7 : decode cX11_cogSize 7 = .ok (.iload 5, 2) := by decide +kernel
theorem d_cs_9 : decode cX11_cogSize 9 = .ok (.aload_n 0, 1) := by decide +kernel
theorem d_cs_10 : decode cX11_cogSize 10 = .ok (.getfield 101, 3) := by decide +kernel
theorem d_cs_13 : decode cX11_cogSize 13 = .ok (.if_icmp .ge 57, 3) := by decide +kernel
theorem d_cs_16 : decode cX11_cogSize 16 = .ok (.lload_n 1, 1) := by decide +kernel
theorem d_cs_17 : decode cX11_cogSize 17 = .ok (.aload_n 0, 1) := by decide +kernel
theorem d_cs_18 : decode cX11_cogSize 18 = .ok (.getfield 104, 3) := by decide +kernel
theorem d_cs_21 : decode cX11_cogSize 21 = .ok (.aload_n 0, 1) := by decide +kernel
theorem d_cs_22 : decode cX11_cogSize 22 = .ok (.getfield 459, 3) := by decide +kernel
theorem d_cs_25 : decode cX11_cogSize 25 = .ok (.iload 5, 2) := by decide +kernel
theorem d_cs_27 : decode cX11_cogSize 27 = .ok (.iaload, 1) := by decide +kernel
theorem d_cs_28 : decode cX11_cogSize 28 = .ok (.iaload, 1) := by decide +kernel
theorem d_cs_29 : decode cX11_cogSize 29 = .ok (.aload_n 0, 1) := by decide +kernel
theorem d_cs_30 : decode cX11_cogSize 30 = .ok (.getfield 69, 3) := by decide +kernel
theorem d_cs_33 : decode cX11_cogSize 33 = .ok (.iload 5, 2) := by decide +kernel
theorem d_cs_35 : decode cX11_cogSize 35 = .ok (.iaload, 1) := by decide +kernel
theorem d_cs_36 : decode cX11_cogSize 36 = .ok (.imul, 1) := by decide +kernel
theorem d_cs_37 : decode cX11_cogSize 37 = .ok (.i2l, 1) := by decide +kernel
theorem d_cs_38 : decode cX11_cogSize 38 = .ok (.ladd, 1) := by decide +kernel
theorem d_cs_39 : decode cX11_cogSize 39 = .ok (.lstore_n 1, 1) := by decide +kernel
theorem d_cs_40 : decode cX11_cogSize 40 = .ok (.lload_n 3, 1) := by decide +kernel
theorem d_cs_41 : decode cX11_cogSize 41 = .ok (.aload_n 0, 1) := by decide +kernel
theorem d_cs_42 : decode cX11_cogSize 42 = .ok (.getfield 104, 3) := by decide +kernel
theorem d_cs_45 : decode cX11_cogSize 45 = .ok (.aload_n 0, 1) := by decide +kernel
theorem d_cs_46 : decode cX11_cogSize 46 = .ok (.getfield 459, 3) := by decide +kernel
theorem d_cs_49 : decode cX11_cogSize 49 = .ok (.iload 5, 2) := by decide +kernel
theorem d_cs_51 : decode cX11_cogSize 51 = .ok (.iaload, 1) := by decide +kernel
theorem d_cs_52 : decode cX11_cogSize 52 = .ok (.iaload, 1) := by decide +kernel
theorem d_cs_53 : decode cX11_cogSize 53 = .ok (.aload_n 0, 1) := by decide +kernel
theorem d_cs_54 : decode cX11_cogSize 54 = .ok (.getfield 76, 3) := by decide +kernel
theorem d_cs_57 : decode cX11_cogSize 57 = .ok (.iload 5, 2) := by decide +kernel
theorem d_cs_59 : decode cX11_cogSize 59 = .ok (.iaload, 1) := by decide +kernel
theorem d_cs_60 : decode cX11_cogSize 60 = .ok (.imul, 1) := by decide +kernel
theorem d_cs_61 : decode cX11_cogSize 61 = .ok (.i2l, 1) := by decide +kernel
theorem d_cs_62 : decode cX11_cogSize 62 = .ok (.ladd, 1) := by decide +kernel
theorem d_cs_63 : decode cX11_cogSize 63 = .ok (.lstore_n 3, 1) := by decide +kernel
theorem d_cs_64 : decode cX11_cogSize 64 = .ok (.iinc 5 1, 3) := by decide +kernel
theorem d_cs_67 : decode cX11_cogSize 67 = .ok (.goto (-60), 3) := by decide +kernel
theorem d_cs_70 : decode cX11_cogSize 70 = .ok (.lload_n 1, 1) := by decide +kernel
theorem d_cs_71 : decode cX11_cogSize 71 = .ok (.lload_n 3, 1) := by decide +kernel
theorem d_cs_72 : decode cX11_cogSize 72 = .ok (.invokestatic 184, 3) := by decide +kernel
theorem d_cs_75 : decode cX11_cogSize 75 = .ok (.lreturn, 1) := by decide +kernel
theorem d_xg_0 : decode cX11_exchanges 0 = .ok (.aload_n 0, 1) := by decide +kernel
theorem d_xg_1 : decode cX11_exchanges 1 = .ok (.getfield 459, 3) := by decide +kernel
theorem d_xg_4 : decode cX11_exchanges 4 = .ok (.iload_n 1, 1) := by decide +kernel
theorem d_xg_5 : decode cX11_exchanges 5 = .ok (.iaload, 1) := by decide +kernel
theorem d_xg_6 : decode cX11_exchanges 6 = .ok (.istore_n 3, 1) := by decide +kernel
theorem d_xg_7 : decode cX11_exchanges 7 = .ok (.aload_n 0, 1) := by decide +kernel
theorem d_xg_8 : decode cX11_exchanges 8 = .ok (.getfield 459, 3) := by decide +kernel
theorem d_xg_11 : decode cX11_exchanges 11 = .ok (.iload_n 1, 1) := by decide +kernel
theorem d_xg_12 : decode cX11_exchanges 12 = .ok (.aload_n 0, 1) := by decide +kernel
theorem d_xg_13 : decode cX11_exchanges 13 = .ok (.getfield 459, 3) := by decide +kernel
theorem d_xg_16 : decode cX11_exchanges 16 = .ok (.iload_n 2, 1) := by decide +kernel
theorem d_xg_17 : decode cX11_exchanges 17 = .ok (.iaload, 1) := by decide +kernel
theorem d_xg_18 : decode cX11_exchanges 18 = .ok (.iastore, 1) := by decide +kernel
theorem d_xg_19 : decode cX11_exchanges 19 = .ok (.aload_n 0, 1) := by decide +kernel
theorem d_xg_20 : decode cX11_exchanges 20 = .ok (.getfield 459, 3) := by decide +kernel
theorem d_xg_23 : decode cX11_exchanges 23 = .ok (.iload_n 2, 1) := by decide +kernel
theorem d_xg_24 : decode cX11_exchanges 24 = .ok (.iload_n 3, 1) := by decide +kernel
theorem d_xg_25 : decode cX11_exchanges 25 = .ok (.iastore, 1) := by decide +kernel
theorem d_xg_26 : decode cX11_exchanges 26 = .ok (.return_, 1) := by decide +kernel
theorem d_sz_0 : decode cX11_size 0 = .ok (.lload_n 0, 1) := by decide +kernel
theorem d_sz_1 : decode cX11_size 1 = .ok (.lload_n 0, 1) := by decide +kernel
theorem d_sz_2 : decode cX11_size 2 = .ok (.lmul, 1) := by decide +kernel
theorem d_sz_3 : decode cX11_size 3 = .ok (.lload_n 2, 1) := by decide +kernel
theorem d_sz_4 : decode cX11_size 4 = .ok (.lload_n 2, 1) := by decide +kernel
theorem d_sz_5 : decode cX11_size 5 = .ok (.lmul, 1) := by decide +kernel
theorem d_sz_6 : decode cX11_size 6 = .ok (.ladd, 1) := by decide +kernel
theorem d_sz_7 : decode cX11_size 7 = .ok (.lreturn, 1) := by decide +kernel
theorem d_rn_0 : decode cX11_round 0 = .ok (.aload_n 0, 1) := by decide +kernel
theorem d_rn_1 : decode cX11_round 1 = .ok (.iconst 0, 1) := by decide +kernel
theorem d_rn_2 : decode cX11_round 2 = .ok (.putfield 3, 3) := by decide +kernel
theorem d_rn_5 : decode cX11_round 5 = .ok (.aload_n 0, 1) := by decide +kernel
theorem d_rn_6 : decode cX11_round 6 = .ok (.invokevirtual 462, 3) := by decide +kernel
theorem d_rn_9 : decode cX11_round 9 = .ok (.ifCond .ne 5, 3) := by decide +kernel
theorem d_rn_12 : decode cX11_round 12 = .ok (.iconst (-1), 1) := by decide +kernel
theorem d_rn_13 : decode cX11_round 13 = .ok (.ireturn, 1) := by decide +kernel
theorem d_rn_14 : decode cX11_round 14 = .ok (.aload_n 0, 1) := by decide +kernel
theorem d_rn_15 : decode cX11_round 15 = .ok (.invokevirtual 465, 3) := by decide +kernel
theorem d_rn_18 : decode cX11_round 18 = .ok (.iconst 0, 1) := by decide +kernel
theorem d_rn_19 : decode cX11_round 19 = .ok (.istore_n 1, 1) := by decide +kernel
theorem d_rn_20 : decode cX11_round 20 = .ok (.iconst 1, 1) := by decide +kernel
theorem d_rn_21 : decode cX11_round 21 = .ok (.istore_n 2, 1) := by decide +kernel
theorem d_rn_22 : decode cX11_round 22 = .ok (.iload_n 2, 1) := by decide +kernel
theorem d_rn_23 : decode cX11_round 23 = .ok (.ifCond .eq 120, 3) := by decide +kernel
theorem d_rn_26 : decode cX11_round 26 = .ok (.aload_n 0, 1) := by decide +kernel
theorem d_rn_27 : decode cX11_round 27 = .ok (.invokevirtual 468, 3) := by decide +kernel
theorem d_rn_30 : decode cX11_round 30 = .ok (.lstore_n 3, 1) := by decide +kernel
theorem d_rn_31 : decode cX11_round 31 = .ok (.iconst (-1), 1) := by decide +kernel
theorem d_rn_32 : decode cX11_round 32 = .ok (.istore 5, 2) := by decide +kernel
theorem d_rn_34 : decode cX11_round 34 = .ok (.iconst (-1), 1) := by decide +kernel
theorem d_rn_35 : decode cX11_round 35 = .ok (.istore 6, 2) := by decide +kernel
theorem d_rn_37 : decode cX11_round 37 = .ok (.iconst 0, 1) := by decide +kernel
theorem d_rn_38 : decode cX11_round 38 = .ok (.istore 7, 2) := by decide +kernel
theorem d_rn_40 : decode cX11_round 40 = .ok (.iload 7, 2) := by decide +kernel
theorem d_rn_42 : decode cX11_round 42 = .ok (.aload_n 0, 1) := by decide +kernel
theorem d_rn_43 : decode cX11_round 43 = .ok (.getfield 101, 3) := by decide +kernel
theorem d_rn_46 : decode cX11_round 46 = .ok (.if_icmp .ge 68, 3) := by decide +kernel
theorem d_rn_49 : decode cX11_round 49 = .ok (.iload 7, 2) := by decide +kernel
theorem d_rn_51 : decode cX11_round 51 = .ok (.iconst 1, 1) := by decide +kernel
theorem d_rn_52 : decode cX11_round 52 = .ok (.iadd, 1) := by decide +kernel
theorem d_rn_53 : decode cX11_round 53 = .ok (.istore 8, 2) := by decide +kernel
theorem d_rn_55 : decode cX11_round 55 = .ok (.iload 8, 2) := by decide +kernel
theorem d_rn_57 : decode cX11_round 57 = .ok (.aload_n 0, 1) := by decide +kernel
theorem d_rn_58 : decode cX11_round 58 = .ok (.getfield 101, 3) := by decide +kernel
theorem d_rn_61 : decode cX11_round 61 = .ok (.if_icmp .ge 47, 3) := by decide +kernel
theorem d_rn_64 : decode cX11_round 64 = .ok (.aload_n 0, 1) := by decide +kernel
theorem d_rn_65 : decode cX11_round 65 = .ok (.iload 7, 2) := by decide +kernel
theorem d_rn_67 : decode cX11_round 67 = .ok (.iload 8, 2) := by decide +kernel
theorem d_rn_69 : decode cX11_round 69 = .ok (.invokevirtual 483, 3) := by decide +kernel
theorem d_rn_72 : decode cX11_round 72 = .ok (.aload_n 0, 1) := by decide +kernel
theorem d_rn_73 : decode cX11_round 73 = .ok (.invokevirtual 468, 3) := by decide +kernel
theorem d_rn_76 : decode cX11_round 76 = .ok (.lload_n 3, 1) := by decide +kernel
theorem d_rn_77 : decode cX11_round 77 = .ok (.lcmp, 1) := by decide +kernel
theorem d_rn_78 : decode cX11_round 78 = .ok (.ifCond .ge 16, 3) := by decide +kernel
theorem d_rn_81 : decode cX11_round 81 = .ok (.aload_n 0, 1) := by decide +kernel
theorem d_rn_82 : decode cX11_round 82 = .ok (.invokevirtual 468, 3) := by decide +kernel
theorem d_rn_85 : decode cX11_round 85 = .ok (.lstore_n 3, 1) := by decide +kernel
theorem d_rn_86 : decode cX11_round 86 = .ok (.iload 7, 2) := by decide +kernel
theorem d_rn_88 : decode cX11_round 88 = .ok (.istore 5, 2) := by decide +kernel
theorem d_rn_90 : decode cX11_round 90 = .ok (.iload 8, 2) := by decide +kernel
theorem d_rn_92 : decode cX11_round 92 = .ok (.istore 6, 2) := by decide +kernel
theorem d_rn_94 : decode cX11_round 94 = .ok (.aload_n 0, 1) := by decide +kernel
theorem d_rn_95 : decode cX11_round 95 = .ok (.iload 7, 2) := by decide +kernel
theorem d_rn_97 : decode cX11_round 97 = .ok (.iload 8, 2) := by decide +kernel
theorem d_rn_99 : decode cX11_round 99 = .ok (.invokevirtual 483, 3) := by decide +kernel
theorem d_rn_102 : decode cX11_round 102 = .ok (.iinc 8 1, 3) := by decide +kernel
theorem d_rn_105 : decode cX11_round 105 = .ok (.goto (-50), 3) := by decide +kernel
theorem d_rn_108 : decode cX11_round 108 = .ok (.iinc 7 1, 3) := by decide +kernel
theorem d_rn_111 : decode cX11_round 111 = .ok (.goto (-71), 3) := by decide +kernel
theorem d_rn_114 : decode cX11_round 114 = .ok (.iload 5, 2) := by decide +kernel
theorem d_rn_116 : decode cX11_round 116 = .ok (.ifCond .lt 7, 3) := by decide +kernel
theorem d_rn_119 : decode cX11_round 119 = .ok (.iconst 1, 1) := by decide +kernel
theorem d_rn_120 : decode cX11_round 120 = .ok (.goto 4, 3) := by decide +kernel
theorem d_rn_123 : decode cX11_round 123 = .ok (.iconst 0, 1) := by decide +kernel
theorem d_rn_124 : decode cX11_round 124 = .ok (.istore_n 2, 1) := by decide +kernel
theorem d_rn_125 : decode cX11_round 125 = .ok (.iload_n 2, 1) := by decide +kernel
theorem d_rn_126 : decode cX11_round 126 = .ok (.ifCond .eq 14, 3) := by decide +kernel
theorem d_rn_129 : decode cX11_round 129 = .ok (.aload_n 0, 1) := by decide +kernel
theorem d_rn_130 : decode cX11_round 130 = .ok (.iload 5, 2) := by decide +kernel
theorem d_rn_132 : decode cX11_round 132 = .ok (.iload 6, 2) := by decide +kernel
theorem d_rn_134 : decode cX11_round 134 = .ok (.invokevirtual 483, 3) := by decide +kernel
theorem d_rn_137 : decode cX11_round 137 = .ok (.iinc 1 1, 3) := by decide +kernel
theorem d_rn_140 : decode cX11_round 140 = .ok (.goto (-118), 3) := by decide +kernel
theorem d_rn_143 : decode cX11_round 143 = .ok (.aload_n 0, 1) := by decide +kernel
theorem d_rn_144 : decode cX11_round 144 = .ok (.iconst 0, 1) := by decide +kernel
theorem d_rn_145 : decode cX11_round 145 = .ok (.putfield 11, 3) := by decide +kernel
theorem d_rn_148 : decode cX11_round 148 = .ok (.iconst 0, 1) := by decide +kernel
theorem d_rn_149 : decode cX11_round 149 = .ok (.istore_n 3, 1) := by decide +kernel
theorem d_rn_150 : decode cX11_round 150 = .ok (.iload_n 3, 1) := by decide +kernel
theorem d_rn_151 : decode cX11_round 151 = .ok (.aload_n 0, 1) := by decide +kernel
theorem d_rn_152 : decode cX11_round 152 = .ok (.getfield 101, 3) := by decide +kernel
theorem d_rn_155 : decode cX11_round 155 = .ok (.if_icmp .ge 20, 3) := by decide +kernel
theorem d_rn_158 : decode cX11_round 158 = .ok (.aload_n 0, 1) := by decide +kernel
theorem d_rn_159 : decode cX11_round 159 = .ok (.aload_n 0, 1) := by decide +kernel
theorem d_rn_160 : decode cX11_round 160 = .ok (.getfield 459, 3) := by decide +kernel
theorem d_rn_163 : decode cX11_round 163 = .ok (.iload_n 3, 1) := by decide +kernel
theorem d_rn_164 : decode cX11_round 164 = .ok (.iaload, 1) := by decide +kernel
theorem d_rn_165 : decode cX11_round 165 = .ok (.i2l, 1) := by decide +kernel
theorem d_rn_166 : decode cX11_round 166 = .ok (.invokevirtual 18, 3) := by decide +kernel
theorem d_rn_169 : decode cX11_round 169 = .ok (.iinc 3 1, 3) := by decide +kernel
theorem d_rn_172 : decode cX11_round 172 = .ok (.goto (-22), 3) := by decide +kernel
theorem d_rn_175 : decode cX11_round 175 = .ok (.aload_n 0, 1) := by decide +kernel
theorem d_rn_176 : decode cX11_round 176 = .ok (.aload_n 0, 1) := by decide +kernel
theorem d_rn_177 : decode cX11_round 177 = .ok (.invokevirtual 468, 3) := by decide +kernel
theorem d_rn_180 : decode cX11_round 180 = .ok (.invokevirtual 18, 3) := by decide +kernel
theorem d_rn_183 : decode cX11_round 183 = .ok (.iload_n 1, 1) := by decide +kernel
theorem d_rn_184 : decode cX11_round 184 = .ok (.ireturn, 1) := by decide +kernel
def D_X11_round : DT := [(0, .aload_n 0, 1), (1, .iconst 0, 1), (2, .putfield 3, 3), (5, .aload_n 0, 1), (6, .invokevirtual 462, 3), (9, .ifCond .ne 5, 3), (12, .iconst (-1), 1), (13, .ireturn, 1), (14, .aload_n 0, 1), (15, .invokevirtual 465, 3), (18, .iconst 0, 1), (19, .istore_n 1, 1), (20, .iconst 1, 1), (21, .istore_n 2, 1), (22, .iload_n 2, 1), (23, .ifCond .eq 120, 3), (26, .aload_n 0, 1), (27, .invokevirtual 468, 3), (30, .lstore_n 3, 1), (31, .iconst (-1), 1), (32, .istore 5, 2), (34, .iconst (-1), 1), (35, .istore 6, 2), (37, .iconst 0, 1), (38, .istore 7, 2), (40, .iload 7, 2), (42, .aload_n 0, 1), (43, .getfield 101, 3), (46, .if_icmp .ge 68, 3), (49, .iload 7, 2), (51, .iconst 1, 1), (52, .iadd, 1), (53, .istore 8, 2), (55, .iload 8, 2), (57, .aload_n 0, 1), (58, .getfield 101, 3), (61, .if_icmp .ge 47, 3), (64, .aload_n 0, 1), (65, .iload 7, 2), (67, .iload 8, 2), (69, .invokevirtual 483, 3), (72, .aload_n 0, 1), (73, .invokevirtual 468, 3), (76, .lload_n 3, 1), (77, .lcmp, 1), (78, .ifCond .ge 16, 3), (81, .aload_n 0, 1), (82, .invokevirtual 468, 3), (85, .lstore_n 3, 1), (86, .iload 7, 2), (88, .istore 5, 2), (90, .iload 8, 2), (92, .istore 6, 2), (94, .aload_n 0, 1), (95, .iload 7, 2), (97, .iload 8, 2), (99, .invokevirtual 483, 3), (102, .iinc 8 1, 3), (105, .goto (-50), 3), (108, .iinc 7 1, 3), (111, .goto (-71), 3), (114, .iload 5, 2), (116, .ifCond .lt 7, 3), (119, .iconst 1, 1), (120, .goto 4, 3), (123, .iconst 0, 1), (124, .istore_n 2, 1), (125, .iload_n 2, 1), (126, .ifCond .eq 14, 3), (129, .aload_n 0, 1), (130, .iload 5, 2), (132, .iload 6, 2), (134, .invokevirtual 483, 3), (137, .iinc 1 1, 3), (140, .goto (-118), 3), (143, .aload_n 0, 1), (144, .iconst 0, 1), (145, .putfield 11, 3), (148, .iconst 0, 1), (149, .istore_n 3, 1), (150, .iload_n 3, 1), (151, .aload_n 0, 1), (152, .getfield 101, 3), (155, .if_icmp .ge 20, 3), (158, .aload_n 0, 1), (159, .aload_n 0, 1), (160, .getfield 459, 3), (163, .iload_n 3, 1), (164, .iaload, 1), (165, .i2l, 1), (166, .invokevirtual 18, 3), (169, .iinc 3 1, 3), (172, .goto (-22), 3), (175, .aload_n 0, 1), (176, .aload_n 0, 1), (177, .invokevirtual 468, 3), (180, .invokevirtual 18, 3), (183, .iload_n 1, 1), (184, .ireturn, 1)]
theorem D_X11_round_ok : dtOK cX11_round D_X11_round = true := by decide +kernel
abbrev C_u_X11_enters_rn0 : CE := ([(2, 0, 0), (1, -9223372036854775808, 9223372036854775807)], [(0, 1, (0, 0, 8))], [], [(none, [], [(0, 1, (0, 1, 9))], [(100, 200, -1), (200, 100, 1)])], [(0, 1), (1, 999)], 0, 0)
theorem ac_u_X11_enters_rn0 (l : Launch) (G : KG) : ACt l G TM yX11_enters cX11_enters 3 none C_u_X11_enters_rn0 := acert (tab := D_X11_enters) (fld := fld_11) (put := put_11) (cst := cst_11) (cstl := cstl_11) (cal := []) (rk := 0) (cuts := []) (fuel := 4000) (by decide) (Or.inl ⟨rfl, rfl⟩) fld_11_ok put_11_ok cst_11_ok cstl_11_ok (fun _ h => absurd h List.not_mem_nil) D_X11_enters_ok (by decide +kernel)
abbrev C_round : CE := ([(2, 0, 0)], [], [], [(some (0, -2147483648, 2147483647), [], [], [])], [(0, 0), (0, 1), (1, 999), (43, 999)], 2, 52)
abbrev rm_cs : Room := { frames := 1, cells := 0, slots := 0, locals := 27 }
abbrev rm_0 : Room := { frames := 0, cells := 0, slots := 0, locals := 0 }
abbrev sC_rnA : CE := C_round
def sl_rnA : List CAL := [(462, 0, 1, C_X11_areCogs_0), (465, 0, 2, C_X11_asTold_0)]
theorem sl_rnA_ok (l : Launch) (G : KG) : ∀ q ∈ sl_rnA, COK l G RX11 TM q := List.forall_mem_cons.mpr ⟨cok_v k_11_462 (ac_X11_areCogs_0 l G) rfl rfl rfl rfl rfl rfl, List.forall_mem_cons.mpr ⟨cok_v k_11_465 (ac_X11_asTold_0 l G) rfl rfl rfl rfl rfl rfl, fun _ h => absurd h List.not_mem_nil⟩⟩
def sk_rnA : List CUT := []
abbrev se_rnA_22 : CUT := (22, ([(0, 0, false), (1, 500, false), (2, 501, false)], [], [(0, (2, 0, 0)), (500, (0, 0, 0)), (501, (0, 1, 1)), (502, (0, 0, 0)), (503, (0, 1, 16)), (504, (0, 1, 8))], [(0, 0, 502), (0, 3, 503), (0, 16, 504)], [], 1000), 0, [(0, 0)])
def sx_rnA : List CUT := [se_rnA_22]
abbrev ss_rnA : AS := ([(0, 0, false)], [], [(0, (2, 0, 0))], [], [], 1000)
theorem sg_rnA : acheckS hk0 D_X11_round 9 TM fld_11 put_11 cst_11 cstl_11 sl_rnA 1 sC_rnA sk_rnA sx_rnA [0] 4000 0 ss_rnA = true := by decide +kernel
abbrev sC_rnB : CE := C_round
def sl_rnB : List CAL := [(18, 0, 3, C_X11_enters_15), (468, 0, 6, C_X11_cogSize_0), (18, 0, 3, C_u_X11_enters_rn0)]
theorem sl_rnB_ok (l : Launch) (G : KG) : ∀ q ∈ sl_rnB, COK l G RX11 TM q := List.forall_mem_cons.mpr ⟨cok_v k_11_18 (ac_X11_enters_15 l G) rfl rfl rfl rfl rfl rfl, List.forall_mem_cons.mpr ⟨cok_v k_11_468 (ac_X11_cogSize_0 l G) rfl rfl rfl rfl rfl rfl, List.forall_mem_cons.mpr ⟨cok_v k_11_18 (ac_u_X11_enters_rn0 l G) rfl rfl rfl rfl rfl rfl, fun _ h => absurd h List.not_mem_nil⟩⟩⟩
def sk_rnB : List CUT := [(150, ([(0, 0, false), (1, 700, false), (3, 500, false)], [], [(0, (2, 0, 0)), (500, (0, 0, 8)), (501, (0, 0, 8)), (700, (0, -2147483648, 2147483647))], [(0, 1, 501)], [(500, 501, 0), (501, 500, 0)], 1000), 19, [(1, 500)])]
def sx_rnB : List CUT := []
abbrev ss_rnB : AS := ([(0, 0, false), (1, 700, false)], [], [(0, (2, 0, 0)), (700, (0, -2147483648, 2147483647))], [], [], 1000)
theorem sg_rnB : acheckS hk0 D_X11_round 9 TM fld_11 put_11 cst_11 cstl_11 sl_rnB 1 sC_rnB sk_rnB sx_rnB [0, 700] 4000 143 ss_rnB = true := by decide +kernel
