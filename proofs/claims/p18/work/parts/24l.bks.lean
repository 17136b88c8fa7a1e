theorem d_bk_32 : decode cX11_buckets 32 = .ok (.iload 5, 2) := by decide +kernel
theorem d_bk_34 : decode cX11_buckets 34 = .ok (.aload_n 0, 1) := by decide +kernel
theorem d_bk_35 : decode cX11_buckets 35 = .ok (.getfield 63, 3) := by decide +kernel
theorem d_bk_38 : decode cX11_buckets 38 = .ok (.if_icmp .ge 58, 3) := by decide +kernel
theorem d_bk_41 : decode cX11_buckets 41 = .ok (.aload_n 0, 1) := by decide +kernel
theorem d_bk_42 : decode cX11_buckets 42 = .ok (.getfield 456, 3) := by decide +kernel
theorem d_bk_45 : decode cX11_buckets 45 = .ok (.iload 5, 2) := by decide +kernel
theorem d_bk_47 : decode cX11_buckets 47 = .ok (.aload_n 0, 1) := by decide +kernel
theorem d_bk_48 : decode cX11_buckets 48 = .ok (.getfield 82, 3) := by decide +kernel
theorem d_bk_51 : decode cX11_buckets 51 = .ok (.iload 5, 2) := by decide +kernel
theorem d_bk_53 : decode cX11_buckets 53 = .ok (.iaload, 1) := by decide +kernel
theorem d_bk_54 : decode cX11_buckets 54 = .ok (.iastore, 1) := by decide +kernel
theorem d_bk_55 : decode cX11_buckets 55 = .ok (.iload 4, 2) := by decide +kernel
theorem d_bk_57 : decode cX11_buckets 57 = .ok (.aload_n 0, 1) := by decide +kernel
theorem d_bk_58 : decode cX11_buckets 58 = .ok (.getfield 66, 3) := by decide +kernel
theorem d_bk_61 : decode cX11_buckets 61 = .ok (.iload 5, 2) := by decide +kernel
theorem d_bk_63 : decode cX11_buckets 63 = .ok (.iaload, 1) := by decide +kernel
theorem d_bk_64 : decode cX11_buckets 64 = .ok (.iload_n 1, 1) := by decide +kernel
theorem d_bk_65 : decode cX11_buckets 65 = .ok (.if_icmp .ne 21, 3) := by decide +kernel
theorem d_bk_68 : decode cX11_buckets 68 = .ok (.aload_n 0, 1) := by decide +kernel
theorem d_bk_69 : decode cX11_buckets 69 = .ok (.getfield 79, 3) := by decide +kernel
theorem d_bk_72 : decode cX11_buckets 72 = .ok (.iload 5, 2) := by decide +kernel
theorem d_bk_74 : decode cX11_buckets 74 = .ok (.iaload, 1) := by decide +kernel
theorem d_bk_75 : decode cX11_buckets 75 = .ok (.aload_n 0, 1) := by decide +kernel
theorem d_bk_76 : decode cX11_buckets 76 = .ok (.getfield 82, 3) := by decide +kernel
theorem d_bk_79 : decode cX11_buckets 79 = .ok (.iload 5, 2) := by decide +kernel
theorem d_bk_81 : decode cX11_buckets 81 = .ok (.iaload, 1) := by decide +kernel
theorem d_bk_82 : decode cX11_buckets 82 = .ok (.isub, 1) := by decide +kernel
theorem d_bk_83 : decode cX11_buckets 83 = .ok (.goto 4, 3) := by decide +kernel
theorem d_bk_86 : decode cX11_buckets 86 = .ok (.iconst 0, 1) := by decide +kernel
theorem d_bk_87 : decode cX11_buckets 87 = .ok (.iadd, 1) := by decide +kernel
theorem d_bk_88 : decode cX11_buckets 88 = .ok (.istore 4, 2) := by decide +kernel
theorem d_bk_90 : decode cX11_buckets 90 = .ok (.iinc 5 1, 3) := by decide +kernel
theorem d_bk_93 : decode cX11_buckets 93 = .ok (.goto (-61), 3) := by decide +kernel
theorem d_bk_96 : decode cX11_buckets 96 = .ok (.iconst 0, 1) := by decide +kernel
theorem d_bk_97 : decode cX11_buckets 97 = .ok (.istore 5, 2) := by decide +kernel
theorem d_bk_99 : decode cX11_buckets 99 = .ok (.iconst 0, 1) := by decide +kernel
theorem d_bk_100 : decode cX11_buckets 100 = .ok (.istore 6, 2) := by decide +kernel
theorem d_bk_102 : decode cX11_buckets 102 = .ok (.aload_n 0, 1) := by decide +kernel
theorem d_bk_103 : decode cX11_buckets 103 = .ok (.iload_n 1, 1) := by decide +kernel
theorem d_bk_104 : decode cX11_buckets 104 = .ok (.invokevirtual 358, 3) := by decide +kernel
theorem d_bk_107 : decode cX11_buckets 107 = .ok (.lload_n 2, 1) := by decide +kernel
theorem d_bk_108 : decode cX11_buckets 108 = .ok (.lcmp, 1) := by decide +kernel
theorem d_bk_109 : decode cX11_buckets 109 = .ok (.ifCond .gt 122, 3) := by decide +kernel
theorem d_bk_112 : decode cX11_buckets 112 = .ok (.iload 4, 2) := by decide +kernel
theorem d_bk_114 : decode cX11_buckets 114 = .ok (.ifCond .ne 6, 3) := by decide +kernel
theorem d_bk_117 : decode cX11_buckets 117 = .ok (.bipush (-2), 2) := by decide +kernel
theorem d_bk_119 : decode cX11_buckets 119 = .ok (.ireturn, 1) := by decide +kernel
theorem d_bk_120 : decode cX11_buckets 120 = .ok (.aload_n 0, 1) := by decide +kernel
theorem d_bk_121 : decode cX11_buckets 121 = .ok (.getfield 66, 3) := by decide +kernel
theorem d_bk_124 : decode cX11_buckets 124 = .ok (.iload 6, 2) := by decide +kernel
theorem d_bk_126 : decode cX11_buckets 126 = .ok (.iaload, 1) := by decide +kernel
theorem d_bk_127 : decode cX11_buckets 127 = .ok (.iload_n 1, 1) := by decide +kernel
theorem d_bk_128 : decode cX11_buckets 128 = .ok (.if_icmp .ne 20, 3) := by decide +kernel
theorem d_bk_131 : decode cX11_buckets 131 = .ok (.aload_n 0, 1) := by decide +kernel
theorem d_bk_132 : decode cX11_buckets 132 = .ok (.getfield 456, 3) := by decide +kernel
theorem d_bk_135 : decode cX11_buckets 135 = .ok (.iload 6, 2) := by decide +kernel
theorem d_bk_137 : decode cX11_buckets 137 = .ok (.iaload, 1) := by decide +kernel
theorem d_bk_138 : decode cX11_buckets 138 = .ok (.aload_n 0, 1) := by decide +kernel
theorem d_bk_139 : decode cX11_buckets 139 = .ok (.getfield 79, 3) := by decide +kernel
theorem d_bk_142 : decode cX11_buckets 142 = .ok (.iload 6, 2) := by decide +kernel
theorem d_bk_144 : decode cX11_buckets 144 = .ok (.iaload, 1) := by decide +kernel
theorem d_bk_145 : decode cX11_buckets 145 = .ok (.if_icmp .ne 17, 3) := by decide +kernel
theorem d_bk_148 : decode cX11_buckets 148 = .ok (.iload 6, 2) := by decide +kernel
theorem d_bk_150 : decode cX11_buckets 150 = .ok (.iconst 1, 1) := by decide +kernel
theorem d_bk_151 : decode cX11_buckets 151 = .ok (.iadd, 1) := by decide +kernel
theorem d_bk_152 : decode cX11_buckets 152 = .ok (.aload_n 0, 1) := by decide +kernel
theorem d_bk_153 : decode cX11_buckets 153 = .ok (.getfield 63, 3) := by decide +kernel
theorem d_bk_156 : decode cX11_buckets 156 = .ok (.irem, 1) := by decide +kernel
theorem d_bk_157 : decode cX11_buckets 157 = .ok (.istore 6, 2) := by decide +kernel
theorem d_bk_159 : decode cX11_buckets 159 = .ok (.goto (-39), 3) := by decide +kernel
theorem d_bk_162 : decode cX11_buckets 162 = .ok (.aload_n 0, 1) := by decide +kernel
theorem d_bk_163 : decode cX11_buckets 163 = .ok (.getfield 456, 3) := by decide +kernel
theorem d_bk_166 : decode cX11_buckets 166 = .ok (.iload 6, 2) := by decide +kernel
theorem d_bk_168 : decode cX11_buckets 168 = .ok (.dup2, 1) := by decide +kernel
theorem d_bk_169 : decode cX11_buckets 169 = .ok (.iaload, 1) := by decide +kernel
theorem d_bk_170 : decode cX11_buckets 170 = .ok (.iconst 1, 1) := by decide +kernel
theorem d_bk_171 : decode cX11_buckets 171 = .ok (.iadd, 1) := by decide +kernel
theorem d_bk_172 : decode cX11_buckets 172 = .ok (.iastore, 1) := by decide +kernel
theorem d_bk_173 : decode cX11_buckets 173 = .ok (.aload_n 0, 1) := by decide +kernel
theorem d_bk_174 : decode cX11_buckets 174 = .ok (.getfield 166, 3) := by decide +kernel
theorem d_bk_177 : decode cX11_buckets 177 = .ok (.iconst 2, 1) := by decide +kernel
theorem d_bk_178 : decode cX11_buckets 178 = .ok (.iload_n 1, 1) := by decide +kernel
theorem d_bk_179 : decode cX11_buckets 179 = .ok (.imul, 1) := by decide +kernel
theorem d_bk_180 : decode cX11_buckets 180 = .ok (.dup2, 1) := by decide +kernel
theorem d_bk_181 : decode cX11_buckets 181 = .ok (.iaload, 1) := by decide +kernel
theorem d_bk_182 : decode cX11_buckets 182 = .ok (.aload_n 0, 1) := by decide +kernel
theorem d_bk_183 : decode cX11_buckets 183 = .ok (.getfield 69, 3) := by decide +kernel
theorem d_bk_186 : decode cX11_buckets 186 = .ok (.iload 6, 2) := by decide +kernel
theorem d_bk_188 : decode cX11_buckets 188 = .ok (.iaload, 1) := by decide +kernel
theorem d_bk_189 : decode cX11_buckets 189 = .ok (.iadd, 1) := by decide +kernel
theorem d_bk_190 : decode cX11_buckets 190 = .ok (.iastore, 1) := by decide +kernel
theorem d_bk_191 : decode cX11_buckets 191 = .ok (.aload_n 0, 1) := by decide +kernel
theorem d_bk_192 : decode cX11_buckets 192 = .ok (.getfield 166, 3) := by decide +kernel
theorem d_bk_195 : decode cX11_buckets 195 = .ok (.iconst 2, 1) := by decide +kernel
theorem d_bk_196 : decode cX11_buckets 196 = .ok (.iload_n 1, 1) := by decide +kernel
theorem d_bk_197 : decode cX11_buckets 197 = .ok (.imul, 1) := by decide +kernel
theorem d_bk_198 : decode cX11_buckets 198 = .ok (.iconst 1, 1) := by decide +kernel
theorem d_bk_199 : decode cX11_buckets 199 = .ok (.iadd, 1) := by decide +kernel
theorem d_bk_200 : decode cX11_buckets 200 = .ok (.dup2, 1) := by decide +kernel
theorem d_bk_201 : decode cX11_buckets 201 = .ok (.iaload, 1) := by decide +kernel
theorem d_bk_202 : decode cX11_buckets 202 = .ok (.aload_n 0, 1) := by decide +kernel
theorem d_bk_203 : decode cX11_buckets 203 = .ok (.getfield 76, 3) := by decide +kernel
theorem d_bk_206 : decode cX11_buckets 206 = .ok (.iload 6, 2) := by decide +kernel
theorem d_bk_208 : decode cX11_buckets 208 = .ok (.iaload, 1) := by decide +kernel
theorem d_bk_209 : decode cX11_buckets 209 = .ok (.iadd, 1) := by decide +kernel
theorem d_bk_210 : decode cX11_buckets 210 = .ok (.iastore, 1) := by decide +kernel
theorem d_bk_211 : decode cX11_buckets 211 = .ok (.iload 6, 2) := by decide +kernel
theorem d_bk_213 : decode cX11_buckets 213 = .ok (.iconst 1, 1) := by decide +kernel
theorem d_bk_214 : decode cX11_buckets 214 = .ok (.iadd, 1) := by decide +kernel
theorem d_bk_215 : decode cX11_buckets 215 = .ok (.aload_n 0, 1) := by decide +kernel
theorem d_bk_216 : decode cX11_buckets 216 = .ok (.getfield 63, 3) := by decide +kernel
theorem d_bk_219 : decode cX11_buckets 219 = .ok (.irem, 1) := by decide +kernel
theorem d_bk_220 : decode cX11_buckets 220 = .ok (.istore 6, 2) := by decide +kernel
theorem d_bk_222 : decode cX11_buckets 222 = .ok (.iinc 4 (-1), 3) := by decide +kernel
theorem d_bk_225 : decode cX11_buckets 225 = .ok (.iinc 5 1, 3) := by decide +kernel
theorem d_bk_228 : decode cX11_buckets 228 = .ok (.goto (-126), 3) := by decide +kernel
theorem d_bk_231 : decode cX11_buckets 231 = .ok (.iload 5, 2) := by decide +kernel
theorem d_bk_233 : decode cX11_buckets 233 = .ok (.ireturn, 1) := by decide +kernel
def D_X11_buckets : DT := [(0, .aload_n 0, 1), (1, .iconst 0, 1), (2, .putfield 3, 3), (5, .iload_n 1, 1), (6, .invokestatic 130, 3), (9, .ifCond .eq 9, 3), (12, .lload_n 2, 1), (13, .lconst 0, 1), (14, .lcmp, 1), (15, .ifCond .ge 5, 3), (18, .iconst (-1), 1), (19, .ireturn, 1), (20, .aload_n 0, 1), (21, .iconst (-1), 1), (22, .iconst 0, 1), (23, .invokevirtual 169, 3), (26, .iconst 0, 1), (27, .istore 4, 2), (29, .iconst 0, 1), (30, .istore 5, 2), (32, .iload 5, 2), (34, .aload_n 0, 1), (35, .getfield 63, 3), (38, .if_icmp .ge 58, 3), (41, .aload_n 0, 1), (42, .getfield 456, 3), (45, .iload 5, 2), (47, .aload_n 0, 1), (48, .getfield 82, 3), (51, .iload 5, 2), (53, .iaload, 1), (54, .iastore, 1), (55, .iload 4, 2), (57, .aload_n 0, 1), (58, .getfield 66, 3), (61, .iload 5, 2), (63, .iaload, 1), (64, .iload_n 1, 1), (65, .if_icmp .ne 21, 3), (68, .aload_n 0, 1), (69, .getfield 79, 3), (72, .iload 5, 2), (74, .iaload, 1), (75, .aload_n 0, 1), (76, .getfield 82, 3), (79, .iload 5, 2), (81, .iaload, 1), (82, .isub, 1), (83, .goto 4, 3), (86, .iconst 0, 1), (87, .iadd, 1), (88, .istore 4, 2), (90, .iinc 5 1, 3), (93, .goto (-61), 3), (96, .iconst 0, 1), (97, .istore 5, 2), (99, .iconst 0, 1), (100, .istore 6, 2), (102, .aload_n 0, 1), (103, .iload_n 1, 1), (104, .invokevirtual 358, 3), (107, .lload_n 2, 1), (108, .lcmp, 1), (109, .ifCond .gt 122, 3), (112, .iload 4, 2), (114, .ifCond .ne 6, 3), (117, .bipush (-2), 2), (119, .ireturn, 1), (120, .aload_n 0, 1), (121, .getfield 66, 3), (124, .iload 6, 2), (126, .iaload, 1), (127, .iload_n 1, 1), (128, .if_icmp .ne 20, 3), (131, .aload_n 0, 1), (132, .getfield 456, 3), (135, .iload 6, 2), (137, .iaload, 1), (138, .aload_n 0, 1), (139, .getfield 79, 3), (142, .iload 6, 2), (144, .iaload, 1), (145, .if_icmp .ne 17, 3), (148, .iload 6, 2), (150, .iconst 1, 1), (151, .iadd, 1), (152, .aload_n 0, 1), (153, .getfield 63, 3), (156, .irem, 1), (157, .istore 6, 2), (159, .goto (-39), 3), (162, .aload_n 0, 1), (163, .getfield 456, 3), (166, .iload 6, 2), (168, .dup2, 1), (169, .iaload, 1), (170, .iconst 1, 1), (171, .iadd, 1), (172, .iastore, 1), (173, .aload_n 0, 1), (174, .getfield 166, 3), (177, .iconst 2, 1), (178, .iload_n 1, 1), (179, .imul, 1), (180, .dup2, 1), (181, .iaload, 1), (182, .aload_n 0, 1), (183, .getfield 69, 3), (186, .iload 6, 2), (188, .iaload, 1), (189, .iadd, 1), (190, .iastore, 1), (191, .aload_n 0, 1), (192, .getfield 166, 3), (195, .iconst 2, 1), (196, .iload_n 1, 1), (197, .imul, 1), (198, .iconst 1, 1), (199, .iadd, 1), (200, .dup2, 1), (201, .iaload, 1), (202, .aload_n 0, 1), (203, .getfield 76, 3), (206, .iload 6, 2), (208, .iaload, 1), (209, .iadd, 1), (210, .iastore, 1), (211, .iload 6, 2), (213, .iconst 1, 1), (214, .iadd, 1), (215, .aload_n 0, 1), (216, .getfield 63, 3), (219, .irem, 1), (220, .istore 6, 2), (222, .iinc 4 (-1), 3), (225, .iinc 5 1, 3), (228, .goto (-126), 3), (231, .iload 5, 2), (233, .ireturn, 1)]
theorem D_X11_buckets_ok : dtOK cX11_buckets D_X11_buckets = true := by decide +kernel
abbrev C_buckets : CE := ([(2, 0, 0), (0, -2147483648, 2147483647), (1, -9223372036854775808, 9223372036854775807)], [], [], [(some (0, -2147483648, 2147483647), [], [], [])], [(0, 0), (20, 999), (42, 999)], 2, 49)
abbrev sC_bk : CE := C_buckets
def sl_bk : List CAL := [(130, 1, 1, C_X11_isPlane_0), (169, 0, 5, C_X11_leads_0)]
theorem sl_bk_ok (l : Launch) (G : KG) : ∀ q ∈ sl_bk, COK l G RX11 TM q := List.forall_mem_cons.mpr ⟨cok_s k_11_130 (ac_X11_isPlane_0 l G) rfl, List.forall_mem_cons.mpr ⟨cok_v k_11_169 (ac_X11_leads_0 l G) rfl rfl rfl rfl rfl rfl, fun _ h => absurd h List.not_mem_nil⟩⟩
def sk_bk : List CUT := []
abbrev se_bk_32 : CUT := (32, ([(0, 0, false), (1, 1, false), (2, 2, true), (4, 500, false), (5, 501, false)], [], [(0, (2, 0, 0)), (1, (0, 0, 1)), (2, (1, 0, 9223372036854775807)), (500, (0, 0, 0)), (501, (0, 0, 0)), (502, (0, 0, 0)), (503, (0, 0, 16))], [(0, 0, 502), (0, 3, 503)], [], 1000), 0, [(0, 0)])
def sx_bk : List CUT := [se_bk_32]
abbrev ss_bk : AS := ([(0, 0, false), (1, 1, false), (2, 2, true)], [], [(0, (2, 0, 0)), (1, (0, -2147483648, 2147483647)), (2, (1, -9223372036854775808, 9223372036854775807))], [], [], 1000)
theorem sg_bk : acheckS hk0 D_X11_buckets 7 TM fld_11 put_11 cst_11 cstl_11 sl_bk 1 sC_bk sk_bk sx_bk [0, 1, 2] 4000 0 ss_bk = true := by decide +kernel
