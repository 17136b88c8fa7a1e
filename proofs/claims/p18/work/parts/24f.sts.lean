abbrev C_ounceOf : CE := ([(2, 0, 0), (0, 0, 1), (0, 0, 1)], [(0, 3, (0, 0, 16))], [], [(some (0, -1, 15), [], [], [])], [(0, 65), (20, 999)], 2, 44)
def D_X11_settle : DT := [(0, .aload_n 0, 1), (1, .iconst 0, 1), (2, .putfield 3, 3), (5, .iload_n 1, 1), (6, .invokestatic 130, 3), (9, .ifCond .ne 5, 3), (12, .iconst (-1), 1), (13, .ireturn, 1), (14, .iconst 0, 1), (15, .istore_n 2, 1), (16, .iload_n 2, 1), (17, .sipush 200, 3), (20, .if_icmp .ge 105, 3), (23, .aload_n 0, 1), (24, .iconst (-1), 1), (25, .iconst 0, 1), (26, .invokevirtual 169, 3), (29, .aload_n 0, 1), (30, .iload_n 1, 1), (31, .invokevirtual 358, 3), (34, .lstore_n 3, 1), (35, .iconst (-1), 1), (36, .istore 5, 2), (38, .iconst 0, 1), (39, .istore 6, 2), (41, .iconst 0, 1), (42, .istore 7, 2), (44, .iload 7, 2), (46, .iconst 2, 1), (47, .if_icmp .ge 53, 3), (50, .aload_n 0, 1), (51, .iload_n 1, 1), (52, .iload 7, 2), (54, .invokevirtual 424, 3), (57, .istore 8, 2), (59, .iload 8, 2), (61, .ifCond .lt 33, 3), (64, .aload_n 0, 1), (65, .getfield 421, 3), (68, .lload_n 3, 1), (69, .lcmp, 1), (70, .ifCond .ge 24, 3), (73, .aload_n 0, 1), (74, .getfield 421, 3), (77, .lstore_n 3, 1), (78, .iload 8, 2), (80, .istore 5, 2), (82, .iload 7, 2), (84, .ifCond .ne 7, 3), (87, .iconst 1, 1), (88, .goto 4, 3), (91, .iconst (-1), 1), (92, .istore 6, 2), (94, .iinc 7 1, 3), (97, .goto (-53), 3), (100, .iload 5, 2), (102, .ifCond .ge 5, 3), (105, .iload_n 2, 1), (106, .ireturn, 1), (107, .aload_n 0, 1), (108, .getfield 82, 3), (111, .iload 5, 2), (113, .dup2, 1), (114, .iaload, 1), (115, .iload 6, 2), (117, .iadd, 1), (118, .iastore, 1), (119, .iinc 2 1, 3), (122, .goto (-106), 3), (125, .sipush 200, 3), (128, .ireturn, 1)]
theorem D_X11_settle_ok : dtOK cX11_settle D_X11_settle = true := by decide +kernel
abbrev C_oc0 : CE := ([(2, 0, 0), (0, 0, 1), (0, 0, 1)], [(0, 3, (0, 0, 16))], [], [], [(0, 65), (20, 999)], 2, 44)
abbrev sC_ocS : CE := ([(2, 0, 0), (0, 0, 1), (0, 0, 1)], [(0, 3, (0, 0, 16))], [], [], [(0, 65), (20, 999)], 2, 44)
def sl_ocS : List CAL := []
theorem sl_ocS_ok (l : Launch) (G : KG) : ∀ q ∈ sl_ocS, COK l G RX11 TM q := fun _ h => absurd h List.not_mem_nil
def sk_ocS : List CUT := []
abbrev se_ocS_5 : CUT := (5, ([(0, 0, false), (1, 1, false), (2, 2, false), (3, 500, false), (4, 501, false)], [], [(0, (2, 0, 0)), (1, (0, 0, 1)), (2, (0, 0, 1)), (100, (0, 0, 16)), (500, (0, -1, -1)), (501, (0, 0, 0))], [(0, 3, 100)], [], 1000), 0, [(0, 0)])
def sx_ocS : List CUT := [se_ocS_5]
abbrev ss_ocS : AS := ([(0, 0, false), (1, 1, false), (2, 2, false)], [], [(0, (2, 0, 0)), (1, (0, 0, 1)), (2, (0, 0, 1)), (100, (0, 0, 16))], [(0, 3, 100)], [], 1000)
theorem sg_ocS : acheckS hk0 D_X11_ounceOf 6 TM fld_11 put_11 cst_11 cstl_11 sl_ocS 1 sC_ocS sk_ocS sx_ocS [0, 1, 2, 100] 4000 0 ss_ocS = true := by decide +kernel
abbrev ocH : CUT := (5, ([(0, 0, false), (1, 1, false), (2, 2, false), (3, 700, false), (4, 701, false)], [], [(0, (2, 0, 0)), (1, (0, 0, 1)), (2, (0, 0, 1)), (100, (0, 0, 16)), (700, (0, -1, 15)), (701, (0, 0, 16))], [(0, 3, 100)], [(701, 100, 0)], 1000), 0, [(0, 0)])
abbrev sC_ocA : CE := ([(2, 0, 0), (0, 0, 1), (0, 0, 1)], [(0, 3, (0, 0, 16))], [], [], [(0, 65), (20, 999)], 2, 44)
def sl_ocA : List CAL := []
theorem sl_ocA_ok (l : Launch) (G : KG) : ∀ q ∈ sl_ocA, COK l G RX11 TM q := fun _ h => absurd h List.not_mem_nil
def sk_ocA : List CUT := []
abbrev se_ocA_24 : CUT := (24, ([(0, 0, false), (1, 1, false), (2, 2, false), (3, 700, false), (4, 701, false)], [701, 500], [(0, (2, 0, 0)), (1, (0, 0, 1)), (2, (0, 0, 0)), (100, (0, 1, 16)), (500, (2, 6, 0)), (700, (0, -1, 15)), (701, (0, 0, 15))], [(0, 3, 100), (0, 8, 500)], [(701, 100, -1)], 1000), 0, [(0, 0)])
abbrev se_ocA_49 : CUT := (49, ([(0, 0, false), (1, 1, false), (2, 2, false), (3, 700, false), (4, 701, false)], [701, 500], [(0, (2, 0, 0)), (1, (0, 0, 1)), (2, (0, 1, 1)), (100, (0, 1, 16)), (500, (2, 6, 0)), (700, (0, -1, 15)), (701, (0, 0, 15))], [(0, 3, 100), (0, 8, 500)], [(701, 100, -1)], 1000), 0, [(0, 0)])
abbrev se_ocA_130 : CUT := (130, ([(0, 0, false), (1, 1, false), (2, 2, false), (3, 700, false), (4, 701, false)], [700], [(0, (2, 0, 0)), (1, (0, 0, 1)), (2, (0, 0, 1)), (100, (0, 0, 16)), (700, (0, -1, 15)), (701, (0, 0, 16))], [(0, 3, 100)], [(100, 701, 0), (701, 100, 0)], 1000), 0, [(0, 0)])
def sx_ocA : List CUT := [se_ocA_24, se_ocA_49, se_ocA_130]
abbrev ss_ocA : AS := ocH.2.1
theorem sg_ocA : acheckS hk0 D_X11_ounceOf 6 TM fld_11 put_11 cst_11 cstl_11 sl_ocA 1 sC_ocA sk_ocA sx_ocA [0, 1, 2, 100, 700, 701] 4000 5 ss_ocA = true := by decide +kernel
abbrev sC_ocB : CE := ([(2, 0, 0), (0, 0, 1), (0, 0, 1)], [(0, 3, (0, 0, 16))], [], [], [(0, 65), (20, 999)], 2, 44)
def sl_ocB : List CAL := []
theorem sl_ocB_ok (l : Launch) (G : KG) : ∀ q ∈ sl_ocB, COK l G RX11 TM q := fun _ h => absurd h List.not_mem_nil
def sk_ocB : List CUT := []
abbrev se_ocB_31 : CUT := (31, ([(0, 0, false), (1, 1, false), (2, 2, false), (3, 700, false), (4, 701, false)], [701, 500, 702], [(0, (2, 0, 0)), (1, (0, 0, 1)), (2, (0, 0, 0)), (100, (0, 1, 16)), (500, (2, 5, 0)), (501, (2, 6, 0)), (700, (0, -1, 15)), (701, (0, 0, 15)), (702, (0, 0, 9))], [(0, 3, 100), (0, 7, 500), (0, 8, 501)], [(701, 100, -1)], 1000), 0, [(0, 0)])
def sx_ocB : List CUT := [se_ocB_31]
abbrev ss_ocB : AS := (se_ocA_24.2.1.1, [702], (702, (0, 0, 9)) :: se_ocA_24.2.1.2.2.1, se_ocA_24.2.1.2.2.2.1, se_ocA_24.2.1.2.2.2.2.1, 1000)
theorem sg_ocB : acheckS hk0 D_X11_ounceOf 6 TM fld_11 put_11 cst_11 cstl_11 sl_ocB 1 sC_ocB sk_ocB sx_ocB [0, 1, 2, 100, 700, 701, 702] 4000 25 ss_ocB = true := by decide +kernel
abbrev sC_ocC : CE := ([(2, 0, 0), (0, 0, 1), (0, 0, 1)], [(0, 3, (0, 0, 16))], [], [], [(0, 65), (20, 999)], 2, 44)
def sl_ocC : List CAL := [(169, 0, 5, C_X11_leads_0), (358, 0, 2, C_X11_restOf_0)]
theorem sl_ocC_ok (l : Launch) (G : KG) : ∀ q ∈ sl_ocC, COK l G RX11 TM q := List.forall_mem_cons.mpr ⟨cok_v k_11_169 (ac_X11_leads_0 l G) rfl rfl rfl rfl rfl rfl, List.forall_mem_cons.mpr ⟨cok_v k_11_358 (ac_X11_restOf_0 l G) rfl rfl rfl rfl rfl rfl, fun _ h => absurd h List.not_mem_nil⟩⟩
def sk_ocC : List CUT := []
abbrev se_ocC_5 : CUT := (5, ([(0, 0, false), (1, 1, false), (2, 2, false), (3, 700, false), (4, 500, false), (5, 501, false)], [], [(0, (2, 0, 0)), (1, (0, 0, 1)), (2, (0, 0, 0)), (100, (0, 1, 16)), (500, (0, 1, 16)), (501, (0, 0, 1)), (502, (2, 2, 0)), (503, (2, 5, 0)), (504, (2, 6, 0)), (700, (0, -1, 15)), (701, (0, 0, 15)), (702, (0, 0, 9)), (703, (0, -1, 9))], [(0, 3, 100), (0, 4, 502), (0, 7, 503), (0, 8, 504)], [(701, 100, -1), (701, 500, -1), (500, 100, 0), (500, 701, 1), (501, 703, 1)], 1000), 0, [(0, 0)])
abbrev se_ocC_5_1 : CUT := (5, ([(0, 0, false), (1, 1, false), (2, 2, false), (3, 701, false), (4, 500, false), (5, 501, false)], [], [(0, (2, 0, 0)), (1, (0, 0, 1)), (2, (0, 0, 0)), (100, (0, 1, 16)), (500, (0, 1, 16)), (501, (0, 1, 1)), (502, (2, 2, 0)), (503, (2, 5, 0)), (504, (2, 6, 0)), (505, (1, -9223372036854775808, 9223372036854775807)), (700, (0, -1, 15)), (701, (0, 0, 15)), (702, (0, 0, 8)), (703, (0, 1, 9))], [(0, 3, 100), (0, 4, 502), (0, 7, 503), (0, 8, 504), (0, 65, 505)], [(701, 100, -1), (701, 500, -1), (702, 703, -1), (500, 100, 0), (500, 701, 1)], 1000), 0, [(0, 0)])
def sx_ocC : List CUT := [se_ocC_5, se_ocC_5_1]
abbrev ss_ocC : AS := (se_ocB_31.2.1.1, [703, 702], (703, (0, -1, 9)) :: se_ocB_31.2.1.2.2.1, se_ocB_31.2.1.2.2.2.1, se_ocB_31.2.1.2.2.2.2.1, 1000)
theorem sg_ocC : acheckS hk0 D_X11_ounceOf 6 TM fld_11 put_11 cst_11 cstl_11 sl_ocC 1 sC_ocC sk_ocC sx_ocC [0, 1, 2, 100, 700, 701, 702, 703] 4000 32 ss_ocC = true := by decide +kernel
abbrev sC_ocD : CE := ([(2, 0, 0), (0, 0, 1), (0, 0, 1)], [(0, 3, (0, 0, 16))], [], [], [(0, 65), (20, 999)], 2, 44)
def sl_ocD : List CAL := [(169, 0, 5, C_X11_leads_0), (358, 0, 2, C_X11_restOf_0)]
theorem sl_ocD_ok (l : Launch) (G : KG) : ∀ q ∈ sl_ocD, COK l G RX11 TM q := List.forall_mem_cons.mpr ⟨cok_v k_11_169 (ac_X11_leads_0 l G) rfl rfl rfl rfl rfl rfl, List.forall_mem_cons.mpr ⟨cok_v k_11_358 (ac_X11_restOf_0 l G) rfl rfl rfl rfl rfl rfl, fun _ h => absurd h List.not_mem_nil⟩⟩
def sk_ocD : List CUT := []
abbrev se_ocD_5 : CUT := (5, ([(0, 0, false), (1, 1, false), (2, 2, false), (3, 700, false), (4, 500, false), (5, 501, false)], [], [(0, (2, 0, 0)), (1, (0, 0, 1)), (2, (0, 1, 1)), (100, (0, 1, 16)), (500, (0, 1, 16)), (501, (0, 0, 1)), (502, (2, 2, 0)), (503, (2, 6, 0)), (700, (0, -1, 15)), (701, (0, 0, 15)), (702, (0, 0, 9))], [(0, 3, 100), (0, 4, 502), (0, 8, 503)], [(701, 100, -1), (701, 500, -1), (500, 100, 0), (500, 701, 1), (501, 702, 0)], 1000), 0, [(0, 0)])
abbrev se_ocD_5_1 : CUT := (5, ([(0, 0, false), (1, 1, false), (2, 2, false), (3, 701, false), (4, 500, false), (5, 501, false)], [], [(0, (2, 0, 0)), (1, (0, 0, 1)), (2, (0, 1, 1)), (100, (0, 1, 16)), (500, (0, 1, 16)), (501, (0, 1, 1)), (502, (2, 2, 0)), (503, (2, 6, 0)), (504, (1, -9223372036854775808, 9223372036854775807)), (700, (0, -1, 15)), (701, (0, 0, 15)), (702, (0, 1, 9))], [(0, 3, 100), (0, 4, 502), (0, 8, 503), (0, 65, 504)], [(701, 100, -1), (701, 500, -1), (500, 100, 0), (500, 701, 1)], 1000), 0, [(0, 0)])
def sx_ocD : List CUT := [se_ocD_5, se_ocD_5_1]
abbrev ss_ocD : AS := (se_ocA_49.2.1.1, [702], (702, (0, 0, 9)) :: se_ocA_49.2.1.2.2.1, se_ocA_49.2.1.2.2.2.1, se_ocA_49.2.1.2.2.2.2.1, 1000)
theorem sg_ocD : acheckS hk0 D_X11_ounceOf 6 TM fld_11 put_11 cst_11 cstl_11 sl_ocD 1 sC_ocD sk_ocD sx_ocD [0, 1, 2, 100, 700, 701, 702] 4000 50 ss_ocD = true := by decide +kernel
abbrev C_settle : CE := ([(2, 0, 0), (0, -2147483648, 2147483647)], [], [], [(some (0, -1, 200), [], [], [])], [(0, 0), (0, 65), (6, 999), (20, 999)], 3, 69)
abbrev sC_stO : CE := C_settle
def sl_stO : List CAL := [(130, 1, 1, C_X11_isPlane_0)]
theorem sl_stO_ok (l : Launch) (G : KG) : ∀ q ∈ sl_stO, COK l G RX11 TM q := List.forall_mem_cons.mpr ⟨cok_s k_11_130 (ac_X11_isPlane_0 l G) rfl, fun _ h => absurd h List.not_mem_nil⟩
def sk_stO : List CUT := []
abbrev se_stO_16 : CUT := (16, ([(0, 0, false), (1, 1, false), (2, 500, false)], [], [(0, (2, 0, 0)), (1, (0, 0, 1)), (500, (0, 0, 0)), (501, (0, 0, 0))], [(0, 0, 501)], [], 1000), 0, [(0, 0)])
def sx_stO : List CUT := [se_stO_16]
abbrev ss_stO : AS := ([(0, 0, false), (1, 1, false)], [], [(0, (2, 0, 0)), (1, (0, -2147483648, 2147483647))], [], [], 1000)
theorem sg_stO : acheckS hk0 D_X11_settle 9 TM fld_11 put_11 cst_11 cstl_11 sl_stO 1 sC_stO sk_stO sx_stO [0, 1] 4000 0 ss_stO = true := by decide +kernel
abbrev st16 : CUT := (16, ([(0, 0, false), (1, 1, false), (2, 720, false)], [], [(0, (2, 0, 0)), (1, (0, 0, 1)), (720, (0, 0, 200))], [], [], 1000), 0, [(0, 0)])
abbrev sC_stP : CE := C_settle
def sl_stP : List CAL := [(169, 0, 5, C_X11_leads_0), (358, 0, 2, C_X11_restOf_0)]
theorem sl_stP_ok (l : Launch) (G : KG) : ∀ q ∈ sl_stP, COK l G RX11 TM q := List.forall_mem_cons.mpr ⟨cok_v k_11_169 (ac_X11_leads_0 l G) rfl rfl rfl rfl rfl rfl, List.forall_mem_cons.mpr ⟨cok_v k_11_358 (ac_X11_restOf_0 l G) rfl rfl rfl rfl rfl rfl, fun _ h => absurd h List.not_mem_nil⟩⟩
def sk_stP : List CUT := []
abbrev se_stP_44 : CUT := (44, ([(0, 0, false), (1, 1, false), (2, 720, false), (3, 500, true), (5, 501, false), (6, 502, false), (7, 503, false)], [], [(0, (2, 0, 0)), (1, (0, 0, 1)), (500, (1, -9223372036854775808, 9223372036854775807)), (501, (0, -1, -1)), (502, (0, 0, 0)), (503, (0, 0, 0)), (504, (0, 0, 16)), (720, (0, 0, 199))], [(0, 3, 504)], [], 1000), 0, [(0, 0)])
def sx_stP : List CUT := [se_stP_44]
abbrev ss_stP : AS := st16.2.1
theorem sg_stP : acheckS hk0 D_X11_settle 9 TM fld_11 put_11 cst_11 cstl_11 sl_stP 1 sC_stP sk_stP sx_stP [0, 1, 720] 4000 16 ss_stP = true := by decide +kernel
abbrev st44 : CUT := (44, ([(0, 0, false), (1, 1, false), (2, 720, false), (3, 721, true), (5, 722, false), (6, 723, false), (7, 724, false)], [], [(0, (2, 0, 0)), (1, (0, 0, 1)), (720, (0, 0, 199)), (721, (1, -9223372036854775808, 9223372036854775807)), (722, (0, -1, 15)), (723, (0, -1, 1)), (724, (0, 0, 2))], [], [], 1000), 0, [(0, 0)])
abbrev sC_stQ : CE := ([(2, 0, 0), (0, -2147483648, 2147483647)], [], [], [(some (0, -1, 200), [], [], [])], [], 3, 69)
def sl_stQ : List CAL := []
theorem sl_stQ_ok (l : Launch) (G : KG) : ∀ q ∈ sl_stQ, COK l G RX11 TM q := fun _ h => absurd h List.not_mem_nil
def sk_stQ : List CUT := []
abbrev se_stQ_54 : CUT := (54, ([(0, 0, false), (1, 1, false), (2, 720, false), (3, 721, true), (5, 722, false), (6, 723, false), (7, 724, false)], [724, 1, 0], [(0, (2, 0, 0)), (1, (0, 0, 1)), (720, (0, 0, 199)), (721, (1, -9223372036854775808, 9223372036854775807)), (722, (0, -1, 15)), (723, (0, -1, 1)), (724, (0, 0, 1))], [], [], 1000), 0, [(0, 0)])
abbrev se_stQ_114 : CUT := (114, ([(0, 0, false), (1, 1, false), (2, 720, false), (3, 721, true), (5, 722, false), (6, 723, false), (7, 724, false)], [722, 500, 722, 500], [(0, (2, 0, 0)), (1, (0, 0, 1)), (500, (2, 6, 0)), (720, (0, 0, 199)), (721, (1, -9223372036854775808, 9223372036854775807)), (722, (0, 0, 15)), (723, (0, -1, 1)), (724, (0, 2, 2))], [(0, 8, 500)], [], 1000), 0, [(0, 0)])
def sx_stQ : List CUT := [se_stQ_54, se_stQ_114]
abbrev ss_stQ : AS := st44.2.1
theorem sg_stQ : acheckS hk0 D_X11_settle 9 TM fld_11 put_11 cst_11 cstl_11 sl_stQ 1 sC_stQ sk_stQ sx_stQ [0, 1, 720, 721, 722, 723, 724] 4000 44 ss_stQ = true := by decide +kernel
abbrev sC_stR : CE := ([(2, 0, 0), (0, -2147483648, 2147483647)], [], [], [(some (0, -1, 200), [], [], [])], [], 3, 69)
def sl_stR : List CAL := []
theorem sl_stR_ok (l : Launch) (G : KG) : ∀ q ∈ sl_stR, COK l G RX11 TM q := fun _ h => absurd h List.not_mem_nil
def sk_stR : List CUT := []
abbrev se_stR_44 : CUT := (44, ([(0, 0, false), (1, 1, false), (2, 720, false), (3, 721, true), (5, 722, false), (6, 723, false), (7, 500, false), (8, 725, false)], [], [(0, (2, 0, 0)), (1, (0, 0, 1)), (500, (0, 1, 2)), (720, (0, 0, 199)), (721, (1, -9223372036854775808, 9223372036854775807)), (722, (0, -1, 15)), (723, (0, -1, 1)), (724, (0, 0, 1)), (725, (0, -1, 15))], [], [(724, 500, -1), (500, 724, 1)], 1000), 0, [(0, 0)])
abbrev se_stR_44_1 : CUT := (44, ([(0, 0, false), (1, 1, false), (2, 720, false), (3, 500, true), (5, 725, false), (6, 501, false), (7, 502, false), (8, 725, false)], [], [(0, (2, 0, 0)), (1, (0, 0, 1)), (500, (1, -9223372036854775808, 9223372036854775806)), (501, (0, -1, -1)), (502, (0, 2, 2)), (720, (0, 0, 199)), (721, (1, -9223372036854775807, 9223372036854775807)), (722, (0, -1, 15)), (723, (0, -1, 1)), (724, (0, 1, 1)), (725, (0, 0, 15))], [(0, 65, 500)], [(500, 721, -1)], 1000), 0, [(0, 0)])
abbrev se_stR_44_2 : CUT := (44, ([(0, 0, false), (1, 1, false), (2, 720, false), (3, 500, true), (5, 725, false), (6, 501, false), (7, 502, false), (8, 725, false)], [], [(0, (2, 0, 0)), (1, (0, 0, 1)), (500, (1, -9223372036854775808, 9223372036854775806)), (501, (0, 1, 1)), (502, (0, 1, 1)), (720, (0, 0, 199)), (721, (1, -9223372036854775807, 9223372036854775807)), (722, (0, -1, 15)), (723, (0, -1, 1)), (724, (0, 0, 0)), (725, (0, 0, 15))], [(0, 65, 500)], [(500, 721, -1)], 1000), 0, [(0, 0)])
def sx_stR : List CUT := [se_stR_44, se_stR_44_1, se_stR_44_2]
abbrev ss_stR : AS := (se_stQ_54.2.1.1, [725], (725, (0, -1, 15)) :: se_stQ_54.2.1.2.2.1, [], se_stQ_54.2.1.2.2.2.2.1, 1000)
theorem sg_stR : acheckS hk0 D_X11_settle 9 TM fld_11 put_11 cst_11 cstl_11 sl_stR 1 sC_stR sk_stR sx_stR [0, 1, 720, 721, 722, 723, 724, 725] 4000 57 ss_stR = true := by decide +kernel
abbrev sC_stU : CE := C_settle
def sl_stU : List CAL := []
theorem sl_stU_ok (l : Launch) (G : KG) : ∀ q ∈ sl_stU, COK l G RX11 TM q := fun _ h => absurd h List.not_mem_nil
def sk_stU : List CUT := []
abbrev se_stU_16 : CUT := (16, ([(0, 0, false), (1, 1, false), (2, 500, false), (3, 721, true), (5, 722, false), (6, 723, false), (7, 724, false)], [], [(0, (2, 0, 0)), (1, (0, 0, 1)), (500, (0, 1, 200)), (501, (2, 6, 0)), (720, (0, 0, 199)), (721, (1, -9223372036854775808, 9223372036854775807)), (722, (0, 0, 15)), (723, (0, -1, 1)), (724, (0, 2, 2))], [(0, 8, 501)], [(720, 500, -1), (500, 720, 1)], 1000), 0, [(0, 0)])
def sx_stU : List CUT := [se_stU_16]
abbrev ss_stU : AS := (se_stQ_114.2.1.1, [], se_stQ_114.2.1.2.2.1, se_stQ_114.2.1.2.2.2.1, se_stQ_114.2.1.2.2.2.2.1, 1000)
theorem sg_stU : acheckS hk0 D_X11_settle 9 TM fld_11 put_11 cst_11 cstl_11 sl_stU 1 sC_stU sk_stU sx_stU [0, 1, 720, 721, 722, 723, 724] 4000 119 ss_stU = true := by decide +kernel
theorem d_oc_24 : decode cX11_ounceOf 24 = .ok (.iaload, 1) := by decide +kernel
theorem d_oc_31 : decode cX11_ounceOf 31 = .ok (.iaload, 1) := by decide +kernel
theorem d_oc_49 : decode cX11_ounceOf 49 = .ok (.iaload, 1) := by decide +kernel
theorem d_oc_130 : decode cX11_ounceOf 130 = .ok (.ireturn, 1) := by decide +kernel
theorem d_st_54 : decode cX11_settle 54 = .ok (.invokevirtual 424, 3) := by decide +kernel
theorem d_st_114 : decode cX11_settle 114 = .ok (.iaload, 1) := by decide +kernel
theorem d_st_115 : decode cX11_settle 115 = .ok (.iload 6, 2) := by decide +kernel
theorem d_st_117 : decode cX11_settle 117 = .ok (.iadd, 1) := by decide +kernel
theorem d_st_118 : decode cX11_settle 118 = .ok (.iastore, 1) := by decide +kernel
