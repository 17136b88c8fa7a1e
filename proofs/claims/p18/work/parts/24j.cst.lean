def D_X10_settleOunce : DT := [(0, .aload_n 0, 1), (1, .iload_n 1, 1), (2, .iconst 0, 1), (3, .invokevirtual 392, 3), (6, .istore_n 2, 1), (7, .aload_n 0, 1), (8, .iload_n 1, 1), (9, .iconst 1, 1), (10, .invokevirtual 392, 3), (13, .istore_n 3, 1), (14, .iload_n 2, 1), (15, .ifCond .lt 12, 3), (18, .aload_n 0, 1), (19, .iload_n 2, 1), (20, .iconst 0, 1), (21, .invokevirtual 395, 3), (24, .goto 4, 3), (27, .lconst 0, 1), (28, .lstore 4, 2), (30, .iload_n 3, 1), (31, .ifCond .lt 12, 3), (34, .aload_n 0, 1), (35, .iload_n 3, 1), (36, .iconst 1, 1), (37, .invokevirtual 395, 3), (40, .goto 4, 3), (43, .lconst 0, 1), (44, .lstore 6, 2), (46, .lload 4, 2), (48, .lconst 0, 1), (49, .lcmp, 1), (50, .ifCond .lt 12, 3), (53, .lload 6, 2), (55, .lconst 0, 1), (56, .lcmp, 1), (57, .ifCond .lt 5, 3), (60, .iconst 0, 1), (61, .ireturn, 1), (62, .lload 4, 2), (64, .lload 6, 2), (66, .lcmp, 1), (67, .ifCond .gt 19, 3), (70, .aload_n 0, 1), (71, .getfield 26, 3), (74, .getfield 128, 3), (77, .iload_n 2, 1), (78, .dup2, 1), (79, .iaload, 1), (80, .iconst 1, 1), (81, .iadd, 1), (82, .iastore, 1), (83, .goto 16, 3), (86, .aload_n 0, 1), (87, .getfield 26, 3), (90, .getfield 128, 3), (93, .iload_n 3, 1), (94, .dup2, 1), (95, .iaload, 1), (96, .iconst 1, 1), (97, .isub, 1), (98, .iastore, 1), (99, .iconst 1, 1), (100, .ireturn, 1)]
theorem D_X10_settleOunce_ok : dtOK cX10_settleOunce D_X10_settleOunce = true := by decide +kernel
abbrev C_roomLeft0 : CE := ([(2, 5, 0), (0, 0, 15)], [], [], [], [], 0, 0)
abbrev sC_rR0 : CE := ([(2, 5, 0), (0, 0, 15)], [], [], [], [], 0, 0)
def sl_rR0 : List CAL := []
theorem sl_rR0_ok (l : Launch) (G : KG) : ∀ q ∈ sl_rR0, COK l G RX5 TX q := fun _ h => absurd h List.not_mem_nil
def sk_rR0 : List CUT := []
abbrev se_rR0_5 : CUT := (5, ([(0, 0, false), (1, 1, false)], [1, 500], [(0, (2, 5, 0)), (1, (0, 0, 15)), (500, (2, 9, 0))], [(5, 4, 500)], [], 1000), 0, [(0, 0)])
def sx_rR0 : List CUT := [se_rR0_5]
abbrev ss_rR0 : AS := ([(0, 0, false), (1, 1, false)], [], [(0, (2, 5, 0)), (1, (0, 0, 15))], [], [], 1000)
theorem sg_rR0 : acheckS hk0 D_X5_roomLeft 2 TX fld_5 put_5 cst_5 cstl_5 sl_rR0 1 sC_rR0 sk_rR0 sx_rR0 [0, 1] 4000 0 ss_rR0 = true := by decide +kernel
abbrev sC_rR1 : CE := ([(2, 5, 0), (0, 0, 15)], [], [], [], [], 0, 0)
def sl_rR1 : List CAL := []
theorem sl_rR1_ok (l : Launch) (G : KG) : ∀ q ∈ sl_rR1, COK l G RX5 TX q := fun _ h => absurd h List.not_mem_nil
def sk_rR1 : List CUT := []
abbrev se_rR1_11 : CUT := (11, ([(0, 0, false), (1, 1, false)], [1, 500, 702], [(0, (2, 5, 0)), (1, (0, 0, 15)), (500, (2, 10, 0)), (501, (2, 9, 0)), (702, (0, 0, 9))], [(5, 4, 501), (5, 5, 500)], [], 1000), 0, [(0, 0)])
def sx_rR1 : List CUT := [se_rR1_11]
abbrev ss_rR1 : AS := (se_rR0_5.2.1.1, [702], (702, (0, 0, 9)) :: se_rR0_5.2.1.2.2.1, se_rR0_5.2.1.2.2.2.1, se_rR0_5.2.1.2.2.2.2.1, 1000)
theorem sg_rR1 : acheckS hk0 D_X5_roomLeft 2 TX fld_5 put_5 cst_5 cstl_5 sl_rR1 1 sC_rR1 sk_rR1 sx_rR1 [0, 1, 702] 4000 6 ss_rR1 = true := by decide +kernel
abbrev C_bo0 : CE := ([(2, 0, 0), (0, 0, 1), (0, 0, 1)], [(5, 0, (0, 0, 16))], [], [], [], 3, 73)
abbrev sC_boS : CE := ([(2, 0, 0), (0, 0, 1), (0, 0, 1)], [(5, 0, (0, 0, 16))], [], [], [], 3, 73)
def sl_boS : List CAL := []
theorem sl_boS_ok (l : Launch) (G : KG) : ∀ q ∈ sl_boS, COK l G RX10 TX q := fun _ h => absurd h List.not_mem_nil
def sk_boS : List CUT := []
abbrev se_boS_9 : CUT := (9, ([(0, 0, false), (1, 1, false), (2, 2, false), (3, 500, false), (4, 501, true), (6, 502, false)], [], [(0, (2, 0, 0)), (1, (0, 0, 1)), (2, (0, 0, 1)), (100, (0, 0, 16)), (500, (0, -2, -2)), (501, (1, 0, 0)), (502, (0, 0, 0))], [(5, 0, 100)], [], 1000), 0, [(0, 0)])
def sx_boS : List CUT := [se_boS_9]
abbrev ss_boS : AS := ([(0, 0, false), (1, 1, false), (2, 2, false)], [], [(0, (2, 0, 0)), (1, (0, 0, 1)), (2, (0, 0, 1)), (100, (0, 0, 16))], [(5, 0, 100)], [], 1000)
theorem sg_boS : acheckS hk0 D_X10_bestOunce 10 TX fld_10 put_10 cst_10 cstl_10 sl_boS 1 sC_boS sk_boS sx_boS [0, 1, 2, 100] 4000 0 ss_boS = true := by decide +kernel
abbrev boH : CUT := (9, ([(0, 0, false), (1, 1, false), (2, 2, false), (3, 700, false), (4, 704, true), (6, 701, false)], [], [(0, (2, 0, 0)), (1, (0, 0, 1)), (2, (0, 0, 1)), (100, (0, 0, 16)), (700, (0, -2, 15)), (701, (0, 0, 16)), (704, (1, -9223372036854775808, 9223372036854775807))], [(5, 0, 100)], [(701, 100, 0)], 1000), 0, [(0, 0)])
abbrev sC_boA : CE := ([(2, 0, 0), (0, 0, 1), (0, 0, 1)], [(5, 0, (0, 0, 16))], [], [], [], 3, 73)
def sl_boA : List CAL := []
theorem sl_boA_ok (l : Launch) (G : KG) : ∀ q ∈ sl_boA, COK l G RX10 TX q := fun _ h => absurd h List.not_mem_nil
def sk_boA : List CUT := []
abbrev se_boA_31 : CUT := (31, ([(0, 0, false), (1, 1, false), (2, 2, false), (3, 700, false), (4, 500, true), (6, 701, false)], [701, 501], [(0, (2, 0, 0)), (1, (0, 0, 1)), (2, (0, 0, 0)), (100, (0, 1, 16)), (500, (1, -9223372036854775808, 9223372036854775807)), (501, (2, 5, 0)), (700, (0, -2, 15)), (701, (0, 0, 15)), (704, (1, -9223372036854775808, 9223372036854775807))], [(0, 2, 501), (5, 0, 100)], [(701, 100, -1)], 1000), 0, [(0, 0)])
abbrev se_boA_54 : CUT := (54, ([(0, 0, false), (1, 1, false), (2, 2, false), (3, 700, false), (4, 500, true), (6, 701, false)], [701, 501], [(0, (2, 0, 0)), (1, (0, 0, 1)), (2, (0, 1, 1)), (100, (0, 1, 16)), (500, (1, -9223372036854775808, 9223372036854775807)), (501, (2, 10, 0)), (502, (2, 5, 0)), (700, (0, -2, 15)), (701, (0, 0, 15)), (704, (1, -9223372036854775808, 9223372036854775807))], [(0, 2, 502), (5, 0, 100), (5, 5, 501)], [(701, 100, -1)], 1000), 0, [(0, 0)])
abbrev se_boA_122 : CUT := (122, ([(0, 0, false), (1, 1, false), (2, 2, false), (3, 700, false), (4, 500, true), (6, 701, false)], [700], [(0, (2, 0, 0)), (1, (0, 0, 1)), (2, (0, 0, 1)), (100, (0, 0, 16)), (500, (1, -9223372036854775808, 9223372036854775807)), (501, (2, 5, 0)), (700, (0, -2, 15)), (701, (0, 0, 16)), (704, (1, -9223372036854775808, 9223372036854775807))], [(0, 2, 501), (5, 0, 100)], [(100, 701, 0), (701, 100, 0)], 1000), 0, [(0, 0)])
def sx_boA : List CUT := [se_boA_31, se_boA_54, se_boA_122]
abbrev ss_boA : AS := boH.2.1
theorem sg_boA : acheckS hk0 D_X10_bestOunce 10 TX fld_10 put_10 cst_10 cstl_10 sl_boA 1 sC_boA sk_boA sx_boA [0, 1, 2, 100, 700, 701, 704] 4000 9 ss_boA = true := by decide +kernel
abbrev sC_boB : CE := ([(2, 0, 0), (0, 0, 1), (0, 0, 1)], [(5, 0, (0, 0, 16))], [], [], [], 3, 73)
def sl_boB : List CAL := [(395, 0, 7, C_X10_changeByOunce_0)]
theorem sl_boB_ok (l : Launch) (G : KG) : ∀ q ∈ sl_boB, COK l G RX10 TX q := List.forall_mem_cons.mpr ⟨cok_v k_10_395 (ac_X10_changeByOunce_0 l G) rfl rfl rfl rfl rfl rfl, fun _ h => absurd h List.not_mem_nil⟩
def sk_boB : List CUT := []
abbrev se_boB_9 : CUT := (9, ([(0, 0, false), (1, 1, false), (2, 2, false), (3, 700, false), (4, 500, true), (6, 501, false), (7, 502, false)], [], [(0, (2, 0, 0)), (1, (0, 0, 1)), (2, (0, 0, 0)), (100, (0, 1, 16)), (500, (1, -9223372036854775808, 9223372036854775807)), (501, (0, 1, 16)), (502, (0, 0, 1)), (503, (2, 5, 0)), (504, (2, 6, 0)), (700, (0, -2, 15)), (701, (0, 0, 15)), (702, (0, -9, 9)), (704, (1, -9223372036854775808, 9223372036854775807))], [(0, 2, 503), (5, 0, 100), (5, 1, 504)], [(701, 100, -1), (701, 501, -1), (501, 100, 0), (501, 701, 1)], 1000), 0, [(0, 0)])
abbrev se_boB_9_1 : CUT := (9, ([(0, 0, false), (1, 1, false), (2, 2, false), (3, 701, false), (4, 500, true), (6, 501, false), (7, 502, false), (8, 500, true)], [], [(0, (2, 0, 0)), (1, (0, 0, 1)), (2, (0, 0, 0)), (100, (0, 1, 16)), (500, (1, -9223372036854775808, 9223372036854775807)), (501, (0, 1, 16)), (502, (0, 1, 1)), (503, (2, 5, 0)), (504, (2, 6, 0)), (700, (0, -2, 15)), (701, (0, 0, 15)), (702, (0, 1, 9)), (704, (1, -9223372036854775808, 9223372036854775807))], [(0, 2, 503), (5, 0, 100), (5, 1, 504)], [(701, 100, -1), (701, 501, -1), (501, 100, 0), (501, 701, 1)], 1000), 0, [(0, 0)])
def sx_boB : List CUT := [se_boB_9, se_boB_9_1]
abbrev ss_boB : AS := (se_boA_31.2.1.1, [702], (702, (0, -9, 9)) :: se_boA_31.2.1.2.2.1, se_boA_31.2.1.2.2.2.1, se_boA_31.2.1.2.2.2.2.1, 1000)
theorem sg_boB : acheckS hk0 D_X10_bestOunce 10 TX fld_10 put_10 cst_10 cstl_10 sl_boB 1 sC_boB sk_boB sx_boB [0, 1, 2, 100, 700, 701, 704, 702] 4000 34 ss_boB = true := by decide +kernel
abbrev sC_boD : CE := ([(2, 0, 0), (0, 0, 1), (0, 0, 1)], [(5, 0, (0, 0, 16))], [], [], [], 3, 73)
def sl_boD : List CAL := [(395, 0, 7, C_X10_changeByOunce_1)]
theorem sl_boD_ok (l : Launch) (G : KG) : ∀ q ∈ sl_boD, COK l G RX10 TX q := List.forall_mem_cons.mpr ⟨cok_v k_10_395 (ac_X10_changeByOunce_1 l G) rfl rfl rfl rfl rfl rfl, fun _ h => absurd h List.not_mem_nil⟩
def sk_boD : List CUT := []
abbrev se_boD_9 : CUT := (9, ([(0, 0, false), (1, 1, false), (2, 2, false), (3, 700, false), (4, 500, true), (6, 501, false), (7, 502, false)], [], [(0, (2, 0, 0)), (1, (0, 0, 1)), (2, (0, 1, 1)), (100, (0, 1, 16)), (500, (1, -9223372036854775808, 9223372036854775807)), (501, (0, 1, 16)), (502, (0, 0, 1)), (503, (2, 5, 0)), (504, (2, 6, 0)), (505, (2, 10, 0)), (700, (0, -2, 15)), (701, (0, 0, 15)), (702, (0, 0, 9)), (704, (1, -9223372036854775808, 9223372036854775807))], [(0, 2, 503), (5, 0, 100), (5, 1, 504), (5, 5, 505)], [(701, 100, -1), (701, 501, -1), (501, 100, 0), (501, 701, 1), (502, 702, 0)], 1000), 0, [(0, 0)])
abbrev se_boD_9_1 : CUT := (9, ([(0, 0, false), (1, 1, false), (2, 2, false), (3, 701, false), (4, 500, true), (6, 501, false), (7, 502, false), (8, 500, true)], [], [(0, (2, 0, 0)), (1, (0, 0, 1)), (2, (0, 1, 1)), (100, (0, 1, 16)), (500, (1, -9223372036854775808, 9223372036854775807)), (501, (0, 1, 16)), (502, (0, 1, 1)), (503, (2, 5, 0)), (504, (2, 6, 0)), (505, (2, 10, 0)), (700, (0, -2, 15)), (701, (0, 0, 15)), (702, (0, 1, 9)), (704, (1, -9223372036854775808, 9223372036854775807))], [(0, 2, 503), (5, 0, 100), (5, 1, 504), (5, 5, 505)], [(701, 100, -1), (701, 501, -1), (501, 100, 0), (501, 701, 1)], 1000), 0, [(0, 0)])
def sx_boD : List CUT := [se_boD_9, se_boD_9_1]
abbrev ss_boD : AS := (se_boA_54.2.1.1, [702], (702, (0, 0, 9)) :: se_boA_54.2.1.2.2.1, se_boA_54.2.1.2.2.2.1, se_boA_54.2.1.2.2.2.2.1, 1000)
theorem sg_boD : acheckS hk0 D_X10_bestOunce 10 TX fld_10 put_10 cst_10 cstl_10 sl_boD 1 sC_boD sk_boD sx_boD [0, 1, 2, 100, 700, 701, 704, 702] 4000 55 ss_boD = true := by decide +kernel
abbrev C_settleOunce : CE := ([(2, 0, 0), (0, 0, 1)], [], [], [(some (0, 0, 0), [], [], []), (some (0, 1, 1), [], [], [])], [(10, 999)], 4, 102)
abbrev sC_so0 : CE := ([(2, 0, 0), (0, 0, 1)], [], [], [(some (0, 0, 0), [], [], []), (some (0, 1, 1), [], [], [])], [], 4, 102)
def sl_so0 : List CAL := []
theorem sl_so0_ok (l : Launch) (G : KG) : ∀ q ∈ sl_so0, COK l G RX10 TX q := fun _ h => absurd h List.not_mem_nil
def sk_so0 : List CUT := []
abbrev se_so0_3 : CUT := (3, ([(0, 0, false), (1, 1, false)], [500, 1, 0], [(0, (2, 0, 0)), (1, (0, 0, 1)), (500, (0, 0, 0))], [], [], 1000), 0, [(0, 0)])
def sx_so0 : List CUT := [se_so0_3]
abbrev ss_so0 : AS := ([(0, 0, false), (1, 1, false)], [], [(0, (2, 0, 0)), (1, (0, 0, 1))], [], [], 1000)
theorem sg_so0 : acheckS hk0 D_X10_settleOunce 8 TX fld_10 put_10 cst_10 cstl_10 sl_so0 3 sC_so0 sk_so0 sx_so0 [0, 1] 4000 0 ss_so0 = true := by decide +kernel
abbrev sC_so1 : CE := ([(2, 0, 0), (0, 0, 1)], [], [], [(some (0, 0, 0), [], [], []), (some (0, 1, 1), [], [], [])], [], 4, 102)
def sl_so1 : List CAL := []
theorem sl_so1_ok (l : Launch) (G : KG) : ∀ q ∈ sl_so1, COK l G RX10 TX q := fun _ h => absurd h List.not_mem_nil
def sk_so1 : List CUT := []
abbrev se_so1_10 : CUT := (10, ([(0, 0, false), (1, 1, false), (2, 710, false)], [500, 1, 0], [(0, (2, 0, 0)), (1, (0, 0, 1)), (500, (0, 1, 1)), (710, (0, -2, 15))], [], [], 1000), 0, [(0, 0)])
def sx_so1 : List CUT := [se_so1_10]
abbrev ss_so1 : AS := (se_so0_3.2.1.1, [710], (710, (0, -2, 15)) :: se_so0_3.2.1.2.2.1, se_so0_3.2.1.2.2.2.1, se_so0_3.2.1.2.2.2.2.1, 1000)
theorem sg_so1 : acheckS hk0 D_X10_settleOunce 8 TX fld_10 put_10 cst_10 cstl_10 sl_so1 3 sC_so1 sk_so1 sx_so1 [0, 1, 710] 4000 6 ss_so1 = true := by decide +kernel
abbrev sC_so2 : CE := ([(2, 0, 0), (0, 0, 1)], [], [], [(some (0, 0, 0), [], [], []), (some (0, 1, 1), [], [], [])], [], 4, 102)
def sl_so2 : List CAL := [(395, 0, 7, C_X10_changeByOunce_0), (395, 0, 7, C_X10_changeByOunce_1)]
theorem sl_so2_ok (l : Launch) (G : KG) : ∀ q ∈ sl_so2, COK l G RX10 TX q := List.forall_mem_cons.mpr ⟨cok_v k_10_395 (ac_X10_changeByOunce_0 l G) rfl rfl rfl rfl rfl rfl, List.forall_mem_cons.mpr ⟨cok_v k_10_395 (ac_X10_changeByOunce_1 l G) rfl rfl rfl rfl rfl rfl, fun _ h => absurd h List.not_mem_nil⟩⟩
def sk_so2 : List CUT := []
abbrev se_so2_79 : CUT := (79, ([(0, 0, false), (1, 1, false), (2, 710, false), (3, 711, false), (4, 500, true), (6, 501, true)], [710, 502, 710, 502], [(0, (2, 0, 0)), (1, (0, 0, 1)), (500, (1, -9223372036854775808, -1)), (501, (1, -9223372036854775808, 9223372036854775807)), (502, (2, 10, 0)), (503, (2, 5, 0)), (710, (0, 0, 15)), (711, (0, -2, 15))], [(0, 2, 503), (5, 5, 502)], [(500, 501, 0)], 1000), 0, [(0, 0)])
abbrev se_so2_95 : CUT := (95, ([(0, 0, false), (1, 1, false), (2, 710, false), (3, 711, false), (4, 500, true), (6, 501, true)], [711, 502, 711, 502], [(0, (2, 0, 0)), (1, (0, 0, 1)), (500, (1, -9223372036854775807, 9223372036854775807)), (501, (1, -9223372036854775808, -1)), (502, (2, 10, 0)), (503, (2, 5, 0)), (710, (0, -2, 15)), (711, (0, 0, 15))], [(0, 2, 503), (5, 5, 502)], [(501, 500, -1)], 1000), 0, [(0, 0)])
def sx_so2 : List CUT := [se_so2_79, se_so2_95]
abbrev ss_so2 : AS := (se_so1_10.2.1.1, [711], (711, (0, -2, 15)) :: se_so1_10.2.1.2.2.1, se_so1_10.2.1.2.2.2.1, se_so1_10.2.1.2.2.2.2.1, 1000)
theorem sg_so2 : acheckS hk0 D_X10_settleOunce 8 TX fld_10 put_10 cst_10 cstl_10 sl_so2 3 sC_so2 sk_so2 sx_so2 [0, 1, 710, 711] 4000 13 ss_so2 = true := by decide +kernel
abbrev sC_so3 : CE := ([(2, 0, 0), (0, 0, 1)], [], [], [(some (0, 0, 0), [], [], []), (some (0, 1, 1), [], [], [])], [(10, 999)], 4, 102)
def sl_so3 : List CAL := []
theorem sl_so3_ok (l : Launch) (G : KG) : ∀ q ∈ sl_so3, COK l G RX10 TX q := fun _ h => absurd h List.not_mem_nil
def sk_so3 : List CUT := []
def sx_so3 : List CUT := []
abbrev ss_so3 : AS := (se_so2_79.2.1.1, [], se_so2_79.2.1.2.2.1, se_so2_79.2.1.2.2.2.1, se_so2_79.2.1.2.2.2.2.1, 1000)
theorem sg_so3 : acheckS hk0 D_X10_settleOunce 8 TX fld_10 put_10 cst_10 cstl_10 sl_so3 3 sC_so3 sk_so3 sx_so3 [0, 1, 710, 711, 500, 501] 4000 83 ss_so3 = true := by decide +kernel
abbrev sC_so4 : CE := ([(2, 0, 0), (0, 0, 1)], [], [], [(some (0, 0, 0), [], [], []), (some (0, 1, 1), [], [], [])], [(10, 999)], 4, 102)
def sl_so4 : List CAL := []
theorem sl_so4_ok (l : Launch) (G : KG) : ∀ q ∈ sl_so4, COK l G RX10 TX q := fun _ h => absurd h List.not_mem_nil
def sk_so4 : List CUT := []
def sx_so4 : List CUT := []
abbrev ss_so4 : AS := (se_so2_95.2.1.1, [], se_so2_95.2.1.2.2.1, se_so2_95.2.1.2.2.2.1, se_so2_95.2.1.2.2.2.2.1, 1000)
theorem sg_so4 : acheckS hk0 D_X10_settleOunce 8 TX fld_10 put_10 cst_10 cstl_10 sl_so4 3 sC_so4 sk_so4 sx_so4 [0, 1, 710, 711, 500, 501] 4000 99 ss_so4 = true := by decide +kernel
theorem d_rm_5 : decode cX5_roomLeft 5 = .ok (.iaload, 1) := by decide +kernel
theorem d_rm_11 : decode cX5_roomLeft 11 = .ok (.iaload, 1) := by decide +kernel
theorem d_rm_12 : decode cX5_roomLeft 12 = .ok (.isub, 1) := by decide +kernel
theorem d_rm_13 : decode cX5_roomLeft 13 = .ok (.ireturn, 1) := by decide +kernel
theorem d_bo_31 : decode cX10_bestOunce 31 = .ok (.invokevirtual 371, 3) := by decide +kernel
theorem d_bo_54 : decode cX10_bestOunce 54 = .ok (.iaload, 1) := by decide +kernel
theorem d_bo_122 : decode cX10_bestOunce 122 = .ok (.ireturn, 1) := by decide +kernel
theorem d_so_3 : decode cX10_settleOunce 3 = .ok (.invokevirtual 392, 3) := by decide +kernel
theorem d_so_10 : decode cX10_settleOunce 10 = .ok (.invokevirtual 392, 3) := by decide +kernel
theorem d_so_79 : decode cX10_settleOunce 79 = .ok (.iaload, 1) := by decide +kernel
theorem d_so_80 : decode cX10_settleOunce 80 = .ok (.iconst 1, 1) := by decide +kernel
theorem d_so_81 : decode cX10_settleOunce 81 = .ok (.iadd, 1) := by decide +kernel
theorem d_so_82 : decode cX10_settleOunce 82 = .ok (.iastore, 1) := by decide +kernel
theorem d_so_95 : decode cX10_settleOunce 95 = .ok (.iaload, 1) := by decide +kernel
theorem d_so_96 : decode cX10_settleOunce 96 = .ok (.iconst 1, 1) := by decide +kernel
theorem d_so_97 : decode cX10_settleOunce 97 = .ok (.isub, 1) := by decide +kernel
theorem d_so_98 : decode cX10_settleOunce 98 = .ok (.iastore, 1) := by decide +kernel
