theorem d_J6_bitCount_0f7a4_3 : decode cJ6_bitCount_0f7a4 3 = .ok (.iushr, 1) := by decide +kernel
theorem d_J6_bitCount_0f7a4_4 : decode cJ6_bitCount_0f7a4 4 = .ok (.ldc_w 265, 3) := by decide +kernel
theorem d_J6_bitCount_0f7a4_11 : decode cJ6_bitCount_0f7a4 11 = .ok (.ldc_w 266, 3) := by decide +kernel
theorem d_J6_bitCount_0f7a4_17 : decode cJ6_bitCount_0f7a4 17 = .ok (.iushr, 1) := by decide +kernel
theorem d_J6_bitCount_0f7a4_18 : decode cJ6_bitCount_0f7a4 18 = .ok (.ldc_w 266, 3) := by decide +kernel
theorem d_J6_bitCount_0f7a4_27 : decode cJ6_bitCount_0f7a4 27 = .ok (.iushr, 1) := by decide +kernel
theorem d_J6_bitCount_0f7a4_29 : decode cJ6_bitCount_0f7a4 29 = .ok (.ldc_w 267, 3) := by decide +kernel
theorem d_J6_bitCount_0f7a4_38 : decode cJ6_bitCount_0f7a4 38 = .ok (.iushr, 1) := by decide +kernel
theorem d_J6_bitCount_0f7a4_45 : decode cJ6_bitCount_0f7a4 45 = .ok (.iushr, 1) := by decide +kernel
theorem d_J6_bitCount_0f7a4_52 : decode cJ6_bitCount_0f7a4 52 = .ok (.ireturn, 1) := by decide +kernel
abbrev bb_J6_bitCount_0f7a4_0_3 : ZB := [(.iload_n 0, .null), (.iload_n 0, .null), (.iconst 1, .int 1)]
theorem bk_J6_bitCount_0f7a4_0_3 : zchk cJ6_bitCount_0f7a4 bb_J6_bitCount_0f7a4_0_3 0 = true ∧ zpc bb_J6_bitCount_0f7a4_0_3 0 = 3 := ⟨by decide +kernel, rfl⟩
abbrev bb_J6_bitCount_0f7a4_7_11 : ZB := [(.iand, .null), (.isub, .null), (.istore_n 0, .null), (.iload_n 0, .null)]
theorem bk_J6_bitCount_0f7a4_7_11 : zchk cJ6_bitCount_0f7a4 bb_J6_bitCount_0f7a4_7_11 7 = true ∧ zpc bb_J6_bitCount_0f7a4_7_11 7 = 11 := ⟨by decide +kernel, rfl⟩
abbrev bb_J6_bitCount_0f7a4_14_17 : ZB := [(.iand, .null), (.iload_n 0, .null), (.iconst 2, .int 2)]
theorem bk_J6_bitCount_0f7a4_14_17 : zchk cJ6_bitCount_0f7a4 bb_J6_bitCount_0f7a4_14_17 14 = true ∧ zpc bb_J6_bitCount_0f7a4_14_17 14 = 17 := ⟨by decide +kernel, rfl⟩
abbrev bb_J6_bitCount_0f7a4_21_27 : ZB := [(.iand, .null), (.iadd, .null), (.istore_n 0, .null), (.iload_n 0, .null), (.iload_n 0, .null), (.iconst 4, .int 4)]
theorem bk_J6_bitCount_0f7a4_21_27 : zchk cJ6_bitCount_0f7a4 bb_J6_bitCount_0f7a4_21_27 21 = true ∧ zpc bb_J6_bitCount_0f7a4_21_27 21 = 27 := ⟨by decide +kernel, rfl⟩
abbrev bb_J6_bitCount_0f7a4_28_29 : ZB := [(.iadd, .null)]
theorem bk_J6_bitCount_0f7a4_28_29 : zchk cJ6_bitCount_0f7a4 bb_J6_bitCount_0f7a4_28_29 28 = true ∧ zpc bb_J6_bitCount_0f7a4_28_29 28 = 29 := ⟨by decide +kernel, rfl⟩
abbrev bb_J6_bitCount_0f7a4_32_38 : ZB := [(.iand, .null), (.istore_n 0, .null), (.iload_n 0, .null), (.iload_n 0, .null), (.bipush 8, .int 8)]
theorem bk_J6_bitCount_0f7a4_32_38 : zchk cJ6_bitCount_0f7a4 bb_J6_bitCount_0f7a4_32_38 32 = true ∧ zpc bb_J6_bitCount_0f7a4_32_38 32 = 38 := ⟨by decide +kernel, rfl⟩
abbrev bb_J6_bitCount_0f7a4_39_45 : ZB := [(.iadd, .null), (.istore_n 0, .null), (.iload_n 0, .null), (.iload_n 0, .null), (.bipush 16, .int 16)]
theorem bk_J6_bitCount_0f7a4_39_45 : zchk cJ6_bitCount_0f7a4 bb_J6_bitCount_0f7a4_39_45 39 = true ∧ zpc bb_J6_bitCount_0f7a4_39_45 39 = 45 := ⟨by decide +kernel, rfl⟩
abbrev bb_J6_bitCount_0f7a4_46_52 : ZB := [(.iadd, .null), (.istore_n 0, .null), (.iload_n 0, .null), (.bipush 63, .int 63), (.iand, .null)]
theorem bk_J6_bitCount_0f7a4_46_52 : zchk cJ6_bitCount_0f7a4 bb_J6_bitCount_0f7a4_46_52 46 = true ∧ zpc bb_J6_bitCount_0f7a4_46_52 46 = 52 := ⟨by decide +kernel, rfl⟩
set_option maxHeartbeats 4000000 in
set_option maxRecDepth 100000 in
theorem c_J6_bitCount0 (l : Launch) (G : KG) : Ct l G yJ6_bitCount_0f7a4 cJ6_bitCount_0f7a4 1 (some .int) { frames := 0, cells := 0, slots := 0, locals := 0 } [.int 0] [] (fun r w1 => r = some (.int 0) ∧ w1 = []) := by
  refine ct_of [(0, .int 0)] (by decide) (Nat.le_of_ble_eq_true rfl) rfl ?_
  intro p0 e0 s0 m0 args0 below0 meth0 c0 A X
  refine z_run X bb_J6_bitCount_0f7a4_0_3 bk_J6_bitCount_0f7a4_0_3 (lv' := [(0, .int 0)]) (st' := [.int 1, .int 0, .int 0]) rfl ?_
  refine z_iushr X d_J6_bitCount_0f7a4_3 (v := 0) (by decide +kernel) ?_
  refine z_ldcw X d_J6_bitCount_0f7a4_4 cn_J6_265 ?_
  refine z_run X bb_J6_bitCount_0f7a4_7_11 bk_J6_bitCount_0f7a4_7_11 (lv' := [(0, .int 0)]) (st' := [.int 0]) rfl ?_
  refine z_ldcw X d_J6_bitCount_0f7a4_11 cn_J6_266 ?_
  refine z_run X bb_J6_bitCount_0f7a4_14_17 bk_J6_bitCount_0f7a4_14_17 (lv' := [(0, .int 0)]) (st' := [.int 2, .int 0, .int 0]) rfl ?_
  refine z_iushr X d_J6_bitCount_0f7a4_17 (v := 0) (by decide +kernel) ?_
  refine z_ldcw X d_J6_bitCount_0f7a4_18 cn_J6_266 ?_
  refine z_run X bb_J6_bitCount_0f7a4_21_27 bk_J6_bitCount_0f7a4_21_27 (lv' := [(0, .int 0)]) (st' := [.int 4, .int 0, .int 0]) rfl ?_
  refine z_iushr X d_J6_bitCount_0f7a4_27 (v := 0) (by decide +kernel) ?_
  refine z_run X bb_J6_bitCount_0f7a4_28_29 bk_J6_bitCount_0f7a4_28_29 (lv' := [(0, .int 0)]) (st' := [.int 0]) rfl ?_
  refine z_ldcw X d_J6_bitCount_0f7a4_29 cn_J6_267 ?_
  refine z_run X bb_J6_bitCount_0f7a4_32_38 bk_J6_bitCount_0f7a4_32_38 (lv' := [(0, .int 0)]) (st' := [.int 8, .int 0, .int 0]) rfl ?_
  refine z_iushr X d_J6_bitCount_0f7a4_38 (v := 0) (by decide +kernel) ?_
  refine z_run X bb_J6_bitCount_0f7a4_39_45 bk_J6_bitCount_0f7a4_39_45 (lv' := [(0, .int 0)]) (st' := [.int 16, .int 0, .int 0]) rfl ?_
  refine z_iushr X d_J6_bitCount_0f7a4_45 (v := 0) (by decide +kernel) ?_
  refine z_run X bb_J6_bitCount_0f7a4_46_52 bk_J6_bitCount_0f7a4_46_52 (lv' := [(0, .int 0)]) (st' := [.int 0]) rfl ?_
  exact z_iret X rfl d_J6_bitCount_0f7a4_52 (Nat.le_of_ble_eq_true rfl) (Nat.le_of_ble_eq_true rfl) ⟨rfl, rfl⟩

theorem d_X10_bars_1 : decode cX10_bars 1 = .ok (.invokevirtual 242, 3) := by decide +kernel
theorem d_X10_bars_14 : decode cX10_bars 14 = .ok (.if_icmp .gt 76, 3) := by decide +kernel
theorem d_X10_bars_25 : decode cX10_bars 25 = .ok (.if_icmp .gt 59, 3) := by decide +kernel
theorem d_X10_bars_29 : decode cX10_bars 29 = .ok (.getfield 47, 3) := by decide +kernel
theorem d_X10_bars_36 : decode cX10_bars 36 = .ok (.invokevirtual 253, 3) := by decide +kernel
theorem d_X10_bars_43 : decode cX10_bars 43 = .ok (.invokestatic 256, 3) := by decide +kernel
theorem d_X10_bars_51 : decode cX10_bars 51 = .ok (.if_icmp .lt 21, 3) := by decide +kernel
theorem d_X10_bars_81 : decode cX10_bars 81 = .ok (.goto (-60), 3) := by decide +kernel
theorem d_X10_bars_87 : decode cX10_bars 87 = .ok (.goto (-76), 3) := by decide +kernel
theorem d_X10_bars_92 : decode cX10_bars 92 = .ok (.if_icmp .le 6, 3) := by decide +kernel
theorem d_X10_bars_99 : decode cX10_bars 99 = .ok (.getfield 12, 3) := by decide +kernel
theorem d_X10_bars_102 : decode cX10_bars 102 = .ok (.invokevirtual 180, 3) := by decide +kernel
theorem d_X10_bars_106 : decode cX10_bars 106 = .ok (.getfield 12, 3) := by decide +kernel
theorem d_X10_bars_111 : decode cX10_bars 111 = .ok (.invokevirtual 183, 3) := by decide +kernel
theorem d_X10_bars_115 : decode cX10_bars 115 = .ok (.ireturn, 1) := by decide +kernel
theorem d_X10_bars_57 : decode cX10_bars 57 = .ok (.if_icmp .ne 21, 3) := by decide +kernel
theorem d_X10_bars_63 : decode cX10_bars 63 = .ok (.if_icmp .ge 15, 3) := by decide +kernel
theorem d_X10_bars_69 : decode cX10_bars 69 = .ok (.if_icmp .ge 9, 3) := by decide +kernel
abbrev bb_X10_bars_0_1 : ZB := [(.aload_n 0, .null)]
theorem bk_X10_bars_0_1 : zchk cX10_bars bb_X10_bars_0_1 0 = true ∧ zpc bb_X10_bars_0_1 0 = 1 := ⟨by decide +kernel, rfl⟩
abbrev bb_X10_bars_4_11 : ZB := [(.iconst 3, .int 3), (.istore_n 1, .null), (.iconst 0, .int 0), (.istore_n 2, .null), (.bipush (-60), .int (-60)), (.istore_n 3, .null)]
theorem bk_X10_bars_4_11 : zchk cX10_bars bb_X10_bars_4_11 4 = true ∧ zpc bb_X10_bars_4_11 4 = 11 := ⟨by decide +kernel, rfl⟩
abbrev bb_X10_bars_11_14 : ZB := [(.iload_n 3, .null), (.bipush 60, .int 60)]
theorem bk_X10_bars_11_14 : zchk cX10_bars bb_X10_bars_11_14 11 = true ∧ zpc bb_X10_bars_11_14 11 = 14 := ⟨by decide +kernel, rfl⟩
abbrev bb_X10_bars_17_21 : ZB := [(.bipush (-60), .int (-60)), (.istore 4, .null)]
theorem bk_X10_bars_17_21 : zchk cX10_bars bb_X10_bars_17_21 17 = true ∧ zpc bb_X10_bars_17_21 17 = 21 := ⟨by decide +kernel, rfl⟩
abbrev bb_X10_bars_21_25 : ZB := [(.iload 4, .null), (.bipush 60, .int 60)]
theorem bk_X10_bars_21_25 : zchk cX10_bars bb_X10_bars_21_25 21 = true ∧ zpc bb_X10_bars_21_25 21 = 25 := ⟨by decide +kernel, rfl⟩
abbrev bb_X10_bars_28_29 : ZB := [(.aload_n 0, .null)]
theorem bk_X10_bars_28_29 : zchk cX10_bars bb_X10_bars_28_29 28 = true ∧ zpc bb_X10_bars_28_29 28 = 29 := ⟨by decide +kernel, rfl⟩
abbrev bb_X10_bars_32_36 : ZB := [(.iload_n 3, .null), (.iload 4, .null), (.iload_n 1, .null)]
theorem bk_X10_bars_32_36 : zchk cX10_bars bb_X10_bars_32_36 32 = true ∧ zpc bb_X10_bars_32_36 32 = 36 := ⟨by decide +kernel, rfl⟩
abbrev bb_X10_bars_39_43 : ZB := [(.istore 5, .null), (.iload 5, .null)]
theorem bk_X10_bars_39_43 : zchk cX10_bars bb_X10_bars_39_43 39 = true ∧ zpc bb_X10_bars_39_43 39 = 43 := ⟨by decide +kernel, rfl⟩
abbrev bb_X10_bars_46_51 : ZB := [(.istore 6, .null), (.iload 6, .null), (.iload_n 1, .null)]
theorem bk_X10_bars_46_51 : zchk cX10_bars bb_X10_bars_46_51 46 = true ∧ zpc bb_X10_bars_46_51 46 = 51 := ⟨by decide +kernel, rfl⟩
abbrev bb_X10_bars_72_81 : ZB := [(.iload 6, .null), (.istore_n 1, .null), (.iload 5, .null), (.istore_n 2, .null), (.iinc 4 1, .int 1)]
theorem bk_X10_bars_72_81 : zchk cX10_bars bb_X10_bars_72_81 72 = true ∧ zpc bb_X10_bars_72_81 72 = 81 := ⟨by decide +kernel, rfl⟩
abbrev bb_X10_bars_84_87 : ZB := [(.iinc 3 1, .int 1)]
theorem bk_X10_bars_84_87 : zchk cX10_bars bb_X10_bars_84_87 84 = true ∧ zpc bb_X10_bars_84_87 84 = 87 := ⟨by decide +kernel, rfl⟩
abbrev bb_X10_bars_90_92 : ZB := [(.iload_n 1, .null), (.iconst 2, .int 2)]
theorem bk_X10_bars_90_92 : zchk cX10_bars bb_X10_bars_90_92 90 = true ∧ zpc bb_X10_bars_90_92 90 = 92 := ⟨by decide +kernel, rfl⟩
abbrev bb_X10_bars_98_99 : ZB := [(.aload_n 0, .null)]
theorem bk_X10_bars_98_99 : zchk cX10_bars bb_X10_bars_98_99 98 = true ∧ zpc bb_X10_bars_98_99 98 = 99 := ⟨by decide +kernel, rfl⟩
abbrev bb_X10_bars_105_106 : ZB := [(.aload_n 0, .null)]
theorem bk_X10_bars_105_106 : zchk cX10_bars bb_X10_bars_105_106 105 = true ∧ zpc bb_X10_bars_105_106 105 = 106 := ⟨by decide +kernel, rfl⟩
abbrev bb_X10_bars_109_111 : ZB := [(.iload_n 2, .null), (.i2l, .null)]
theorem bk_X10_bars_109_111 : zchk cX10_bars bb_X10_bars_109_111 109 = true ∧ zpc bb_X10_bars_109_111 109 = 111 := ⟨by decide +kernel, rfl⟩
abbrev bb_X10_bars_114_115 : ZB := [(.iload_n 1, .null)]
theorem bk_X10_bars_114_115 : zchk cX10_bars bb_X10_bars_114_115 114 = true ∧ zpc bb_X10_bars_114_115 114 = 115 := ⟨by decide +kernel, rfl⟩
abbrev bb_X10_bars_54_57 : ZB := [(.iload 6, .null), (.iload_n 1, .null)]
theorem bk_X10_bars_54_57 : zchk cX10_bars bb_X10_bars_54_57 54 = true ∧ zpc bb_X10_bars_54_57 54 = 57 := ⟨by decide +kernel, rfl⟩
abbrev bb_X10_bars_60_63 : ZB := [(.iload 6, .null), (.iconst 3, .int 3)]
theorem bk_X10_bars_60_63 : zchk cX10_bars bb_X10_bars_60_63 60 = true ∧ zpc bb_X10_bars_60_63 60 = 63 := ⟨by decide +kernel, rfl⟩
abbrev bb_X10_bars_66_69 : ZB := [(.iload 5, .null), (.iload_n 2, .null)]
theorem bk_X10_bars_66_69 : zchk cX10_bars bb_X10_bars_66_69 66 = true ∧ zpc bb_X10_bars_66_69 66 = 69 := ⟨by decide +kernel, rfl⟩
abbrev bb_X10_bars_78_81 : ZB := [(.iinc 4 1, .int 1)]
theorem bk_X10_bars_78_81 : zchk cX10_bars bb_X10_bars_78_81 78 = true ∧ zpc bb_X10_bars_78_81 78 = 81 := ⟨by decide +kernel, rfl⟩
set_option maxHeartbeats 4000000 in
set_option maxRecDepth 100000 in
theorem c_X10_bars (l : Launch) (G : KG) (x : Nat) (told : Nat) (reader : Nat) (ring : Nat) (speeds : Nat) (wheel : Nat) (trials : Nat) (span : Nat) (search : Nat) (kept : Nat) (crosses : Nat) (trueM : Nat) (thought : Nat) (up : Nat) (low : Nat) (fits : Nat) (ts : Nat) (tw : Nat) (tf : Nat) (te : Nat) (tg : Nat) (tl : Nat) (tc : Nat) (tx : Nat) (ty : Nat) (tn : Nat) : Ct l G yX10_bars cX10_bars 7 (some .int) { frames := 1, cells := 0, slots := 0, locals := 26 } [.ref x] [(x, ob 10 [.ref told, .ref reader, .ref ring, .ref speeds, .ref wheel, .ref trials, .ref span, .ref search, .ref kept, .ref crosses, .ref trueM, .ref thought, .ref up, .ref low, .ref fits, .null]), (trials, ob 9 [.int 0, .ref ts, .ref tw, .ref tf, .ref te, .ref tg, .ref tl, .ref tc, .ref tx, .ref ty]), (told, ob 8 [.ref tn, .int 0]), (tn, aJ G 16 (fun _ => 0))] (fun r _ => r = some (.int 0)) := by
  refine ct_of [(0, .ref x)] (by decide) (Nat.le_of_ble_eq_true rfl) rfl ?_
  intro p0 e0 s0 m0 args0 below0 meth0 c0 A X
  refine z_run X bb_X10_bars_0_1 bk_X10_bars_0_1 (lv' := [(0, .ref x)]) (st' := [.ref x]) rfl ?_
  refine z_callV X k_10_242 (c_X10_prepareTrials l G x told reader ring speeds wheel trials span search kept crosses trueM thought up low fits ts tw tf te tg tl tc tx ty) d_X10_bars_1 0 rfl rfl rfl ⟨Nat.le_of_ble_eq_true rfl, Nat.le_of_ble_eq_true rfl⟩ ⟨Nat.le_of_ble_eq_true rfl, Nat.le_of_ble_eq_true rfl⟩ rfl (rest := []) (As := []) rfl (Nat.le_of_ble_eq_true rfl) [0, 1] [2, 3] rfl (by decide) (wr := [(told, ob 8 [.ref tn, .int 0]), (tn, aJ G 16 (fun _ => 0))]) rfl (by decide) (by decide) ?_
  rintro _ _ ⟨rfl, rfl⟩
  refine Z.at (pc' := 4) (st' := []) (ws' := [(told, ob 8 [.ref tn, .int 0]), (tn, aJ G 16 (fun _ => 0)), (x, ob 10 [.ref told, .ref reader, .ref ring, .ref speeds, .ref wheel, .ref trials, .ref span, .ref search, .ref kept, .ref crosses, .ref trueM, .ref thought, .ref up, .ref low, .ref fits, .null]), (trials, ob 9 [.int 0, .ref ts, .ref tw, .ref tf, .ref te, .ref tg, .ref tl, .ref tc, .ref tx, .ref ty])]) (kc' := 0) (ks' := 0) rfl rfl rfl rfl rfl ?_
  refine z_run X bb_X10_bars_4_11 bk_X10_bars_4_11 (lv' := [(3, .int (-60)), (2, .int 0), (1, .int 3), (0, .ref x)]) (st' := []) rfl ?_
  refine z_run X bb_X10_bars_11_14 bk_X10_bars_11_14 (lv' := [(3, .int (-60)), (2, .int 0), (1, .int 3), (0, .ref x)]) (st' := [.int 60, .int (-60)]) rfl ?_
  refine zc_gt X d_X10_bars_14 (tgt := 90) (by decide) (a := (-60)) (b := 60) (show ((-60) : Int32).toInt = (-60) from by decide) (show (60 : Int32).toInt = 60 from by decide) (fun c14_1 => absurd c14_1 (by decide)) (fun _ => ?_)
  refine z_run X bb_X10_bars_17_21 bk_X10_bars_17_21 (lv' := [(4, .int (-60)), (3, .int (-60)), (2, .int 0), (1, .int 3), (0, .ref x)]) (st' := []) rfl ?_
  refine z_run X bb_X10_bars_21_25 bk_X10_bars_21_25 (lv' := [(4, .int (-60)), (3, .int (-60)), (2, .int 0), (1, .int 3), (0, .ref x)]) (st' := [.int 60, .int (-60)]) rfl ?_
  refine zc_gt X d_X10_bars_25 (tgt := 84) (by decide) (a := (-60)) (b := 60) (show ((-60) : Int32).toInt = (-60) from by decide) (show (60 : Int32).toInt = 60 from by decide) (fun c25_2 => absurd c25_2 (by decide)) (fun _ => ?_)
  refine z_run X bb_X10_bars_28_29 bk_X10_bars_28_29 (lv' := [(4, .int (-60)), (3, .int (-60)), (2, .int 0), (1, .int 3), (0, .ref x)]) (st' := [.ref x]) rfl ?_
  refine z_get X fl_10_47 d_X10_bars_29 2 rfl (v := .ref trials) rfl ?_
  refine z_run X bb_X10_bars_32_36 bk_X10_bars_32_36 (lv' := [(4, .int (-60)), (3, .int (-60)), (2, .int 0), (1, .int 3), (0, .ref x)]) (st' := [.int 3, .int (-60), .int (-60), .ref trials]) rfl ?_
  refine z_callV X k_10_253 (c_X9_allAgainst l G trials ts tw tf te tg tl tc tx ty (-60) (-60) 3) d_X10_bars_36 3 rfl rfl rfl ⟨Nat.le_of_ble_eq_true rfl, Nat.le_of_ble_eq_true rfl⟩ ⟨Nat.le_of_ble_eq_true rfl, Nat.le_of_ble_eq_true rfl⟩ rfl (rest := []) (As := [.int (-60), .int (-60), .int 3]) rfl (Nat.le_of_ble_eq_true rfl) [3] [0, 1, 2] rfl (by decide) (wr := [(told, ob 8 [.ref tn, .int 0]), (tn, aJ G 16 (fun _ => 0)), (x, ob 10 [.ref told, .ref reader, .ref ring, .ref speeds, .ref wheel, .ref trials, .ref span, .ref search, .ref kept, .ref crosses, .ref trueM, .ref thought, .ref up, .ref low, .ref fits, .null])]) rfl (by decide) (by decide) ?_
  rintro _ _ ⟨rfl, rfl⟩
  refine Z.at (pc' := 39) (st' := [.int 0]) (ws' := [(told, ob 8 [.ref tn, .int 0]), (tn, aJ G 16 (fun _ => 0)), (x, ob 10 [.ref told, .ref reader, .ref ring, .ref speeds, .ref wheel, .ref trials, .ref span, .ref search, .ref kept, .ref crosses, .ref trueM, .ref thought, .ref up, .ref low, .ref fits, .null]), (trials, ob 9 [.int 0, .ref ts, .ref tw, .ref tf, .ref te, .ref tg, .ref tl, .ref tc, .ref tx, .ref ty])]) (kc' := 0) (ks' := 0) rfl rfl rfl rfl rfl ?_
  refine z_run X bb_X10_bars_39_43 bk_X10_bars_39_43 (lv' := [(5, .int 0), (4, .int (-60)), (3, .int (-60)), (2, .int 0), (1, .int 3), (0, .ref x)]) (st' := [.int 0]) rfl ?_
  refine z_callS X k_10_256 (c_J6_bitCount0 l G) d_X10_bars_43 ⟨Nat.le_of_ble_eq_true rfl, Nat.le_of_ble_eq_true rfl⟩ ⟨Nat.le_of_ble_eq_true rfl, Nat.le_of_ble_eq_true rfl⟩ rfl (rest := []) (As := [.int 0]) rfl (Nat.le_of_ble_eq_true rfl) [] [0, 1, 2, 3] rfl (by decide) (wr := [(told, ob 8 [.ref tn, .int 0]), (tn, aJ G 16 (fun _ => 0)), (x, ob 10 [.ref told, .ref reader, .ref ring, .ref speeds, .ref wheel, .ref trials, .ref span, .ref search, .ref kept, .ref crosses, .ref trueM, .ref thought, .ref up, .ref low, .ref fits, .null]), (trials, ob 9 [.int 0, .ref ts, .ref tw, .ref tf, .ref te, .ref tg, .ref tl, .ref tc, .ref tx, .ref ty])]) rfl (by decide) (by decide) ?_
  rintro _ _ ⟨rfl, rfl⟩
  refine Z.at (pc' := 46) (st' := [.int 0]) (ws' := [(told, ob 8 [.ref tn, .int 0]), (tn, aJ G 16 (fun _ => 0)), (x, ob 10 [.ref told, .ref reader, .ref ring, .ref speeds, .ref wheel, .ref trials, .ref span, .ref search, .ref kept, .ref crosses, .ref trueM, .ref thought, .ref up, .ref low, .ref fits, .null]), (trials, ob 9 [.int 0, .ref ts, .ref tw, .ref tf, .ref te, .ref tg, .ref tl, .ref tc, .ref tx, .ref ty])]) (kc' := 0) (ks' := 0) rfl rfl rfl rfl rfl ?_
  refine z_run X bb_X10_bars_46_51 bk_X10_bars_46_51 (lv' := [(6, .int 0), (5, .int 0), (4, .int (-60)), (3, .int (-60)), (2, .int 0), (1, .int 3), (0, .ref x)]) (st' := [.int 3, .int 0]) rfl ?_
  refine zc_lt X d_X10_bars_51 (tgt := 72) (by decide) (a := 0) (b := 3) (show (0 : Int32).toInt = 0 from by decide) (show (3 : Int32).toInt = 3 from by decide) (fun _ => ?_) (fun c51_3 => absurd c51_3 (by decide))
  refine z_run X bb_X10_bars_72_81 bk_X10_bars_72_81 (lv' := [(4, .int (-59)), (2, .int 0), (1, .int 0), (6, .int 0), (5, .int 0), (3, .int (-60)), (0, .ref x)]) (st' := []) rfl ?_
  refine z_goto X d_X10_bars_81 (tgt := 21) (by decide) ?_
  refine Z.sub (lv' := [(4, .int (-59)), (2, .int 0), (1, .int 0), (3, .int (-60)), (0, .ref x)]) [0, 1, 2, 5, 6] rfl [0, 1, 2, 3] (ws' := [(told, ob 8 [.ref tn, .int 0]), (tn, aJ G 16 (fun _ => 0)), (x, ob 10 [.ref told, .ref reader, .ref ring, .ref speeds, .ref wheel, .ref trials, .ref span, .ref search, .ref kept, .ref crosses, .ref trueM, .ref thought, .ref up, .ref low, .ref fits, .null]), (trials, ob 9 [.int 0, .ref ts, .ref tw, .ref tf, .ref te, .ref tg, .ref tl, .ref tc, .ref tx, .ref ty])]) rfl (by decide) ?_
  refine zloop (σ := Int32 × Int) (fun z => [(4, .int z.1), (2, .int 0), (1, .int 0), (3, .int (-60)), (0, .ref x)]) (fun z => []) (fun z => [(told, ob 8 [.ref tn, .int 0]), (tn, aJ G 16 (fun _ => 0)), (x, ob 10 [.ref told, .ref reader, .ref ring, .ref speeds, .ref wheel, .ref trials, .ref span, .ref search, .ref kept, .ref crosses, .ref trueM, .ref thought, .ref up, .ref low, .ref fits, .null]), (trials, ob 9 [.int 0, .ref ts, .ref tw, .ref tf, .ref te, .ref tg, .ref tl, .ref tc, .ref tx, .ref ty])]) (fun z => (z.1.toInt = z.2) ∧ (-60 ≤ z.2 ∧ z.2 ≤ 61)) (fun z => (61 - z.2).toNat) ((-59), (-59)) ?_ ?_
  ·
    rintro ⟨yy, b⟩ ⟨hyy, hryy⟩ ih21
    dsimp only at *
    refine z_run X bb_X10_bars_21_25 bk_X10_bars_21_25 (lv' := [(4, .int yy), (2, .int 0), (1, .int 0), (3, .int (-60)), (0, .ref x)]) (st' := [.int 60, .int yy]) rfl ?_
    refine zc_gt X d_X10_bars_25 (tgt := 84) (by decide) (a := b) (b := 60) hyy (show (60 : Int32).toInt = 60 from by decide) (fun c25_4 => ?_) (fun c25_4 => ?_)
    ·
      refine z_run X bb_X10_bars_84_87 bk_X10_bars_84_87 (lv' := [(3, .int (-59)), (4, .int yy), (2, .int 0), (1, .int 0), (0, .ref x)]) (st' := []) rfl ?_
      refine z_goto X d_X10_bars_87 (tgt := 11) (by decide) ?_
      refine Z.sub (lv' := [(3, .int (-59)), (2, .int 0), (1, .int 0), (0, .ref x)]) [0, 2, 3, 4] rfl [0, 1, 2, 3] (ws' := [(told, ob 8 [.ref tn, .int 0]), (tn, aJ G 16 (fun _ => 0)), (x, ob 10 [.ref told, .ref reader, .ref ring, .ref speeds, .ref wheel, .ref trials, .ref span, .ref search, .ref kept, .ref crosses, .ref trueM, .ref thought, .ref up, .ref low, .ref fits, .null]), (trials, ob 9 [.int 0, .ref ts, .ref tw, .ref tf, .ref te, .ref tg, .ref tl, .ref tc, .ref tx, .ref ty])]) rfl (by decide) ?_
      refine zloop (σ := Int32 × Int) (fun z => [(3, .int z.1), (2, .int 0), (1, .int 0), (0, .ref x)]) (fun z => []) (fun z => [(told, ob 8 [.ref tn, .int 0]), (tn, aJ G 16 (fun _ => 0)), (x, ob 10 [.ref told, .ref reader, .ref ring, .ref speeds, .ref wheel, .ref trials, .ref span, .ref search, .ref kept, .ref crosses, .ref trueM, .ref thought, .ref up, .ref low, .ref fits, .null]), (trials, ob 9 [.int 0, .ref ts, .ref tw, .ref tf, .ref te, .ref tg, .ref tl, .ref tc, .ref tx, .ref ty])]) (fun z => (z.1.toInt = z.2) ∧ (-60 ≤ z.2 ∧ z.2 ≤ 61)) (fun z => (61 - z.2).toNat) ((-59), (-59)) ?_ ?_
      ·
        rintro ⟨xx, a⟩ ⟨hxx, hrxx⟩ ih11
        dsimp only at *
        refine z_run X bb_X10_bars_11_14 bk_X10_bars_11_14 (lv' := [(3, .int xx), (2, .int 0), (1, .int 0), (0, .ref x)]) (st' := [.int 60, .int xx]) rfl ?_
        refine zc_gt X d_X10_bars_14 (tgt := 90) (by decide) (a := a) (b := 60) hxx (show (60 : Int32).toInt = 60 from by decide) (fun c14_5 => ?_) (fun c14_5 => ?_)
        ·
          refine z_run X bb_X10_bars_90_92 bk_X10_bars_90_92 (lv' := [(3, .int xx), (2, .int 0), (1, .int 0), (0, .ref x)]) (st' := [.int 2, .int 0]) rfl ?_
          refine zc_le X d_X10_bars_92 (tgt := 98) (by decide) (a := 0) (b := 2) (show (0 : Int32).toInt = 0 from by decide) (show (2 : Int32).toInt = 2 from by decide) (fun _ => ?_) (fun c92_6 => absurd c92_6 (by decide))
          refine z_run X bb_X10_bars_98_99 bk_X10_bars_98_99 (lv' := [(3, .int xx), (2, .int 0), (1, .int 0), (0, .ref x)]) (st' := [.ref x]) rfl ?_
          refine z_get X fl_10_12 d_X10_bars_99 2 rfl (v := .ref told) rfl ?_
          refine z_callV X k_10_180 (c_X8_start0 l G told tn) d_X10_bars_102 0 rfl rfl rfl ⟨Nat.le_of_ble_eq_true rfl, Nat.le_of_ble_eq_true rfl⟩ ⟨Nat.le_of_ble_eq_true rfl, Nat.le_of_ble_eq_true rfl⟩ rfl (rest := []) (As := []) rfl (Nat.le_of_ble_eq_true rfl) [0] [1, 2, 3] rfl (by decide) (wr := [(tn, aJ G 16 (fun _ => 0)), (x, ob 10 [.ref told, .ref reader, .ref ring, .ref speeds, .ref wheel, .ref trials, .ref span, .ref search, .ref kept, .ref crosses, .ref trueM, .ref thought, .ref up, .ref low, .ref fits, .null]), (trials, ob 9 [.int 0, .ref ts, .ref tw, .ref tf, .ref te, .ref tg, .ref tl, .ref tc, .ref tx, .ref ty])]) rfl (by decide) (by decide) ?_
          rintro _ _ ⟨rfl, rfl⟩
          refine Z.at (pc' := 105) (st' := []) (ws' := [(tn, aJ G 16 (fun _ => 0)), (x, ob 10 [.ref told, .ref reader, .ref ring, .ref speeds, .ref wheel, .ref trials, .ref span, .ref search, .ref kept, .ref crosses, .ref trueM, .ref thought, .ref up, .ref low, .ref fits, .null]), (trials, ob 9 [.int 0, .ref ts, .ref tw, .ref tf, .ref te, .ref tg, .ref tl, .ref tc, .ref tx, .ref ty]), (told, ob 8 [.ref tn, .int 0])]) (kc' := 0) (ks' := 0) rfl rfl rfl rfl rfl ?_
          refine z_run X bb_X10_bars_105_106 bk_X10_bars_105_106 (lv' := [(3, .int xx), (2, .int 0), (1, .int 0), (0, .ref x)]) (st' := [.ref x]) rfl ?_
          refine z_get X fl_10_12 d_X10_bars_106 1 rfl (v := .ref told) rfl ?_
          refine z_run X bb_X10_bars_109_111 bk_X10_bars_109_111 (lv' := [(3, .int xx), (2, .int 0), (1, .int 0), (0, .ref x)]) (st' := [.long 0, .ref told]) rfl ?_
          refine z_callV X k_10_183 (c_X8_add0 l G told tn 0 (fun _ => 0)) d_X10_bars_111 3 rfl rfl rfl ⟨Nat.le_of_ble_eq_true rfl, Nat.le_of_ble_eq_true rfl⟩ ⟨Nat.le_of_ble_eq_true rfl, Nat.le_of_ble_eq_true rfl⟩ rfl (rest := []) (As := [.long 0]) rfl (Nat.le_of_ble_eq_true rfl) [3, 0] [1, 2] rfl (by decide) (wr := [(x, ob 10 [.ref told, .ref reader, .ref ring, .ref speeds, .ref wheel, .ref trials, .ref span, .ref search, .ref kept, .ref crosses, .ref trueM, .ref thought, .ref up, .ref low, .ref fits, .null]), (trials, ob 9 [.int 0, .ref ts, .ref tw, .ref tf, .ref te, .ref tg, .ref tl, .ref tc, .ref tx, .ref ty])]) rfl (by decide) (by decide) ?_
          rintro _ _ ⟨rfl, rfl⟩
          refine Z.at (pc' := 114) (st' := []) (ws' := [(x, ob 10 [.ref told, .ref reader, .ref ring, .ref speeds, .ref wheel, .ref trials, .ref span, .ref search, .ref kept, .ref crosses, .ref trueM, .ref thought, .ref up, .ref low, .ref fits, .null]), (trials, ob 9 [.int 0, .ref ts, .ref tw, .ref tf, .ref te, .ref tg, .ref tl, .ref tc, .ref tx, .ref ty]), (told, ob 8 [.ref tn, .int 1]), (tn, aJ G 16 (vp_updL (fun _ => 0) 0 0))]) (kc' := 0) (ks' := 0) rfl rfl rfl rfl rfl ?_
          refine z_run X bb_X10_bars_114_115 bk_X10_bars_114_115 (lv' := [(3, .int xx), (2, .int 0), (1, .int 0), (0, .ref x)]) (st' := [.int 0]) rfl ?_
          exact z_iret X rfl d_X10_bars_115 (Nat.le_of_ble_eq_true rfl) (Nat.le_of_ble_eq_true rfl) rfl
        ·
          refine z_run X bb_X10_bars_17_21 bk_X10_bars_17_21 (lv' := [(4, .int (-60)), (3, .int xx), (2, .int 0), (1, .int 0), (0, .ref x)]) (st' := []) rfl ?_
          refine zloop (σ := Int32 × Int) (fun z => [(4, .int z.1), (3, .int xx), (2, .int 0), (1, .int 0), (0, .ref x)]) (fun z => []) (fun z => [(told, ob 8 [.ref tn, .int 0]), (tn, aJ G 16 (fun _ => 0)), (x, ob 10 [.ref told, .ref reader, .ref ring, .ref speeds, .ref wheel, .ref trials, .ref span, .ref search, .ref kept, .ref crosses, .ref trueM, .ref thought, .ref up, .ref low, .ref fits, .null]), (trials, ob 9 [.int 0, .ref ts, .ref tw, .ref tf, .ref te, .ref tg, .ref tl, .ref tc, .ref tx, .ref ty])]) (fun z => (z.1.toInt = z.2) ∧ (-60 ≤ z.2 ∧ z.2 ≤ 61)) (fun z => (61 - z.2).toNat) ((-60), (-60)) ?_ ?_
          ·
            rintro ⟨yy, b⟩ ⟨hyy, hryy⟩ ih21
            dsimp only at *
            refine z_run X bb_X10_bars_21_25 bk_X10_bars_21_25 (lv' := [(4, .int yy), (3, .int xx), (2, .int 0), (1, .int 0), (0, .ref x)]) (st' := [.int 60, .int yy]) rfl ?_
            refine zc_gt X d_X10_bars_25 (tgt := 84) (by decide) (a := b) (b := 60) hyy (show (60 : Int32).toInt = 60 from by decide) (fun c25_7 => ?_) (fun c25_7 => ?_)
            ·
              refine z_run X bb_X10_bars_84_87 bk_X10_bars_84_87 (lv' := [(3, .int (xx + 1)), (4, .int yy), (2, .int 0), (1, .int 0), (0, .ref x)]) (st' := []) rfl ?_
              refine z_goto X d_X10_bars_87 (tgt := 11) (by decide) ?_
              refine Z.sub (lv' := [(3, .int (xx + 1)), (2, .int 0), (1, .int 0), (0, .ref x)]) [0, 2, 3, 4] rfl [0, 1, 2, 3] (ws' := [(told, ob 8 [.ref tn, .int 0]), (tn, aJ G 16 (fun _ => 0)), (x, ob 10 [.ref told, .ref reader, .ref ring, .ref speeds, .ref wheel, .ref trials, .ref span, .ref search, .ref kept, .ref crosses, .ref trueM, .ref thought, .ref up, .ref low, .ref fits, .null]), (trials, ob 9 [.int 0, .ref ts, .ref tw, .ref tf, .ref te, .ref tg, .ref tl, .ref tc, .ref tx, .ref ty])]) rfl (by decide) ?_
              exact ih11 ((xx + 1), (a + 1)) ⟨(tI_add hxx (show (1 : Int32).toInt = 1 from by decide) (by omega)), (by dsimp only; omega)⟩ (by dsimp only; omega)
            ·
              refine z_run X bb_X10_bars_28_29 bk_X10_bars_28_29 (lv' := [(4, .int yy), (3, .int xx), (2, .int 0), (1, .int 0), (0, .ref x)]) (st' := [.ref x]) rfl ?_
              refine z_get X fl_10_47 d_X10_bars_29 2 rfl (v := .ref trials) rfl ?_
              refine z_run X bb_X10_bars_32_36 bk_X10_bars_32_36 (lv' := [(4, .int yy), (3, .int xx), (2, .int 0), (1, .int 0), (0, .ref x)]) (st' := [.int 0, .int yy, .int xx, .ref trials]) rfl ?_
              refine z_callV X k_10_253 (c_X9_allAgainst l G trials ts tw tf te tg tl tc tx ty xx yy 0) d_X10_bars_36 3 rfl rfl rfl ⟨Nat.le_of_ble_eq_true rfl, Nat.le_of_ble_eq_true rfl⟩ ⟨Nat.le_of_ble_eq_true rfl, Nat.le_of_ble_eq_true rfl⟩ rfl (rest := []) (As := [.int xx, .int yy, .int 0]) rfl (Nat.le_of_ble_eq_true rfl) [3] [0, 1, 2] rfl (by decide) (wr := [(told, ob 8 [.ref tn, .int 0]), (tn, aJ G 16 (fun _ => 0)), (x, ob 10 [.ref told, .ref reader, .ref ring, .ref speeds, .ref wheel, .ref trials, .ref span, .ref search, .ref kept, .ref crosses, .ref trueM, .ref thought, .ref up, .ref low, .ref fits, .null])]) rfl (by decide) (by decide) ?_
              rintro _ _ ⟨rfl, rfl⟩
              refine Z.at (pc' := 39) (st' := [.int 0]) (ws' := [(told, ob 8 [.ref tn, .int 0]), (tn, aJ G 16 (fun _ => 0)), (x, ob 10 [.ref told, .ref reader, .ref ring, .ref speeds, .ref wheel, .ref trials, .ref span, .ref search, .ref kept, .ref crosses, .ref trueM, .ref thought, .ref up, .ref low, .ref fits, .null]), (trials, ob 9 [.int 0, .ref ts, .ref tw, .ref tf, .ref te, .ref tg, .ref tl, .ref tc, .ref tx, .ref ty])]) (kc' := 0) (ks' := 0) rfl rfl rfl rfl rfl ?_
              refine z_run X bb_X10_bars_39_43 bk_X10_bars_39_43 (lv' := [(5, .int 0), (4, .int yy), (3, .int xx), (2, .int 0), (1, .int 0), (0, .ref x)]) (st' := [.int 0]) rfl ?_
              refine z_callS X k_10_256 (c_J6_bitCount0 l G) d_X10_bars_43 ⟨Nat.le_of_ble_eq_true rfl, Nat.le_of_ble_eq_true rfl⟩ ⟨Nat.le_of_ble_eq_true rfl, Nat.le_of_ble_eq_true rfl⟩ rfl (rest := []) (As := [.int 0]) rfl (Nat.le_of_ble_eq_true rfl) [] [0, 1, 2, 3] rfl (by decide) (wr := [(told, ob 8 [.ref tn, .int 0]), (tn, aJ G 16 (fun _ => 0)), (x, ob 10 [.ref told, .ref reader, .ref ring, .ref speeds, .ref wheel, .ref trials, .ref span, .ref search, .ref kept, .ref crosses, .ref trueM, .ref thought, .ref up, .ref low, .ref fits, .null]), (trials, ob 9 [.int 0, .ref ts, .ref tw, .ref tf, .ref te, .ref tg, .ref tl, .ref tc, .ref tx, .ref ty])]) rfl (by decide) (by decide) ?_
              rintro _ _ ⟨rfl, rfl⟩
              refine Z.at (pc' := 46) (st' := [.int 0]) (ws' := [(told, ob 8 [.ref tn, .int 0]), (tn, aJ G 16 (fun _ => 0)), (x, ob 10 [.ref told, .ref reader, .ref ring, .ref speeds, .ref wheel, .ref trials, .ref span, .ref search, .ref kept, .ref crosses, .ref trueM, .ref thought, .ref up, .ref low, .ref fits, .null]), (trials, ob 9 [.int 0, .ref ts, .ref tw, .ref tf, .ref te, .ref tg, .ref tl, .ref tc, .ref tx, .ref ty])]) (kc' := 0) (ks' := 0) rfl rfl rfl rfl rfl ?_
              refine z_run X bb_X10_bars_46_51 bk_X10_bars_46_51 (lv' := [(6, .int 0), (5, .int 0), (4, .int yy), (3, .int xx), (2, .int 0), (1, .int 0), (0, .ref x)]) (st' := [.int 0, .int 0]) rfl ?_
              refine zc_lt X d_X10_bars_51 (tgt := 72) (by decide) (a := 0) (b := 0) (show (0 : Int32).toInt = 0 from by decide) (show (0 : Int32).toInt = 0 from by decide) (fun c51_8 => absurd c51_8 (by decide)) (fun _ => ?_)
              refine z_run X bb_X10_bars_54_57 bk_X10_bars_54_57 (lv' := [(6, .int 0), (5, .int 0), (4, .int yy), (3, .int xx), (2, .int 0), (1, .int 0), (0, .ref x)]) (st' := [.int 0, .int 0]) rfl ?_
              refine zc_ne X d_X10_bars_57 (tgt := 78) (by decide) (a := 0) (b := 0) (show (0 : Int32).toInt = 0 from by decide) (show (0 : Int32).toInt = 0 from by decide) (fun c57_9 => absurd c57_9 (by decide)) (fun _ => ?_)
              refine z_run X bb_X10_bars_60_63 bk_X10_bars_60_63 (lv' := [(6, .int 0), (5, .int 0), (4, .int yy), (3, .int xx), (2, .int 0), (1, .int 0), (0, .ref x)]) (st' := [.int 3, .int 0]) rfl ?_
              refine zc_ge X d_X10_bars_63 (tgt := 78) (by decide) (a := 0) (b := 3) (show (0 : Int32).toInt = 0 from by decide) (show (3 : Int32).toInt = 3 from by decide) (fun c63_10 => absurd c63_10 (by decide)) (fun _ => ?_)
              refine z_run X bb_X10_bars_66_69 bk_X10_bars_66_69 (lv' := [(6, .int 0), (5, .int 0), (4, .int yy), (3, .int xx), (2, .int 0), (1, .int 0), (0, .ref x)]) (st' := [.int 0, .int 0]) rfl ?_
              refine zc_ge X d_X10_bars_69 (tgt := 78) (by decide) (a := 0) (b := 0) (show (0 : Int32).toInt = 0 from by decide) (show (0 : Int32).toInt = 0 from by decide) (fun _ => ?_) (fun c69_11 => absurd c69_11 (by decide))
              refine z_run X bb_X10_bars_78_81 bk_X10_bars_78_81 (lv' := [(4, .int (yy + 1)), (6, .int 0), (5, .int 0), (3, .int xx), (2, .int 0), (1, .int 0), (0, .ref x)]) (st' := []) rfl ?_
              refine z_goto X d_X10_bars_81 (tgt := 21) (by decide) ?_
              refine Z.sub (lv' := [(4, .int (yy + 1)), (3, .int xx), (2, .int 0), (1, .int 0), (0, .ref x)]) [0, 3, 4, 5, 6] rfl [0, 1, 2, 3] (ws' := [(told, ob 8 [.ref tn, .int 0]), (tn, aJ G 16 (fun _ => 0)), (x, ob 10 [.ref told, .ref reader, .ref ring, .ref speeds, .ref wheel, .ref trials, .ref span, .ref search, .ref kept, .ref crosses, .ref trueM, .ref thought, .ref up, .ref low, .ref fits, .null]), (trials, ob 9 [.int 0, .ref ts, .ref tw, .ref tf, .ref te, .ref tg, .ref tl, .ref tc, .ref tx, .ref ty])]) rfl (by decide) ?_
              exact ih21 ((yy + 1), (b + 1)) ⟨(tI_add hyy (show (1 : Int32).toInt = 1 from by decide) (by omega)), (by dsimp only; omega)⟩ (by dsimp only; omega)
          · exact ⟨(show ((-60) : Int32).toInt = (-60) from by decide), (by dsimp only; omega)⟩
      · exact ⟨(show ((-59) : Int32).toInt = (-59) from by decide), (by dsimp only; omega)⟩
    ·
      refine z_run X bb_X10_bars_28_29 bk_X10_bars_28_29 (lv' := [(4, .int yy), (2, .int 0), (1, .int 0), (3, .int (-60)), (0, .ref x)]) (st' := [.ref x]) rfl ?_
      refine z_get X fl_10_47 d_X10_bars_29 2 rfl (v := .ref trials) rfl ?_
      refine z_run X bb_X10_bars_32_36 bk_X10_bars_32_36 (lv' := [(4, .int yy), (2, .int 0), (1, .int 0), (3, .int (-60)), (0, .ref x)]) (st' := [.int 0, .int yy, .int (-60), .ref trials]) rfl ?_
      refine z_callV X k_10_253 (c_X9_allAgainst l G trials ts tw tf te tg tl tc tx ty (-60) yy 0) d_X10_bars_36 3 rfl rfl rfl ⟨Nat.le_of_ble_eq_true rfl, Nat.le_of_ble_eq_true rfl⟩ ⟨Nat.le_of_ble_eq_true rfl, Nat.le_of_ble_eq_true rfl⟩ rfl (rest := []) (As := [.int (-60), .int yy, .int 0]) rfl (Nat.le_of_ble_eq_true rfl) [3] [0, 1, 2] rfl (by decide) (wr := [(told, ob 8 [.ref tn, .int 0]), (tn, aJ G 16 (fun _ => 0)), (x, ob 10 [.ref told, .ref reader, .ref ring, .ref speeds, .ref wheel, .ref trials, .ref span, .ref search, .ref kept, .ref crosses, .ref trueM, .ref thought, .ref up, .ref low, .ref fits, .null])]) rfl (by decide) (by decide) ?_
      rintro _ _ ⟨rfl, rfl⟩
      refine Z.at (pc' := 39) (st' := [.int 0]) (ws' := [(told, ob 8 [.ref tn, .int 0]), (tn, aJ G 16 (fun _ => 0)), (x, ob 10 [.ref told, .ref reader, .ref ring, .ref speeds, .ref wheel, .ref trials, .ref span, .ref search, .ref kept, .ref crosses, .ref trueM, .ref thought, .ref up, .ref low, .ref fits, .null]), (trials, ob 9 [.int 0, .ref ts, .ref tw, .ref tf, .ref te, .ref tg, .ref tl, .ref tc, .ref tx, .ref ty])]) (kc' := 0) (ks' := 0) rfl rfl rfl rfl rfl ?_
      refine z_run X bb_X10_bars_39_43 bk_X10_bars_39_43 (lv' := [(5, .int 0), (4, .int yy), (2, .int 0), (1, .int 0), (3, .int (-60)), (0, .ref x)]) (st' := [.int 0]) rfl ?_
      refine z_callS X k_10_256 (c_J6_bitCount0 l G) d_X10_bars_43 ⟨Nat.le_of_ble_eq_true rfl, Nat.le_of_ble_eq_true rfl⟩ ⟨Nat.le_of_ble_eq_true rfl, Nat.le_of_ble_eq_true rfl⟩ rfl (rest := []) (As := [.int 0]) rfl (Nat.le_of_ble_eq_true rfl) [] [0, 1, 2, 3] rfl (by decide) (wr := [(told, ob 8 [.ref tn, .int 0]), (tn, aJ G 16 (fun _ => 0)), (x, ob 10 [.ref told, .ref reader, .ref ring, .ref speeds, .ref wheel, .ref trials, .ref span, .ref search, .ref kept, .ref crosses, .ref trueM, .ref thought, .ref up, .ref low, .ref fits, .null]), (trials, ob 9 [.int 0, .ref ts, .ref tw, .ref tf, .ref te, .ref tg, .ref tl, .ref tc, .ref tx, .ref ty])]) rfl (by decide) (by decide) ?_
      rintro _ _ ⟨rfl, rfl⟩
      refine Z.at (pc' := 46) (st' := [.int 0]) (ws' := [(told, ob 8 [.ref tn, .int 0]), (tn, aJ G 16 (fun _ => 0)), (x, ob 10 [.ref told, .ref reader, .ref ring, .ref speeds, .ref wheel, .ref trials, .ref span, .ref search, .ref kept, .ref crosses, .ref trueM, .ref thought, .ref up, .ref low, .ref fits, .null]), (trials, ob 9 [.int 0, .ref ts, .ref tw, .ref tf, .ref te, .ref tg, .ref tl, .ref tc, .ref tx, .ref ty])]) (kc' := 0) (ks' := 0) rfl rfl rfl rfl rfl ?_
      refine z_run X bb_X10_bars_46_51 bk_X10_bars_46_51 (lv' := [(6, .int 0), (5, .int 0), (4, .int yy), (2, .int 0), (1, .int 0), (3, .int (-60)), (0, .ref x)]) (st' := [.int 0, .int 0]) rfl ?_
      refine zc_lt X d_X10_bars_51 (tgt := 72) (by decide) (a := 0) (b := 0) (show (0 : Int32).toInt = 0 from by decide) (show (0 : Int32).toInt = 0 from by decide) (fun c51_12 => absurd c51_12 (by decide)) (fun _ => ?_)
      refine z_run X bb_X10_bars_54_57 bk_X10_bars_54_57 (lv' := [(6, .int 0), (5, .int 0), (4, .int yy), (2, .int 0), (1, .int 0), (3, .int (-60)), (0, .ref x)]) (st' := [.int 0, .int 0]) rfl ?_
      refine zc_ne X d_X10_bars_57 (tgt := 78) (by decide) (a := 0) (b := 0) (show (0 : Int32).toInt = 0 from by decide) (show (0 : Int32).toInt = 0 from by decide) (fun c57_13 => absurd c57_13 (by decide)) (fun _ => ?_)
      refine z_run X bb_X10_bars_60_63 bk_X10_bars_60_63 (lv' := [(6, .int 0), (5, .int 0), (4, .int yy), (2, .int 0), (1, .int 0), (3, .int (-60)), (0, .ref x)]) (st' := [.int 3, .int 0]) rfl ?_
      refine zc_ge X d_X10_bars_63 (tgt := 78) (by decide) (a := 0) (b := 3) (show (0 : Int32).toInt = 0 from by decide) (show (3 : Int32).toInt = 3 from by decide) (fun c63_14 => absurd c63_14 (by decide)) (fun _ => ?_)
      refine z_run X bb_X10_bars_66_69 bk_X10_bars_66_69 (lv' := [(6, .int 0), (5, .int 0), (4, .int yy), (2, .int 0), (1, .int 0), (3, .int (-60)), (0, .ref x)]) (st' := [.int 0, .int 0]) rfl ?_
      refine zc_ge X d_X10_bars_69 (tgt := 78) (by decide) (a := 0) (b := 0) (show (0 : Int32).toInt = 0 from by decide) (show (0 : Int32).toInt = 0 from by decide) (fun _ => ?_) (fun c69_15 => absurd c69_15 (by decide))
      refine z_run X bb_X10_bars_78_81 bk_X10_bars_78_81 (lv' := [(4, .int (yy + 1)), (6, .int 0), (5, .int 0), (2, .int 0), (1, .int 0), (3, .int (-60)), (0, .ref x)]) (st' := []) rfl ?_
      refine z_goto X d_X10_bars_81 (tgt := 21) (by decide) ?_
      refine Z.sub (lv' := [(4, .int (yy + 1)), (2, .int 0), (1, .int 0), (3, .int (-60)), (0, .ref x)]) [0, 3, 4, 5, 6] rfl [0, 1, 2, 3] (ws' := [(told, ob 8 [.ref tn, .int 0]), (tn, aJ G 16 (fun _ => 0)), (x, ob 10 [.ref told, .ref reader, .ref ring, .ref speeds, .ref wheel, .ref trials, .ref span, .ref search, .ref kept, .ref crosses, .ref trueM, .ref thought, .ref up, .ref low, .ref fits, .null]), (trials, ob 9 [.int 0, .ref ts, .ref tw, .ref tf, .ref te, .ref tg, .ref tl, .ref tc, .ref tx, .ref ty])]) rfl (by decide) ?_
      exact ih21 ((yy + 1), (b + 1)) ⟨(tI_add hyy (show (1 : Int32).toInt = 1 from by decide) (by omega)), (by dsimp only; omega)⟩ (by dsimp only; omega)
  · exact ⟨(show ((-59) : Int32).toInt = (-59) from by decide), (by dsimp only; omega)⟩

theorem d_X10_next_1 : decode cX10_next 1 = .ok (.getfield 33, 3) := by decide +kernel
theorem d_X10_next_5 : decode cX10_next 5 = .ok (.invokevirtual 173, 3) := by decide +kernel
theorem d_X10_next_8 : decode cX10_next 8 = .ok (.ifCond .eq 13, 3) := by decide +kernel
theorem d_X10_next_22 : decode cX10_next 22 = .ok (.ireturn, 1) := by decide +kernel
abbrev bb_X10_next_0_1 : ZB := [(.aload_n 0, .null)]
theorem bk_X10_next_0_1 : zchk cX10_next bb_X10_next_0_1 0 = true ∧ zpc bb_X10_next_0_1 0 = 1 := ⟨by decide +kernel, rfl⟩
abbrev bb_X10_next_4_5 : ZB := [(.iload_n 1, .null)]
theorem bk_X10_next_4_5 : zchk cX10_next bb_X10_next_4_5 4 = true ∧ zpc bb_X10_next_4_5 4 = 5 := ⟨by decide +kernel, rfl⟩
abbrev bb_X10_next_21_22 : ZB := [(.iconst (-1), .int (-1))]
theorem bk_X10_next_21_22 : zchk cX10_next bb_X10_next_21_22 21 = true ∧ zpc bb_X10_next_21_22 21 = 22 := ⟨by decide +kernel, rfl⟩
set_option maxHeartbeats 4000000 in
set_option maxRecDepth 100000 in
theorem c_X10_next (l : Launch) (G : KG) (x : Nat) (told : Nat) (reader : Nat) (ring : Nat) (speeds : Nat) (wheel : Nat) (trials : Nat) (span : Nat) (search : Nat) (kept : Nat) (crosses : Nat) (trueM : Nat) (thought : Nat) (up : Nat) (low : Nat) (fits : Nat) (sf : Nat) (so : Nat) (sa : Nat) (sx : Nat) (sy : Nat) (speed : Int32) (most : Int32) (speedi : Int) (mosti : Int) (hspeed : speed.toInt = speedi) (hmost : most.toInt = mosti) : Ct l G yX10_next cX10_next 5 (some .int) { frames := 1, cells := 0, slots := 0, locals := 21 } [.ref x, .int speed, .int most] [(x, ob 10 [.ref told, .ref reader, .ref ring, .ref speeds, .ref wheel, .ref trials, .ref span, .ref search, .ref kept, .ref crosses, .ref trueM, .ref thought, .ref up, .ref low, .ref fits, .null]), (speeds, ob 7 [.int 0, .ref sf, .ref so, .ref sa, .ref sx, .ref sy])] (fun r _ => r = some (.int (-1))) := by
  refine ct_of [(0, .ref x), (1, .int speed), (2, .int most)] (by decide) (Nat.le_of_ble_eq_true rfl) rfl ?_
  intro p0 e0 s0 m0 args0 below0 meth0 c0 A X
  refine z_run X bb_X10_next_0_1 bk_X10_next_0_1 (lv' := [(0, .ref x), (1, .int speed), (2, .int most)]) (st' := [.ref x]) rfl ?_
  refine z_get X fl_10_33 d_X10_next_1 0 rfl (v := .ref speeds) rfl ?_
  refine z_run X bb_X10_next_4_5 bk_X10_next_4_5 (lv' := [(0, .ref x), (1, .int speed), (2, .int most)]) (st' := [.int speed, .ref speeds]) rfl ?_
  refine z_callV X k_10_173 (c_X7_isSpeed l G speeds sf so sa sx sy speed speedi hspeed) d_X10_next_5 1 rfl rfl rfl ⟨Nat.le_of_ble_eq_true rfl, Nat.le_of_ble_eq_true rfl⟩ ⟨Nat.le_of_ble_eq_true rfl, Nat.le_of_ble_eq_true rfl⟩ rfl (rest := []) (As := [.int speed]) rfl (Nat.le_of_ble_eq_true rfl) [1] [0] rfl (by decide) (wr := [(x, ob 10 [.ref told, .ref reader, .ref ring, .ref speeds, .ref wheel, .ref trials, .ref span, .ref search, .ref kept, .ref crosses, .ref trueM, .ref thought, .ref up, .ref low, .ref fits, .null])]) rfl (by decide) (by decide) ?_
  rintro _ _ ⟨rfl, rfl⟩
  refine Z.at (pc' := 8) (st' := [.int 0]) (ws' := [(x, ob 10 [.ref told, .ref reader, .ref ring, .ref speeds, .ref wheel, .ref trials, .ref span, .ref search, .ref kept, .ref crosses, .ref trueM, .ref thought, .ref up, .ref low, .ref fits, .null]), (speeds, ob 7 [.int 0, .ref sf, .ref so, .ref sa, .ref sx, .ref sy])]) (kc' := 0) (ks' := 0) rfl rfl rfl rfl rfl ?_
  refine zi_eq X d_X10_next_8 (tgt := 21) (by decide) (a := 0) (show (0 : Int32).toInt = 0 from by decide) (fun _ => ?_) (fun c8_1 => absurd c8_1 (by decide))
  refine z_run X bb_X10_next_21_22 bk_X10_next_21_22 (lv' := [(0, .ref x), (1, .int speed), (2, .int most)]) (st' := [.int (-1)]) rfl ?_
  exact z_iret X rfl d_X10_next_22 (Nat.le_of_ble_eq_true rfl) (Nat.le_of_ble_eq_true rfl) rfl

theorem d_X10_enough_1 : decode cX10_enough 1 = .ok (.getfield 33, 3) := by decide +kernel
theorem d_X10_enough_5 : decode cX10_enough 5 = .ok (.invokevirtual 173, 3) := by decide +kernel
theorem d_X10_enough_8 : decode cX10_enough 8 = .ok (.ifCond .eq 32, 3) := by decide +kernel
theorem d_X10_enough_41 : decode cX10_enough 41 = .ok (.ireturn, 1) := by decide +kernel
abbrev bb_X10_enough_0_1 : ZB := [(.aload_n 0, .null)]
theorem bk_X10_enough_0_1 : zchk cX10_enough bb_X10_enough_0_1 0 = true ∧ zpc bb_X10_enough_0_1 0 = 1 := ⟨by decide +kernel, rfl⟩
abbrev bb_X10_enough_4_5 : ZB := [(.iload_n 1, .null)]
theorem bk_X10_enough_4_5 : zchk cX10_enough bb_X10_enough_4_5 4 = true ∧ zpc bb_X10_enough_4_5 4 = 5 := ⟨by decide +kernel, rfl⟩
abbrev bb_X10_enough_40_41 : ZB := [(.iconst (-1), .int (-1))]
theorem bk_X10_enough_40_41 : zchk cX10_enough bb_X10_enough_40_41 40 = true ∧ zpc bb_X10_enough_40_41 40 = 41 := ⟨by decide +kernel, rfl⟩
set_option maxHeartbeats 4000000 in
set_option maxRecDepth 100000 in
theorem c_X10_enough (l : Launch) (G : KG) (x : Nat) (told : Nat) (reader : Nat) (ring : Nat) (speeds : Nat) (wheel : Nat) (trials : Nat) (span : Nat) (search : Nat) (kept : Nat) (crosses : Nat) (trueM : Nat) (thought : Nat) (up : Nat) (low : Nat) (fits : Nat) (sf : Nat) (so : Nat) (sa : Nat) (sx : Nat) (sy : Nat) (speed : Int32) (px : Int32) (py : Int32) (speedi : Int) (pxi : Int) (pyi : Int) (hspeed : speed.toInt = speedi) (hpx : px.toInt = pxi) (hpy : py.toInt = pyi) : Ct l G yX10_enough cX10_enough 7 (some .int) { frames := 1, cells := 0, slots := 0, locals := 21 } [.ref x, .int speed, .int px, .int py] [(x, ob 10 [.ref told, .ref reader, .ref ring, .ref speeds, .ref wheel, .ref trials, .ref span, .ref search, .ref kept, .ref crosses, .ref trueM, .ref thought, .ref up, .ref low, .ref fits, .null]), (speeds, ob 7 [.int 0, .ref sf, .ref so, .ref sa, .ref sx, .ref sy])] (fun r _ => r = some (.int (-1))) := by
  refine ct_of [(0, .ref x), (1, .int speed), (2, .int px), (3, .int py)] (by decide) (Nat.le_of_ble_eq_true rfl) rfl ?_
  intro p0 e0 s0 m0 args0 below0 meth0 c0 A X
  refine z_run X bb_X10_enough_0_1 bk_X10_enough_0_1 (lv' := [(0, .ref x), (1, .int speed), (2, .int px), (3, .int py)]) (st' := [.ref x]) rfl ?_
  refine z_get X fl_10_33 d_X10_enough_1 0 rfl (v := .ref speeds) rfl ?_
  refine z_run X bb_X10_enough_4_5 bk_X10_enough_4_5 (lv' := [(0, .ref x), (1, .int speed), (2, .int px), (3, .int py)]) (st' := [.int speed, .ref speeds]) rfl ?_
  refine z_callV X k_10_173 (c_X7_isSpeed l G speeds sf so sa sx sy speed speedi hspeed) d_X10_enough_5 1 rfl rfl rfl ⟨Nat.le_of_ble_eq_true rfl, Nat.le_of_ble_eq_true rfl⟩ ⟨Nat.le_of_ble_eq_true rfl, Nat.le_of_ble_eq_true rfl⟩ rfl (rest := []) (As := [.int speed]) rfl (Nat.le_of_ble_eq_true rfl) [1] [0] rfl (by decide) (wr := [(x, ob 10 [.ref told, .ref reader, .ref ring, .ref speeds, .ref wheel, .ref trials, .ref span, .ref search, .ref kept, .ref crosses, .ref trueM, .ref thought, .ref up, .ref low, .ref fits, .null])]) rfl (by decide) (by decide) ?_
  rintro _ _ ⟨rfl, rfl⟩
  refine Z.at (pc' := 8) (st' := [.int 0]) (ws' := [(x, ob 10 [.ref told, .ref reader, .ref ring, .ref speeds, .ref wheel, .ref trials, .ref span, .ref search, .ref kept, .ref crosses, .ref trueM, .ref thought, .ref up, .ref low, .ref fits, .null]), (speeds, ob 7 [.int 0, .ref sf, .ref so, .ref sa, .ref sx, .ref sy])]) (kc' := 0) (ks' := 0) rfl rfl rfl rfl rfl ?_
  refine zi_eq X d_X10_enough_8 (tgt := 40) (by decide) (a := 0) (show (0 : Int32).toInt = 0 from by decide) (fun _ => ?_) (fun c8_1 => absurd c8_1 (by decide))
  refine z_run X bb_X10_enough_40_41 bk_X10_enough_40_41 (lv' := [(0, .ref x), (1, .int speed), (2, .int px), (3, .int py)]) (st' := [.int (-1)]) rfl ?_
  exact z_iret X rfl d_X10_enough_41 (Nat.le_of_ble_eq_true rfl) (Nat.le_of_ble_eq_true rfl) rfl

theorem d_X10_man_1 : decode cX10_man 1 = .ok (.invokestatic 329, 3) := by decide +kernel
theorem d_X10_man_4 : decode cX10_man 4 = .ok (.ifCond .eq 25, 3) := by decide +kernel
theorem d_X10_man_30 : decode cX10_man 30 = .ok (.ireturn, 1) := by decide +kernel
theorem d_X10_man_9 : decode cX10_man 9 = .ok (.if_icmp .lt 20, 3) := by decide +kernel
theorem d_X10_man_15 : decode cX10_man 15 = .ok (.if_icmp .gt 14, 3) := by decide +kernel
theorem d_X10_man_20 : decode cX10_man 20 = .ok (.if_icmp .lt 9, 3) := by decide +kernel
theorem d_X10_man_26 : decode cX10_man 26 = .ok (.if_icmp .le 5, 3) := by decide +kernel
theorem d_X10_man_32 : decode cX10_man 32 = .ok (.getfield 81, 3) := by decide +kernel
theorem d_X10_man_37 : decode cX10_man 37 = .ok (.iastore, 1) := by decide +kernel
theorem d_X10_man_39 : decode cX10_man 39 = .ok (.getfield 84, 3) := by decide +kernel
theorem d_X10_man_44 : decode cX10_man 44 = .ok (.iastore, 1) := by decide +kernel
theorem d_X10_man_46 : decode cX10_man 46 = .ok (.ireturn, 1) := by decide +kernel
abbrev bb_X10_man_0_1 : ZB := [(.iload_n 1, .null)]
theorem bk_X10_man_0_1 : zchk cX10_man bb_X10_man_0_1 0 = true ∧ zpc bb_X10_man_0_1 0 = 1 := ⟨by decide +kernel, rfl⟩
abbrev bb_X10_man_29_30 : ZB := [(.iconst 0, .int 0)]
theorem bk_X10_man_29_30 : zchk cX10_man bb_X10_man_29_30 29 = true ∧ zpc bb_X10_man_29_30 29 = 30 := ⟨by decide +kernel, rfl⟩
abbrev bb_X10_man_7_9 : ZB := [(.iload_n 2, .null), (.iconst 1, .int 1)]
theorem bk_X10_man_7_9 : zchk cX10_man bb_X10_man_7_9 7 = true ∧ zpc bb_X10_man_7_9 7 = 9 := ⟨by decide +kernel, rfl⟩
abbrev bb_X10_man_12_15 : ZB := [(.iload_n 2, .null), (.bipush 99, .int 99)]
theorem bk_X10_man_12_15 : zchk cX10_man bb_X10_man_12_15 12 = true ∧ zpc bb_X10_man_12_15 12 = 15 := ⟨by decide +kernel, rfl⟩
abbrev bb_X10_man_18_20 : ZB := [(.iload_n 3, .null), (.iconst 1, .int 1)]
theorem bk_X10_man_18_20 : zchk cX10_man bb_X10_man_18_20 18 = true ∧ zpc bb_X10_man_18_20 18 = 20 := ⟨by decide +kernel, rfl⟩
abbrev bb_X10_man_23_26 : ZB := [(.iload_n 3, .null), (.bipush 99, .int 99)]
theorem bk_X10_man_23_26 : zchk cX10_man bb_X10_man_23_26 23 = true ∧ zpc bb_X10_man_23_26 23 = 26 := ⟨by decide +kernel, rfl⟩
abbrev bb_X10_man_31_32 : ZB := [(.aload_n 0, .null)]
theorem bk_X10_man_31_32 : zchk cX10_man bb_X10_man_31_32 31 = true ∧ zpc bb_X10_man_31_32 31 = 32 := ⟨by decide +kernel, rfl⟩
abbrev bb_X10_man_35_37 : ZB := [(.iload_n 1, .null), (.iload_n 2, .null)]
theorem bk_X10_man_35_37 : zchk cX10_man bb_X10_man_35_37 35 = true ∧ zpc bb_X10_man_35_37 35 = 37 := ⟨by decide +kernel, rfl⟩
abbrev bb_X10_man_38_39 : ZB := [(.aload_n 0, .null)]
theorem bk_X10_man_38_39 : zchk cX10_man bb_X10_man_38_39 38 = true ∧ zpc bb_X10_man_38_39 38 = 39 := ⟨by decide +kernel, rfl⟩
abbrev bb_X10_man_42_44 : ZB := [(.iload_n 1, .null), (.iload_n 3, .null)]
theorem bk_X10_man_42_44 : zchk cX10_man bb_X10_man_42_44 42 = true ∧ zpc bb_X10_man_42_44 42 = 44 := ⟨by decide +kernel, rfl⟩
abbrev bb_X10_man_45_46 : ZB := [(.iconst 1, .int 1)]
theorem bk_X10_man_45_46 : zchk cX10_man bb_X10_man_45_46 45 = true ∧ zpc bb_X10_man_45_46 45 = 46 := ⟨by decide +kernel, rfl⟩
set_option maxHeartbeats 4000000 in
set_option maxRecDepth 100000 in
theorem c_X10_man (l : Launch) (G : KG) (x : Nat) (told : Nat) (reader : Nat) (ring : Nat) (speeds : Nat) (wheel : Nat) (trials : Nat) (span : Nat) (search : Nat) (kept : Nat) (crosses : Nat) (trueM : Nat) (thought : Nat) (up : Nat) (low : Nat) (fits : Nat) (man : Int32) (up_ : Int32) (low_ : Int32) (mani : Int) (up_i : Int) (low_i : Int) (hman : man.toInt = mani) (hup_ : up_.toInt = up_i) (hlow_ : low_.toInt = low_i) : Ct l G yX10_man cX10_man 4 (some .boolean) { frames := 1, cells := 0, slots := 0, locals := 20 } [.ref x, .int man, .int up_, .int low_] [(x, ob 10 [.ref told, .ref reader, .ref ring, .ref speeds, .ref wheel, .ref trials, .ref span, .ref search, .ref kept, .ref crosses, .ref trueM, .ref thought, .ref up, .ref low, .ref fits, .null]), (up, aI G 3 (upd (upd (upd (fun _ => 0) 0 1) 1 1) 2 1)), (low, aI G 3 (upd (upd (upd (fun _ => 0) 0 1) 1 1) 2 1))] (fun r _ => r = some (.int (zb (decide (0 ≤ mani ∧ mani < 3 ∧ 1 ≤ up_i ∧ up_i ≤ 99 ∧ 1 ≤ low_i ∧ low_i ≤ 99))))) := by
  refine ct_of [(0, .ref x), (1, .int man), (2, .int up_), (3, .int low_)] (by decide) (Nat.le_of_ble_eq_true rfl) rfl ?_
  intro p0 e0 s0 m0 args0 below0 meth0 c0 A X
  refine z_run X bb_X10_man_0_1 bk_X10_man_0_1 (lv' := [(0, .ref x), (1, .int man), (2, .int up_), (3, .int low_)]) (st' := [.int man]) rfl ?_
  refine z_callS X k_10_329 (c_X10_isMan l G man mani hman) d_X10_man_1 ⟨Nat.le_of_ble_eq_true rfl, Nat.le_of_ble_eq_true rfl⟩ ⟨Nat.le_of_ble_eq_true rfl, Nat.le_of_ble_eq_true rfl⟩ rfl (rest := []) (As := [.int man]) rfl (Nat.le_of_ble_eq_true rfl) [] [0, 1, 2] rfl (by decide) (wr := [(x, ob 10 [.ref told, .ref reader, .ref ring, .ref speeds, .ref wheel, .ref trials, .ref span, .ref search, .ref kept, .ref crosses, .ref trueM, .ref thought, .ref up, .ref low, .ref fits, .null]), (up, aI G 3 (upd (upd (upd (fun _ => 0) 0 1) 1 1) 2 1)), (low, aI G 3 (upd (upd (upd (fun _ => 0) 0 1) 1 1) 2 1))]) rfl (by decide) (by decide) ?_
  rintro _ _ ⟨rfl, rfl⟩
  refine Z.at (pc' := 4) (st' := [.int (zb (decide (0 ≤ mani ∧ mani < 3)))]) (ws' := [(x, ob 10 [.ref told, .ref reader, .ref ring, .ref speeds, .ref wheel, .ref trials, .ref span, .ref search, .ref kept, .ref crosses, .ref trueM, .ref thought, .ref up, .ref low, .ref fits, .null]), (up, aI G 3 (upd (upd (upd (fun _ => 0) 0 1) 1 1) 2 1)), (low, aI G 3 (upd (upd (upd (fun _ => 0) 0 1) 1 1) 2 1))]) (kc' := 0) (ks' := 0) rfl rfl rfl rfl rfl ?_
  refine zi_eq_zb X d_X10_man_4 (tgt := 29) (by decide) (fun c4_1 => ?_) (fun c4_1 => ?_)
  ·
    refine z_run X bb_X10_man_29_30 bk_X10_man_29_30 (lv' := [(0, .ref x), (1, .int man), (2, .int up_), (3, .int low_)]) (st' := [.int 0]) rfl ?_
    exact z_zret X rfl rfl d_X10_man_30 (Nat.le_of_ble_eq_true rfl) (Nat.le_of_ble_eq_true rfl) (congrArg (fun z => some (Value.int z)) (zb_f (by omega)).symm)
  ·
    refine z_run X bb_X10_man_7_9 bk_X10_man_7_9 (lv' := [(0, .ref x), (1, .int man), (2, .int up_), (3, .int low_)]) (st' := [.int 1, .int up_]) rfl ?_
    refine zc_lt X d_X10_man_9 (tgt := 29) (by decide) (a := up_i) (b := 1) hup_ (show (1 : Int32).toInt = 1 from by decide) (fun c9_2 => ?_) (fun c9_2 => ?_)
    ·
      refine z_run X bb_X10_man_29_30 bk_X10_man_29_30 (lv' := [(0, .ref x), (1, .int man), (2, .int up_), (3, .int low_)]) (st' := [.int 0]) rfl ?_
      exact z_zret X rfl rfl d_X10_man_30 (Nat.le_of_ble_eq_true rfl) (Nat.le_of_ble_eq_true rfl) (congrArg (fun z => some (Value.int z)) (zb_f (by omega)).symm)
    ·
      refine z_run X bb_X10_man_12_15 bk_X10_man_12_15 (lv' := [(0, .ref x), (1, .int man), (2, .int up_), (3, .int low_)]) (st' := [.int 99, .int up_]) rfl ?_
      refine zc_gt X d_X10_man_15 (tgt := 29) (by decide) (a := up_i) (b := 99) hup_ (show (99 : Int32).toInt = 99 from by decide) (fun c15_3 => ?_) (fun c15_3 => ?_)
      ·
        refine z_run X bb_X10_man_29_30 bk_X10_man_29_30 (lv' := [(0, .ref x), (1, .int man), (2, .int up_), (3, .int low_)]) (st' := [.int 0]) rfl ?_
        exact z_zret X rfl rfl d_X10_man_30 (Nat.le_of_ble_eq_true rfl) (Nat.le_of_ble_eq_true rfl) (congrArg (fun z => some (Value.int z)) (zb_f (by omega)).symm)
      ·
        refine z_run X bb_X10_man_18_20 bk_X10_man_18_20 (lv' := [(0, .ref x), (1, .int man), (2, .int up_), (3, .int low_)]) (st' := [.int 1, .int low_]) rfl ?_
        refine zc_lt X d_X10_man_20 (tgt := 29) (by decide) (a := low_i) (b := 1) hlow_ (show (1 : Int32).toInt = 1 from by decide) (fun c20_4 => ?_) (fun c20_4 => ?_)
        ·
          refine z_run X bb_X10_man_29_30 bk_X10_man_29_30 (lv' := [(0, .ref x), (1, .int man), (2, .int up_), (3, .int low_)]) (st' := [.int 0]) rfl ?_
          exact z_zret X rfl rfl d_X10_man_30 (Nat.le_of_ble_eq_true rfl) (Nat.le_of_ble_eq_true rfl) (congrArg (fun z => some (Value.int z)) (zb_f (by omega)).symm)
        ·
          refine z_run X bb_X10_man_23_26 bk_X10_man_23_26 (lv' := [(0, .ref x), (1, .int man), (2, .int up_), (3, .int low_)]) (st' := [.int 99, .int low_]) rfl ?_
          refine zc_le X d_X10_man_26 (tgt := 31) (by decide) (a := low_i) (b := 99) hlow_ (show (99 : Int32).toInt = 99 from by decide) (fun c26_5 => ?_) (fun c26_5 => ?_)
          ·
            refine z_run X bb_X10_man_31_32 bk_X10_man_31_32 (lv' := [(0, .ref x), (1, .int man), (2, .int up_), (3, .int low_)]) (st' := [.ref x]) rfl ?_
            refine z_get X fl_10_81 d_X10_man_32 0 rfl (v := .ref up) rfl ?_
            refine z_run X bb_X10_man_35_37 bk_X10_man_35_37 (lv' := [(0, .ref x), (1, .int man), (2, .int up_), (3, .int low_)]) (st' := [.int up_, .int man, .ref up]) rfl ?_
            refine z_iast X d_X10_man_37 1 rfl (vin hman (by omega) (by omega)) (ws' := [(x, ob 10 [.ref told, .ref reader, .ref ring, .ref speeds, .ref wheel, .ref trials, .ref span, .ref search, .ref kept, .ref crosses, .ref trueM, .ref thought, .ref up, .ref low, .ref fits, .null]), (up, aI G 3 (upd (upd (upd (upd (fun _ => 0) 0 1) 1 1) 2 1) man.toNatClampNeg up_)), (low, aI G 3 (upd (upd (upd (fun _ => 0) 0 1) 1 1) 2 1))]) rfl ?_
            refine z_run X bb_X10_man_38_39 bk_X10_man_38_39 (lv' := [(0, .ref x), (1, .int man), (2, .int up_), (3, .int low_)]) (st' := [.ref x]) rfl ?_
            refine z_get X fl_10_84 d_X10_man_39 0 rfl (v := .ref low) rfl ?_
            refine z_run X bb_X10_man_42_44 bk_X10_man_42_44 (lv' := [(0, .ref x), (1, .int man), (2, .int up_), (3, .int low_)]) (st' := [.int low_, .int man, .ref low]) rfl ?_
            refine z_iast X d_X10_man_44 2 rfl (vin hman (by omega) (by omega)) (ws' := [(x, ob 10 [.ref told, .ref reader, .ref ring, .ref speeds, .ref wheel, .ref trials, .ref span, .ref search, .ref kept, .ref crosses, .ref trueM, .ref thought, .ref up, .ref low, .ref fits, .null]), (up, aI G 3 (upd (upd (upd (upd (fun _ => 0) 0 1) 1 1) 2 1) man.toNatClampNeg up_)), (low, aI G 3 (upd (upd (upd (upd (fun _ => 0) 0 1) 1 1) 2 1) man.toNatClampNeg low_))]) rfl ?_
            refine z_run X bb_X10_man_45_46 bk_X10_man_45_46 (lv' := [(0, .ref x), (1, .int man), (2, .int up_), (3, .int low_)]) (st' := [.int 1]) rfl ?_
            exact z_zret X rfl rfl d_X10_man_46 (Nat.le_of_ble_eq_true rfl) (Nat.le_of_ble_eq_true rfl) (congrArg (fun z => some (Value.int z)) (zb_t (by omega)).symm)
          ·
            refine z_run X bb_X10_man_29_30 bk_X10_man_29_30 (lv' := [(0, .ref x), (1, .int man), (2, .int up_), (3, .int low_)]) (st' := [.int 0]) rfl ?_
            exact z_zret X rfl rfl d_X10_man_30 (Nat.le_of_ble_eq_true rfl) (Nat.le_of_ble_eq_true rfl) (congrArg (fun z => some (Value.int z)) (zb_f (by omega)).symm)

theorem d_X10_tells_1 : decode cX10_tells 1 = .ok (.invokestatic 329, 3) := by decide +kernel
theorem d_X10_tells_4 : decode cX10_tells 4 = .ok (.ifCond .eq 14, 3) := by decide +kernel
theorem d_X10_tells_19 : decode cX10_tells 19 = .ok (.ireturn, 1) := by decide +kernel
theorem d_X10_tells_8 : decode cX10_tells 8 = .ok (.getfield 33, 3) := by decide +kernel
theorem d_X10_tells_12 : decode cX10_tells 12 = .ok (.invokevirtual 173, 3) := by decide +kernel
theorem d_X10_tells_15 : decode cX10_tells 15 = .ok (.ifCond .ne 5, 3) := by decide +kernel
abbrev bb_X10_tells_0_1 : ZB := [(.iload_n 1, .null)]
theorem bk_X10_tells_0_1 : zchk cX10_tells bb_X10_tells_0_1 0 = true ∧ zpc bb_X10_tells_0_1 0 = 1 := ⟨by decide +kernel, rfl⟩
abbrev bb_X10_tells_18_19 : ZB := [(.iconst (-1), .int (-1))]
theorem bk_X10_tells_18_19 : zchk cX10_tells bb_X10_tells_18_19 18 = true ∧ zpc bb_X10_tells_18_19 18 = 19 := ⟨by decide +kernel, rfl⟩
abbrev bb_X10_tells_7_8 : ZB := [(.aload_n 0, .null)]
theorem bk_X10_tells_7_8 : zchk cX10_tells bb_X10_tells_7_8 7 = true ∧ zpc bb_X10_tells_7_8 7 = 8 := ⟨by decide +kernel, rfl⟩
abbrev bb_X10_tells_11_12 : ZB := [(.iload_n 2, .null)]
theorem bk_X10_tells_11_12 : zchk cX10_tells bb_X10_tells_11_12 11 = true ∧ zpc bb_X10_tells_11_12 11 = 12 := ⟨by decide +kernel, rfl⟩
set_option maxHeartbeats 4000000 in
set_option maxRecDepth 100000 in
theorem c_X10_tells (l : Launch) (G : KG) (x : Nat) (told : Nat) (reader : Nat) (ring : Nat) (speeds : Nat) (wheel : Nat) (trials : Nat) (span : Nat) (search : Nat) (kept : Nat) (crosses : Nat) (trueM : Nat) (thought : Nat) (up : Nat) (low : Nat) (fits : Nat) (sf : Nat) (so : Nat) (sa : Nat) (sx : Nat) (sy : Nat) (man : Int32) (speed : Int32) (mani : Int) (speedi : Int) (hman : man.toInt = mani) (hspeed : speed.toInt = speedi) : Ct l G yX10_tells cX10_tells 7 (some .int) { frames := 1, cells := 0, slots := 0, locals := 21 } [.ref x, .int man, .int speed] [(x, ob 10 [.ref told, .ref reader, .ref ring, .ref speeds, .ref wheel, .ref trials, .ref span, .ref search, .ref kept, .ref crosses, .ref trueM, .ref thought, .ref up, .ref low, .ref fits, .null]), (speeds, ob 7 [.int 0, .ref sf, .ref so, .ref sa, .ref sx, .ref sy])] (fun r _ => r = some (.int (-1))) := by
  refine ct_of [(0, .ref x), (1, .int man), (2, .int speed)] (by decide) (Nat.le_of_ble_eq_true rfl) rfl ?_
  intro p0 e0 s0 m0 args0 below0 meth0 c0 A X
  refine z_run X bb_X10_tells_0_1 bk_X10_tells_0_1 (lv' := [(0, .ref x), (1, .int man), (2, .int speed)]) (st' := [.int man]) rfl ?_
  refine z_callS X k_10_329 (c_X10_isMan l G man mani hman) d_X10_tells_1 ⟨Nat.le_of_ble_eq_true rfl, Nat.le_of_ble_eq_true rfl⟩ ⟨Nat.le_of_ble_eq_true rfl, Nat.le_of_ble_eq_true rfl⟩ rfl (rest := []) (As := [.int man]) rfl (Nat.le_of_ble_eq_true rfl) [] [0, 1] rfl (by decide) (wr := [(x, ob 10 [.ref told, .ref reader, .ref ring, .ref speeds, .ref wheel, .ref trials, .ref span, .ref search, .ref kept, .ref crosses, .ref trueM, .ref thought, .ref up, .ref low, .ref fits, .null]), (speeds, ob 7 [.int 0, .ref sf, .ref so, .ref sa, .ref sx, .ref sy])]) rfl (by decide) (by decide) ?_
  rintro _ _ ⟨rfl, rfl⟩
  refine Z.at (pc' := 4) (st' := [.int (zb (decide (0 ≤ mani ∧ mani < 3)))]) (ws' := [(x, ob 10 [.ref told, .ref reader, .ref ring, .ref speeds, .ref wheel, .ref trials, .ref span, .ref search, .ref kept, .ref crosses, .ref trueM, .ref thought, .ref up, .ref low, .ref fits, .null]), (speeds, ob 7 [.int 0, .ref sf, .ref so, .ref sa, .ref sx, .ref sy])]) (kc' := 0) (ks' := 0) rfl rfl rfl rfl rfl ?_
  refine zi_eq_zb X d_X10_tells_4 (tgt := 18) (by decide) (fun c4_1 => ?_) (fun c4_1 => ?_)
  ·
    refine z_run X bb_X10_tells_18_19 bk_X10_tells_18_19 (lv' := [(0, .ref x), (1, .int man), (2, .int speed)]) (st' := [.int (-1)]) rfl ?_
    exact z_iret X rfl d_X10_tells_19 (Nat.le_of_ble_eq_true rfl) (Nat.le_of_ble_eq_true rfl) rfl
  ·
    refine z_run X bb_X10_tells_7_8 bk_X10_tells_7_8 (lv' := [(0, .ref x), (1, .int man), (2, .int speed)]) (st' := [.ref x]) rfl ?_
    refine z_get X fl_10_33 d_X10_tells_8 0 rfl (v := .ref speeds) rfl ?_
    refine z_run X bb_X10_tells_11_12 bk_X10_tells_11_12 (lv' := [(0, .ref x), (1, .int man), (2, .int speed)]) (st' := [.int speed, .ref speeds]) rfl ?_
    refine z_callV X k_10_173 (c_X7_isSpeed l G speeds sf so sa sx sy speed speedi hspeed) d_X10_tells_12 1 rfl rfl rfl ⟨Nat.le_of_ble_eq_true rfl, Nat.le_of_ble_eq_true rfl⟩ ⟨Nat.le_of_ble_eq_true rfl, Nat.le_of_ble_eq_true rfl⟩ rfl (rest := []) (As := [.int speed]) rfl (Nat.le_of_ble_eq_true rfl) [1] [0] rfl (by decide) (wr := [(x, ob 10 [.ref told, .ref reader, .ref ring, .ref speeds, .ref wheel, .ref trials, .ref span, .ref search, .ref kept, .ref crosses, .ref trueM, .ref thought, .ref up, .ref low, .ref fits, .null])]) rfl (by decide) (by decide) ?_
    rintro _ _ ⟨rfl, rfl⟩
    refine Z.at (pc' := 15) (st' := [.int 0]) (ws' := [(x, ob 10 [.ref told, .ref reader, .ref ring, .ref speeds, .ref wheel, .ref trials, .ref span, .ref search, .ref kept, .ref crosses, .ref trueM, .ref thought, .ref up, .ref low, .ref fits, .null]), (speeds, ob 7 [.int 0, .ref sf, .ref so, .ref sa, .ref sx, .ref sy])]) (kc' := 0) (ks' := 0) rfl rfl rfl rfl rfl ?_
    refine zi_ne X d_X10_tells_15 (tgt := 20) (by decide) (a := 0) (show (0 : Int32).toInt = 0 from by decide) (fun c15_2 => absurd c15_2 (by decide)) (fun _ => ?_)
    refine z_run X bb_X10_tells_18_19 bk_X10_tells_18_19 (lv' := [(0, .ref x), (1, .int man), (2, .int speed)]) (st' := [.int (-1)]) rfl ?_
    exact z_iret X rfl d_X10_tells_19 (Nat.le_of_ble_eq_true rfl) (Nat.le_of_ble_eq_true rfl) rfl

theorem d_X10_men_1 : decode cX10_men 1 = .ok (.getfield 33, 3) := by decide +kernel
theorem d_X10_men_5 : decode cX10_men 5 = .ok (.invokevirtual 173, 3) := by decide +kernel
theorem d_X10_men_8 : decode cX10_men 8 = .ok (.ifCond .eq 16, 3) := by decide +kernel
theorem d_X10_men_25 : decode cX10_men 25 = .ok (.ireturn, 1) := by decide +kernel
abbrev bb_X10_men_0_1 : ZB := [(.aload_n 0, .null)]
theorem bk_X10_men_0_1 : zchk cX10_men bb_X10_men_0_1 0 = true ∧ zpc bb_X10_men_0_1 0 = 1 := ⟨by decide +kernel, rfl⟩
abbrev bb_X10_men_4_5 : ZB := [(.iload_n 1, .null)]
theorem bk_X10_men_4_5 : zchk cX10_men bb_X10_men_4_5 4 = true ∧ zpc bb_X10_men_4_5 4 = 5 := ⟨by decide +kernel, rfl⟩
abbrev bb_X10_men_24_25 : ZB := [(.iconst (-1), .int (-1))]
theorem bk_X10_men_24_25 : zchk cX10_men bb_X10_men_24_25 24 = true ∧ zpc bb_X10_men_24_25 24 = 25 := ⟨by decide +kernel, rfl⟩
set_option maxHeartbeats 4000000 in
set_option maxRecDepth 100000 in
theorem c_X10_men (l : Launch) (G : KG) (x : Nat) (told : Nat) (reader : Nat) (ring : Nat) (speeds : Nat) (wheel : Nat) (trials : Nat) (span : Nat) (search : Nat) (kept : Nat) (crosses : Nat) (trueM : Nat) (thought : Nat) (up : Nat) (low : Nat) (fits : Nat) (sf : Nat) (so : Nat) (sa : Nat) (sx : Nat) (sy : Nat) (speed : Int32) (px : Int32) (py : Int32) (give : Int32) (speedi : Int) (pxi : Int) (pyi : Int) (givei : Int) (hspeed : speed.toInt = speedi) (hpx : px.toInt = pxi) (hpy : py.toInt = pyi) (hgive : give.toInt = givei) : Ct l G yX10_men cX10_men 18 (some .int) { frames := 1, cells := 0, slots := 0, locals := 21 } [.ref x, .int speed, .int px, .int py, .int give] [(x, ob 10 [.ref told, .ref reader, .ref ring, .ref speeds, .ref wheel, .ref trials, .ref span, .ref search, .ref kept, .ref crosses, .ref trueM, .ref thought, .ref up, .ref low, .ref fits, .null]), (speeds, ob 7 [.int 0, .ref sf, .ref so, .ref sa, .ref sx, .ref sy])] (fun r _ => r = some (.int (-1))) := by
  refine ct_of [(0, .ref x), (1, .int speed), (2, .int px), (3, .int py), (4, .int give)] (by decide) (Nat.le_of_ble_eq_true rfl) rfl ?_
  intro p0 e0 s0 m0 args0 below0 meth0 c0 A X
  refine z_run X bb_X10_men_0_1 bk_X10_men_0_1 (lv' := [(0, .ref x), (1, .int speed), (2, .int px), (3, .int py), (4, .int give)]) (st' := [.ref x]) rfl ?_
  refine z_get X fl_10_33 d_X10_men_1 0 rfl (v := .ref speeds) rfl ?_
  refine z_run X bb_X10_men_4_5 bk_X10_men_4_5 (lv' := [(0, .ref x), (1, .int speed), (2, .int px), (3, .int py), (4, .int give)]) (st' := [.int speed, .ref speeds]) rfl ?_
  refine z_callV X k_10_173 (c_X7_isSpeed l G speeds sf so sa sx sy speed speedi hspeed) d_X10_men_5 1 rfl rfl rfl ⟨Nat.le_of_ble_eq_true rfl, Nat.le_of_ble_eq_true rfl⟩ ⟨Nat.le_of_ble_eq_true rfl, Nat.le_of_ble_eq_true rfl⟩ rfl (rest := []) (As := [.int speed]) rfl (Nat.le_of_ble_eq_true rfl) [1] [0] rfl (by decide) (wr := [(x, ob 10 [.ref told, .ref reader, .ref ring, .ref speeds, .ref wheel, .ref trials, .ref span, .ref search, .ref kept, .ref crosses, .ref trueM, .ref thought, .ref up, .ref low, .ref fits, .null])]) rfl (by decide) (by decide) ?_
  rintro _ _ ⟨rfl, rfl⟩
  refine Z.at (pc' := 8) (st' := [.int 0]) (ws' := [(x, ob 10 [.ref told, .ref reader, .ref ring, .ref speeds, .ref wheel, .ref trials, .ref span, .ref search, .ref kept, .ref crosses, .ref trueM, .ref thought, .ref up, .ref low, .ref fits, .null]), (speeds, ob 7 [.int 0, .ref sf, .ref so, .ref sa, .ref sx, .ref sy])]) (kc' := 0) (ks' := 0) rfl rfl rfl rfl rfl ?_
  refine zi_eq X d_X10_men_8 (tgt := 24) (by decide) (a := 0) (show (0 : Int32).toInt = 0 from by decide) (fun _ => ?_) (fun c8_1 => absurd c8_1 (by decide))
  refine z_run X bb_X10_men_24_25 bk_X10_men_24_25 (lv' := [(0, .ref x), (1, .int speed), (2, .int px), (3, .int py), (4, .int give)]) (st' := [.int (-1)]) rfl ?_
  exact z_iret X rfl d_X10_men_25 (Nat.le_of_ble_eq_true rfl) (Nat.le_of_ble_eq_true rfl) rfl

theorem d_X5_leadOfHoles_1 : decode cX5_leadOfHoles 1 = .ok (.ifCond .ne 10, 3) := by decide +kernel
theorem d_X5_leadOfHoles_12 : decode cX5_leadOfHoles 12 = .ok (.getfield 18, 3) := by decide +kernel
theorem d_X5_leadOfHoles_25 : decode cX5_leadOfHoles 25 = .ok (.getfield 34, 3) := by decide +kernel
theorem d_X5_leadOfHoles_28 : decode cX5_leadOfHoles 28 = .ok (.if_icmp .ge 37, 3) := by decide +kernel
theorem d_X5_leadOfHoles_67 : decode cX5_leadOfHoles 67 = .ok (.ireturn, 1) := by decide +kernel
theorem d_X5_leadOfHoles_5 : decode cX5_leadOfHoles 5 = .ok (.getfield 15, 3) := by decide +kernel
theorem d_X5_leadOfHoles_8 : decode cX5_leadOfHoles 8 = .ok (.goto 7, 3) := by decide +kernel
abbrev bb_X5_leadOfHoles_0_1 : ZB := [(.iload_n 2, .null)]
theorem bk_X5_leadOfHoles_0_1 : zchk cX5_leadOfHoles bb_X5_leadOfHoles_0_1 0 = true ∧ zpc bb_X5_leadOfHoles_0_1 0 = 1 := ⟨by decide +kernel, rfl⟩
abbrev bb_X5_leadOfHoles_11_12 : ZB := [(.aload_n 0, .null)]
theorem bk_X5_leadOfHoles_11_12 : zchk cX5_leadOfHoles bb_X5_leadOfHoles_11_12 11 = true ∧ zpc bb_X5_leadOfHoles_11_12 11 = 12 := ⟨by decide +kernel, rfl⟩
abbrev bb_X5_leadOfHoles_15_25 : ZB := [(.astore_n 3, .null), (.iconst 0, .int 0), (.istore 4, .null), (.iconst 0, .int 0), (.istore 5, .null), (.iload 5, .null), (.aload_n 0, .null)]
theorem bk_X5_leadOfHoles_15_25 : zchk cX5_leadOfHoles bb_X5_leadOfHoles_15_25 15 = true ∧ zpc bb_X5_leadOfHoles_15_25 15 = 25 := ⟨by decide +kernel, rfl⟩
abbrev bb_X5_leadOfHoles_65_67 : ZB := [(.iload 4, .null)]
theorem bk_X5_leadOfHoles_65_67 : zchk cX5_leadOfHoles bb_X5_leadOfHoles_65_67 65 = true ∧ zpc bb_X5_leadOfHoles_65_67 65 = 67 := ⟨by decide +kernel, rfl⟩
abbrev bb_X5_leadOfHoles_4_5 : ZB := [(.aload_n 0, .null)]
theorem bk_X5_leadOfHoles_4_5 : zchk cX5_leadOfHoles bb_X5_leadOfHoles_4_5 4 = true ∧ zpc bb_X5_leadOfHoles_4_5 4 = 5 := ⟨by decide +kernel, rfl⟩
set_option maxHeartbeats 4000000 in
set_option maxRecDepth 100000 in
theorem c_X5_leadOfHoles (l : Launch) (G : KG) (ring : Nat) (rp : Nat) (rx : Nat) (ry : Nat) (rr : Nat) (rh : Nat) (rd : Nat) (which : Int32) (axis : Int32) : Ct l G yX5_leadOfHoles cX5_leadOfHoles 6 (some .int) { frames := 0, cells := 0, slots := 0, locals := 0 } [.ref ring, .int which, .int axis] [(ring, ob 5 [.int 0, .ref rp, .ref rx, .ref ry, .ref rr, .ref rh, .ref rd, .int (-1), .int 0])] (fun r w1 => r = some (.int 0) ∧ w1 = [(ring, ob 5 [.int 0, .ref rp, .ref rx, .ref ry, .ref rr, .ref rh, .ref rd, .int (-1), .int 0])]) := by
  refine ct_of [(0, .ref ring), (1, .int which), (2, .int axis)] (by decide) (Nat.le_of_ble_eq_true rfl) rfl ?_
  intro p0 e0 s0 m0 args0 below0 meth0 c0 A X
  refine z_run X bb_X5_leadOfHoles_0_1 bk_X5_leadOfHoles_0_1 (lv' := [(0, .ref ring), (1, .int which), (2, .int axis)]) (st' := [.int axis]) rfl ?_
  refine zi_ne X d_X5_leadOfHoles_1 (tgt := 11) (by decide) (a := axis.toInt) rfl (fun c1_1 => ?_) (fun c1_1 => ?_)
  ·
    refine z_run X bb_X5_leadOfHoles_11_12 bk_X5_leadOfHoles_11_12 (lv' := [(0, .ref ring), (1, .int which), (2, .int axis)]) (st' := [.ref ring]) rfl ?_
    refine z_get X fl_5_18 d_X5_leadOfHoles_12 0 rfl (v := .ref ry) rfl ?_
    refine z_run X bb_X5_leadOfHoles_15_25 bk_X5_leadOfHoles_15_25 (lv' := [(5, .int 0), (4, .int 0), (3, .ref ry), (0, .ref ring), (1, .int which), (2, .int axis)]) (st' := [.ref ring, .int 0]) rfl ?_
    refine z_get X fl_5_34 d_X5_leadOfHoles_25 0 rfl (v := .int 0) rfl ?_
    refine zc_ge X d_X5_leadOfHoles_28 (tgt := 65) (by decide) (a := 0) (b := 0) (show (0 : Int32).toInt = 0 from by decide) (show (0 : Int32).toInt = 0 from by decide) (fun _ => ?_) (fun c28_2 => absurd c28_2 (by decide))
    refine z_run X bb_X5_leadOfHoles_65_67 bk_X5_leadOfHoles_65_67 (lv' := [(5, .int 0), (4, .int 0), (3, .ref ry), (0, .ref ring), (1, .int which), (2, .int axis)]) (st' := [.int 0]) rfl ?_
    exact z_iret X rfl d_X5_leadOfHoles_67 (Nat.le_of_ble_eq_true rfl) (Nat.le_of_ble_eq_true rfl) ⟨rfl, rfl⟩
  ·
    refine z_run X bb_X5_leadOfHoles_4_5 bk_X5_leadOfHoles_4_5 (lv' := [(0, .ref ring), (1, .int which), (2, .int axis)]) (st' := [.ref ring]) rfl ?_
    refine z_get X fl_5_15 d_X5_leadOfHoles_5 0 rfl (v := .ref rx) rfl ?_
    refine z_goto X d_X5_leadOfHoles_8 (tgt := 15) (by decide) ?_
    refine z_run X bb_X5_leadOfHoles_15_25 bk_X5_leadOfHoles_15_25 (lv' := [(5, .int 0), (4, .int 0), (3, .ref rx), (0, .ref ring), (1, .int which), (2, .int axis)]) (st' := [.ref ring, .int 0]) rfl ?_
    refine z_get X fl_5_34 d_X5_leadOfHoles_25 0 rfl (v := .int 0) rfl ?_
    refine zc_ge X d_X5_leadOfHoles_28 (tgt := 65) (by decide) (a := 0) (b := 0) (show (0 : Int32).toInt = 0 from by decide) (show (0 : Int32).toInt = 0 from by decide) (fun _ => ?_) (fun c28_3 => absurd c28_3 (by decide))
    refine z_run X bb_X5_leadOfHoles_65_67 bk_X5_leadOfHoles_65_67 (lv' := [(5, .int 0), (4, .int 0), (3, .ref rx), (0, .ref ring), (1, .int which), (2, .int axis)]) (st' := [.int 0]) rfl ?_
    exact z_iret X rfl d_X5_leadOfHoles_67 (Nat.le_of_ble_eq_true rfl) (Nat.le_of_ble_eq_true rfl) ⟨rfl, rfl⟩

theorem d_X10_unmended_1 : decode cX10_unmended 1 = .ok (.getfield 78, 3) := by decide +kernel
theorem d_X10_unmended_9 : decode cX10_unmended 9 = .ok (.iaload, 1) := by decide +kernel
theorem d_X10_unmended_11 : decode cX10_unmended 11 = .ok (.getfield 26, 3) := by decide +kernel
theorem d_X10_unmended_16 : decode cX10_unmended 16 = .ok (.invokevirtual 303, 3) := by decide +kernel
theorem d_X10_unmended_20 : decode cX10_unmended 20 = .ok (.ireturn, 1) := by decide +kernel
abbrev bb_X10_unmended_0_1 : ZB := [(.aload_n 0, .null)]
theorem bk_X10_unmended_0_1 : zchk cX10_unmended bb_X10_unmended_0_1 0 = true ∧ zpc bb_X10_unmended_0_1 0 = 1 := ⟨by decide +kernel, rfl⟩
abbrev bb_X10_unmended_4_9 : ZB := [(.iconst 2, .int 2), (.iload_n 1, .null), (.imul, .null), (.iload_n 2, .null), (.iadd, .null)]
theorem bk_X10_unmended_4_9 : zchk cX10_unmended bb_X10_unmended_4_9 4 = true ∧ zpc bb_X10_unmended_4_9 4 = 9 := ⟨by decide +kernel, rfl⟩
abbrev bb_X10_unmended_10_11 : ZB := [(.aload_n 0, .null)]
theorem bk_X10_unmended_10_11 : zchk cX10_unmended bb_X10_unmended_10_11 10 = true ∧ zpc bb_X10_unmended_10_11 10 = 11 := ⟨by decide +kernel, rfl⟩
abbrev bb_X10_unmended_14_16 : ZB := [(.iload_n 1, .null), (.iload_n 2, .null)]
theorem bk_X10_unmended_14_16 : zchk cX10_unmended bb_X10_unmended_14_16 14 = true ∧ zpc bb_X10_unmended_14_16 14 = 16 := ⟨by decide +kernel, rfl⟩
abbrev bb_X10_unmended_19_20 : ZB := [(.iadd, .null)]
theorem bk_X10_unmended_19_20 : zchk cX10_unmended bb_X10_unmended_19_20 19 = true ∧ zpc bb_X10_unmended_19_20 19 = 20 := ⟨by decide +kernel, rfl⟩
set_option maxHeartbeats 4000000 in
set_option maxRecDepth 100000 in
theorem c_X10_unmended (l : Launch) (G : KG) (x : Nat) (told : Nat) (reader : Nat) (ring : Nat) (speeds : Nat) (wheel : Nat) (trials : Nat) (span : Nat) (search : Nat) (kept : Nat) (crosses : Nat) (trueM : Nat) (thought : Nat) (up : Nat) (low : Nat) (fits : Nat) (rp : Nat) (rx : Nat) (ry : Nat) (rr : Nat) (rh : Nat) (rd : Nat) (plane : Int32) (axis : Int32) (planei : Int) (axisi : Int) (hplane : plane.toInt = planei) (haxis : axis.toInt = axisi) (hp : 0 ≤ planei ∧ planei ≤ 1) (hq : 0 ≤ axisi ∧ axisi ≤ 1) : Ct l G yX10_unmended cX10_unmended 3 (some .int) { frames := 1, cells := 0, slots := 0, locals := 25 } [.ref x, .int plane, .int axis] [(x, ob 10 [.ref told, .ref reader, .ref ring, .ref speeds, .ref wheel, .ref trials, .ref span, .ref search, .ref kept, .ref crosses, .ref trueM, .ref thought, .ref up, .ref low, .ref fits, .null]), (thought, aI G 8 (fun _ => 0)), (ring, ob 5 [.int 0, .ref rp, .ref rx, .ref ry, .ref rr, .ref rh, .ref rd, .int (-1), .int 0])] (fun r w1 => r = some (.int 0) ∧ w1 = [(x, ob 10 [.ref told, .ref reader, .ref ring, .ref speeds, .ref wheel, .ref trials, .ref span, .ref search, .ref kept, .ref crosses, .ref trueM, .ref thought, .ref up, .ref low, .ref fits, .null]), (thought, aI G 8 (fun _ => 0)), (ring, ob 5 [.int 0, .ref rp, .ref rx, .ref ry, .ref rr, .ref rh, .ref rd, .int (-1), .int 0])]) := by
  refine ct_of [(0, .ref x), (1, .int plane), (2, .int axis)] (by decide) (Nat.le_of_ble_eq_true rfl) rfl ?_
  intro p0 e0 s0 m0 args0 below0 meth0 c0 A X
  refine z_run X bb_X10_unmended_0_1 bk_X10_unmended_0_1 (lv' := [(0, .ref x), (1, .int plane), (2, .int axis)]) (st' := [.ref x]) rfl ?_
  refine z_get X fl_10_78 d_X10_unmended_1 0 rfl (v := .ref thought) rfl ?_
  refine z_run X bb_X10_unmended_4_9 bk_X10_unmended_4_9 (lv' := [(0, .ref x), (1, .int plane), (2, .int axis)]) (st' := [.int ((2 * plane) + axis), .ref thought]) rfl ?_
  refine z_iald X d_X10_unmended_9 1 rfl (vin (tI_add (tI_mul (show (2 : Int32).toInt = 2 from by decide) hplane (by omega)) haxis (by omega)) (by omega) (by omega)) (v := 0) rfl ?_
  refine z_run X bb_X10_unmended_10_11 bk_X10_unmended_10_11 (lv' := [(0, .ref x), (1, .int plane), (2, .int axis)]) (st' := [.ref x, .int 0]) rfl ?_
  refine z_get X fl_10_26 d_X10_unmended_11 0 rfl (v := .ref ring) rfl ?_
  refine z_run X bb_X10_unmended_14_16 bk_X10_unmended_14_16 (lv' := [(0, .ref x), (1, .int plane), (2, .int axis)]) (st' := [.int axis, .int plane, .ref ring, .int 0]) rfl ?_
  refine z_callV X k_10_303 (c_X5_leadOfHoles l G ring rp rx ry rr rh rd plane axis) d_X10_unmended_16 2 rfl rfl rfl ⟨Nat.le_of_ble_eq_true rfl, Nat.le_of_ble_eq_true rfl⟩ ⟨Nat.le_of_ble_eq_true rfl, Nat.le_of_ble_eq_true rfl⟩ rfl (rest := [.int 0]) (As := [.int plane, .int axis]) rfl (Nat.le_of_ble_eq_true rfl) [2] [0, 1] rfl (by decide) (wr := [(x, ob 10 [.ref told, .ref reader, .ref ring, .ref speeds, .ref wheel, .ref trials, .ref span, .ref search, .ref kept, .ref crosses, .ref trueM, .ref thought, .ref up, .ref low, .ref fits, .null]), (thought, aI G 8 (fun _ => 0))]) rfl (by decide) (by decide) ?_
  rintro _ _ ⟨rfl, rfl⟩
  refine Z.at (pc' := 19) (st' := [.int 0, .int 0]) (ws' := [(x, ob 10 [.ref told, .ref reader, .ref ring, .ref speeds, .ref wheel, .ref trials, .ref span, .ref search, .ref kept, .ref crosses, .ref trueM, .ref thought, .ref up, .ref low, .ref fits, .null]), (thought, aI G 8 (fun _ => 0)), (ring, ob 5 [.int 0, .ref rp, .ref rx, .ref ry, .ref rr, .ref rh, .ref rd, .int (-1), .int 0])]) (kc' := 0) (ks' := 0) rfl rfl rfl rfl rfl ?_
  refine z_run X bb_X10_unmended_19_20 bk_X10_unmended_19_20 (lv' := [(0, .ref x), (1, .int plane), (2, .int axis)]) (st' := [.int 0]) rfl ?_
  exact z_iret X rfl d_X10_unmended_20 (Nat.le_of_ble_eq_true rfl) (Nat.le_of_ble_eq_true rfl) ⟨rfl, rfl⟩

theorem d_X10_rest_1 : decode cX10_rest 1 = .ok (.invokestatic 156, 3) := by decide +kernel
theorem d_X10_rest_4 : decode cX10_rest 4 = .ok (.ifCond .ne 7, 3) := by decide +kernel
theorem d_X10_rest_14 : decode cX10_rest 14 = .ok (.invokevirtual 348, 3) := by decide +kernel
theorem d_X10_rest_21 : decode cX10_rest 21 = .ok (.invokevirtual 348, 3) := by decide +kernel
theorem d_X10_rest_25 : decode cX10_rest 25 = .ok (.invokestatic 187, 3) := by decide +kernel
theorem d_X10_rest_28 : decode cX10_rest 28 = .ok (.lreturn, 1) := by decide +kernel
theorem d_X10_rest_7 : decode cX10_rest 7 = .ok (.ldc2_w 346, 3) := by decide +kernel
theorem d_X10_rest_10 : decode cX10_rest 10 = .ok (.lreturn, 1) := by decide +kernel
abbrev bb_X10_rest_0_1 : ZB := [(.iload_n 1, .null)]
theorem bk_X10_rest_0_1 : zchk cX10_rest bb_X10_rest_0_1 0 = true ∧ zpc bb_X10_rest_0_1 0 = 1 := ⟨by decide +kernel, rfl⟩
abbrev bb_X10_rest_11_14 : ZB := [(.aload_n 0, .null), (.iload_n 1, .null), (.iconst 0, .int 0)]
theorem bk_X10_rest_11_14 : zchk cX10_rest bb_X10_rest_11_14 11 = true ∧ zpc bb_X10_rest_11_14 11 = 14 := ⟨by decide +kernel, rfl⟩
abbrev bb_X10_rest_17_21 : ZB := [(.i2l, .null), (.aload_n 0, .null), (.iload_n 1, .null), (.iconst 1, .int 1)]
theorem bk_X10_rest_17_21 : zchk cX10_rest bb_X10_rest_17_21 17 = true ∧ zpc bb_X10_rest_17_21 17 = 21 := ⟨by decide +kernel, rfl⟩
abbrev bb_X10_rest_24_25 : ZB := [(.i2l, .null)]
theorem bk_X10_rest_24_25 : zchk cX10_rest bb_X10_rest_24_25 24 = true ∧ zpc bb_X10_rest_24_25 24 = 25 := ⟨by decide +kernel, rfl⟩
set_option maxHeartbeats 4000000 in
set_option maxRecDepth 100000 in
theorem c_X10_rest (l : Launch) (G : KG) (x : Nat) (told : Nat) (reader : Nat) (ring : Nat) (speeds : Nat) (wheel : Nat) (trials : Nat) (span : Nat) (search : Nat) (kept : Nat) (crosses : Nat) (trueM : Nat) (thought : Nat) (up : Nat) (low : Nat) (fits : Nat) (rp : Nat) (rx : Nat) (ry : Nat) (rr : Nat) (rh : Nat) (rd : Nat) (plane : Int32) (planei : Int) (hplane : plane.toInt = planei) : Ct l G yX10_rest cX10_rest 2 (some .long) { frames := 2, cells := 0, slots := 0, locals := 47 } [.ref x, .int plane] [(x, ob 10 [.ref told, .ref reader, .ref ring, .ref speeds, .ref wheel, .ref trials, .ref span, .ref search, .ref kept, .ref crosses, .ref trueM, .ref thought, .ref up, .ref low, .ref fits, .null]), (thought, aI G 8 (fun _ => 0)), (ring, ob 5 [.int 0, .ref rp, .ref rx, .ref ry, .ref rr, .ref rh, .ref rd, .int (-1), .int 0])] (fun r _ => r = some (.long (an_plane planei))) := by
  refine ct_of [(0, .ref x), (1, .int plane)] (by decide) (Nat.le_of_ble_eq_true rfl) rfl ?_
  intro p0 e0 s0 m0 args0 below0 meth0 c0 A X
  refine z_run X bb_X10_rest_0_1 bk_X10_rest_0_1 (lv' := [(0, .ref x), (1, .int plane)]) (st' := [.int plane]) rfl ?_
  refine z_callS X k_10_156 (c_X10_isOneOfTwo l G plane planei hplane) d_X10_rest_1 ⟨Nat.le_of_ble_eq_true rfl, Nat.le_of_ble_eq_true rfl⟩ ⟨Nat.le_of_ble_eq_true rfl, Nat.le_of_ble_eq_true rfl⟩ rfl (rest := []) (As := [.int plane]) rfl (Nat.le_of_ble_eq_true rfl) [] [0, 1, 2] rfl (by decide) (wr := [(x, ob 10 [.ref told, .ref reader, .ref ring, .ref speeds, .ref wheel, .ref trials, .ref span, .ref search, .ref kept, .ref crosses, .ref trueM, .ref thought, .ref up, .ref low, .ref fits, .null]), (thought, aI G 8 (fun _ => 0)), (ring, ob 5 [.int 0, .ref rp, .ref rx, .ref ry, .ref rr, .ref rh, .ref rd, .int (-1), .int 0])]) rfl (by decide) (by decide) ?_
  rintro _ _ ⟨rfl, rfl⟩
  refine Z.at (pc' := 4) (st' := [.int (zb (decide (planei = 0 ∨ planei = 1)))]) (ws' := [(x, ob 10 [.ref told, .ref reader, .ref ring, .ref speeds, .ref wheel, .ref trials, .ref span, .ref search, .ref kept, .ref crosses, .ref trueM, .ref thought, .ref up, .ref low, .ref fits, .null]), (thought, aI G 8 (fun _ => 0)), (ring, ob 5 [.int 0, .ref rp, .ref rx, .ref ry, .ref rr, .ref rh, .ref rd, .int (-1), .int 0])]) (kc' := 0) (ks' := 0) rfl rfl rfl rfl rfl ?_
  refine zi_ne_zb X d_X10_rest_4 (tgt := 11) (by decide) (fun c4_1 => ?_) (fun c4_1 => ?_)
  ·
    refine z_run X bb_X10_rest_11_14 bk_X10_rest_11_14 (lv' := [(0, .ref x), (1, .int plane)]) (st' := [.int 0, .int plane, .ref x]) rfl ?_
    refine z_callV X k_10_348 (c_X10_unmended l G x told reader ring speeds wheel trials span search kept crosses trueM thought up low fits rp rx ry rr rh rd plane 0 planei 0 hplane (show (0 : Int32).toInt = 0 from by decide) (by omega) (by omega)) d_X10_rest_14 0 rfl rfl rfl ⟨Nat.le_of_ble_eq_true rfl, Nat.le_of_ble_eq_true rfl⟩ ⟨Nat.le_of_ble_eq_true rfl, Nat.le_of_ble_eq_true rfl⟩ rfl (rest := []) (As := [.int plane, .int 0]) rfl (Nat.le_of_ble_eq_true rfl) [0, 1, 2] [] rfl (by decide) (wr := []) rfl (by decide) (by decide) ?_
    rintro _ _ ⟨rfl, rfl⟩
    refine Z.at (pc' := 17) (st' := [.int 0]) (ws' := [(x, ob 10 [.ref told, .ref reader, .ref ring, .ref speeds, .ref wheel, .ref trials, .ref span, .ref search, .ref kept, .ref crosses, .ref trueM, .ref thought, .ref up, .ref low, .ref fits, .null]), (thought, aI G 8 (fun _ => 0)), (ring, ob 5 [.int 0, .ref rp, .ref rx, .ref ry, .ref rr, .ref rh, .ref rd, .int (-1), .int 0])]) (kc' := 0) (ks' := 0) rfl rfl rfl rfl rfl ?_
    refine z_run X bb_X10_rest_17_21 bk_X10_rest_17_21 (lv' := [(0, .ref x), (1, .int plane)]) (st' := [.int 1, .int plane, .ref x, .long 0]) rfl ?_
    refine z_callV X k_10_348 (c_X10_unmended l G x told reader ring speeds wheel trials span search kept crosses trueM thought up low fits rp rx ry rr rh rd plane 1 planei 1 hplane (show (1 : Int32).toInt = 1 from by decide) (by omega) (by omega)) d_X10_rest_21 0 rfl rfl rfl ⟨Nat.le_of_ble_eq_true rfl, Nat.le_of_ble_eq_true rfl⟩ ⟨Nat.le_of_ble_eq_true rfl, Nat.le_of_ble_eq_true rfl⟩ rfl (rest := [.long 0]) (As := [.int plane, .int 1]) rfl (Nat.le_of_ble_eq_true rfl) [0, 1, 2] [] rfl (by decide) (wr := []) rfl (by decide) (by decide) ?_
    rintro _ _ ⟨rfl, rfl⟩
    refine Z.at (pc' := 24) (st' := [.int 0, .long 0]) (ws' := [(x, ob 10 [.ref told, .ref reader, .ref ring, .ref speeds, .ref wheel, .ref trials, .ref span, .ref search, .ref kept, .ref crosses, .ref trueM, .ref thought, .ref up, .ref low, .ref fits, .null]), (thought, aI G 8 (fun _ => 0)), (ring, ob 5 [.int 0, .ref rp, .ref rx, .ref ry, .ref rr, .ref rh, .ref rd, .int (-1), .int 0])]) (kc' := 0) (ks' := 0) rfl rfl rfl rfl rfl ?_
    refine z_run X bb_X10_rest_24_25 bk_X10_rest_24_25 (lv' := [(0, .ref x), (1, .int plane)]) (st' := [.long 0, .long 0]) rfl ?_
    refine z_callS X k_10_187 (c_X10_sizeOf0 l G) d_X10_rest_25 ⟨Nat.le_of_ble_eq_true rfl, Nat.le_of_ble_eq_true rfl⟩ ⟨Nat.le_of_ble_eq_true rfl, Nat.le_of_ble_eq_true rfl⟩ rfl (rest := []) (As := [.long 0, .long 0]) rfl (Nat.le_of_ble_eq_true rfl) [] [0, 1, 2] rfl (by decide) (wr := [(x, ob 10 [.ref told, .ref reader, .ref ring, .ref speeds, .ref wheel, .ref trials, .ref span, .ref search, .ref kept, .ref crosses, .ref trueM, .ref thought, .ref up, .ref low, .ref fits, .null]), (thought, aI G 8 (fun _ => 0)), (ring, ob 5 [.int 0, .ref rp, .ref rx, .ref ry, .ref rr, .ref rh, .ref rd, .int (-1), .int 0])]) rfl (by decide) (by decide) ?_
    rintro _ _ ⟨rfl, rfl⟩
    refine Z.at (pc' := 28) (st' := [.long 0]) (ws' := [(x, ob 10 [.ref told, .ref reader, .ref ring, .ref speeds, .ref wheel, .ref trials, .ref span, .ref search, .ref kept, .ref crosses, .ref trueM, .ref thought, .ref up, .ref low, .ref fits, .null]), (thought, aI G 8 (fun _ => 0)), (ring, ob 5 [.int 0, .ref rp, .ref rx, .ref ry, .ref rr, .ref rh, .ref rd, .int (-1), .int 0])]) (kc' := 0) (ks' := 0) rfl rfl rfl rfl rfl ?_
    exact z_lret X rfl d_X10_rest_28 (Nat.le_of_ble_eq_true rfl) (Nat.le_of_ble_eq_true rfl) (congrArg (fun z => some (Value.long z)) (by unfold an_plane; (repeat' split) <;> first | rfl | (exfalso; omega)))
  ·
    refine z_ldc2 X d_X10_rest_7 cn_10_346 ?_
    exact z_lret X rfl d_X10_rest_10 (Nat.le_of_ble_eq_true rfl) (Nat.le_of_ble_eq_true rfl) (congrArg (fun z => some (Value.long z)) (by unfold an_plane; (repeat' split) <;> first | rfl | (exfalso; omega)))

theorem d_X6_start_2 : decode cX6_start 2 = .ok (.putfield 40, 3) := by decide +kernel
theorem d_X6_start_7 : decode cX6_start 7 = .ok (.putfield 44, 3) := by decide +kernel
theorem d_X6_start_12 : decode cX6_start 12 = .ok (.putfield 47, 3) := by decide +kernel
theorem d_X6_start_15 : decode cX6_start 15 = .ok (.return_, 1) := by decide +kernel
abbrev bb_X6_start_0_2 : ZB := [(.aload_n 0, .null), (.iconst 0, .int 0)]
theorem bk_X6_start_0_2 : zchk cX6_start bb_X6_start_0_2 0 = true ∧ zpc bb_X6_start_0_2 0 = 2 := ⟨by decide +kernel, rfl⟩
abbrev bb_X6_start_5_7 : ZB := [(.aload_n 0, .null), (.iconst 0, .int 0)]
theorem bk_X6_start_5_7 : zchk cX6_start bb_X6_start_5_7 5 = true ∧ zpc bb_X6_start_5_7 5 = 7 := ⟨by decide +kernel, rfl⟩
abbrev bb_X6_start_10_12 : ZB := [(.aload_n 0, .null), (.iload_n 1, .null)]
theorem bk_X6_start_10_12 : zchk cX6_start bb_X6_start_10_12 10 = true ∧ zpc bb_X6_start_10_12 10 = 12 := ⟨by decide +kernel, rfl⟩
set_option maxHeartbeats 4000000 in
set_option maxRecDepth 100000 in
theorem c_X6_start (l : Launch) (G : KG) (search : Nat) (qf : Nat) (qu : Nat) (qx : Nat) (qy : Nat) (qa : Nat) (qb : Nat) (qs : Nat) (qp : Nat) (qt : Nat) : Ct l G yX6_start cX6_start 2 none { frames := 0, cells := 0, slots := 0, locals := 0 } [.ref search, .int 0] [(search, ob 6 [.int 0, .int 0, .int 0, .ref qf, .ref qu, .ref qx, .ref qy, .ref qa, .ref qb, .ref qs, .ref qp, .ref qt, .int 0, .int 0, .long 0])] (fun r w1 => r = none ∧ w1 = [(search, ob 6 [.int 0, .int 0, .int 0, .ref qf, .ref qu, .ref qx, .ref qy, .ref qa, .ref qb, .ref qs, .ref qp, .ref qt, .int 0, .int 0, .long 0])]) := by
  refine ct_of [(0, .ref search), (1, .int 0)] (by decide) (Nat.le_of_ble_eq_true rfl) rfl ?_
  intro p0 e0 s0 m0 args0 below0 meth0 c0 A X
  refine z_run X bb_X6_start_0_2 bk_X6_start_0_2 (lv' := [(0, .ref search), (1, .int 0)]) (st' := [.int 0, .ref search]) rfl ?_
  refine z_put X fl_6_40 d_X6_start_2 0 rfl (ty := .int) (T := TX6) (N := 15) rfl (Or.inl rfl) (by decide +kernel) rfl (by rfl) (Nat.le_of_ble_eq_true rfl) (ws' := [(search, ob 6 [.int 0, .int 0, .int 0, .ref qf, .ref qu, .ref qx, .ref qy, .ref qa, .ref qb, .ref qs, .ref qp, .ref qt, .int 0, .int 0, .long 0])]) rfl ?_
  refine z_run X bb_X6_start_5_7 bk_X6_start_5_7 (lv' := [(0, .ref search), (1, .int 0)]) (st' := [.int 0, .ref search]) rfl ?_
  refine z_put X fl_6_44 d_X6_start_7 0 rfl (ty := .int) (T := TX6) (N := 15) rfl (Or.inl rfl) (by decide +kernel) rfl (by rfl) (Nat.le_of_ble_eq_true rfl) (ws' := [(search, ob 6 [.int 0, .int 0, .int 0, .ref qf, .ref qu, .ref qx, .ref qy, .ref qa, .ref qb, .ref qs, .ref qp, .ref qt, .int 0, .int 0, .long 0])]) rfl ?_
  refine z_run X bb_X6_start_10_12 bk_X6_start_10_12 (lv' := [(0, .ref search), (1, .int 0)]) (st' := [.int 0, .ref search]) rfl ?_
  refine z_put X fl_6_47 d_X6_start_12 0 rfl (ty := .boolean) (T := TX6) (N := 15) rfl (Or.inl rfl) (by decide +kernel) rfl (by rfl) (Nat.le_of_ble_eq_true rfl) (ws' := [(search, ob 6 [.int 0, .int 0, .int 0, .ref qf, .ref qu, .ref qx, .ref qy, .ref qa, .ref qb, .ref qs, .ref qp, .ref qt, .int 0, .int 0, .long 0])]) rfl ?_
  exact z_vret X rfl d_X6_start_15 (Nat.le_of_ble_eq_true rfl) (Nat.le_of_ble_eq_true rfl) ⟨rfl, rfl⟩

theorem d_X6_addPoint_1 : decode cX6_addPoint 1 = .ok (.getfield 44, 3) := by decide +kernel
theorem d_X6_addPoint_6 : decode cX6_addPoint 6 = .ok (.if_icmp .ge 35, 3) := by decide +kernel
theorem d_X6_addPoint_10 : decode cX6_addPoint 10 = .ok (.getfield 18, 3) := by decide +kernel
theorem d_X6_addPoint_14 : decode cX6_addPoint 14 = .ok (.getfield 44, 3) := by decide +kernel
theorem d_X6_addPoint_19 : decode cX6_addPoint 19 = .ok (.lastore, 1) := by decide +kernel
theorem d_X6_addPoint_21 : decode cX6_addPoint 21 = .ok (.getfield 22, 3) := by decide +kernel
theorem d_X6_addPoint_25 : decode cX6_addPoint 25 = .ok (.getfield 44, 3) := by decide +kernel
theorem d_X6_addPoint_30 : decode cX6_addPoint 30 = .ok (.lastore, 1) := by decide +kernel
theorem d_X6_addPoint_33 : decode cX6_addPoint 33 = .ok (.getfield 44, 3) := by decide +kernel
theorem d_X6_addPoint_38 : decode cX6_addPoint 38 = .ok (.putfield 44, 3) := by decide +kernel
theorem d_X6_addPoint_41 : decode cX6_addPoint 41 = .ok (.return_, 1) := by decide +kernel
abbrev bb_X6_addPoint_0_1 : ZB := [(.aload_n 0, .null)]
theorem bk_X6_addPoint_0_1 : zchk cX6_addPoint bb_X6_addPoint_0_1 0 = true ∧ zpc bb_X6_addPoint_0_1 0 = 1 := ⟨by decide +kernel, rfl⟩
abbrev bb_X6_addPoint_4_6 : ZB := [(.bipush 6, .int 6)]
theorem bk_X6_addPoint_4_6 : zchk cX6_addPoint bb_X6_addPoint_4_6 4 = true ∧ zpc bb_X6_addPoint_4_6 4 = 6 := ⟨by decide +kernel, rfl⟩
abbrev bb_X6_addPoint_9_10 : ZB := [(.aload_n 0, .null)]
theorem bk_X6_addPoint_9_10 : zchk cX6_addPoint bb_X6_addPoint_9_10 9 = true ∧ zpc bb_X6_addPoint_9_10 9 = 10 := ⟨by decide +kernel, rfl⟩
abbrev bb_X6_addPoint_13_14 : ZB := [(.aload_n 0, .null)]
theorem bk_X6_addPoint_13_14 : zchk cX6_addPoint bb_X6_addPoint_13_14 13 = true ∧ zpc bb_X6_addPoint_13_14 13 = 14 := ⟨by decide +kernel, rfl⟩
abbrev bb_X6_addPoint_17_19 : ZB := [(.iload_n 1, .null), (.i2l, .null)]
theorem bk_X6_addPoint_17_19 : zchk cX6_addPoint bb_X6_addPoint_17_19 17 = true ∧ zpc bb_X6_addPoint_17_19 17 = 19 := ⟨by decide +kernel, rfl⟩
abbrev bb_X6_addPoint_20_21 : ZB := [(.aload_n 0, .null)]
theorem bk_X6_addPoint_20_21 : zchk cX6_addPoint bb_X6_addPoint_20_21 20 = true ∧ zpc bb_X6_addPoint_20_21 20 = 21 := ⟨by decide +kernel, rfl⟩
abbrev bb_X6_addPoint_24_25 : ZB := [(.aload_n 0, .null)]
theorem bk_X6_addPoint_24_25 : zchk cX6_addPoint bb_X6_addPoint_24_25 24 = true ∧ zpc bb_X6_addPoint_24_25 24 = 25 := ⟨by decide +kernel, rfl⟩
abbrev bb_X6_addPoint_28_30 : ZB := [(.iload_n 2, .null), (.i2l, .null)]
theorem bk_X6_addPoint_28_30 : zchk cX6_addPoint bb_X6_addPoint_28_30 28 = true ∧ zpc bb_X6_addPoint_28_30 28 = 30 := ⟨by decide +kernel, rfl⟩
abbrev bb_X6_addPoint_31_33 : ZB := [(.aload_n 0, .null), (.dup, .null)]
theorem bk_X6_addPoint_31_33 : zchk cX6_addPoint bb_X6_addPoint_31_33 31 = true ∧ zpc bb_X6_addPoint_31_33 31 = 33 := ⟨by decide +kernel, rfl⟩
abbrev bb_X6_addPoint_36_38 : ZB := [(.iconst 1, .int 1), (.iadd, .null)]
theorem bk_X6_addPoint_36_38 : zchk cX6_addPoint bb_X6_addPoint_36_38 36 = true ∧ zpc bb_X6_addPoint_36_38 36 = 38 := ⟨by decide +kernel, rfl⟩
set_option maxHeartbeats 4000000 in
set_option maxRecDepth 100000 in
theorem c_X6_addPoint (l : Launch) (G : KG) (search : Nat) (qf : Nat) (qu : Nat) (qx : Nat) (qy : Nat) (qa : Nat) (qb : Nat) (qs : Nat) (qp : Nat) (qt : Nat) : Ct l G yX6_addPoint cX6_addPoint 3 none { frames := 0, cells := 0, slots := 0, locals := 0 } [.ref search, .int 0, .int 0] [(search, ob 6 [.int 0, .int 0, .int 0, .ref qf, .ref qu, .ref qx, .ref qy, .ref qa, .ref qb, .ref qs, .ref qp, .ref qt, .int 0, .int 0, .long 0]), (qx, aJ G 6 (fun _ => 0)), (qy, aJ G 6 (fun _ => 0))] (fun r w1 => r = none ∧ w1 = [(search, ob 6 [.int 0, .int 1, .int 0, .ref qf, .ref qu, .ref qx, .ref qy, .ref qa, .ref qb, .ref qs, .ref qp, .ref qt, .int 0, .int 0, .long 0]), (qx, aJ G 6 (fun _ => 0)), (qy, aJ G 6 (fun _ => 0))]) := by
  refine ct_of [(0, .ref search), (1, .int 0), (2, .int 0)] (by decide) (Nat.le_of_ble_eq_true rfl) rfl ?_
  intro p0 e0 s0 m0 args0 below0 meth0 c0 A X
  refine z_run X bb_X6_addPoint_0_1 bk_X6_addPoint_0_1 (lv' := [(0, .ref search), (1, .int 0), (2, .int 0)]) (st' := [.ref search]) rfl ?_
  refine z_get X fl_6_44 d_X6_addPoint_1 0 rfl (v := .int 0) rfl ?_
  refine z_run X bb_X6_addPoint_4_6 bk_X6_addPoint_4_6 (lv' := [(0, .ref search), (1, .int 0), (2, .int 0)]) (st' := [.int 6, .int 0]) rfl ?_
  refine zc_ge X d_X6_addPoint_6 (tgt := 41) (by decide) (a := 0) (b := 6) (show (0 : Int32).toInt = 0 from by decide) (show (6 : Int32).toInt = 6 from by decide) (fun c6_1 => absurd c6_1 (by decide)) (fun _ => ?_)
  refine z_run X bb_X6_addPoint_9_10 bk_X6_addPoint_9_10 (lv' := [(0, .ref search), (1, .int 0), (2, .int 0)]) (st' := [.ref search]) rfl ?_
  refine z_get X fl_6_18 d_X6_addPoint_10 0 rfl (v := .ref qx) rfl ?_
  refine z_run X bb_X6_addPoint_13_14 bk_X6_addPoint_13_14 (lv' := [(0, .ref search), (1, .int 0), (2, .int 0)]) (st' := [.ref search, .ref qx]) rfl ?_
  refine z_get X fl_6_44 d_X6_addPoint_14 0 rfl (v := .int 0) rfl ?_
  refine z_run X bb_X6_addPoint_17_19 bk_X6_addPoint_17_19 (lv' := [(0, .ref search), (1, .int 0), (2, .int 0)]) (st' := [.long 0, .int 0, .ref qx]) rfl ?_
  refine z_last X d_X6_addPoint_19 1 rfl (show vp_in _ _ from by unfold vp_in; decide) (ws' := [(search, ob 6 [.int 0, .int 0, .int 0, .ref qf, .ref qu, .ref qx, .ref qy, .ref qa, .ref qb, .ref qs, .ref qp, .ref qt, .int 0, .int 0, .long 0]), (qx, aJ G 6 (fun _ => 0)), (qy, aJ G 6 (fun _ => 0))]) (Eq.trans (congrArg (fun z => List.set _ 1 (_, aJ G _ z)) updL0) rfl) ?_
  refine z_run X bb_X6_addPoint_20_21 bk_X6_addPoint_20_21 (lv' := [(0, .ref search), (1, .int 0), (2, .int 0)]) (st' := [.ref search]) rfl ?_
  refine z_get X fl_6_22 d_X6_addPoint_21 0 rfl (v := .ref qy) rfl ?_
  refine z_run X bb_X6_addPoint_24_25 bk_X6_addPoint_24_25 (lv' := [(0, .ref search), (1, .int 0), (2, .int 0)]) (st' := [.ref search, .ref qy]) rfl ?_
  refine z_get X fl_6_44 d_X6_addPoint_25 0 rfl (v := .int 0) rfl ?_
  refine z_run X bb_X6_addPoint_28_30 bk_X6_addPoint_28_30 (lv' := [(0, .ref search), (1, .int 0), (2, .int 0)]) (st' := [.long 0, .int 0, .ref qy]) rfl ?_
  refine z_last X d_X6_addPoint_30 2 rfl (show vp_in _ _ from by unfold vp_in; decide) (ws' := [(search, ob 6 [.int 0, .int 0, .int 0, .ref qf, .ref qu, .ref qx, .ref qy, .ref qa, .ref qb, .ref qs, .ref qp, .ref qt, .int 0, .int 0, .long 0]), (qx, aJ G 6 (fun _ => 0)), (qy, aJ G 6 (fun _ => 0))]) (Eq.trans (congrArg (fun z => List.set _ 2 (_, aJ G _ z)) updL0) rfl) ?_
  refine z_run X bb_X6_addPoint_31_33 bk_X6_addPoint_31_33 (lv' := [(0, .ref search), (1, .int 0), (2, .int 0)]) (st' := [.ref search, .ref search]) rfl ?_
  refine z_get X fl_6_44 d_X6_addPoint_33 0 rfl (v := .int 0) rfl ?_
  refine z_run X bb_X6_addPoint_36_38 bk_X6_addPoint_36_38 (lv' := [(0, .ref search), (1, .int 0), (2, .int 0)]) (st' := [.int 1, .ref search]) rfl ?_
  refine z_put X fl_6_44 d_X6_addPoint_38 0 rfl (ty := .int) (T := TX6) (N := 15) rfl (Or.inl rfl) (by decide +kernel) rfl (by rfl) (Nat.le_of_ble_eq_true rfl) (ws' := [(search, ob 6 [.int 0, .int 1, .int 0, .ref qf, .ref qu, .ref qx, .ref qy, .ref qa, .ref qb, .ref qs, .ref qp, .ref qt, .int 0, .int 0, .long 0]), (qx, aJ G 6 (fun _ => 0)), (qy, aJ G 6 (fun _ => 0))]) rfl ?_
  exact z_vret X rfl d_X6_addPoint_41 (Nat.le_of_ble_eq_true rfl) (Nat.le_of_ble_eq_true rfl) ⟨rfl, rfl⟩

theorem d_X6_costNow_6 : decode cX6_costNow 6 = .ok (.getfield 44, 3) := by decide +kernel
theorem d_X6_costNow_9 : decode cX6_costNow 9 = .ok (.if_icmp .ge 47, 3) := by decide +kernel
theorem d_X6_costNow_13 : decode cX6_costNow 13 = .ok (.getfield 18, 3) := by decide +kernel
theorem d_X6_costNow_17 : decode cX6_costNow 17 = .ok (.laload, 1) := by decide +kernel
theorem d_X6_costNow_19 : decode cX6_costNow 19 = .ok (.getfield 22, 3) := by decide +kernel
theorem d_X6_costNow_23 : decode cX6_costNow 23 = .ok (.laload, 1) := by decide +kernel
theorem d_X6_costNow_24 : decode cX6_costNow 24 = .ok (.invokestatic 55, 3) := by decide +kernel
theorem d_X6_costNow_30 : decode cX6_costNow 30 = .ok (.getfield 47, 3) := by decide +kernel
theorem d_X6_costNow_33 : decode cX6_costNow 33 = .ok (.ifCond .eq 12, 3) := by decide +kernel
theorem d_X6_costNow_53 : decode cX6_costNow 53 = .ok (.goto (-49), 3) := by decide +kernel
theorem d_X6_costNow_57 : decode cX6_costNow 57 = .ok (.lreturn, 1) := by decide +kernel
abbrev bb_X6_costNow_0_6 : ZB := [(.lconst 0, .long 0), (.lstore_n 1, .null), (.iconst 0, .int 0), (.istore_n 3, .null), (.iload_n 3, .null), (.aload_n 0, .null)]
theorem bk_X6_costNow_0_6 : zchk cX6_costNow bb_X6_costNow_0_6 0 = true ∧ zpc bb_X6_costNow_0_6 0 = 6 := ⟨by decide +kernel, rfl⟩
abbrev bb_X6_costNow_12_13 : ZB := [(.aload_n 0, .null)]
theorem bk_X6_costNow_12_13 : zchk cX6_costNow bb_X6_costNow_12_13 12 = true ∧ zpc bb_X6_costNow_12_13 12 = 13 := ⟨by decide +kernel, rfl⟩
abbrev bb_X6_costNow_16_17 : ZB := [(.iload_n 3, .null)]
theorem bk_X6_costNow_16_17 : zchk cX6_costNow bb_X6_costNow_16_17 16 = true ∧ zpc bb_X6_costNow_16_17 16 = 17 := ⟨by decide +kernel, rfl⟩
abbrev bb_X6_costNow_18_19 : ZB := [(.aload_n 0, .null)]
theorem bk_X6_costNow_18_19 : zchk cX6_costNow bb_X6_costNow_18_19 18 = true ∧ zpc bb_X6_costNow_18_19 18 = 19 := ⟨by decide +kernel, rfl⟩
abbrev bb_X6_costNow_22_23 : ZB := [(.iload_n 3, .null)]
theorem bk_X6_costNow_22_23 : zchk cX6_costNow bb_X6_costNow_22_23 22 = true ∧ zpc bb_X6_costNow_22_23 22 = 23 := ⟨by decide +kernel, rfl⟩
abbrev bb_X6_costNow_27_30 : ZB := [(.lstore 4, .null), (.aload_n 0, .null)]
theorem bk_X6_costNow_27_30 : zchk cX6_costNow bb_X6_costNow_27_30 27 = true ∧ zpc bb_X6_costNow_27_30 27 = 30 := ⟨by decide +kernel, rfl⟩
abbrev bb_X6_costNow_45_53 : ZB := [(.lload_n 1, .null), (.lload 4, .null), (.ladd, .null), (.lstore_n 1, .null), (.iinc 3 1, .int 1)]
theorem bk_X6_costNow_45_53 : zchk cX6_costNow bb_X6_costNow_45_53 45 = true ∧ zpc bb_X6_costNow_45_53 45 = 53 := ⟨by decide +kernel, rfl⟩
abbrev bb_X6_costNow_4_6 : ZB := [(.iload_n 3, .null), (.aload_n 0, .null)]
theorem bk_X6_costNow_4_6 : zchk cX6_costNow bb_X6_costNow_4_6 4 = true ∧ zpc bb_X6_costNow_4_6 4 = 6 := ⟨by decide +kernel, rfl⟩
abbrev bb_X6_costNow_56_57 : ZB := [(.lload_n 1, .null)]
theorem bk_X6_costNow_56_57 : zchk cX6_costNow bb_X6_costNow_56_57 56 = true ∧ zpc bb_X6_costNow_56_57 56 = 57 := ⟨by decide +kernel, rfl⟩
set_option maxHeartbeats 4000000 in
set_option maxRecDepth 100000 in
theorem c_X6_costNow (l : Launch) (G : KG) (search : Nat) (qf : Nat) (qu : Nat) (qx : Nat) (qy : Nat) (qa : Nat) (qb : Nat) (qs : Nat) (qp : Nat) (qt : Nat) : Ct l G yX6_costNow cX6_costNow 6 (some .long) { frames := 1, cells := 0, slots := 0, locals := 23 } [.ref search] [(search, ob 6 [.int 0, .int 1, .int 0, .ref qf, .ref qu, .ref qx, .ref qy, .ref qa, .ref qb, .ref qs, .ref qp, .ref qt, .int 0, .int 0, .long 0]), (qx, aJ G 6 (fun _ => 0)), (qy, aJ G 6 (fun _ => 0))] (fun r w1 => r = some (.long 0) ∧ w1 = [(search, ob 6 [.int 0, .int 1, .int 0, .ref qf, .ref qu, .ref qx, .ref qy, .ref qa, .ref qb, .ref qs, .ref qp, .ref qt, .int 0, .int 0, .long 0]), (qx, aJ G 6 (fun _ => 0)), (qy, aJ G 6 (fun _ => 0))]) := by
  refine ct_of [(0, .ref search)] (by decide) (Nat.le_of_ble_eq_true rfl) rfl ?_
  intro p0 e0 s0 m0 args0 below0 meth0 c0 A X
  refine z_run X bb_X6_costNow_0_6 bk_X6_costNow_0_6 (lv' := [(3, .int 0), (1, .long 0), (0, .ref search)]) (st' := [.ref search, .int 0]) rfl ?_
  refine z_get X fl_6_44 d_X6_costNow_6 0 rfl (v := .int 1) rfl ?_
  refine zc_ge X d_X6_costNow_9 (tgt := 56) (by decide) (a := 0) (b := 1) (show (0 : Int32).toInt = 0 from by decide) (show (1 : Int32).toInt = 1 from by decide) (fun c9_1 => absurd c9_1 (by decide)) (fun _ => ?_)
  refine z_run X bb_X6_costNow_12_13 bk_X6_costNow_12_13 (lv' := [(3, .int 0), (1, .long 0), (0, .ref search)]) (st' := [.ref search]) rfl ?_
  refine z_get X fl_6_18 d_X6_costNow_13 0 rfl (v := .ref qx) rfl ?_
  refine z_run X bb_X6_costNow_16_17 bk_X6_costNow_16_17 (lv' := [(3, .int 0), (1, .long 0), (0, .ref search)]) (st' := [.int 0, .ref qx]) rfl ?_
  refine z_lald X d_X6_costNow_17 1 rfl (show vp_in _ _ from by unfold vp_in; decide) (v := 0) rfl ?_
  refine z_run X bb_X6_costNow_18_19 bk_X6_costNow_18_19 (lv' := [(3, .int 0), (1, .long 0), (0, .ref search)]) (st' := [.ref search, .long 0]) rfl ?_
  refine z_get X fl_6_22 d_X6_costNow_19 0 rfl (v := .ref qy) rfl ?_
  refine z_run X bb_X6_costNow_22_23 bk_X6_costNow_22_23 (lv' := [(3, .int 0), (1, .long 0), (0, .ref search)]) (st' := [.int 0, .ref qy, .long 0]) rfl ?_
  refine z_lald X d_X6_costNow_23 2 rfl (show vp_in _ _ from by unfold vp_in; decide) (v := 0) rfl ?_
  refine z_callSN X k_6_55 (c_X10_sizeOf0 l G) d_X6_costNow_24 ⟨Nat.le_of_ble_eq_true rfl, Nat.le_of_ble_eq_true rfl⟩ ⟨Nat.le_of_ble_eq_true rfl, Nat.le_of_ble_eq_true rfl⟩ rfl (rest := []) (As := [.long 0, .long 0]) rfl (Nat.le_of_ble_eq_true rfl) [] [0, 1, 2] rfl (by decide) (wr := [(search, ob 6 [.int 0, .int 1, .int 0, .ref qf, .ref qu, .ref qx, .ref qy, .ref qa, .ref qb, .ref qs, .ref qp, .ref qt, .int 0, .int 0, .long 0]), (qx, aJ G 6 (fun _ => 0)), (qy, aJ G 6 (fun _ => 0))]) rfl (by decide) (by decide) ?_
  rintro _ _ ⟨rfl, rfl⟩
  refine Z.at (pc' := 27) (st' := [.long 0]) (ws' := [(search, ob 6 [.int 0, .int 1, .int 0, .ref qf, .ref qu, .ref qx, .ref qy, .ref qa, .ref qb, .ref qs, .ref qp, .ref qt, .int 0, .int 0, .long 0]), (qx, aJ G 6 (fun _ => 0)), (qy, aJ G 6 (fun _ => 0))]) (kc' := 0) (ks' := 0) rfl rfl rfl rfl rfl ?_
  refine z_run X bb_X6_costNow_27_30 bk_X6_costNow_27_30 (lv' := [(4, .long 0), (3, .int 0), (1, .long 0), (0, .ref search)]) (st' := [.ref search]) rfl ?_
  refine z_get X fl_6_47 d_X6_costNow_30 0 rfl (v := .int 0) rfl ?_
  refine zi_eq X d_X6_costNow_33 (tgt := 45) (by decide) (a := 0) (show (0 : Int32).toInt = 0 from by decide) (fun _ => ?_) (fun c33_2 => absurd c33_2 (by decide))
  refine z_run X bb_X6_costNow_45_53 bk_X6_costNow_45_53 (lv' := [(3, .int 1), (1, .long 0), (4, .long 0), (0, .ref search)]) (st' := []) rfl ?_
  refine z_goto X d_X6_costNow_53 (tgt := 4) (by decide) ?_
  refine z_run X bb_X6_costNow_4_6 bk_X6_costNow_4_6 (lv' := [(3, .int 1), (1, .long 0), (4, .long 0), (0, .ref search)]) (st' := [.ref search, .int 1]) rfl ?_
  refine z_get X fl_6_44 d_X6_costNow_6 0 rfl (v := .int 1) rfl ?_
  refine zc_ge X d_X6_costNow_9 (tgt := 56) (by decide) (a := 1) (b := 1) (show (1 : Int32).toInt = 1 from by decide) (show (1 : Int32).toInt = 1 from by decide) (fun _ => ?_) (fun c9_3 => absurd c9_3 (by decide))
  refine z_run X bb_X6_costNow_56_57 bk_X6_costNow_56_57 (lv' := [(3, .int 1), (1, .long 0), (4, .long 0), (0, .ref search)]) (st' := [.long 0]) rfl ?_
  exact z_lret X rfl d_X6_costNow_57 (Nat.le_of_ble_eq_true rfl) (Nat.le_of_ble_eq_true rfl) ⟨rfl, rfl⟩

theorem d_X6_digLast_1 : decode cX6_digLast 1 = .ok (.invokevirtual 65, 3) := by decide +kernel
theorem d_X6_digLast_11 : decode cX6_digLast 11 = .ok (.getfield 40, 3) := by decide +kernel
theorem d_X6_digLast_14 : decode cX6_digLast 14 = .ok (.if_icmp .ge 133, 3) := by decide +kernel
theorem d_X6_digLast_147 : decode cX6_digLast 147 = .ok (.return_, 1) := by decide +kernel
abbrev bb_X6_digLast_0_1 : ZB := [(.aload_n 0, .null)]
theorem bk_X6_digLast_0_1 : zchk cX6_digLast bb_X6_digLast_0_1 0 = true ∧ zpc bb_X6_digLast_0_1 0 = 1 := ⟨by decide +kernel, rfl⟩
abbrev bb_X6_digLast_4_11 : ZB := [(.lstore_n 2, .null), (.iload_n 1, .null), (.istore 4, .null), (.iload 4, .null), (.aload_n 0, .null)]
theorem bk_X6_digLast_4_11 : zchk cX6_digLast bb_X6_digLast_4_11 4 = true ∧ zpc bb_X6_digLast_4_11 4 = 11 := ⟨by decide +kernel, rfl⟩
set_option maxHeartbeats 4000000 in
set_option maxRecDepth 100000 in
theorem c_X6_digLast (l : Launch) (G : KG) (search : Nat) (qf : Nat) (qu : Nat) (qx : Nat) (qy : Nat) (qa : Nat) (qb : Nat) (qs : Nat) (qp : Nat) (qt : Nat) : Ct l G yX6_digLast cX6_digLast 11 none { frames := 2, cells := 0, slots := 0, locals := 48 } [.ref search, .int 0] [(search, ob 6 [.int 0, .int 1, .int 0, .ref qf, .ref qu, .ref qx, .ref qy, .ref qa, .ref qb, .ref qs, .ref qp, .ref qt, .int 0, .int 0, .long 0]), (qx, aJ G 6 (fun _ => 0)), (qy, aJ G 6 (fun _ => 0))] (fun r w1 => r = none ∧ w1 = [(search, ob 6 [.int 0, .int 1, .int 0, .ref qf, .ref qu, .ref qx, .ref qy, .ref qa, .ref qb, .ref qs, .ref qp, .ref qt, .int 0, .int 0, .long 0]), (qx, aJ G 6 (fun _ => 0)), (qy, aJ G 6 (fun _ => 0))]) := by
  refine ct_of [(0, .ref search), (1, .int 0)] (by decide) (Nat.le_of_ble_eq_true rfl) rfl ?_
  intro p0 e0 s0 m0 args0 below0 meth0 c0 A X
  refine z_run X bb_X6_digLast_0_1 bk_X6_digLast_0_1 (lv' := [(0, .ref search), (1, .int 0)]) (st' := [.ref search]) rfl ?_
  refine z_callV X k_6_65 (c_X6_costNow l G search qf qu qx qy qa qb qs qp qt) d_X6_digLast_1 0 rfl rfl rfl ⟨Nat.le_of_ble_eq_true rfl, Nat.le_of_ble_eq_true rfl⟩ ⟨Nat.le_of_ble_eq_true rfl, Nat.le_of_ble_eq_true rfl⟩ rfl (rest := []) (As := []) rfl (Nat.le_of_ble_eq_true rfl) [0, 1, 2] [] rfl (by decide) (wr := []) rfl (by decide) (by decide) ?_
  rintro _ _ ⟨rfl, rfl⟩
  refine Z.at (pc' := 4) (st' := [.long 0]) (ws' := [(search, ob 6 [.int 0, .int 1, .int 0, .ref qf, .ref qu, .ref qx, .ref qy, .ref qa, .ref qb, .ref qs, .ref qp, .ref qt, .int 0, .int 0, .long 0]), (qx, aJ G 6 (fun _ => 0)), (qy, aJ G 6 (fun _ => 0))]) (kc' := 0) (ks' := 0) rfl rfl rfl rfl rfl ?_
  refine z_run X bb_X6_digLast_4_11 bk_X6_digLast_4_11 (lv' := [(4, .int 0), (2, .long 0), (0, .ref search), (1, .int 0)]) (st' := [.ref search, .int 0]) rfl ?_
  refine z_get X fl_6_40 d_X6_digLast_11 0 rfl (v := .int 0) rfl ?_
  refine zc_ge X d_X6_digLast_14 (tgt := 147) (by decide) (a := 0) (b := 0) (show (0 : Int32).toInt = 0 from by decide) (show (0 : Int32).toInt = 0 from by decide) (fun _ => ?_) (fun c14_1 => absurd c14_1 (by decide))
  exact z_vret X rfl d_X6_digLast_147 (Nat.le_of_ble_eq_true rfl) (Nat.le_of_ble_eq_true rfl) ⟨rfl, rfl⟩

theorem d_X6_dig_1 : decode cX6_dig 1 = .ok (.ifCond .gt 4, 3) := by decide +kernel
theorem d_X6_dig_7 : decode cX6_dig 7 = .ok (.if_icmp .ne 16, 3) := by decide +kernel
theorem d_X6_dig_27 : decode cX6_dig 27 = .ok (.getfield 40, 3) := by decide +kernel
theorem d_X6_dig_30 : decode cX6_dig 30 = .ok (.if_icmp .ge 70, 3) := by decide +kernel
theorem d_X6_dig_100 : decode cX6_dig 100 = .ok (.return_, 1) := by decide +kernel
theorem d_X6_dig_11 : decode cX6_dig 11 = .ok (.getfield 47, 3) := by decide +kernel
theorem d_X6_dig_14 : decode cX6_dig 14 = .ok (.ifCond .ne 9, 3) := by decide +kernel
theorem d_X6_dig_19 : decode cX6_dig 19 = .ok (.invokevirtual 77, 3) := by decide +kernel
theorem d_X6_dig_22 : decode cX6_dig 22 = .ok (.return_, 1) := by decide +kernel
theorem d_X6_dig_4 : decode cX6_dig 4 = .ok (.return_, 1) := by decide +kernel
abbrev bb_X6_dig_0_1 : ZB := [(.iload_n 2, .null)]
theorem bk_X6_dig_0_1 : zchk cX6_dig bb_X6_dig_0_1 0 = true ∧ zpc bb_X6_dig_0_1 0 = 1 := ⟨by decide +kernel, rfl⟩
abbrev bb_X6_dig_5_7 : ZB := [(.iload_n 2, .null), (.iconst 1, .int 1)]
theorem bk_X6_dig_5_7 : zchk cX6_dig bb_X6_dig_5_7 5 = true ∧ zpc bb_X6_dig_5_7 5 = 7 := ⟨by decide +kernel, rfl⟩
abbrev bb_X6_dig_23_27 : ZB := [(.iload_n 1, .null), (.istore_n 3, .null), (.iload_n 3, .null), (.aload_n 0, .null)]
theorem bk_X6_dig_23_27 : zchk cX6_dig bb_X6_dig_23_27 23 = true ∧ zpc bb_X6_dig_23_27 23 = 27 := ⟨by decide +kernel, rfl⟩
abbrev bb_X6_dig_10_11 : ZB := [(.aload_n 0, .null)]
theorem bk_X6_dig_10_11 : zchk cX6_dig bb_X6_dig_10_11 10 = true ∧ zpc bb_X6_dig_10_11 10 = 11 := ⟨by decide +kernel, rfl⟩
abbrev bb_X6_dig_17_19 : ZB := [(.aload_n 0, .null), (.iload_n 1, .null)]
theorem bk_X6_dig_17_19 : zchk cX6_dig bb_X6_dig_17_19 17 = true ∧ zpc bb_X6_dig_17_19 17 = 19 := ⟨by decide +kernel, rfl⟩
set_option maxHeartbeats 4000000 in
set_option maxRecDepth 100000 in
theorem c_X6_dig (l : Launch) (G : KG) (search : Nat) (qf : Nat) (qu : Nat) (qx : Nat) (qy : Nat) (qa : Nat) (qb : Nat) (qs : Nat) (qp : Nat) (qt : Nat) (k : Int32) (ki : Int) (hk : k.toInt = ki) (hk3 : 0 ≤ ki ∧ ki ≤ 3) : Ct l G yX6_dig cX6_dig 5 none { frames := 3, cells := 0, slots := 0, locals := 78 } [.ref search, .int 0, .int k] [(search, ob 6 [.int 0, .int 1, .int 0, .ref qf, .ref qu, .ref qx, .ref qy, .ref qa, .ref qb, .ref qs, .ref qp, .ref qt, .int 0, .int 0, .long 0]), (qx, aJ G 6 (fun _ => 0)), (qy, aJ G 6 (fun _ => 0))] (fun r w1 => r = none ∧ w1 = [(search, ob 6 [.int 0, .int 1, .int 0, .ref qf, .ref qu, .ref qx, .ref qy, .ref qa, .ref qb, .ref qs, .ref qp, .ref qt, .int 0, .int 0, .long 0]), (qx, aJ G 6 (fun _ => 0)), (qy, aJ G 6 (fun _ => 0))]) := by
  refine ct_of [(0, .ref search), (1, .int 0), (2, .int k)] (by decide) (Nat.le_of_ble_eq_true rfl) rfl ?_
  intro p0 e0 s0 m0 args0 below0 meth0 c0 A X
  refine z_run X bb_X6_dig_0_1 bk_X6_dig_0_1 (lv' := [(0, .ref search), (1, .int 0), (2, .int k)]) (st' := [.int k]) rfl ?_
  refine zi_gt X d_X6_dig_1 (tgt := 5) (by decide) (a := ki) hk (fun c1_1 => ?_) (fun c1_1 => ?_)
  ·
    refine z_run X bb_X6_dig_5_7 bk_X6_dig_5_7 (lv' := [(0, .ref search), (1, .int 0), (2, .int k)]) (st' := [.int 1, .int k]) rfl ?_
    refine zc_ne X d_X6_dig_7 (tgt := 23) (by decide) (a := ki) (b := 1) hk (show (1 : Int32).toInt = 1 from by decide) (fun c7_2 => ?_) (fun c7_2 => ?_)
    ·
      refine z_run X bb_X6_dig_23_27 bk_X6_dig_23_27 (lv' := [(3, .int 0), (0, .ref search), (1, .int 0), (2, .int k)]) (st' := [.ref search, .int 0]) rfl ?_
      refine z_get X fl_6_40 d_X6_dig_27 0 rfl (v := .int 0) rfl ?_
      refine zc_ge X d_X6_dig_30 (tgt := 100) (by decide) (a := 0) (b := 0) (show (0 : Int32).toInt = 0 from by decide) (show (0 : Int32).toInt = 0 from by decide) (fun _ => ?_) (fun c30_3 => absurd c30_3 (by decide))
      exact z_vret X rfl d_X6_dig_100 (Nat.le_of_ble_eq_true rfl) (Nat.le_of_ble_eq_true rfl) ⟨rfl, rfl⟩
    ·
      refine z_run X bb_X6_dig_10_11 bk_X6_dig_10_11 (lv' := [(0, .ref search), (1, .int 0), (2, .int k)]) (st' := [.ref search]) rfl ?_
      refine z_get X fl_6_47 d_X6_dig_11 0 rfl (v := .int 0) rfl ?_
      refine zi_ne X d_X6_dig_14 (tgt := 23) (by decide) (a := 0) (show (0 : Int32).toInt = 0 from by decide) (fun c14_4 => absurd c14_4 (by decide)) (fun _ => ?_)
      refine z_run X bb_X6_dig_17_19 bk_X6_dig_17_19 (lv' := [(0, .ref search), (1, .int 0), (2, .int k)]) (st' := [.int 0, .ref search]) rfl ?_
      refine z_callV X k_6_77 (c_X6_digLast l G search qf qu qx qy qa qb qs qp qt) d_X6_dig_19 0 rfl rfl rfl ⟨Nat.le_of_ble_eq_true rfl, Nat.le_of_ble_eq_true rfl⟩ ⟨Nat.le_of_ble_eq_true rfl, Nat.le_of_ble_eq_true rfl⟩ rfl (rest := []) (As := [.int 0]) rfl (Nat.le_of_ble_eq_true rfl) [0, 1, 2] [] rfl (by decide) (wr := []) rfl (by decide) (by decide) ?_
      rintro _ _ ⟨rfl, rfl⟩
      refine Z.at (pc' := 22) (st' := []) (ws' := [(search, ob 6 [.int 0, .int 1, .int 0, .ref qf, .ref qu, .ref qx, .ref qy, .ref qa, .ref qb, .ref qs, .ref qp, .ref qt, .int 0, .int 0, .long 0]), (qx, aJ G 6 (fun _ => 0)), (qy, aJ G 6 (fun _ => 0))]) (kc' := 0) (ks' := 0) rfl rfl rfl rfl rfl ?_
      exact z_vret X rfl d_X6_dig_22 (Nat.le_of_ble_eq_true rfl) (Nat.le_of_ble_eq_true rfl) ⟨rfl, rfl⟩
  ·
    exact z_vret X rfl d_X6_dig_4 (Nat.le_of_ble_eq_true rfl) (Nat.le_of_ble_eq_true rfl) ⟨rfl, rfl⟩

theorem d_X6_leastOf_2 : decode cX6_leastOf 2 = .ok (.putfield 59, 3) := by decide +kernel
theorem d_X6_leastOf_7 : decode cX6_leastOf 7 = .ok (.putfield 62, 3) := by decide +kernel
theorem d_X6_leastOf_12 : decode cX6_leastOf 12 = .ok (.invokevirtual 65, 3) := by decide +kernel
theorem d_X6_leastOf_15 : decode cX6_leastOf 15 = .ok (.putfield 69, 3) := by decide +kernel
theorem d_X6_leastOf_21 : decode cX6_leastOf 21 = .ok (.invokevirtual 73, 3) := by decide +kernel
theorem d_X6_leastOf_25 : decode cX6_leastOf 25 = .ok (.getfield 69, 3) := by decide +kernel
theorem d_X6_leastOf_28 : decode cX6_leastOf 28 = .ok (.lreturn, 1) := by decide +kernel
abbrev bb_X6_leastOf_0_2 : ZB := [(.aload_n 0, .null), (.iconst 0, .int 0)]
theorem bk_X6_leastOf_0_2 : zchk cX6_leastOf bb_X6_leastOf_0_2 0 = true ∧ zpc bb_X6_leastOf_0_2 0 = 2 := ⟨by decide +kernel, rfl⟩
abbrev bb_X6_leastOf_5_7 : ZB := [(.aload_n 0, .null), (.iconst 0, .int 0)]
theorem bk_X6_leastOf_5_7 : zchk cX6_leastOf bb_X6_leastOf_5_7 5 = true ∧ zpc bb_X6_leastOf_5_7 5 = 7 := ⟨by decide +kernel, rfl⟩
abbrev bb_X6_leastOf_10_12 : ZB := [(.aload_n 0, .null), (.aload_n 0, .null)]
theorem bk_X6_leastOf_10_12 : zchk cX6_leastOf bb_X6_leastOf_10_12 10 = true ∧ zpc bb_X6_leastOf_10_12 10 = 12 := ⟨by decide +kernel, rfl⟩
abbrev bb_X6_leastOf_18_21 : ZB := [(.aload_n 0, .null), (.iconst 0, .int 0), (.iload_n 1, .null)]
theorem bk_X6_leastOf_18_21 : zchk cX6_leastOf bb_X6_leastOf_18_21 18 = true ∧ zpc bb_X6_leastOf_18_21 18 = 21 := ⟨by decide +kernel, rfl⟩
abbrev bb_X6_leastOf_24_25 : ZB := [(.aload_n 0, .null)]
theorem bk_X6_leastOf_24_25 : zchk cX6_leastOf bb_X6_leastOf_24_25 24 = true ∧ zpc bb_X6_leastOf_24_25 24 = 25 := ⟨by decide +kernel, rfl⟩
set_option maxHeartbeats 4000000 in
set_option maxRecDepth 100000 in
theorem c_X6_leastOf (l : Launch) (G : KG) (search : Nat) (qf : Nat) (qu : Nat) (qx : Nat) (qy : Nat) (qa : Nat) (qb : Nat) (qs : Nat) (qp : Nat) (qt : Nat) (k : Int32) (ki : Int) (hk : k.toInt = ki) (hk3 : 0 ≤ ki ∧ ki ≤ 3) : Ct l G yX6_leastOf cX6_leastOf 2 (some .long) { frames := 4, cells := 0, slots := 0, locals := 102 } [.ref search, .int k] [(search, ob 6 [.int 0, .int 1, .int 0, .ref qf, .ref qu, .ref qx, .ref qy, .ref qa, .ref qb, .ref qs, .ref qp, .ref qt, .int 0, .int 0, .long 0]), (qx, aJ G 6 (fun _ => 0)), (qy, aJ G 6 (fun _ => 0))] (fun r w1 => r = some (.long 0) ∧ w1 = [(search, ob 6 [.int 0, .int 1, .int 0, .ref qf, .ref qu, .ref qx, .ref qy, .ref qa, .ref qb, .ref qs, .ref qp, .ref qt, .int 0, .int 0, .long 0]), (qx, aJ G 6 (fun _ => 0)), (qy, aJ G 6 (fun _ => 0))]) := by
  refine ct_of [(0, .ref search), (1, .int k)] (by decide) (Nat.le_of_ble_eq_true rfl) rfl ?_
  intro p0 e0 s0 m0 args0 below0 meth0 c0 A X
  refine z_run X bb_X6_leastOf_0_2 bk_X6_leastOf_0_2 (lv' := [(0, .ref search), (1, .int k)]) (st' := [.int 0, .ref search]) rfl ?_
  refine z_put X fl_6_59 d_X6_leastOf_2 0 rfl (ty := .int) (T := TX6) (N := 15) rfl (Or.inl rfl) (by decide +kernel) rfl (by rfl) (Nat.le_of_ble_eq_true rfl) (ws' := [(search, ob 6 [.int 0, .int 1, .int 0, .ref qf, .ref qu, .ref qx, .ref qy, .ref qa, .ref qb, .ref qs, .ref qp, .ref qt, .int 0, .int 0, .long 0]), (qx, aJ G 6 (fun _ => 0)), (qy, aJ G 6 (fun _ => 0))]) rfl ?_
  refine z_run X bb_X6_leastOf_5_7 bk_X6_leastOf_5_7 (lv' := [(0, .ref search), (1, .int k)]) (st' := [.int 0, .ref search]) rfl ?_
  refine z_put X fl_6_62 d_X6_leastOf_7 0 rfl (ty := .int) (T := TX6) (N := 15) rfl (Or.inl rfl) (by decide +kernel) rfl (by rfl) (Nat.le_of_ble_eq_true rfl) (ws' := [(search, ob 6 [.int 0, .int 1, .int 0, .ref qf, .ref qu, .ref qx, .ref qy, .ref qa, .ref qb, .ref qs, .ref qp, .ref qt, .int 0, .int 0, .long 0]), (qx, aJ G 6 (fun _ => 0)), (qy, aJ G 6 (fun _ => 0))]) rfl ?_
  refine z_run X bb_X6_leastOf_10_12 bk_X6_leastOf_10_12 (lv' := [(0, .ref search), (1, .int k)]) (st' := [.ref search, .ref search]) rfl ?_
  refine z_callV X k_6_65 (c_X6_costNow l G search qf qu qx qy qa qb qs qp qt) d_X6_leastOf_12 0 rfl rfl rfl ⟨Nat.le_of_ble_eq_true rfl, Nat.le_of_ble_eq_true rfl⟩ ⟨Nat.le_of_ble_eq_true rfl, Nat.le_of_ble_eq_true rfl⟩ rfl (rest := [.ref search]) (As := []) rfl (Nat.le_of_ble_eq_true rfl) [0, 1, 2] [] rfl (by decide) (wr := []) rfl (by decide) (by decide) ?_
  rintro _ _ ⟨rfl, rfl⟩
  refine Z.at (pc' := 15) (st' := [.long 0, .ref search]) (ws' := [(search, ob 6 [.int 0, .int 1, .int 0, .ref qf, .ref qu, .ref qx, .ref qy, .ref qa, .ref qb, .ref qs, .ref qp, .ref qt, .int 0, .int 0, .long 0]), (qx, aJ G 6 (fun _ => 0)), (qy, aJ G 6 (fun _ => 0))]) (kc' := 0) (ks' := 0) rfl rfl rfl rfl rfl ?_
  refine z_put X fl_6_69 d_X6_leastOf_15 0 rfl (ty := .long) (T := TX6) (N := 15) rfl (Or.inl rfl) (by decide +kernel) rfl (by rfl) (Nat.le_of_ble_eq_true rfl) (ws' := [(search, ob 6 [.int 0, .int 1, .int 0, .ref qf, .ref qu, .ref qx, .ref qy, .ref qa, .ref qb, .ref qs, .ref qp, .ref qt, .int 0, .int 0, .long 0]), (qx, aJ G 6 (fun _ => 0)), (qy, aJ G 6 (fun _ => 0))]) rfl ?_
  refine z_run X bb_X6_leastOf_18_21 bk_X6_leastOf_18_21 (lv' := [(0, .ref search), (1, .int k)]) (st' := [.int k, .int 0, .ref search]) rfl ?_
  refine z_callV X k_6_73 (c_X6_dig l G search qf qu qx qy qa qb qs qp qt k ki hk (by omega)) d_X6_leastOf_21 0 rfl rfl rfl ⟨Nat.le_of_ble_eq_true rfl, Nat.le_of_ble_eq_true rfl⟩ ⟨Nat.le_of_ble_eq_true rfl, Nat.le_of_ble_eq_true rfl⟩ rfl (rest := []) (As := [.int 0, .int k]) rfl (Nat.le_of_ble_eq_true rfl) [0, 1, 2] [] rfl (by decide) (wr := []) rfl (by decide) (by decide) ?_
  rintro _ _ ⟨rfl, rfl⟩
  refine Z.at (pc' := 24) (st' := []) (ws' := [(search, ob 6 [.int 0, .int 1, .int 0, .ref qf, .ref qu, .ref qx, .ref qy, .ref qa, .ref qb, .ref qs, .ref qp, .ref qt, .int 0, .int 0, .long 0]), (qx, aJ G 6 (fun _ => 0)), (qy, aJ G 6 (fun _ => 0))]) (kc' := 0) (ks' := 0) rfl rfl rfl rfl rfl ?_
  refine z_run X bb_X6_leastOf_24_25 bk_X6_leastOf_24_25 (lv' := [(0, .ref search), (1, .int k)]) (st' := [.ref search]) rfl ?_
  refine z_get X fl_6_69 d_X6_leastOf_25 0 rfl (v := .long 0) rfl ?_
  exact z_lret X rfl d_X6_leastOf_28 (Nat.le_of_ble_eq_true rfl) (Nat.le_of_ble_eq_true rfl) ⟨rfl, rfl⟩

theorem d_X10_startRestSearch_1 : decode cX10_startRestSearch 1 = .ok (.getfield 61, 3) := by decide +kernel
theorem d_X10_startRestSearch_5 : decode cX10_startRestSearch 5 = .ok (.invokevirtual 374, 3) := by decide +kernel
theorem d_X10_startRestSearch_9 : decode cX10_startRestSearch 9 = .ok (.getfield 61, 3) := by decide +kernel
theorem d_X10_startRestSearch_15 : decode cX10_startRestSearch 15 = .ok (.invokevirtual 348, 3) := by decide +kernel
theorem d_X10_startRestSearch_21 : decode cX10_startRestSearch 21 = .ok (.invokevirtual 348, 3) := by decide +kernel
theorem d_X10_startRestSearch_24 : decode cX10_startRestSearch 24 = .ok (.invokevirtual 377, 3) := by decide +kernel
theorem d_X10_startRestSearch_27 : decode cX10_startRestSearch 27 = .ok (.return_, 1) := by decide +kernel
abbrev bb_X10_startRestSearch_0_1 : ZB := [(.aload_n 0, .null)]
theorem bk_X10_startRestSearch_0_1 : zchk cX10_startRestSearch bb_X10_startRestSearch_0_1 0 = true ∧ zpc bb_X10_startRestSearch_0_1 0 = 1 := ⟨by decide +kernel, rfl⟩
abbrev bb_X10_startRestSearch_4_5 : ZB := [(.iconst 0, .int 0)]
theorem bk_X10_startRestSearch_4_5 : zchk cX10_startRestSearch bb_X10_startRestSearch_4_5 4 = true ∧ zpc bb_X10_startRestSearch_4_5 4 = 5 := ⟨by decide +kernel, rfl⟩
abbrev bb_X10_startRestSearch_8_9 : ZB := [(.aload_n 0, .null)]
theorem bk_X10_startRestSearch_8_9 : zchk cX10_startRestSearch bb_X10_startRestSearch_8_9 8 = true ∧ zpc bb_X10_startRestSearch_8_9 8 = 9 := ⟨by decide +kernel, rfl⟩
abbrev bb_X10_startRestSearch_12_15 : ZB := [(.aload_n 0, .null), (.iload_n 1, .null), (.iconst 0, .int 0)]
theorem bk_X10_startRestSearch_12_15 : zchk cX10_startRestSearch bb_X10_startRestSearch_12_15 12 = true ∧ zpc bb_X10_startRestSearch_12_15 12 = 15 := ⟨by decide +kernel, rfl⟩
abbrev bb_X10_startRestSearch_18_21 : ZB := [(.aload_n 0, .null), (.iload_n 1, .null), (.iconst 1, .int 1)]
theorem bk_X10_startRestSearch_18_21 : zchk cX10_startRestSearch bb_X10_startRestSearch_18_21 18 = true ∧ zpc bb_X10_startRestSearch_18_21 18 = 21 := ⟨by decide +kernel, rfl⟩
set_option maxHeartbeats 4000000 in
set_option maxRecDepth 100000 in
theorem c_X10_startRestSearch (l : Launch) (G : KG) (x : Nat) (told : Nat) (reader : Nat) (ring : Nat) (speeds : Nat) (wheel : Nat) (trials : Nat) (span : Nat) (search : Nat) (kept : Nat) (crosses : Nat) (trueM : Nat) (thought : Nat) (up : Nat) (low : Nat) (fits : Nat) (rp : Nat) (rx : Nat) (ry : Nat) (rr : Nat) (rh : Nat) (rd : Nat) (qf : Nat) (qu : Nat) (qx : Nat) (qy : Nat) (qa : Nat) (qb : Nat) (qs : Nat) (qp : Nat) (qt : Nat) (plane : Int32) (planei : Int) (hplane : plane.toInt = planei) (hp : 0 ≤ planei ∧ planei ≤ 1) : Ct l G yX10_startRestSearch cX10_startRestSearch 2 none { frames := 2, cells := 0, slots := 0, locals := 47 } [.ref x, .int plane] [(x, ob 10 [.ref told, .ref reader, .ref ring, .ref speeds, .ref wheel, .ref trials, .ref span, .ref search, .ref kept, .ref crosses, .ref trueM, .ref thought, .ref up, .ref low, .ref fits, .null]), (thought, aI G 8 (fun _ => 0)), (ring, ob 5 [.int 0, .ref rp, .ref rx, .ref ry, .ref rr, .ref rh, .ref rd, .int (-1), .int 0]), (search, ob 6 [.int 0, .int 0, .int 0, .ref qf, .ref qu, .ref qx, .ref qy, .ref qa, .ref qb, .ref qs, .ref qp, .ref qt, .int 0, .int 0, .long 0]), (qx, aJ G 6 (fun _ => 0)), (qy, aJ G 6 (fun _ => 0))] (fun r w1 => r = none ∧ w1 = [(x, ob 10 [.ref told, .ref reader, .ref ring, .ref speeds, .ref wheel, .ref trials, .ref span, .ref search, .ref kept, .ref crosses, .ref trueM, .ref thought, .ref up, .ref low, .ref fits, .null]), (thought, aI G 8 (fun _ => 0)), (ring, ob 5 [.int 0, .ref rp, .ref rx, .ref ry, .ref rr, .ref rh, .ref rd, .int (-1), .int 0]), (search, ob 6 [.int 0, .int 1, .int 0, .ref qf, .ref qu, .ref qx, .ref qy, .ref qa, .ref qb, .ref qs, .ref qp, .ref qt, .int 0, .int 0, .long 0]), (qx, aJ G 6 (fun _ => 0)), (qy, aJ G 6 (fun _ => 0))]) := by
  refine ct_of [(0, .ref x), (1, .int plane)] (by decide) (Nat.le_of_ble_eq_true rfl) rfl ?_
  intro p0 e0 s0 m0 args0 below0 meth0 c0 A X
  refine z_run X bb_X10_startRestSearch_0_1 bk_X10_startRestSearch_0_1 (lv' := [(0, .ref x), (1, .int plane)]) (st' := [.ref x]) rfl ?_
  refine z_get X fl_10_61 d_X10_startRestSearch_1 0 rfl (v := .ref search) rfl ?_
  refine z_run X bb_X10_startRestSearch_4_5 bk_X10_startRestSearch_4_5 (lv' := [(0, .ref x), (1, .int plane)]) (st' := [.int 0, .ref search]) rfl ?_
  refine z_callV X k_10_374 (c_X6_start l G search qf qu qx qy qa qb qs qp qt) d_X10_startRestSearch_5 3 rfl rfl rfl ⟨Nat.le_of_ble_eq_true rfl, Nat.le_of_ble_eq_true rfl⟩ ⟨Nat.le_of_ble_eq_true rfl, Nat.le_of_ble_eq_true rfl⟩ rfl (rest := []) (As := [.int 0]) rfl (Nat.le_of_ble_eq_true rfl) [3] [0, 1, 2, 4, 5] rfl (by decide) (wr := [(x, ob 10 [.ref told, .ref reader, .ref ring, .ref speeds, .ref wheel, .ref trials, .ref span, .ref search, .ref kept, .ref crosses, .ref trueM, .ref thought, .ref up, .ref low, .ref fits, .null]), (thought, aI G 8 (fun _ => 0)), (ring, ob 5 [.int 0, .ref rp, .ref rx, .ref ry, .ref rr, .ref rh, .ref rd, .int (-1), .int 0]), (qx, aJ G 6 (fun _ => 0)), (qy, aJ G 6 (fun _ => 0))]) rfl (by decide) (by decide) ?_
  rintro _ _ ⟨rfl, rfl⟩
  refine Z.at (pc' := 8) (st' := []) (ws' := [(x, ob 10 [.ref told, .ref reader, .ref ring, .ref speeds, .ref wheel, .ref trials, .ref span, .ref search, .ref kept, .ref crosses, .ref trueM, .ref thought, .ref up, .ref low, .ref fits, .null]), (thought, aI G 8 (fun _ => 0)), (ring, ob 5 [.int 0, .ref rp, .ref rx, .ref ry, .ref rr, .ref rh, .ref rd, .int (-1), .int 0]), (qx, aJ G 6 (fun _ => 0)), (qy, aJ G 6 (fun _ => 0)), (search, ob 6 [.int 0, .int 0, .int 0, .ref qf, .ref qu, .ref qx, .ref qy, .ref qa, .ref qb, .ref qs, .ref qp, .ref qt, .int 0, .int 0, .long 0])]) (kc' := 0) (ks' := 0) rfl rfl rfl rfl rfl ?_
  refine z_run X bb_X10_startRestSearch_8_9 bk_X10_startRestSearch_8_9 (lv' := [(0, .ref x), (1, .int plane)]) (st' := [.ref x]) rfl ?_
  refine z_get X fl_10_61 d_X10_startRestSearch_9 0 rfl (v := .ref search) rfl ?_
  refine z_run X bb_X10_startRestSearch_12_15 bk_X10_startRestSearch_12_15 (lv' := [(0, .ref x), (1, .int plane)]) (st' := [.int 0, .int plane, .ref x, .ref search]) rfl ?_
  refine z_callV X k_10_348 (c_X10_unmended l G x told reader ring speeds wheel trials span search kept crosses trueM thought up low fits rp rx ry rr rh rd plane 0 planei 0 hplane (show (0 : Int32).toInt = 0 from by decide) (by omega) (by omega)) d_X10_startRestSearch_15 0 rfl rfl rfl ⟨Nat.le_of_ble_eq_true rfl, Nat.le_of_ble_eq_true rfl⟩ ⟨Nat.le_of_ble_eq_true rfl, Nat.le_of_ble_eq_true rfl⟩ rfl (rest := [.ref search]) (As := [.int plane, .int 0]) rfl (Nat.le_of_ble_eq_true rfl) [0, 1, 2] [3, 4, 5] rfl (by decide) (wr := [(qx, aJ G 6 (fun _ => 0)), (qy, aJ G 6 (fun _ => 0)), (search, ob 6 [.int 0, .int 0, .int 0, .ref qf, .ref qu, .ref qx, .ref qy, .ref qa, .ref qb, .ref qs, .ref qp, .ref qt, .int 0, .int 0, .long 0])]) rfl (by decide) (by decide) ?_
  rintro _ _ ⟨rfl, rfl⟩
  refine Z.at (pc' := 18) (st' := [.int 0, .ref search]) (ws' := [(qx, aJ G 6 (fun _ => 0)), (qy, aJ G 6 (fun _ => 0)), (search, ob 6 [.int 0, .int 0, .int 0, .ref qf, .ref qu, .ref qx, .ref qy, .ref qa, .ref qb, .ref qs, .ref qp, .ref qt, .int 0, .int 0, .long 0]), (x, ob 10 [.ref told, .ref reader, .ref ring, .ref speeds, .ref wheel, .ref trials, .ref span, .ref search, .ref kept, .ref crosses, .ref trueM, .ref thought, .ref up, .ref low, .ref fits, .null]), (thought, aI G 8 (fun _ => 0)), (ring, ob 5 [.int 0, .ref rp, .ref rx, .ref ry, .ref rr, .ref rh, .ref rd, .int (-1), .int 0])]) (kc' := 0) (ks' := 0) rfl rfl rfl rfl rfl ?_
  refine z_run X bb_X10_startRestSearch_18_21 bk_X10_startRestSearch_18_21 (lv' := [(0, .ref x), (1, .int plane)]) (st' := [.int 1, .int plane, .ref x, .int 0, .ref search]) rfl ?_
  refine z_callV X k_10_348 (c_X10_unmended l G x told reader ring speeds wheel trials span search kept crosses trueM thought up low fits rp rx ry rr rh rd plane 1 planei 1 hplane (show (1 : Int32).toInt = 1 from by decide) (by omega) (by omega)) d_X10_startRestSearch_21 3 rfl rfl rfl ⟨Nat.le_of_ble_eq_true rfl, Nat.le_of_ble_eq_true rfl⟩ ⟨Nat.le_of_ble_eq_true rfl, Nat.le_of_ble_eq_true rfl⟩ rfl (rest := [.int 0, .ref search]) (As := [.int plane, .int 1]) rfl (Nat.le_of_ble_eq_true rfl) [3, 4, 5] [0, 1, 2] rfl (by decide) (wr := [(qx, aJ G 6 (fun _ => 0)), (qy, aJ G 6 (fun _ => 0)), (search, ob 6 [.int 0, .int 0, .int 0, .ref qf, .ref qu, .ref qx, .ref qy, .ref qa, .ref qb, .ref qs, .ref qp, .ref qt, .int 0, .int 0, .long 0])]) rfl (by decide) (by decide) ?_
  rintro _ _ ⟨rfl, rfl⟩
  refine Z.at (pc' := 24) (st' := [.int 0, .int 0, .ref search]) (ws' := [(qx, aJ G 6 (fun _ => 0)), (qy, aJ G 6 (fun _ => 0)), (search, ob 6 [.int 0, .int 0, .int 0, .ref qf, .ref qu, .ref qx, .ref qy, .ref qa, .ref qb, .ref qs, .ref qp, .ref qt, .int 0, .int 0, .long 0]), (x, ob 10 [.ref told, .ref reader, .ref ring, .ref speeds, .ref wheel, .ref trials, .ref span, .ref search, .ref kept, .ref crosses, .ref trueM, .ref thought, .ref up, .ref low, .ref fits, .null]), (thought, aI G 8 (fun _ => 0)), (ring, ob 5 [.int 0, .ref rp, .ref rx, .ref ry, .ref rr, .ref rh, .ref rd, .int (-1), .int 0])]) (kc' := 0) (ks' := 0) rfl rfl rfl rfl rfl ?_
  refine z_callV X k_10_377 (c_X6_addPoint l G search qf qu qx qy qa qb qs qp qt) d_X10_startRestSearch_24 2 rfl rfl rfl ⟨Nat.le_of_ble_eq_true rfl, Nat.le_of_ble_eq_true rfl⟩ ⟨Nat.le_of_ble_eq_true rfl, Nat.le_of_ble_eq_true rfl⟩ rfl (rest := []) (As := [.int 0, .int 0]) rfl (Nat.le_of_ble_eq_true rfl) [2, 0, 1] [3, 4, 5] rfl (by decide) (wr := [(x, ob 10 [.ref told, .ref reader, .ref ring, .ref speeds, .ref wheel, .ref trials, .ref span, .ref search, .ref kept, .ref crosses, .ref trueM, .ref thought, .ref up, .ref low, .ref fits, .null]), (thought, aI G 8 (fun _ => 0)), (ring, ob 5 [.int 0, .ref rp, .ref rx, .ref ry, .ref rr, .ref rh, .ref rd, .int (-1), .int 0])]) rfl (by decide) (by decide) ?_
  rintro _ _ ⟨rfl, rfl⟩
  refine Z.at (pc' := 27) (st' := []) (ws' := [(x, ob 10 [.ref told, .ref reader, .ref ring, .ref speeds, .ref wheel, .ref trials, .ref span, .ref search, .ref kept, .ref crosses, .ref trueM, .ref thought, .ref up, .ref low, .ref fits, .null]), (thought, aI G 8 (fun _ => 0)), (ring, ob 5 [.int 0, .ref rp, .ref rx, .ref ry, .ref rr, .ref rh, .ref rd, .int (-1), .int 0]), (search, ob 6 [.int 0, .int 1, .int 0, .ref qf, .ref qu, .ref qx, .ref qy, .ref qa, .ref qb, .ref qs, .ref qp, .ref qt, .int 0, .int 0, .long 0]), (qx, aJ G 6 (fun _ => 0)), (qy, aJ G 6 (fun _ => 0))]) (kc' := 0) (ks' := 0) rfl rfl rfl rfl rfl ?_
  exact z_vret X rfl d_X10_startRestSearch_27 (Nat.le_of_ble_eq_true rfl) (Nat.le_of_ble_eq_true rfl) ⟨rfl, rfl⟩

theorem d_X10_searchPutting_2 : decode cX10_searchPutting 2 = .ok (.invokevirtual 357, 3) := by decide +kernel
theorem d_X10_searchPutting_9 : decode cX10_searchPutting 9 = .ok (.getfield 26, 3) := by decide +kernel
theorem d_X10_searchPutting_12 : decode cX10_searchPutting 12 = .ok (.getfield 136, 3) := by decide +kernel
theorem d_X10_searchPutting_15 : decode cX10_searchPutting 15 = .ok (.if_icmp .ge 64, 3) := by decide +kernel
theorem d_X10_searchPutting_80 : decode cX10_searchPutting 80 = .ok (.getfield 61, 3) := by decide +kernel
theorem d_X10_searchPutting_84 : decode cX10_searchPutting 84 = .ok (.invokevirtual 367, 3) := by decide +kernel
theorem d_X10_searchPutting_87 : decode cX10_searchPutting 87 = .ok (.lreturn, 1) := by decide +kernel
abbrev bb_X10_searchPutting_0_2 : ZB := [(.aload_n 0, .null), (.iload_n 1, .null)]
theorem bk_X10_searchPutting_0_2 : zchk cX10_searchPutting bb_X10_searchPutting_0_2 0 = true ∧ zpc bb_X10_searchPutting_0_2 0 = 2 := ⟨by decide +kernel, rfl⟩
abbrev bb_X10_searchPutting_5_9 : ZB := [(.iconst 0, .int 0), (.istore_n 3, .null), (.iload_n 3, .null), (.aload_n 0, .null)]
theorem bk_X10_searchPutting_5_9 : zchk cX10_searchPutting bb_X10_searchPutting_5_9 5 = true ∧ zpc bb_X10_searchPutting_5_9 5 = 9 := ⟨by decide +kernel, rfl⟩
abbrev bb_X10_searchPutting_79_80 : ZB := [(.aload_n 0, .null)]
theorem bk_X10_searchPutting_79_80 : zchk cX10_searchPutting bb_X10_searchPutting_79_80 79 = true ∧ zpc bb_X10_searchPutting_79_80 79 = 80 := ⟨by decide +kernel, rfl⟩
abbrev bb_X10_searchPutting_83_84 : ZB := [(.iload_n 2, .null)]
theorem bk_X10_searchPutting_83_84 : zchk cX10_searchPutting bb_X10_searchPutting_83_84 83 = true ∧ zpc bb_X10_searchPutting_83_84 83 = 84 := ⟨by decide +kernel, rfl⟩
set_option maxHeartbeats 4000000 in
set_option maxRecDepth 100000 in
theorem c_X10_searchPutting (l : Launch) (G : KG) (x : Nat) (told : Nat) (reader : Nat) (ring : Nat) (speeds : Nat) (wheel : Nat) (trials : Nat) (span : Nat) (search : Nat) (kept : Nat) (crosses : Nat) (trueM : Nat) (thought : Nat) (up : Nat) (low : Nat) (fits : Nat) (rp : Nat) (rx : Nat) (ry : Nat) (rr : Nat) (rh : Nat) (rd : Nat) (qf : Nat) (qu : Nat) (qx : Nat) (qy : Nat) (qa : Nat) (qb : Nat) (qs : Nat) (qp : Nat) (qt : Nat) (plane : Int32) (k : Int32) (planei : Int) (ki : Int) (hplane : plane.toInt = planei) (hk : k.toInt = ki) (hp : 0 ≤ planei ∧ planei ≤ 1) (hk3 : 0 ≤ ki ∧ ki ≤ 3) : Ct l G yX10_searchPutting cX10_searchPutting 4 (some .long) { frames := 5, cells := 0, slots := 0, locals := 123 } [.ref x, .int plane, .int k] [(x, ob 10 [.ref told, .ref reader, .ref ring, .ref speeds, .ref wheel, .ref trials, .ref span, .ref search, .ref kept, .ref crosses, .ref trueM, .ref thought, .ref up, .ref low, .ref fits, .null]), (thought, aI G 8 (fun _ => 0)), (ring, ob 5 [.int 0, .ref rp, .ref rx, .ref ry, .ref rr, .ref rh, .ref rd, .int (-1), .int 0]), (search, ob 6 [.int 0, .int 0, .int 0, .ref qf, .ref qu, .ref qx, .ref qy, .ref qa, .ref qb, .ref qs, .ref qp, .ref qt, .int 0, .int 0, .long 0]), (qx, aJ G 6 (fun _ => 0)), (qy, aJ G 6 (fun _ => 0))] (fun r w1 => r = some (.long 0) ∧ w1 = [(x, ob 10 [.ref told, .ref reader, .ref ring, .ref speeds, .ref wheel, .ref trials, .ref span, .ref search, .ref kept, .ref crosses, .ref trueM, .ref thought, .ref up, .ref low, .ref fits, .null]), (thought, aI G 8 (fun _ => 0)), (ring, ob 5 [.int 0, .ref rp, .ref rx, .ref ry, .ref rr, .ref rh, .ref rd, .int (-1), .int 0]), (search, ob 6 [.int 0, .int 1, .int 0, .ref qf, .ref qu, .ref qx, .ref qy, .ref qa, .ref qb, .ref qs, .ref qp, .ref qt, .int 0, .int 0, .long 0]), (qx, aJ G 6 (fun _ => 0)), (qy, aJ G 6 (fun _ => 0))]) := by
  refine ct_of [(0, .ref x), (1, .int plane), (2, .int k)] (by decide) (Nat.le_of_ble_eq_true rfl) rfl ?_
  intro p0 e0 s0 m0 args0 below0 meth0 c0 A X
  refine z_run X bb_X10_searchPutting_0_2 bk_X10_searchPutting_0_2 (lv' := [(0, .ref x), (1, .int plane), (2, .int k)]) (st' := [.int plane, .ref x]) rfl ?_
  refine z_callV X k_10_357 (c_X10_startRestSearch l G x told reader ring speeds wheel trials span search kept crosses trueM thought up low fits rp rx ry rr rh rd qf qu qx qy qa qb qs qp qt plane planei hplane (by omega)) d_X10_searchPutting_2 0 rfl rfl rfl ⟨Nat.le_of_ble_eq_true rfl, Nat.le_of_ble_eq_true rfl⟩ ⟨Nat.le_of_ble_eq_true rfl, Nat.le_of_ble_eq_true rfl⟩ rfl (rest := []) (As := [.int plane]) rfl (Nat.le_of_ble_eq_true rfl) [0, 1, 2, 3, 4, 5] [] rfl (by decide) (wr := []) rfl (by decide) (by decide) ?_
  rintro _ _ ⟨rfl, rfl⟩
  refine Z.at (pc' := 5) (st' := []) (ws' := [(x, ob 10 [.ref told, .ref reader, .ref ring, .ref speeds, .ref wheel, .ref trials, .ref span, .ref search, .ref kept, .ref crosses, .ref trueM, .ref thought, .ref up, .ref low, .ref fits, .null]), (thought, aI G 8 (fun _ => 0)), (ring, ob 5 [.int 0, .ref rp, .ref rx, .ref ry, .ref rr, .ref rh, .ref rd, .int (-1), .int 0]), (search, ob 6 [.int 0, .int 1, .int 0, .ref qf, .ref qu, .ref qx, .ref qy, .ref qa, .ref qb, .ref qs, .ref qp, .ref qt, .int 0, .int 0, .long 0]), (qx, aJ G 6 (fun _ => 0)), (qy, aJ G 6 (fun _ => 0))]) (kc' := 0) (ks' := 0) rfl rfl rfl rfl rfl ?_
  refine z_run X bb_X10_searchPutting_5_9 bk_X10_searchPutting_5_9 (lv' := [(3, .int 0), (0, .ref x), (1, .int plane), (2, .int k)]) (st' := [.ref x, .int 0]) rfl ?_
  refine z_get X fl_10_26 d_X10_searchPutting_9 0 rfl (v := .ref ring) rfl ?_
  refine z_getN X fl_10_136 d_X10_searchPutting_12 2 rfl (v := .int 0) rfl ?_
  refine zc_ge X d_X10_searchPutting_15 (tgt := 79) (by decide) (a := 0) (b := 0) (show (0 : Int32).toInt = 0 from by decide) (show (0 : Int32).toInt = 0 from by decide) (fun _ => ?_) (fun c15_1 => absurd c15_1 (by decide))
  refine z_run X bb_X10_searchPutting_79_80 bk_X10_searchPutting_79_80 (lv' := [(3, .int 0), (0, .ref x), (1, .int plane), (2, .int k)]) (st' := [.ref x]) rfl ?_
  refine z_get X fl_10_61 d_X10_searchPutting_80 0 rfl (v := .ref search) rfl ?_
  refine z_run X bb_X10_searchPutting_83_84 bk_X10_searchPutting_83_84 (lv' := [(3, .int 0), (0, .ref x), (1, .int plane), (2, .int k)]) (st' := [.int k, .ref search]) rfl ?_
  refine z_callV X k_10_367 (c_X6_leastOf l G search qf qu qx qy qa qb qs qp qt k ki hk (by omega)) d_X10_searchPutting_84 3 rfl rfl rfl ⟨Nat.le_of_ble_eq_true rfl, Nat.le_of_ble_eq_true rfl⟩ ⟨Nat.le_of_ble_eq_true rfl, Nat.le_of_ble_eq_true rfl⟩ rfl (rest := []) (As := [.int k]) rfl (Nat.le_of_ble_eq_true rfl) [3, 4, 5] [0, 1, 2] rfl (by decide) (wr := [(x, ob 10 [.ref told, .ref reader, .ref ring, .ref speeds, .ref wheel, .ref trials, .ref span, .ref search, .ref kept, .ref crosses, .ref trueM, .ref thought, .ref up, .ref low, .ref fits, .null]), (thought, aI G 8 (fun _ => 0)), (ring, ob 5 [.int 0, .ref rp, .ref rx, .ref ry, .ref rr, .ref rh, .ref rd, .int (-1), .int 0])]) rfl (by decide) (by decide) ?_
  rintro _ _ ⟨rfl, rfl⟩
  refine Z.at (pc' := 87) (st' := [.long 0]) (ws' := [(x, ob 10 [.ref told, .ref reader, .ref ring, .ref speeds, .ref wheel, .ref trials, .ref span, .ref search, .ref kept, .ref crosses, .ref trueM, .ref thought, .ref up, .ref low, .ref fits, .null]), (thought, aI G 8 (fun _ => 0)), (ring, ob 5 [.int 0, .ref rp, .ref rx, .ref ry, .ref rr, .ref rh, .ref rd, .int (-1), .int 0]), (search, ob 6 [.int 0, .int 1, .int 0, .ref qf, .ref qu, .ref qx, .ref qy, .ref qa, .ref qb, .ref qs, .ref qp, .ref qt, .int 0, .int 0, .long 0]), (qx, aJ G 6 (fun _ => 0)), (qy, aJ G 6 (fun _ => 0))]) (kc' := 0) (ks' := 0) rfl rfl rfl rfl rfl ?_
  exact z_lret X rfl d_X10_searchPutting_87 (Nat.le_of_ble_eq_true rfl) (Nat.le_of_ble_eq_true rfl) ⟨rfl, rfl⟩

theorem d_X10_tellSearched_1 : decode cX10_tellSearched 1 = .ok (.getfield 12, 3) := by decide +kernel
theorem d_X10_tellSearched_4 : decode cX10_tellSearched 4 = .ok (.invokevirtual 180, 3) := by decide +kernel
theorem d_X10_tellSearched_11 : decode cX10_tellSearched 11 = .ok (.getfield 61, 3) := by decide +kernel
theorem d_X10_tellSearched_14 : decode cX10_tellSearched 14 = .ok (.getfield 380, 3) := by decide +kernel
theorem d_X10_tellSearched_17 : decode cX10_tellSearched 17 = .ok (.if_icmp .ge 26, 3) := by decide +kernel
theorem d_X10_tellSearched_43 : decode cX10_tellSearched 43 = .ok (.return_, 1) := by decide +kernel
abbrev bb_X10_tellSearched_0_1 : ZB := [(.aload_n 0, .null)]
theorem bk_X10_tellSearched_0_1 : zchk cX10_tellSearched bb_X10_tellSearched_0_1 0 = true ∧ zpc bb_X10_tellSearched_0_1 0 = 1 := ⟨by decide +kernel, rfl⟩
abbrev bb_X10_tellSearched_7_11 : ZB := [(.iconst 0, .int 0), (.istore_n 1, .null), (.iload_n 1, .null), (.aload_n 0, .null)]
theorem bk_X10_tellSearched_7_11 : zchk cX10_tellSearched bb_X10_tellSearched_7_11 7 = true ∧ zpc bb_X10_tellSearched_7_11 7 = 11 := ⟨by decide +kernel, rfl⟩
set_option maxHeartbeats 4000000 in
set_option maxRecDepth 100000 in
theorem c_X10_tellSearched (l : Launch) (G : KG) (x : Nat) (told : Nat) (reader : Nat) (ring : Nat) (speeds : Nat) (wheel : Nat) (trials : Nat) (span : Nat) (search : Nat) (kept : Nat) (crosses : Nat) (trueM : Nat) (thought : Nat) (up : Nat) (low : Nat) (fits : Nat) (qf : Nat) (qu : Nat) (qx : Nat) (qy : Nat) (qa : Nat) (qb : Nat) (qs : Nat) (qp : Nat) (qt : Nat) (tn : Nat) : Ct l G yX10_tellSearched cX10_tellSearched 2 none { frames := 1, cells := 0, slots := 0, locals := 20 } [.ref x] [(x, ob 10 [.ref told, .ref reader, .ref ring, .ref speeds, .ref wheel, .ref trials, .ref span, .ref search, .ref kept, .ref crosses, .ref trueM, .ref thought, .ref up, .ref low, .ref fits, .null]), (search, ob 6 [.int 0, .int 1, .int 0, .ref qf, .ref qu, .ref qx, .ref qy, .ref qa, .ref qb, .ref qs, .ref qp, .ref qt, .int 0, .int 0, .long 0]), (told, ob 8 [.ref tn, .int 0])] (fun r _ => r = none) := by
  refine ct_of [(0, .ref x)] (by decide) (Nat.le_of_ble_eq_true rfl) rfl ?_
  intro p0 e0 s0 m0 args0 below0 meth0 c0 A X
  refine z_run X bb_X10_tellSearched_0_1 bk_X10_tellSearched_0_1 (lv' := [(0, .ref x)]) (st' := [.ref x]) rfl ?_
  refine z_get X fl_10_12 d_X10_tellSearched_1 0 rfl (v := .ref told) rfl ?_
  refine z_callV X k_10_180 (c_X8_start0 l G told tn) d_X10_tellSearched_4 2 rfl rfl rfl ⟨Nat.le_of_ble_eq_true rfl, Nat.le_of_ble_eq_true rfl⟩ ⟨Nat.le_of_ble_eq_true rfl, Nat.le_of_ble_eq_true rfl⟩ rfl (rest := []) (As := []) rfl (Nat.le_of_ble_eq_true rfl) [2] [0, 1] rfl (by decide) (wr := [(x, ob 10 [.ref told, .ref reader, .ref ring, .ref speeds, .ref wheel, .ref trials, .ref span, .ref search, .ref kept, .ref crosses, .ref trueM, .ref thought, .ref up, .ref low, .ref fits, .null]), (search, ob 6 [.int 0, .int 1, .int 0, .ref qf, .ref qu, .ref qx, .ref qy, .ref qa, .ref qb, .ref qs, .ref qp, .ref qt, .int 0, .int 0, .long 0])]) rfl (by decide) (by decide) ?_
  rintro _ _ ⟨rfl, rfl⟩
  refine Z.at (pc' := 7) (st' := []) (ws' := [(x, ob 10 [.ref told, .ref reader, .ref ring, .ref speeds, .ref wheel, .ref trials, .ref span, .ref search, .ref kept, .ref crosses, .ref trueM, .ref thought, .ref up, .ref low, .ref fits, .null]), (search, ob 6 [.int 0, .int 1, .int 0, .ref qf, .ref qu, .ref qx, .ref qy, .ref qa, .ref qb, .ref qs, .ref qp, .ref qt, .int 0, .int 0, .long 0]), (told, ob 8 [.ref tn, .int 0])]) (kc' := 0) (ks' := 0) rfl rfl rfl rfl rfl ?_
  refine z_run X bb_X10_tellSearched_7_11 bk_X10_tellSearched_7_11 (lv' := [(1, .int 0), (0, .ref x)]) (st' := [.ref x, .int 0]) rfl ?_
  refine z_get X fl_10_61 d_X10_tellSearched_11 0 rfl (v := .ref search) rfl ?_
  refine z_getN X fl_10_380 d_X10_tellSearched_14 1 rfl (v := .int 0) rfl ?_
  refine zc_ge X d_X10_tellSearched_17 (tgt := 43) (by decide) (a := 0) (b := 0) (show (0 : Int32).toInt = 0 from by decide) (show (0 : Int32).toInt = 0 from by decide) (fun _ => ?_) (fun c17_1 => absurd c17_1 (by decide))
  exact z_vret X rfl d_X10_tellSearched_43 (Nat.le_of_ble_eq_true rfl) (Nat.le_of_ble_eq_true rfl) rfl

theorem d_X10_best_1 : decode cX10_best 1 = .ok (.invokestatic 156, 3) := by decide +kernel
theorem d_X10_best_4 : decode cX10_best 4 = .ok (.ifCond .eq 13, 3) := by decide +kernel
theorem d_X10_best_17 : decode cX10_best 17 = .ok (.ldc2_w 346, 3) := by decide +kernel
theorem d_X10_best_20 : decode cX10_best 20 = .ok (.lreturn, 1) := by decide +kernel
theorem d_X10_best_9 : decode cX10_best 9 = .ok (.if_icmp .lt 8, 3) := by decide +kernel
theorem d_X10_best_14 : decode cX10_best 14 = .ok (.if_icmp .le 7, 3) := by decide +kernel
theorem d_X10_best_24 : decode cX10_best 24 = .ok (.invokevirtual 351, 3) := by decide +kernel
theorem d_X10_best_29 : decode cX10_best 29 = .ok (.invokevirtual 354, 3) := by decide +kernel
theorem d_X10_best_33 : decode cX10_best 33 = .ok (.lreturn, 1) := by decide +kernel
abbrev bb_X10_best_0_1 : ZB := [(.iload_n 1, .null)]
theorem bk_X10_best_0_1 : zchk cX10_best bb_X10_best_0_1 0 = true ∧ zpc bb_X10_best_0_1 0 = 1 := ⟨by decide +kernel, rfl⟩
abbrev bb_X10_best_7_9 : ZB := [(.iload_n 2, .null), (.iconst 1, .int 1)]
theorem bk_X10_best_7_9 : zchk cX10_best bb_X10_best_7_9 7 = true ∧ zpc bb_X10_best_7_9 7 = 9 := ⟨by decide +kernel, rfl⟩
abbrev bb_X10_best_12_14 : ZB := [(.iload_n 2, .null), (.iconst 3, .int 3)]
theorem bk_X10_best_12_14 : zchk cX10_best bb_X10_best_12_14 12 = true ∧ zpc bb_X10_best_12_14 12 = 14 := ⟨by decide +kernel, rfl⟩
abbrev bb_X10_best_21_24 : ZB := [(.aload_n 0, .null), (.iload_n 1, .null), (.iload_n 2, .null)]
theorem bk_X10_best_21_24 : zchk cX10_best bb_X10_best_21_24 21 = true ∧ zpc bb_X10_best_21_24 21 = 24 := ⟨by decide +kernel, rfl⟩
abbrev bb_X10_best_27_29 : ZB := [(.lstore_n 3, .null), (.aload_n 0, .null)]
theorem bk_X10_best_27_29 : zchk cX10_best bb_X10_best_27_29 27 = true ∧ zpc bb_X10_best_27_29 27 = 29 := ⟨by decide +kernel, rfl⟩
abbrev bb_X10_best_32_33 : ZB := [(.lload_n 3, .null)]
theorem bk_X10_best_32_33 : zchk cX10_best bb_X10_best_32_33 32 = true ∧ zpc bb_X10_best_32_33 32 = 33 := ⟨by decide +kernel, rfl⟩
set_option maxHeartbeats 4000000 in
set_option maxRecDepth 100000 in
theorem c_X10_best (l : Launch) (G : KG) (x : Nat) (told : Nat) (reader : Nat) (ring : Nat) (speeds : Nat) (wheel : Nat) (trials : Nat) (span : Nat) (search : Nat) (kept : Nat) (crosses : Nat) (trueM : Nat) (thought : Nat) (up : Nat) (low : Nat) (fits : Nat) (rp : Nat) (rx : Nat) (ry : Nat) (rr : Nat) (rh : Nat) (rd : Nat) (qf : Nat) (qu : Nat) (qx : Nat) (qy : Nat) (qa : Nat) (qb : Nat) (qs : Nat) (qp : Nat) (qt : Nat) (tn : Nat) (plane : Int32) (k : Int32) (planei : Int) (ki : Int) (hplane : plane.toInt = planei) (hk : k.toInt = ki) : Ct l G yX10_best cX10_best 5 (some .long) { frames := 6, cells := 0, slots := 0, locals := 146 } [.ref x, .int plane, .int k] [(x, ob 10 [.ref told, .ref reader, .ref ring, .ref speeds, .ref wheel, .ref trials, .ref span, .ref search, .ref kept, .ref crosses, .ref trueM, .ref thought, .ref up, .ref low, .ref fits, .null]), (thought, aI G 8 (fun _ => 0)), (ring, ob 5 [.int 0, .ref rp, .ref rx, .ref ry, .ref rr, .ref rh, .ref rd, .int (-1), .int 0]), (search, ob 6 [.int 0, .int 0, .int 0, .ref qf, .ref qu, .ref qx, .ref qy, .ref qa, .ref qb, .ref qs, .ref qp, .ref qt, .int 0, .int 0, .long 0]), (qx, aJ G 6 (fun _ => 0)), (qy, aJ G 6 (fun _ => 0)), (told, ob 8 [.ref tn, .int 0]), (tn, aJ G 16 (fun _ => 0))] (fun r _ => r = some (.long (an_pk planei ki 3))) := by
  refine ct_of [(0, .ref x), (1, .int plane), (2, .int k)] (by decide) (Nat.le_of_ble_eq_true rfl) rfl ?_
  intro p0 e0 s0 m0 args0 below0 meth0 c0 A X
  refine z_run X bb_X10_best_0_1 bk_X10_best_0_1 (lv' := [(0, .ref x), (1, .int plane), (2, .int k)]) (st' := [.int plane]) rfl ?_
  refine z_callS X k_10_156 (c_X10_isOneOfTwo l G plane planei hplane) d_X10_best_1 ⟨Nat.le_of_ble_eq_true rfl, Nat.le_of_ble_eq_true rfl⟩ ⟨Nat.le_of_ble_eq_true rfl, Nat.le_of_ble_eq_true rfl⟩ rfl (rest := []) (As := [.int plane]) rfl (Nat.le_of_ble_eq_true rfl) [] [0, 1, 2, 3, 4, 5, 6, 7] rfl (by decide) (wr := [(x, ob 10 [.ref told, .ref reader, .ref ring, .ref speeds, .ref wheel, .ref trials, .ref span, .ref search, .ref kept, .ref crosses, .ref trueM, .ref thought, .ref up, .ref low, .ref fits, .null]), (thought, aI G 8 (fun _ => 0)), (ring, ob 5 [.int 0, .ref rp, .ref rx, .ref ry, .ref rr, .ref rh, .ref rd, .int (-1), .int 0]), (search, ob 6 [.int 0, .int 0, .int 0, .ref qf, .ref qu, .ref qx, .ref qy, .ref qa, .ref qb, .ref qs, .ref qp, .ref qt, .int 0, .int 0, .long 0]), (qx, aJ G 6 (fun _ => 0)), (qy, aJ G 6 (fun _ => 0)), (told, ob 8 [.ref tn, .int 0]), (tn, aJ G 16 (fun _ => 0))]) rfl (by decide) (by decide) ?_
  rintro _ _ ⟨rfl, rfl⟩
  refine Z.at (pc' := 4) (st' := [.int (zb (decide (planei = 0 ∨ planei = 1)))]) (ws' := [(x, ob 10 [.ref told, .ref reader, .ref ring, .ref speeds, .ref wheel, .ref trials, .ref span, .ref search, .ref kept, .ref crosses, .ref trueM, .ref thought, .ref up, .ref low, .ref fits, .null]), (thought, aI G 8 (fun _ => 0)), (ring, ob 5 [.int 0, .ref rp, .ref rx, .ref ry, .ref rr, .ref rh, .ref rd, .int (-1), .int 0]), (search, ob 6 [.int 0, .int 0, .int 0, .ref qf, .ref qu, .ref qx, .ref qy, .ref qa, .ref qb, .ref qs, .ref qp, .ref qt, .int 0, .int 0, .long 0]), (qx, aJ G 6 (fun _ => 0)), (qy, aJ G 6 (fun _ => 0)), (told, ob 8 [.ref tn, .int 0]), (tn, aJ G 16 (fun _ => 0))]) (kc' := 0) (ks' := 0) rfl rfl rfl rfl rfl ?_
  refine zi_eq_zb X d_X10_best_4 (tgt := 17) (by decide) (fun c4_1 => ?_) (fun c4_1 => ?_)
  ·
    refine z_ldc2 X d_X10_best_17 cn_10_346 ?_
    exact z_lret X rfl d_X10_best_20 (Nat.le_of_ble_eq_true rfl) (Nat.le_of_ble_eq_true rfl) (congrArg (fun z => some (Value.long z)) (by unfold an_pk; (repeat' split) <;> first | rfl | (exfalso; omega)))
  ·
    refine z_run X bb_X10_best_7_9 bk_X10_best_7_9 (lv' := [(0, .ref x), (1, .int plane), (2, .int k)]) (st' := [.int 1, .int k]) rfl ?_
    refine zc_lt X d_X10_best_9 (tgt := 17) (by decide) (a := ki) (b := 1) hk (show (1 : Int32).toInt = 1 from by decide) (fun c9_2 => ?_) (fun c9_2 => ?_)
    ·
      refine z_ldc2 X d_X10_best_17 cn_10_346 ?_
      exact z_lret X rfl d_X10_best_20 (Nat.le_of_ble_eq_true rfl) (Nat.le_of_ble_eq_true rfl) (congrArg (fun z => some (Value.long z)) (by unfold an_pk; (repeat' split) <;> first | rfl | (exfalso; omega)))
    ·
      refine z_run X bb_X10_best_12_14 bk_X10_best_12_14 (lv' := [(0, .ref x), (1, .int plane), (2, .int k)]) (st' := [.int 3, .int k]) rfl ?_
      refine zc_le X d_X10_best_14 (tgt := 21) (by decide) (a := ki) (b := 3) hk (show (3 : Int32).toInt = 3 from by decide) (fun c14_3 => ?_) (fun c14_3 => ?_)
      ·
        refine z_run X bb_X10_best_21_24 bk_X10_best_21_24 (lv' := [(0, .ref x), (1, .int plane), (2, .int k)]) (st' := [.int k, .int plane, .ref x]) rfl ?_
        refine z_callV X k_10_351 (c_X10_searchPutting l G x told reader ring speeds wheel trials span search kept crosses trueM thought up low fits rp rx ry rr rh rd qf qu qx qy qa qb qs qp qt plane k planei ki hplane hk (by omega) (by omega)) d_X10_best_24 0 rfl rfl rfl ⟨Nat.le_of_ble_eq_true rfl, Nat.le_of_ble_eq_true rfl⟩ ⟨Nat.le_of_ble_eq_true rfl, Nat.le_of_ble_eq_true rfl⟩ rfl (rest := []) (As := [.int plane, .int k]) rfl (Nat.le_of_ble_eq_true rfl) [0, 1, 2, 3, 4, 5] [6, 7] rfl (by decide) (wr := [(told, ob 8 [.ref tn, .int 0]), (tn, aJ G 16 (fun _ => 0))]) rfl (by decide) (by decide) ?_
        rintro _ _ ⟨rfl, rfl⟩
        refine Z.at (pc' := 27) (st' := [.long 0]) (ws' := [(told, ob 8 [.ref tn, .int 0]), (tn, aJ G 16 (fun _ => 0)), (x, ob 10 [.ref told, .ref reader, .ref ring, .ref speeds, .ref wheel, .ref trials, .ref span, .ref search, .ref kept, .ref crosses, .ref trueM, .ref thought, .ref up, .ref low, .ref fits, .null]), (thought, aI G 8 (fun _ => 0)), (ring, ob 5 [.int 0, .ref rp, .ref rx, .ref ry, .ref rr, .ref rh, .ref rd, .int (-1), .int 0]), (search, ob 6 [.int 0, .int 1, .int 0, .ref qf, .ref qu, .ref qx, .ref qy, .ref qa, .ref qb, .ref qs, .ref qp, .ref qt, .int 0, .int 0, .long 0]), (qx, aJ G 6 (fun _ => 0)), (qy, aJ G 6 (fun _ => 0))]) (kc' := 0) (ks' := 0) rfl rfl rfl rfl rfl ?_
        refine z_run X bb_X10_best_27_29 bk_X10_best_27_29 (lv' := [(3, .long 0), (0, .ref x), (1, .int plane), (2, .int k)]) (st' := [.ref x]) rfl ?_
        refine z_callV X k_10_354 (c_X10_tellSearched l G x told reader ring speeds wheel trials span search kept crosses trueM thought up low fits qf qu qx qy qa qb qs qp qt tn) d_X10_best_29 2 rfl rfl rfl ⟨Nat.le_of_ble_eq_true rfl, Nat.le_of_ble_eq_true rfl⟩ ⟨Nat.le_of_ble_eq_true rfl, Nat.le_of_ble_eq_true rfl⟩ rfl (rest := []) (As := []) rfl (Nat.le_of_ble_eq_true rfl) [2, 5, 0] [1, 3, 4, 6, 7] rfl (by decide) (wr := [(tn, aJ G 16 (fun _ => 0)), (thought, aI G 8 (fun _ => 0)), (ring, ob 5 [.int 0, .ref rp, .ref rx, .ref ry, .ref rr, .ref rh, .ref rd, .int (-1), .int 0]), (qx, aJ G 6 (fun _ => 0)), (qy, aJ G 6 (fun _ => 0))]) rfl (by decide) (by decide) ?_
        rintro _ _ rfl
        refine Z.sub (lv' := [(3, .long 0), (0, .ref x), (1, .int plane), (2, .int k)]) [0, 1, 2, 3] rfl [0, 1, 2, 3, 4] (ws' := [(tn, aJ G 16 (fun _ => 0)), (thought, aI G 8 (fun _ => 0)), (ring, ob 5 [.int 0, .ref rp, .ref rx, .ref ry, .ref rr, .ref rh, .ref rd, .int (-1), .int 0]), (qx, aJ G 6 (fun _ => 0)), (qy, aJ G 6 (fun _ => 0))]) rfl (by decide) ?_
        refine Z.at (pc' := 32) (st' := []) (ws' := [(tn, aJ G 16 (fun _ => 0)), (thought, aI G 8 (fun _ => 0)), (ring, ob 5 [.int 0, .ref rp, .ref rx, .ref ry, .ref rr, .ref rh, .ref rd, .int (-1), .int 0]), (qx, aJ G 6 (fun _ => 0)), (qy, aJ G 6 (fun _ => 0))]) (kc' := 0) (ks' := 0) rfl rfl rfl rfl rfl ?_
        refine z_run X bb_X10_best_32_33 bk_X10_best_32_33 (lv' := [(3, .long 0), (0, .ref x), (1, .int plane), (2, .int k)]) (st' := [.long 0]) rfl ?_
        exact z_lret X rfl d_X10_best_33 (Nat.le_of_ble_eq_true rfl) (Nat.le_of_ble_eq_true rfl) (congrArg (fun z => some (Value.long z)) (by unfold an_pk; (repeat' split) <;> first | rfl | (exfalso; omega)))
      ·
        refine z_ldc2 X d_X10_best_17 cn_10_346 ?_
        exact z_lret X rfl d_X10_best_20 (Nat.le_of_ble_eq_true rfl) (Nat.le_of_ble_eq_true rfl) (congrArg (fun z => some (Value.long z)) (by unfold an_pk; (repeat' split) <;> first | rfl | (exfalso; omega)))

theorem d_X10_off_1 : decode cX10_off 1 = .ok (.invokestatic 156, 3) := by decide +kernel
theorem d_X10_off_4 : decode cX10_off 4 = .ok (.ifCond .eq 13, 3) := by decide +kernel
theorem d_X10_off_17 : decode cX10_off 17 = .ok (.ldc2_w 346, 3) := by decide +kernel
theorem d_X10_off_20 : decode cX10_off 20 = .ok (.lreturn, 1) := by decide +kernel
theorem d_X10_off_9 : decode cX10_off 9 = .ok (.if_icmp .lt 8, 3) := by decide +kernel
theorem d_X10_off_14 : decode cX10_off 14 = .ok (.if_icmp .le 7, 3) := by decide +kernel
theorem d_X10_off_23 : decode cX10_off 23 = .ok (.invokevirtual 357, 3) := by decide +kernel
theorem d_X10_off_30 : decode cX10_off 30 = .ok (.getfield 26, 3) := by decide +kernel
theorem d_X10_off_33 : decode cX10_off 33 = .ok (.getfield 136, 3) := by decide +kernel
theorem d_X10_off_36 : decode cX10_off 36 = .ok (.if_icmp .ge 77, 3) := by decide +kernel
theorem d_X10_off_114 : decode cX10_off 114 = .ok (.getfield 61, 3) := by decide +kernel
theorem d_X10_off_118 : decode cX10_off 118 = .ok (.invokevirtual 367, 3) := by decide +kernel
theorem d_X10_off_123 : decode cX10_off 123 = .ok (.invokevirtual 354, 3) := by decide +kernel
theorem d_X10_off_127 : decode cX10_off 127 = .ok (.lreturn, 1) := by decide +kernel
abbrev bb_X10_off_0_1 : ZB := [(.iload_n 1, .null)]
theorem bk_X10_off_0_1 : zchk cX10_off bb_X10_off_0_1 0 = true ∧ zpc bb_X10_off_0_1 0 = 1 := ⟨by decide +kernel, rfl⟩
abbrev bb_X10_off_7_9 : ZB := [(.iload_n 2, .null), (.iconst 1, .int 1)]
theorem bk_X10_off_7_9 : zchk cX10_off bb_X10_off_7_9 7 = true ∧ zpc bb_X10_off_7_9 7 = 9 := ⟨by decide +kernel, rfl⟩
abbrev bb_X10_off_12_14 : ZB := [(.iload_n 2, .null), (.iconst 3, .int 3)]
theorem bk_X10_off_12_14 : zchk cX10_off bb_X10_off_12_14 12 = true ∧ zpc bb_X10_off_12_14 12 = 14 := ⟨by decide +kernel, rfl⟩
abbrev bb_X10_off_21_23 : ZB := [(.aload_n 0, .null), (.iload_n 1, .null)]
theorem bk_X10_off_21_23 : zchk cX10_off bb_X10_off_21_23 21 = true ∧ zpc bb_X10_off_21_23 21 = 23 := ⟨by decide +kernel, rfl⟩
abbrev bb_X10_off_26_30 : ZB := [(.iconst 0, .int 0), (.istore_n 3, .null), (.iload_n 3, .null), (.aload_n 0, .null)]
theorem bk_X10_off_26_30 : zchk cX10_off bb_X10_off_26_30 26 = true ∧ zpc bb_X10_off_26_30 26 = 30 := ⟨by decide +kernel, rfl⟩
abbrev bb_X10_off_113_114 : ZB := [(.aload_n 0, .null)]
theorem bk_X10_off_113_114 : zchk cX10_off bb_X10_off_113_114 113 = true ∧ zpc bb_X10_off_113_114 113 = 114 := ⟨by decide +kernel, rfl⟩
abbrev bb_X10_off_117_118 : ZB := [(.iload_n 2, .null)]
theorem bk_X10_off_117_118 : zchk cX10_off bb_X10_off_117_118 117 = true ∧ zpc bb_X10_off_117_118 117 = 118 := ⟨by decide +kernel, rfl⟩
abbrev bb_X10_off_121_123 : ZB := [(.lstore_n 3, .null), (.aload_n 0, .null)]
theorem bk_X10_off_121_123 : zchk cX10_off bb_X10_off_121_123 121 = true ∧ zpc bb_X10_off_121_123 121 = 123 := ⟨by decide +kernel, rfl⟩
abbrev bb_X10_off_126_127 : ZB := [(.lload_n 3, .null)]
theorem bk_X10_off_126_127 : zchk cX10_off bb_X10_off_126_127 126 = true ∧ zpc bb_X10_off_126_127 126 = 127 := ⟨by decide +kernel, rfl⟩
set_option maxHeartbeats 4000000 in
set_option maxRecDepth 100000 in
theorem c_X10_off (l : Launch) (G : KG) (x : Nat) (told : Nat) (reader : Nat) (ring : Nat) (speeds : Nat) (wheel : Nat) (trials : Nat) (span : Nat) (search : Nat) (kept : Nat) (crosses : Nat) (trueM : Nat) (thought : Nat) (up : Nat) (low : Nat) (fits : Nat) (rp : Nat) (rx : Nat) (ry : Nat) (rr : Nat) (rh : Nat) (rd : Nat) (qf : Nat) (qu : Nat) (qx : Nat) (qy : Nat) (qa : Nat) (qb : Nat) (qs : Nat) (qp : Nat) (qt : Nat) (tn : Nat) (plane : Int32) (k : Int32) (planei : Int) (ki : Int) (hplane : plane.toInt = planei) (hk : k.toInt = ki) : Ct l G yX10_off cX10_off 5 (some .long) { frames := 5, cells := 0, slots := 0, locals := 123 } [.ref x, .int plane, .int k] [(x, ob 10 [.ref told, .ref reader, .ref ring, .ref speeds, .ref wheel, .ref trials, .ref span, .ref search, .ref kept, .ref crosses, .ref trueM, .ref thought, .ref up, .ref low, .ref fits, .null]), (thought, aI G 8 (fun _ => 0)), (ring, ob 5 [.int 0, .ref rp, .ref rx, .ref ry, .ref rr, .ref rh, .ref rd, .int (-1), .int 0]), (search, ob 6 [.int 0, .int 0, .int 0, .ref qf, .ref qu, .ref qx, .ref qy, .ref qa, .ref qb, .ref qs, .ref qp, .ref qt, .int 0, .int 0, .long 0]), (qx, aJ G 6 (fun _ => 0)), (qy, aJ G 6 (fun _ => 0)), (told, ob 8 [.ref tn, .int 0]), (tn, aJ G 16 (fun _ => 0))] (fun r _ => r = some (.long (an_pk planei ki 3))) := by
  refine ct_of [(0, .ref x), (1, .int plane), (2, .int k)] (by decide) (Nat.le_of_ble_eq_true rfl) rfl ?_
  intro p0 e0 s0 m0 args0 below0 meth0 c0 A X
  refine z_run X bb_X10_off_0_1 bk_X10_off_0_1 (lv' := [(0, .ref x), (1, .int plane), (2, .int k)]) (st' := [.int plane]) rfl ?_
  refine z_callS X k_10_156 (c_X10_isOneOfTwo l G plane planei hplane) d_X10_off_1 ⟨Nat.le_of_ble_eq_true rfl, Nat.le_of_ble_eq_true rfl⟩ ⟨Nat.le_of_ble_eq_true rfl, Nat.le_of_ble_eq_true rfl⟩ rfl (rest := []) (As := [.int plane]) rfl (Nat.le_of_ble_eq_true rfl) [] [0, 1, 2, 3, 4, 5, 6, 7] rfl (by decide) (wr := [(x, ob 10 [.ref told, .ref reader, .ref ring, .ref speeds, .ref wheel, .ref trials, .ref span, .ref search, .ref kept, .ref crosses, .ref trueM, .ref thought, .ref up, .ref low, .ref fits, .null]), (thought, aI G 8 (fun _ => 0)), (ring, ob 5 [.int 0, .ref rp, .ref rx, .ref ry, .ref rr, .ref rh, .ref rd, .int (-1), .int 0]), (search, ob 6 [.int 0, .int 0, .int 0, .ref qf, .ref qu, .ref qx, .ref qy, .ref qa, .ref qb, .ref qs, .ref qp, .ref qt, .int 0, .int 0, .long 0]), (qx, aJ G 6 (fun _ => 0)), (qy, aJ G 6 (fun _ => 0)), (told, ob 8 [.ref tn, .int 0]), (tn, aJ G 16 (fun _ => 0))]) rfl (by decide) (by decide) ?_
  rintro _ _ ⟨rfl, rfl⟩
  refine Z.at (pc' := 4) (st' := [.int (zb (decide (planei = 0 ∨ planei = 1)))]) (ws' := [(x, ob 10 [.ref told, .ref reader, .ref ring, .ref speeds, .ref wheel, .ref trials, .ref span, .ref search, .ref kept, .ref crosses, .ref trueM, .ref thought, .ref up, .ref low, .ref fits, .null]), (thought, aI G 8 (fun _ => 0)), (ring, ob 5 [.int 0, .ref rp, .ref rx, .ref ry, .ref rr, .ref rh, .ref rd, .int (-1), .int 0]), (search, ob 6 [.int 0, .int 0, .int 0, .ref qf, .ref qu, .ref qx, .ref qy, .ref qa, .ref qb, .ref qs, .ref qp, .ref qt, .int 0, .int 0, .long 0]), (qx, aJ G 6 (fun _ => 0)), (qy, aJ G 6 (fun _ => 0)), (told, ob 8 [.ref tn, .int 0]), (tn, aJ G 16 (fun _ => 0))]) (kc' := 0) (ks' := 0) rfl rfl rfl rfl rfl ?_
  refine zi_eq_zb X d_X10_off_4 (tgt := 17) (by decide) (fun c4_1 => ?_) (fun c4_1 => ?_)
  ·
    refine z_ldc2 X d_X10_off_17 cn_10_346 ?_
    exact z_lret X rfl d_X10_off_20 (Nat.le_of_ble_eq_true rfl) (Nat.le_of_ble_eq_true rfl) (congrArg (fun z => some (Value.long z)) (by unfold an_pk; (repeat' split) <;> first | rfl | (exfalso; omega)))
  ·
    refine z_run X bb_X10_off_7_9 bk_X10_off_7_9 (lv' := [(0, .ref x), (1, .int plane), (2, .int k)]) (st' := [.int 1, .int k]) rfl ?_
    refine zc_lt X d_X10_off_9 (tgt := 17) (by decide) (a := ki) (b := 1) hk (show (1 : Int32).toInt = 1 from by decide) (fun c9_2 => ?_) (fun c9_2 => ?_)
    ·
      refine z_ldc2 X d_X10_off_17 cn_10_346 ?_
      exact z_lret X rfl d_X10_off_20 (Nat.le_of_ble_eq_true rfl) (Nat.le_of_ble_eq_true rfl) (congrArg (fun z => some (Value.long z)) (by unfold an_pk; (repeat' split) <;> first | rfl | (exfalso; omega)))
    ·
      refine z_run X bb_X10_off_12_14 bk_X10_off_12_14 (lv' := [(0, .ref x), (1, .int plane), (2, .int k)]) (st' := [.int 3, .int k]) rfl ?_
      refine zc_le X d_X10_off_14 (tgt := 21) (by decide) (a := ki) (b := 3) hk (show (3 : Int32).toInt = 3 from by decide) (fun c14_3 => ?_) (fun c14_3 => ?_)
      ·
        refine z_run X bb_X10_off_21_23 bk_X10_off_21_23 (lv' := [(0, .ref x), (1, .int plane), (2, .int k)]) (st' := [.int plane, .ref x]) rfl ?_
        refine z_callV X k_10_357 (c_X10_startRestSearch l G x told reader ring speeds wheel trials span search kept crosses trueM thought up low fits rp rx ry rr rh rd qf qu qx qy qa qb qs qp qt plane planei hplane (by omega)) d_X10_off_23 0 rfl rfl rfl ⟨Nat.le_of_ble_eq_true rfl, Nat.le_of_ble_eq_true rfl⟩ ⟨Nat.le_of_ble_eq_true rfl, Nat.le_of_ble_eq_true rfl⟩ rfl (rest := []) (As := [.int plane]) rfl (Nat.le_of_ble_eq_true rfl) [0, 1, 2, 3, 4, 5] [6, 7] rfl (by decide) (wr := [(told, ob 8 [.ref tn, .int 0]), (tn, aJ G 16 (fun _ => 0))]) rfl (by decide) (by decide) ?_
        rintro _ _ ⟨rfl, rfl⟩
        refine Z.at (pc' := 26) (st' := []) (ws' := [(told, ob 8 [.ref tn, .int 0]), (tn, aJ G 16 (fun _ => 0)), (x, ob 10 [.ref told, .ref reader, .ref ring, .ref speeds, .ref wheel, .ref trials, .ref span, .ref search, .ref kept, .ref crosses, .ref trueM, .ref thought, .ref up, .ref low, .ref fits, .null]), (thought, aI G 8 (fun _ => 0)), (ring, ob 5 [.int 0, .ref rp, .ref rx, .ref ry, .ref rr, .ref rh, .ref rd, .int (-1), .int 0]), (search, ob 6 [.int 0, .int 1, .int 0, .ref qf, .ref qu, .ref qx, .ref qy, .ref qa, .ref qb, .ref qs, .ref qp, .ref qt, .int 0, .int 0, .long 0]), (qx, aJ G 6 (fun _ => 0)), (qy, aJ G 6 (fun _ => 0))]) (kc' := 0) (ks' := 0) rfl rfl rfl rfl rfl ?_
        refine z_run X bb_X10_off_26_30 bk_X10_off_26_30 (lv' := [(3, .int 0), (0, .ref x), (1, .int plane), (2, .int k)]) (st' := [.ref x, .int 0]) rfl ?_
        refine z_get X fl_10_26 d_X10_off_30 2 rfl (v := .ref ring) rfl ?_
        refine z_getN X fl_10_136 d_X10_off_33 4 rfl (v := .int 0) rfl ?_
        refine zc_ge X d_X10_off_36 (tgt := 113) (by decide) (a := 0) (b := 0) (show (0 : Int32).toInt = 0 from by decide) (show (0 : Int32).toInt = 0 from by decide) (fun _ => ?_) (fun c36_4 => absurd c36_4 (by decide))
        refine z_run X bb_X10_off_113_114 bk_X10_off_113_114 (lv' := [(3, .int 0), (0, .ref x), (1, .int plane), (2, .int k)]) (st' := [.ref x]) rfl ?_
        refine z_get X fl_10_61 d_X10_off_114 2 rfl (v := .ref search) rfl ?_
        refine z_run X bb_X10_off_117_118 bk_X10_off_117_118 (lv' := [(3, .int 0), (0, .ref x), (1, .int plane), (2, .int k)]) (st' := [.int k, .ref search]) rfl ?_
        refine z_callV X k_10_367 (c_X6_leastOf l G search qf qu qx qy qa qb qs qp qt k ki hk (by omega)) d_X10_off_118 5 rfl rfl rfl ⟨Nat.le_of_ble_eq_true rfl, Nat.le_of_ble_eq_true rfl⟩ ⟨Nat.le_of_ble_eq_true rfl, Nat.le_of_ble_eq_true rfl⟩ rfl (rest := []) (As := [.int k]) rfl (Nat.le_of_ble_eq_true rfl) [5, 6, 7] [0, 1, 2, 3, 4] rfl (by decide) (wr := [(told, ob 8 [.ref tn, .int 0]), (tn, aJ G 16 (fun _ => 0)), (x, ob 10 [.ref told, .ref reader, .ref ring, .ref speeds, .ref wheel, .ref trials, .ref span, .ref search, .ref kept, .ref crosses, .ref trueM, .ref thought, .ref up, .ref low, .ref fits, .null]), (thought, aI G 8 (fun _ => 0)), (ring, ob 5 [.int 0, .ref rp, .ref rx, .ref ry, .ref rr, .ref rh, .ref rd, .int (-1), .int 0])]) rfl (by decide) (by decide) ?_
        rintro _ _ ⟨rfl, rfl⟩
        refine Z.at (pc' := 121) (st' := [.long 0]) (ws' := [(told, ob 8 [.ref tn, .int 0]), (tn, aJ G 16 (fun _ => 0)), (x, ob 10 [.ref told, .ref reader, .ref ring, .ref speeds, .ref wheel, .ref trials, .ref span, .ref search, .ref kept, .ref crosses, .ref trueM, .ref thought, .ref up, .ref low, .ref fits, .null]), (thought, aI G 8 (fun _ => 0)), (ring, ob 5 [.int 0, .ref rp, .ref rx, .ref ry, .ref rr, .ref rh, .ref rd, .int (-1), .int 0]), (search, ob 6 [.int 0, .int 1, .int 0, .ref qf, .ref qu, .ref qx, .ref qy, .ref qa, .ref qb, .ref qs, .ref qp, .ref qt, .int 0, .int 0, .long 0]), (qx, aJ G 6 (fun _ => 0)), (qy, aJ G 6 (fun _ => 0))]) (kc' := 0) (ks' := 0) rfl rfl rfl rfl rfl ?_
        refine z_run X bb_X10_off_121_123 bk_X10_off_121_123 (lv' := [(3, .long 0), (0, .ref x), (1, .int plane), (2, .int k)]) (st' := [.ref x]) rfl ?_
        refine z_callV X k_10_354 (c_X10_tellSearched l G x told reader ring speeds wheel trials span search kept crosses trueM thought up low fits qf qu qx qy qa qb qs qp qt tn) d_X10_off_123 2 rfl rfl rfl ⟨Nat.le_of_ble_eq_true rfl, Nat.le_of_ble_eq_true rfl⟩ ⟨Nat.le_of_ble_eq_true rfl, Nat.le_of_ble_eq_true rfl⟩ rfl (rest := []) (As := []) rfl (Nat.le_of_ble_eq_true rfl) [2, 5, 0] [1, 3, 4, 6, 7] rfl (by decide) (wr := [(tn, aJ G 16 (fun _ => 0)), (thought, aI G 8 (fun _ => 0)), (ring, ob 5 [.int 0, .ref rp, .ref rx, .ref ry, .ref rr, .ref rh, .ref rd, .int (-1), .int 0]), (qx, aJ G 6 (fun _ => 0)), (qy, aJ G 6 (fun _ => 0))]) rfl (by decide) (by decide) ?_
        rintro _ _ rfl
        refine Z.sub (lv' := [(3, .long 0), (0, .ref x), (1, .int plane), (2, .int k)]) [0, 1, 2, 3] rfl [0, 1, 2, 3, 4] (ws' := [(tn, aJ G 16 (fun _ => 0)), (thought, aI G 8 (fun _ => 0)), (ring, ob 5 [.int 0, .ref rp, .ref rx, .ref ry, .ref rr, .ref rh, .ref rd, .int (-1), .int 0]), (qx, aJ G 6 (fun _ => 0)), (qy, aJ G 6 (fun _ => 0))]) rfl (by decide) ?_
        refine Z.at (pc' := 126) (st' := []) (ws' := [(tn, aJ G 16 (fun _ => 0)), (thought, aI G 8 (fun _ => 0)), (ring, ob 5 [.int 0, .ref rp, .ref rx, .ref ry, .ref rr, .ref rh, .ref rd, .int (-1), .int 0]), (qx, aJ G 6 (fun _ => 0)), (qy, aJ G 6 (fun _ => 0))]) (kc' := 0) (ks' := 0) rfl rfl rfl rfl rfl ?_
        refine z_run X bb_X10_off_126_127 bk_X10_off_126_127 (lv' := [(3, .long 0), (0, .ref x), (1, .int plane), (2, .int k)]) (st' := [.long 0]) rfl ?_
        exact z_lret X rfl d_X10_off_127 (Nat.le_of_ble_eq_true rfl) (Nat.le_of_ble_eq_true rfl) (congrArg (fun z => some (Value.long z)) (by unfold an_pk; (repeat' split) <;> first | rfl | (exfalso; omega)))
      ·
        refine z_ldc2 X d_X10_off_17 cn_10_346 ?_
        exact z_lret X rfl d_X10_off_20 (Nat.le_of_ble_eq_true rfl) (Nat.le_of_ble_eq_true rfl) (congrArg (fun z => some (Value.long z)) (by unfold an_pk; (repeat' split) <;> first | rfl | (exfalso; omega)))

theorem d_X10_instead_1 : decode cX10_instead 1 = .ok (.invokestatic 156, 3) := by decide +kernel
theorem d_X10_instead_4 : decode cX10_instead 4 = .ok (.ifCond .eq 13, 3) := by decide +kernel
theorem d_X10_instead_17 : decode cX10_instead 17 = .ok (.ldc2_w 346, 3) := by decide +kernel
theorem d_X10_instead_20 : decode cX10_instead 20 = .ok (.lreturn, 1) := by decide +kernel
theorem d_X10_instead_9 : decode cX10_instead 9 = .ok (.if_icmp .lt 8, 3) := by decide +kernel
theorem d_X10_instead_14 : decode cX10_instead 14 = .ok (.if_icmp .le 7, 3) := by decide +kernel
theorem d_X10_instead_23 : decode cX10_instead 23 = .ok (.invokevirtual 357, 3) := by decide +kernel
theorem d_X10_instead_30 : decode cX10_instead 30 = .ok (.getfield 26, 3) := by decide +kernel
theorem d_X10_instead_33 : decode cX10_instead 33 = .ok (.getfield 136, 3) := by decide +kernel
theorem d_X10_instead_36 : decode cX10_instead 36 = .ok (.if_icmp .ge 83, 3) := by decide +kernel
theorem d_X10_instead_120 : decode cX10_instead 120 = .ok (.getfield 61, 3) := by decide +kernel
theorem d_X10_instead_124 : decode cX10_instead 124 = .ok (.invokevirtual 367, 3) := by decide +kernel
theorem d_X10_instead_129 : decode cX10_instead 129 = .ok (.invokevirtual 354, 3) := by decide +kernel
theorem d_X10_instead_133 : decode cX10_instead 133 = .ok (.lreturn, 1) := by decide +kernel
abbrev bb_X10_instead_0_1 : ZB := [(.iload_n 1, .null)]
theorem bk_X10_instead_0_1 : zchk cX10_instead bb_X10_instead_0_1 0 = true ∧ zpc bb_X10_instead_0_1 0 = 1 := ⟨by decide +kernel, rfl⟩
abbrev bb_X10_instead_7_9 : ZB := [(.iload_n 2, .null), (.iconst 1, .int 1)]
theorem bk_X10_instead_7_9 : zchk cX10_instead bb_X10_instead_7_9 7 = true ∧ zpc bb_X10_instead_7_9 7 = 9 := ⟨by decide +kernel, rfl⟩
abbrev bb_X10_instead_12_14 : ZB := [(.iload_n 2, .null), (.iconst 2, .int 2)]
theorem bk_X10_instead_12_14 : zchk cX10_instead bb_X10_instead_12_14 12 = true ∧ zpc bb_X10_instead_12_14 12 = 14 := ⟨by decide +kernel, rfl⟩
abbrev bb_X10_instead_21_23 : ZB := [(.aload_n 0, .null), (.iload_n 1, .null)]
theorem bk_X10_instead_21_23 : zchk cX10_instead bb_X10_instead_21_23 21 = true ∧ zpc bb_X10_instead_21_23 21 = 23 := ⟨by decide +kernel, rfl⟩
abbrev bb_X10_instead_26_30 : ZB := [(.iconst 0, .int 0), (.istore_n 3, .null), (.iload_n 3, .null), (.aload_n 0, .null)]
theorem bk_X10_instead_26_30 : zchk cX10_instead bb_X10_instead_26_30 26 = true ∧ zpc bb_X10_instead_26_30 26 = 30 := ⟨by decide +kernel, rfl⟩
abbrev bb_X10_instead_119_120 : ZB := [(.aload_n 0, .null)]
theorem bk_X10_instead_119_120 : zchk cX10_instead bb_X10_instead_119_120 119 = true ∧ zpc bb_X10_instead_119_120 119 = 120 := ⟨by decide +kernel, rfl⟩
abbrev bb_X10_instead_123_124 : ZB := [(.iload_n 2, .null)]
theorem bk_X10_instead_123_124 : zchk cX10_instead bb_X10_instead_123_124 123 = true ∧ zpc bb_X10_instead_123_124 123 = 124 := ⟨by decide +kernel, rfl⟩
abbrev bb_X10_instead_127_129 : ZB := [(.lstore_n 3, .null), (.aload_n 0, .null)]
theorem bk_X10_instead_127_129 : zchk cX10_instead bb_X10_instead_127_129 127 = true ∧ zpc bb_X10_instead_127_129 127 = 129 := ⟨by decide +kernel, rfl⟩
abbrev bb_X10_instead_132_133 : ZB := [(.lload_n 3, .null)]
theorem bk_X10_instead_132_133 : zchk cX10_instead bb_X10_instead_132_133 132 = true ∧ zpc bb_X10_instead_132_133 132 = 133 := ⟨by decide +kernel, rfl⟩
set_option maxHeartbeats 4000000 in
set_option maxRecDepth 100000 in
theorem c_X10_instead (l : Launch) (G : KG) (x : Nat) (told : Nat) (reader : Nat) (ring : Nat) (speeds : Nat) (wheel : Nat) (trials : Nat) (span : Nat) (search : Nat) (kept : Nat) (crosses : Nat) (trueM : Nat) (thought : Nat) (up : Nat) (low : Nat) (fits : Nat) (rp : Nat) (rx : Nat) (ry : Nat) (rr : Nat) (rh : Nat) (rd : Nat) (qf : Nat) (qu : Nat) (qx : Nat) (qy : Nat) (qa : Nat) (qb : Nat) (qs : Nat) (qp : Nat) (qt : Nat) (tn : Nat) (plane : Int32) (k : Int32) (planei : Int) (ki : Int) (hplane : plane.toInt = planei) (hk : k.toInt = ki) : Ct l G yX10_instead cX10_instead 5 (some .long) { frames := 5, cells := 0, slots := 0, locals := 123 } [.ref x, .int plane, .int k] [(x, ob 10 [.ref told, .ref reader, .ref ring, .ref speeds, .ref wheel, .ref trials, .ref span, .ref search, .ref kept, .ref crosses, .ref trueM, .ref thought, .ref up, .ref low, .ref fits, .null]), (thought, aI G 8 (fun _ => 0)), (ring, ob 5 [.int 0, .ref rp, .ref rx, .ref ry, .ref rr, .ref rh, .ref rd, .int (-1), .int 0]), (search, ob 6 [.int 0, .int 0, .int 0, .ref qf, .ref qu, .ref qx, .ref qy, .ref qa, .ref qb, .ref qs, .ref qp, .ref qt, .int 0, .int 0, .long 0]), (qx, aJ G 6 (fun _ => 0)), (qy, aJ G 6 (fun _ => 0)), (told, ob 8 [.ref tn, .int 0]), (tn, aJ G 16 (fun _ => 0))] (fun r _ => r = some (.long (an_pk planei ki 2))) := by
  refine ct_of [(0, .ref x), (1, .int plane), (2, .int k)] (by decide) (Nat.le_of_ble_eq_true rfl) rfl ?_
  intro p0 e0 s0 m0 args0 below0 meth0 c0 A X
  refine z_run X bb_X10_instead_0_1 bk_X10_instead_0_1 (lv' := [(0, .ref x), (1, .int plane), (2, .int k)]) (st' := [.int plane]) rfl ?_
  refine z_callS X k_10_156 (c_X10_isOneOfTwo l G plane planei hplane) d_X10_instead_1 ⟨Nat.le_of_ble_eq_true rfl, Nat.le_of_ble_eq_true rfl⟩ ⟨Nat.le_of_ble_eq_true rfl, Nat.le_of_ble_eq_true rfl⟩ rfl (rest := []) (As := [.int plane]) rfl (Nat.le_of_ble_eq_true rfl) [] [0, 1, 2, 3, 4, 5, 6, 7] rfl (by decide) (wr := [(x, ob 10 [.ref told, .ref reader, .ref ring, .ref speeds, .ref wheel, .ref trials, .ref span, .ref search, .ref kept, .ref crosses, .ref trueM, .ref thought, .ref up, .ref low, .ref fits, .null]), (thought, aI G 8 (fun _ => 0)), (ring, ob 5 [.int 0, .ref rp, .ref rx, .ref ry, .ref rr, .ref rh, .ref rd, .int (-1), .int 0]), (search, ob 6 [.int 0, .int 0, .int 0, .ref qf, .ref qu, .ref qx, .ref qy, .ref qa, .ref qb, .ref qs, .ref qp, .ref qt, .int 0, .int 0, .long 0]), (qx, aJ G 6 (fun _ => 0)), (qy, aJ G 6 (fun _ => 0)), (told, ob 8 [.ref tn, .int 0]), (tn, aJ G 16 (fun _ => 0))]) rfl (by decide) (by decide) ?_
  rintro _ _ ⟨rfl, rfl⟩
  refine Z.at (pc' := 4) (st' := [.int (zb (decide (planei = 0 ∨ planei = 1)))]) (ws' := [(x, ob 10 [.ref told, .ref reader, .ref ring, .ref speeds, .ref wheel, .ref trials, .ref span, .ref search, .ref kept, .ref crosses, .ref trueM, .ref thought, .ref up, .ref low, .ref fits, .null]), (thought, aI G 8 (fun _ => 0)), (ring, ob 5 [.int 0, .ref rp, .ref rx, .ref ry, .ref rr, .ref rh, .ref rd, .int (-1), .int 0]), (search, ob 6 [.int 0, .int 0, .int 0, .ref qf, .ref qu, .ref qx, .ref qy, .ref qa, .ref qb, .ref qs, .ref qp, .ref qt, .int 0, .int 0, .long 0]), (qx, aJ G 6 (fun _ => 0)), (qy, aJ G 6 (fun _ => 0)), (told, ob 8 [.ref tn, .int 0]), (tn, aJ G 16 (fun _ => 0))]) (kc' := 0) (ks' := 0) rfl rfl rfl rfl rfl ?_
  refine zi_eq_zb X d_X10_instead_4 (tgt := 17) (by decide) (fun c4_1 => ?_) (fun c4_1 => ?_)
  ·
    refine z_ldc2 X d_X10_instead_17 cn_10_346 ?_
    exact z_lret X rfl d_X10_instead_20 (Nat.le_of_ble_eq_true rfl) (Nat.le_of_ble_eq_true rfl) (congrArg (fun z => some (Value.long z)) (by unfold an_pk; (repeat' split) <;> first | rfl | (exfalso; omega)))
  ·
    refine z_run X bb_X10_instead_7_9 bk_X10_instead_7_9 (lv' := [(0, .ref x), (1, .int plane), (2, .int k)]) (st' := [.int 1, .int k]) rfl ?_
    refine zc_lt X d_X10_instead_9 (tgt := 17) (by decide) (a := ki) (b := 1) hk (show (1 : Int32).toInt = 1 from by decide) (fun c9_2 => ?_) (fun c9_2 => ?_)
    ·
      refine z_ldc2 X d_X10_instead_17 cn_10_346 ?_
      exact z_lret X rfl d_X10_instead_20 (Nat.le_of_ble_eq_true rfl) (Nat.le_of_ble_eq_true rfl) (congrArg (fun z => some (Value.long z)) (by unfold an_pk; (repeat' split) <;> first | rfl | (exfalso; omega)))
    ·
      refine z_run X bb_X10_instead_12_14 bk_X10_instead_12_14 (lv' := [(0, .ref x), (1, .int plane), (2, .int k)]) (st' := [.int 2, .int k]) rfl ?_
      refine zc_le X d_X10_instead_14 (tgt := 21) (by decide) (a := ki) (b := 2) hk (show (2 : Int32).toInt = 2 from by decide) (fun c14_3 => ?_) (fun c14_3 => ?_)
      ·
        refine z_run X bb_X10_instead_21_23 bk_X10_instead_21_23 (lv' := [(0, .ref x), (1, .int plane), (2, .int k)]) (st' := [.int plane, .ref x]) rfl ?_
        refine z_callV X k_10_357 (c_X10_startRestSearch l G x told reader ring speeds wheel trials span search kept crosses trueM thought up low fits rp rx ry rr rh rd qf qu qx qy qa qb qs qp qt plane planei hplane (by omega)) d_X10_instead_23 0 rfl rfl rfl ⟨Nat.le_of_ble_eq_true rfl, Nat.le_of_ble_eq_true rfl⟩ ⟨Nat.le_of_ble_eq_true rfl, Nat.le_of_ble_eq_true rfl⟩ rfl (rest := []) (As := [.int plane]) rfl (Nat.le_of_ble_eq_true rfl) [0, 1, 2, 3, 4, 5] [6, 7] rfl (by decide) (wr := [(told, ob 8 [.ref tn, .int 0]), (tn, aJ G 16 (fun _ => 0))]) rfl (by decide) (by decide) ?_
        rintro _ _ ⟨rfl, rfl⟩
        refine Z.at (pc' := 26) (st' := []) (ws' := [(told, ob 8 [.ref tn, .int 0]), (tn, aJ G 16 (fun _ => 0)), (x, ob 10 [.ref told, .ref reader, .ref ring, .ref speeds, .ref wheel, .ref trials, .ref span, .ref search, .ref kept, .ref crosses, .ref trueM, .ref thought, .ref up, .ref low, .ref fits, .null]), (thought, aI G 8 (fun _ => 0)), (ring, ob 5 [.int 0, .ref rp, .ref rx, .ref ry, .ref rr, .ref rh, .ref rd, .int (-1), .int 0]), (search, ob 6 [.int 0, .int 1, .int 0, .ref qf, .ref qu, .ref qx, .ref qy, .ref qa, .ref qb, .ref qs, .ref qp, .ref qt, .int 0, .int 0, .long 0]), (qx, aJ G 6 (fun _ => 0)), (qy, aJ G 6 (fun _ => 0))]) (kc' := 0) (ks' := 0) rfl rfl rfl rfl rfl ?_
        refine z_run X bb_X10_instead_26_30 bk_X10_instead_26_30 (lv' := [(3, .int 0), (0, .ref x), (1, .int plane), (2, .int k)]) (st' := [.ref x, .int 0]) rfl ?_
        refine z_get X fl_10_26 d_X10_instead_30 2 rfl (v := .ref ring) rfl ?_
        refine z_getN X fl_10_136 d_X10_instead_33 4 rfl (v := .int 0) rfl ?_
        refine zc_ge X d_X10_instead_36 (tgt := 119) (by decide) (a := 0) (b := 0) (show (0 : Int32).toInt = 0 from by decide) (show (0 : Int32).toInt = 0 from by decide) (fun _ => ?_) (fun c36_4 => absurd c36_4 (by decide))
        refine z_run X bb_X10_instead_119_120 bk_X10_instead_119_120 (lv' := [(3, .int 0), (0, .ref x), (1, .int plane), (2, .int k)]) (st' := [.ref x]) rfl ?_
        refine z_get X fl_10_61 d_X10_instead_120 2 rfl (v := .ref search) rfl ?_
        refine z_run X bb_X10_instead_123_124 bk_X10_instead_123_124 (lv' := [(3, .int 0), (0, .ref x), (1, .int plane), (2, .int k)]) (st' := [.int k, .ref search]) rfl ?_
        refine z_callV X k_10_367 (c_X6_leastOf l G search qf qu qx qy qa qb qs qp qt k ki hk (by omega)) d_X10_instead_124 5 rfl rfl rfl ⟨Nat.le_of_ble_eq_true rfl, Nat.le_of_ble_eq_true rfl⟩ ⟨Nat.le_of_ble_eq_true rfl, Nat.le_of_ble_eq_true rfl⟩ rfl (rest := []) (As := [.int k]) rfl (Nat.le_of_ble_eq_true rfl) [5, 6, 7] [0, 1, 2, 3, 4] rfl (by decide) (wr := [(told, ob 8 [.ref tn, .int 0]), (tn, aJ G 16 (fun _ => 0)), (x, ob 10 [.ref told, .ref reader, .ref ring, .ref speeds, .ref wheel, .ref trials, .ref span, .ref search, .ref kept, .ref crosses, .ref trueM, .ref thought, .ref up, .ref low, .ref fits, .null]), (thought, aI G 8 (fun _ => 0)), (ring, ob 5 [.int 0, .ref rp, .ref rx, .ref ry, .ref rr, .ref rh, .ref rd, .int (-1), .int 0])]) rfl (by decide) (by decide) ?_
        rintro _ _ ⟨rfl, rfl⟩
        refine Z.at (pc' := 127) (st' := [.long 0]) (ws' := [(told, ob 8 [.ref tn, .int 0]), (tn, aJ G 16 (fun _ => 0)), (x, ob 10 [.ref told, .ref reader, .ref ring, .ref speeds, .ref wheel, .ref trials, .ref span, .ref search, .ref kept, .ref crosses, .ref trueM, .ref thought, .ref up, .ref low, .ref fits, .null]), (thought, aI G 8 (fun _ => 0)), (ring, ob 5 [.int 0, .ref rp, .ref rx, .ref ry, .ref rr, .ref rh, .ref rd, .int (-1), .int 0]), (search, ob 6 [.int 0, .int 1, .int 0, .ref qf, .ref qu, .ref qx, .ref qy, .ref qa, .ref qb, .ref qs, .ref qp, .ref qt, .int 0, .int 0, .long 0]), (qx, aJ G 6 (fun _ => 0)), (qy, aJ G 6 (fun _ => 0))]) (kc' := 0) (ks' := 0) rfl rfl rfl rfl rfl ?_
        refine z_run X bb_X10_instead_127_129 bk_X10_instead_127_129 (lv' := [(3, .long 0), (0, .ref x), (1, .int plane), (2, .int k)]) (st' := [.ref x]) rfl ?_
        refine z_callV X k_10_354 (c_X10_tellSearched l G x told reader ring speeds wheel trials span search kept crosses trueM thought up low fits qf qu qx qy qa qb qs qp qt tn) d_X10_instead_129 2 rfl rfl rfl ⟨Nat.le_of_ble_eq_true rfl, Nat.le_of_ble_eq_true rfl⟩ ⟨Nat.le_of_ble_eq_true rfl, Nat.le_of_ble_eq_true rfl⟩ rfl (rest := []) (As := []) rfl (Nat.le_of_ble_eq_true rfl) [2, 5, 0] [1, 3, 4, 6, 7] rfl (by decide) (wr := [(tn, aJ G 16 (fun _ => 0)), (thought, aI G 8 (fun _ => 0)), (ring, ob 5 [.int 0, .ref rp, .ref rx, .ref ry, .ref rr, .ref rh, .ref rd, .int (-1), .int 0]), (qx, aJ G 6 (fun _ => 0)), (qy, aJ G 6 (fun _ => 0))]) rfl (by decide) (by decide) ?_
        rintro _ _ rfl
        refine Z.sub (lv' := [(3, .long 0), (0, .ref x), (1, .int plane), (2, .int k)]) [0, 1, 2, 3] rfl [0, 1, 2, 3, 4] (ws' := [(tn, aJ G 16 (fun _ => 0)), (thought, aI G 8 (fun _ => 0)), (ring, ob 5 [.int 0, .ref rp, .ref rx, .ref ry, .ref rr, .ref rh, .ref rd, .int (-1), .int 0]), (qx, aJ G 6 (fun _ => 0)), (qy, aJ G 6 (fun _ => 0))]) rfl (by decide) ?_
        refine Z.at (pc' := 132) (st' := []) (ws' := [(tn, aJ G 16 (fun _ => 0)), (thought, aI G 8 (fun _ => 0)), (ring, ob 5 [.int 0, .ref rp, .ref rx, .ref ry, .ref rr, .ref rh, .ref rd, .int (-1), .int 0]), (qx, aJ G 6 (fun _ => 0)), (qy, aJ G 6 (fun _ => 0))]) (kc' := 0) (ks' := 0) rfl rfl rfl rfl rfl ?_
        refine z_run X bb_X10_instead_132_133 bk_X10_instead_132_133 (lv' := [(3, .long 0), (0, .ref x), (1, .int plane), (2, .int k)]) (st' := [.long 0]) rfl ?_
        exact z_lret X rfl d_X10_instead_133 (Nat.le_of_ble_eq_true rfl) (Nat.le_of_ble_eq_true rfl) (congrArg (fun z => some (Value.long z)) (by unfold an_pk; (repeat' split) <;> first | rfl | (exfalso; omega)))
      ·
        refine z_ldc2 X d_X10_instead_17 cn_10_346 ?_
        exact z_lret X rfl d_X10_instead_20 (Nat.le_of_ble_eq_true rfl) (Nat.le_of_ble_eq_true rfl) (congrArg (fun z => some (Value.long z)) (by unfold an_pk; (repeat' split) <;> first | rfl | (exfalso; omega)))

theorem d_X10_fewest_1 : decode cX10_fewest 1 = .ok (.invokestatic 156, 3) := by decide +kernel
theorem d_X10_fewest_4 : decode cX10_fewest 4 = .ok (.ifCond .eq 9, 3) := by decide +kernel
theorem d_X10_fewest_14 : decode cX10_fewest 14 = .ok (.ireturn, 1) := by decide +kernel
theorem d_X10_fewest_9 : decode cX10_fewest 9 = .ok (.lcmp, 1) := by decide +kernel
theorem d_X10_fewest_10 : decode cX10_fewest 10 = .ok (.ifCond .ge 5, 3) := by decide +kernel
theorem d_X10_fewest_21 : decode cX10_fewest 21 = .ok (.if_icmp .gt 28, 3) := by decide +kernel
theorem d_X10_fewest_28 : decode cX10_fewest 28 = .ok (.invokevirtual 351, 3) := by decide +kernel
theorem d_X10_fewest_32 : decode cX10_fewest 32 = .ok (.lcmp, 1) := by decide +kernel
theorem d_X10_fewest_33 : decode cX10_fewest 33 = .ok (.ifCond .gt 10, 3) := by decide +kernel
theorem d_X10_fewest_37 : decode cX10_fewest 37 = .ok (.invokevirtual 354, 3) := by decide +kernel
theorem d_X10_fewest_42 : decode cX10_fewest 42 = .ok (.ireturn, 1) := by decide +kernel
abbrev bb_X10_fewest_0_1 : ZB := [(.iload_n 1, .null)]
theorem bk_X10_fewest_0_1 : zchk cX10_fewest bb_X10_fewest_0_1 0 = true ∧ zpc bb_X10_fewest_0_1 0 = 1 := ⟨by decide +kernel, rfl⟩
abbrev bb_X10_fewest_13_14 : ZB := [(.iconst (-1), .int (-1))]
theorem bk_X10_fewest_13_14 : zchk cX10_fewest bb_X10_fewest_13_14 13 = true ∧ zpc bb_X10_fewest_13_14 13 = 14 := ⟨by decide +kernel, rfl⟩
abbrev bb_X10_fewest_7_9 : ZB := [(.lload_n 2, .null), (.lconst 0, .long 0)]
theorem bk_X10_fewest_7_9 : zchk cX10_fewest bb_X10_fewest_7_9 7 = true ∧ zpc bb_X10_fewest_7_9 7 = 9 := ⟨by decide +kernel, rfl⟩
abbrev bb_X10_fewest_15_21 : ZB := [(.iconst 0, .int 0), (.istore 4, .null), (.iload 4, .null), (.iconst 3, .int 3)]
theorem bk_X10_fewest_15_21 : zchk cX10_fewest bb_X10_fewest_15_21 15 = true ∧ zpc bb_X10_fewest_15_21 15 = 21 := ⟨by decide +kernel, rfl⟩
abbrev bb_X10_fewest_24_28 : ZB := [(.aload_n 0, .null), (.iload_n 1, .null), (.iload 4, .null)]
theorem bk_X10_fewest_24_28 : zchk cX10_fewest bb_X10_fewest_24_28 24 = true ∧ zpc bb_X10_fewest_24_28 24 = 28 := ⟨by decide +kernel, rfl⟩
abbrev bb_X10_fewest_31_32 : ZB := [(.lload_n 2, .null)]
theorem bk_X10_fewest_31_32 : zchk cX10_fewest bb_X10_fewest_31_32 31 = true ∧ zpc bb_X10_fewest_31_32 31 = 32 := ⟨by decide +kernel, rfl⟩
abbrev bb_X10_fewest_36_37 : ZB := [(.aload_n 0, .null)]
theorem bk_X10_fewest_36_37 : zchk cX10_fewest bb_X10_fewest_36_37 36 = true ∧ zpc bb_X10_fewest_36_37 36 = 37 := ⟨by decide +kernel, rfl⟩
abbrev bb_X10_fewest_40_42 : ZB := [(.iload 4, .null)]
theorem bk_X10_fewest_40_42 : zchk cX10_fewest bb_X10_fewest_40_42 40 = true ∧ zpc bb_X10_fewest_40_42 40 = 42 := ⟨by decide +kernel, rfl⟩
set_option maxHeartbeats 4000000 in
set_option maxRecDepth 100000 in
theorem c_X10_fewest (l : Launch) (G : KG) (x : Nat) (told : Nat) (reader : Nat) (ring : Nat) (speeds : Nat) (wheel : Nat) (trials : Nat) (span : Nat) (search : Nat) (kept : Nat) (crosses : Nat) (trueM : Nat) (thought : Nat) (up : Nat) (low : Nat) (fits : Nat) (rp : Nat) (rx : Nat) (ry : Nat) (rr : Nat) (rh : Nat) (rd : Nat) (qf : Nat) (qu : Nat) (qx : Nat) (qy : Nat) (qa : Nat) (qb : Nat) (qs : Nat) (qp : Nat) (qt : Nat) (tn : Nat) (plane : Int32) (bound : Int64) (planei : Int) (boundi : Int) (hplane : plane.toInt = planei) (hbound : bound.toInt = boundi) : Ct l G yX10_fewest cX10_fewest 5 (some .int) { frames := 6, cells := 0, slots := 0, locals := 146 } [.ref x, .int plane, .long bound] [(x, ob 10 [.ref told, .ref reader, .ref ring, .ref speeds, .ref wheel, .ref trials, .ref span, .ref search, .ref kept, .ref crosses, .ref trueM, .ref thought, .ref up, .ref low, .ref fits, .null]), (thought, aI G 8 (fun _ => 0)), (ring, ob 5 [.int 0, .ref rp, .ref rx, .ref ry, .ref rr, .ref rh, .ref rd, .int (-1), .int 0]), (search, ob 6 [.int 0, .int 0, .int 0, .ref qf, .ref qu, .ref qx, .ref qy, .ref qa, .ref qb, .ref qs, .ref qp, .ref qt, .int 0, .int 0, .long 0]), (qx, aJ G 6 (fun _ => 0)), (qy, aJ G 6 (fun _ => 0)), (told, ob 8 [.ref tn, .int 0]), (tn, aJ G 16 (fun _ => 0))] (fun r _ => r = some (.int (an_few planei boundi))) := by
  refine ct_of [(0, .ref x), (1, .int plane), (2, .long bound)] (by decide) (Nat.le_of_ble_eq_true rfl) rfl ?_
  intro p0 e0 s0 m0 args0 below0 meth0 c0 A X
  refine z_run X bb_X10_fewest_0_1 bk_X10_fewest_0_1 (lv' := [(0, .ref x), (1, .int plane), (2, .long bound)]) (st' := [.int plane]) rfl ?_
  refine z_callS X k_10_156 (c_X10_isOneOfTwo l G plane planei hplane) d_X10_fewest_1 ⟨Nat.le_of_ble_eq_true rfl, Nat.le_of_ble_eq_true rfl⟩ ⟨Nat.le_of_ble_eq_true rfl, Nat.le_of_ble_eq_true rfl⟩ rfl (rest := []) (As := [.int plane]) rfl (Nat.le_of_ble_eq_true rfl) [] [0, 1, 2, 3, 4, 5, 6, 7] rfl (by decide) (wr := [(x, ob 10 [.ref told, .ref reader, .ref ring, .ref speeds, .ref wheel, .ref trials, .ref span, .ref search, .ref kept, .ref crosses, .ref trueM, .ref thought, .ref up, .ref low, .ref fits, .null]), (thought, aI G 8 (fun _ => 0)), (ring, ob 5 [.int 0, .ref rp, .ref rx, .ref ry, .ref rr, .ref rh, .ref rd, .int (-1), .int 0]), (search, ob 6 [.int 0, .int 0, .int 0, .ref qf, .ref qu, .ref qx, .ref qy, .ref qa, .ref qb, .ref qs, .ref qp, .ref qt, .int 0, .int 0, .long 0]), (qx, aJ G 6 (fun _ => 0)), (qy, aJ G 6 (fun _ => 0)), (told, ob 8 [.ref tn, .int 0]), (tn, aJ G 16 (fun _ => 0))]) rfl (by decide) (by decide) ?_
  rintro _ _ ⟨rfl, rfl⟩
  refine Z.at (pc' := 4) (st' := [.int (zb (decide (planei = 0 ∨ planei = 1)))]) (ws' := [(x, ob 10 [.ref told, .ref reader, .ref ring, .ref speeds, .ref wheel, .ref trials, .ref span, .ref search, .ref kept, .ref crosses, .ref trueM, .ref thought, .ref up, .ref low, .ref fits, .null]), (thought, aI G 8 (fun _ => 0)), (ring, ob 5 [.int 0, .ref rp, .ref rx, .ref ry, .ref rr, .ref rh, .ref rd, .int (-1), .int 0]), (search, ob 6 [.int 0, .int 0, .int 0, .ref qf, .ref qu, .ref qx, .ref qy, .ref qa, .ref qb, .ref qs, .ref qp, .ref qt, .int 0, .int 0, .long 0]), (qx, aJ G 6 (fun _ => 0)), (qy, aJ G 6 (fun _ => 0)), (told, ob 8 [.ref tn, .int 0]), (tn, aJ G 16 (fun _ => 0))]) (kc' := 0) (ks' := 0) rfl rfl rfl rfl rfl ?_
  refine zi_eq_zb X d_X10_fewest_4 (tgt := 13) (by decide) (fun c4_1 => ?_) (fun c4_1 => ?_)
  ·
    refine z_run X bb_X10_fewest_13_14 bk_X10_fewest_13_14 (lv' := [(0, .ref x), (1, .int plane), (2, .long bound)]) (st' := [.int (-1)]) rfl ?_
    exact z_iret X rfl d_X10_fewest_14 (Nat.le_of_ble_eq_true rfl) (Nat.le_of_ble_eq_true rfl) (congrArg (fun z => some (Value.int z)) (by unfold an_few; (repeat' split) <;> first | rfl | (exfalso; omega)))
  ·
    refine z_run X bb_X10_fewest_7_9 bk_X10_fewest_7_9 (lv' := [(0, .ref x), (1, .int plane), (2, .long bound)]) (st' := [.long 0, .long bound]) rfl ?_
    refine zl_ge X d_X10_fewest_9 d_X10_fewest_10 (tgt := 15) (by decide) (a := boundi) (b := 0) hbound (show (0 : Int64).toInt = 0 from by decide) (fun c9_2 => ?_) (fun c9_2 => ?_)
    ·
      refine z_run X bb_X10_fewest_15_21 bk_X10_fewest_15_21 (lv' := [(4, .int 0), (0, .ref x), (1, .int plane), (2, .long bound)]) (st' := [.int 3, .int 0]) rfl ?_
      refine zc_gt X d_X10_fewest_21 (tgt := 49) (by decide) (a := 0) (b := 3) (show (0 : Int32).toInt = 0 from by decide) (show (3 : Int32).toInt = 3 from by decide) (fun c21_3 => absurd c21_3 (by decide)) (fun _ => ?_)
      refine z_run X bb_X10_fewest_24_28 bk_X10_fewest_24_28 (lv' := [(4, .int 0), (0, .ref x), (1, .int plane), (2, .long bound)]) (st' := [.int 0, .int plane, .ref x]) rfl ?_
      refine z_callV X k_10_351 (c_X10_searchPutting l G x told reader ring speeds wheel trials span search kept crosses trueM thought up low fits rp rx ry rr rh rd qf qu qx qy qa qb qs qp qt plane 0 planei 0 hplane (show (0 : Int32).toInt = 0 from by decide) (by omega) (by omega)) d_X10_fewest_28 0 rfl rfl rfl ⟨Nat.le_of_ble_eq_true rfl, Nat.le_of_ble_eq_true rfl⟩ ⟨Nat.le_of_ble_eq_true rfl, Nat.le_of_ble_eq_true rfl⟩ rfl (rest := []) (As := [.int plane, .int 0]) rfl (Nat.le_of_ble_eq_true rfl) [0, 1, 2, 3, 4, 5] [6, 7] rfl (by decide) (wr := [(told, ob 8 [.ref tn, .int 0]), (tn, aJ G 16 (fun _ => 0))]) rfl (by decide) (by decide) ?_
      rintro _ _ ⟨rfl, rfl⟩
      refine Z.at (pc' := 31) (st' := [.long 0]) (ws' := [(told, ob 8 [.ref tn, .int 0]), (tn, aJ G 16 (fun _ => 0)), (x, ob 10 [.ref told, .ref reader, .ref ring, .ref speeds, .ref wheel, .ref trials, .ref span, .ref search, .ref kept, .ref crosses, .ref trueM, .ref thought, .ref up, .ref low, .ref fits, .null]), (thought, aI G 8 (fun _ => 0)), (ring, ob 5 [.int 0, .ref rp, .ref rx, .ref ry, .ref rr, .ref rh, .ref rd, .int (-1), .int 0]), (search, ob 6 [.int 0, .int 1, .int 0, .ref qf, .ref qu, .ref qx, .ref qy, .ref qa, .ref qb, .ref qs, .ref qp, .ref qt, .int 0, .int 0, .long 0]), (qx, aJ G 6 (fun _ => 0)), (qy, aJ G 6 (fun _ => 0))]) (kc' := 0) (ks' := 0) rfl rfl rfl rfl rfl ?_
      refine z_run X bb_X10_fewest_31_32 bk_X10_fewest_31_32 (lv' := [(4, .int 0), (0, .ref x), (1, .int plane), (2, .long bound)]) (st' := [.long bound, .long 0]) rfl ?_
      refine zl_gt X d_X10_fewest_32 d_X10_fewest_33 (tgt := 43) (by decide) (a := 0) (b := boundi) (show (0 : Int64).toInt = 0 from by decide) hbound (fun c32_4n => absurd c32_4n (by omega)) (fun c32_4 => ?_)
      refine z_run X bb_X10_fewest_36_37 bk_X10_fewest_36_37 (lv' := [(4, .int 0), (0, .ref x), (1, .int plane), (2, .long bound)]) (st' := [.ref x]) rfl ?_
      refine z_callV X k_10_354 (c_X10_tellSearched l G x told reader ring speeds wheel trials span search kept crosses trueM thought up low fits qf qu qx qy qa qb qs qp qt tn) d_X10_fewest_37 2 rfl rfl rfl ⟨Nat.le_of_ble_eq_true rfl, Nat.le_of_ble_eq_true rfl⟩ ⟨Nat.le_of_ble_eq_true rfl, Nat.le_of_ble_eq_true rfl⟩ rfl (rest := []) (As := []) rfl (Nat.le_of_ble_eq_true rfl) [2, 5, 0] [1, 3, 4, 6, 7] rfl (by decide) (wr := [(tn, aJ G 16 (fun _ => 0)), (thought, aI G 8 (fun _ => 0)), (ring, ob 5 [.int 0, .ref rp, .ref rx, .ref ry, .ref rr, .ref rh, .ref rd, .int (-1), .int 0]), (qx, aJ G 6 (fun _ => 0)), (qy, aJ G 6 (fun _ => 0))]) rfl (by decide) (by decide) ?_
      rintro _ _ rfl
      refine Z.sub (lv' := [(4, .int 0), (0, .ref x), (1, .int plane), (2, .long bound)]) [0, 1, 2, 3] rfl [0, 1, 2, 3, 4] (ws' := [(tn, aJ G 16 (fun _ => 0)), (thought, aI G 8 (fun _ => 0)), (ring, ob 5 [.int 0, .ref rp, .ref rx, .ref ry, .ref rr, .ref rh, .ref rd, .int (-1), .int 0]), (qx, aJ G 6 (fun _ => 0)), (qy, aJ G 6 (fun _ => 0))]) rfl (by decide) ?_
      refine Z.at (pc' := 40) (st' := []) (ws' := [(tn, aJ G 16 (fun _ => 0)), (thought, aI G 8 (fun _ => 0)), (ring, ob 5 [.int 0, .ref rp, .ref rx, .ref ry, .ref rr, .ref rh, .ref rd, .int (-1), .int 0]), (qx, aJ G 6 (fun _ => 0)), (qy, aJ G 6 (fun _ => 0))]) (kc' := 0) (ks' := 0) rfl rfl rfl rfl rfl ?_
      refine z_run X bb_X10_fewest_40_42 bk_X10_fewest_40_42 (lv' := [(4, .int 0), (0, .ref x), (1, .int plane), (2, .long bound)]) (st' := [.int 0]) rfl ?_
      exact z_iret X rfl d_X10_fewest_42 (Nat.le_of_ble_eq_true rfl) (Nat.le_of_ble_eq_true rfl) (congrArg (fun z => some (Value.int z)) (by unfold an_few; (repeat' split) <;> first | rfl | (exfalso; omega)))
    ·
      refine z_run X bb_X10_fewest_13_14 bk_X10_fewest_13_14 (lv' := [(0, .ref x), (1, .int plane), (2, .long bound)]) (st' := [.int (-1)]) rfl ?_
      exact z_iret X rfl d_X10_fewest_14 (Nat.le_of_ble_eq_true rfl) (Nat.le_of_ble_eq_true rfl) (congrArg (fun z => some (Value.int z)) (by unfold an_few; (repeat' split) <;> first | rfl | (exfalso; omega)))

theorem d_X10_gatherFitting_8 : decode cX10_gatherFitting 8 = .ok (.getfield 26, 3) := by decide +kernel
theorem d_X10_gatherFitting_11 : decode cX10_gatherFitting 11 = .ok (.getfield 136, 3) := by decide +kernel
theorem d_X10_gatherFitting_14 : decode cX10_gatherFitting 14 = .ok (.if_icmp .ge 47, 3) := by decide +kernel
theorem d_X10_gatherFitting_62 : decode cX10_gatherFitting 62 = .ok (.ireturn, 1) := by decide +kernel
abbrev bb_X10_gatherFitting_0_8 : ZB := [(.iconst 0, .int 0), (.istore_n 3, .null), (.iconst 0, .int 0), (.istore 4, .null), (.iload 4, .null), (.aload_n 0, .null)]
theorem bk_X10_gatherFitting_0_8 : zchk cX10_gatherFitting bb_X10_gatherFitting_0_8 0 = true ∧ zpc bb_X10_gatherFitting_0_8 0 = 8 := ⟨by decide +kernel, rfl⟩
abbrev bb_X10_gatherFitting_61_62 : ZB := [(.iload_n 3, .null)]
theorem bk_X10_gatherFitting_61_62 : zchk cX10_gatherFitting bb_X10_gatherFitting_61_62 61 = true ∧ zpc bb_X10_gatherFitting_61_62 61 = 62 := ⟨by decide +kernel, rfl⟩
set_option maxHeartbeats 4000000 in
set_option maxRecDepth 100000 in
theorem c_X10_gatherFitting (l : Launch) (G : KG) (x : Nat) (told : Nat) (reader : Nat) (ring : Nat) (speeds : Nat) (wheel : Nat) (trials : Nat) (span : Nat) (search : Nat) (kept : Nat) (crosses : Nat) (trueM : Nat) (thought : Nat) (up : Nat) (low : Nat) (fits : Nat) (rp : Nat) (rx : Nat) (ry : Nat) (rr : Nat) (rh : Nat) (rd : Nat) (plane : Int32) (w : Int32) : Ct l G yX10_gatherFitting cX10_gatherFitting 5 (some .int) { frames := 0, cells := 0, slots := 0, locals := 0 } [.ref x, .int plane, .int w] [(x, ob 10 [.ref told, .ref reader, .ref ring, .ref speeds, .ref wheel, .ref trials, .ref span, .ref search, .ref kept, .ref crosses, .ref trueM, .ref thought, .ref up, .ref low, .ref fits, .null]), (ring, ob 5 [.int 0, .ref rp, .ref rx, .ref ry, .ref rr, .ref rh, .ref rd, .int (-1), .int 0])] (fun r w1 => r = some (.int 0) ∧ w1 = [(x, ob 10 [.ref told, .ref reader, .ref ring, .ref speeds, .ref wheel, .ref trials, .ref span, .ref search, .ref kept, .ref crosses, .ref trueM, .ref thought, .ref up, .ref low, .ref fits, .null]), (ring, ob 5 [.int 0, .ref rp, .ref rx, .ref ry, .ref rr, .ref rh, .ref rd, .int (-1), .int 0])]) := by
  refine ct_of [(0, .ref x), (1, .int plane), (2, .int w)] (by decide) (Nat.le_of_ble_eq_true rfl) rfl ?_
  intro p0 e0 s0 m0 args0 below0 meth0 c0 A X
  refine z_run X bb_X10_gatherFitting_0_8 bk_X10_gatherFitting_0_8 (lv' := [(4, .int 0), (3, .int 0), (0, .ref x), (1, .int plane), (2, .int w)]) (st' := [.ref x, .int 0]) rfl ?_
  refine z_get X fl_10_26 d_X10_gatherFitting_8 0 rfl (v := .ref ring) rfl ?_
  refine z_getN X fl_10_136 d_X10_gatherFitting_11 1 rfl (v := .int 0) rfl ?_
  refine zc_ge X d_X10_gatherFitting_14 (tgt := 61) (by decide) (a := 0) (b := 0) (show (0 : Int32).toInt = 0 from by decide) (show (0 : Int32).toInt = 0 from by decide) (fun _ => ?_) (fun c14_1 => absurd c14_1 (by decide))
  refine z_run X bb_X10_gatherFitting_61_62 bk_X10_gatherFitting_61_62 (lv' := [(4, .int 0), (3, .int 0), (0, .ref x), (1, .int plane), (2, .int w)]) (st' := [.int 0]) rfl ?_
  exact z_iret X rfl d_X10_gatherFitting_62 (Nat.le_of_ble_eq_true rfl) (Nat.le_of_ble_eq_true rfl) ⟨rfl, rfl⟩

theorem d_X10_all_1 : decode cX10_all 1 = .ok (.invokestatic 156, 3) := by decide +kernel
theorem d_X10_all_4 : decode cX10_all 4 = .ok (.ifCond .eq 14, 3) := by decide +kernel
theorem d_X10_all_18 : decode cX10_all 18 = .ok (.ldc2_w 346, 3) := by decide +kernel
theorem d_X10_all_21 : decode cX10_all 21 = .ok (.lreturn, 1) := by decide +kernel
theorem d_X10_all_9 : decode cX10_all 9 = .ok (.if_icmp .lt 9, 3) := by decide +kernel
theorem d_X10_all_15 : decode cX10_all 15 = .ok (.if_icmp .le 7, 3) := by decide +kernel
theorem d_X10_all_25 : decode cX10_all 25 = .ok (.invokevirtual 386, 3) := by decide +kernel
theorem d_X10_all_32 : decode cX10_all 32 = .ok (.invokevirtual 348, 3) := by decide +kernel
theorem d_X10_all_40 : decode cX10_all 40 = .ok (.invokevirtual 348, 3) := by decide +kernel
theorem d_X10_all_57 : decode cX10_all 57 = .ok (.invokestatic 187, 3) := by decide +kernel
theorem d_X10_all_70 : decode cX10_all 70 = .ok (.if_icmp .ge 136, 3) := by decide +kernel
theorem d_X10_all_207 : decode cX10_all 207 = .ok (.getfield 12, 3) := by decide +kernel
theorem d_X10_all_210 : decode cX10_all 210 = .ok (.invokevirtual 180, 3) := by decide +kernel
theorem d_X10_all_214 : decode cX10_all 214 = .ok (.getfield 12, 3) := by decide +kernel
theorem d_X10_all_220 : decode cX10_all 220 = .ok (.invokevirtual 183, 3) := by decide +kernel
theorem d_X10_all_225 : decode cX10_all 225 = .ok (.lreturn, 1) := by decide +kernel
abbrev bb_X10_all_0_1 : ZB := [(.iload_n 1, .null)]
theorem bk_X10_all_0_1 : zchk cX10_all bb_X10_all_0_1 0 = true ∧ zpc bb_X10_all_0_1 0 = 1 := ⟨by decide +kernel, rfl⟩
abbrev bb_X10_all_7_9 : ZB := [(.iload_n 2, .null), (.iconst 1, .int 1)]
theorem bk_X10_all_7_9 : zchk cX10_all bb_X10_all_7_9 7 = true ∧ zpc bb_X10_all_7_9 7 = 9 := ⟨by decide +kernel, rfl⟩
abbrev bb_X10_all_12_15 : ZB := [(.iload_n 2, .null), (.bipush 9, .int 9)]
theorem bk_X10_all_12_15 : zchk cX10_all bb_X10_all_12_15 12 = true ∧ zpc bb_X10_all_12_15 12 = 15 := ⟨by decide +kernel, rfl⟩
abbrev bb_X10_all_22_25 : ZB := [(.aload_n 0, .null), (.iload_n 1, .null), (.iload_n 2, .null)]
theorem bk_X10_all_22_25 : zchk cX10_all bb_X10_all_22_25 22 = true ∧ zpc bb_X10_all_22_25 22 = 25 := ⟨by decide +kernel, rfl⟩
abbrev bb_X10_all_28_32 : ZB := [(.istore_n 3, .null), (.aload_n 0, .null), (.iload_n 1, .null), (.iconst 0, .int 0)]
theorem bk_X10_all_28_32 : zchk cX10_all bb_X10_all_28_32 28 = true ∧ zpc bb_X10_all_28_32 28 = 32 := ⟨by decide +kernel, rfl⟩
abbrev bb_X10_all_35_40 : ZB := [(.istore 4, .null), (.aload_n 0, .null), (.iload_n 1, .null), (.iconst 1, .int 1)]
theorem bk_X10_all_35_40 : zchk cX10_all bb_X10_all_35_40 35 = true ∧ zpc bb_X10_all_35_40 35 = 40 := ⟨by decide +kernel, rfl⟩
abbrev bb_X10_all_43_57 : ZB := [(.istore 5, .null), (.iconst 0, .int 0), (.istore 6, .null), (.iconst 0, .int 0), (.istore 7, .null), (.iload 4, .null), (.i2l, .null), (.iload 5, .null), (.i2l, .null)]
theorem bk_X10_all_43_57 : zchk cX10_all bb_X10_all_43_57 43 = true ∧ zpc bb_X10_all_43_57 43 = 57 := ⟨by decide +kernel, rfl⟩
abbrev bb_X10_all_60_70 : ZB := [(.lstore 8, .null), (.iconst 1, .int 1), (.istore 10, .null), (.iload 10, .null), (.iconst 1, .int 1), (.iload_n 3, .null), (.ishl, .null)]
theorem bk_X10_all_60_70 : zchk cX10_all bb_X10_all_60_70 60 = true ∧ zpc bb_X10_all_60_70 60 = 70 := ⟨by decide +kernel, rfl⟩
abbrev bb_X10_all_206_207 : ZB := [(.aload_n 0, .null)]
theorem bk_X10_all_206_207 : zchk cX10_all bb_X10_all_206_207 206 = true ∧ zpc bb_X10_all_206_207 206 = 207 := ⟨by decide +kernel, rfl⟩
abbrev bb_X10_all_213_214 : ZB := [(.aload_n 0, .null)]
theorem bk_X10_all_213_214 : zchk cX10_all bb_X10_all_213_214 213 = true ∧ zpc bb_X10_all_213_214 213 = 214 := ⟨by decide +kernel, rfl⟩
abbrev bb_X10_all_217_220 : ZB := [(.iload 7, .null), (.i2l, .null)]
theorem bk_X10_all_217_220 : zchk cX10_all bb_X10_all_217_220 217 = true ∧ zpc bb_X10_all_217_220 217 = 220 := ⟨by decide +kernel, rfl⟩
abbrev bb_X10_all_223_225 : ZB := [(.lload 8, .null)]
theorem bk_X10_all_223_225 : zchk cX10_all bb_X10_all_223_225 223 = true ∧ zpc bb_X10_all_223_225 223 = 225 := ⟨by decide +kernel, rfl⟩
set_option maxHeartbeats 4000000 in
set_option maxRecDepth 100000 in
theorem c_X10_all (l : Launch) (G : KG) (x : Nat) (told : Nat) (reader : Nat) (ring : Nat) (speeds : Nat) (wheel : Nat) (trials : Nat) (span : Nat) (search : Nat) (kept : Nat) (crosses : Nat) (trueM : Nat) (thought : Nat) (up : Nat) (low : Nat) (fits : Nat) (rp : Nat) (rx : Nat) (ry : Nat) (rr : Nat) (rh : Nat) (rd : Nat) (tn : Nat) (plane : Int32) (w : Int32) (planei : Int) (wi : Int) (hplane : plane.toInt = planei) (hw : w.toInt = wi) : Ct l G yX10_all cX10_all 15 (some .long) { frames := 2, cells := 0, slots := 0, locals := 47 } [.ref x, .int plane, .int w] [(x, ob 10 [.ref told, .ref reader, .ref ring, .ref speeds, .ref wheel, .ref trials, .ref span, .ref search, .ref kept, .ref crosses, .ref trueM, .ref thought, .ref up, .ref low, .ref fits, .null]), (ring, ob 5 [.int 0, .ref rp, .ref rx, .ref ry, .ref rr, .ref rh, .ref rd, .int (-1), .int 0]), (thought, aI G 8 (fun _ => 0)), (told, ob 8 [.ref tn, .int 0]), (tn, aJ G 16 (fun _ => 0))] (fun r _ => r = some (.long (an_pk planei wi 9))) := by
  refine ct_of [(0, .ref x), (1, .int plane), (2, .int w)] (by decide) (Nat.le_of_ble_eq_true rfl) rfl ?_
  intro p0 e0 s0 m0 args0 below0 meth0 c0 A X
  refine z_run X bb_X10_all_0_1 bk_X10_all_0_1 (lv' := [(0, .ref x), (1, .int plane), (2, .int w)]) (st' := [.int plane]) rfl ?_
  refine z_callS X k_10_156 (c_X10_isOneOfTwo l G plane planei hplane) d_X10_all_1 ⟨Nat.le_of_ble_eq_true rfl, Nat.le_of_ble_eq_true rfl⟩ ⟨Nat.le_of_ble_eq_true rfl, Nat.le_of_ble_eq_true rfl⟩ rfl (rest := []) (As := [.int plane]) rfl (Nat.le_of_ble_eq_true rfl) [] [0, 1, 2, 3, 4] rfl (by decide) (wr := [(x, ob 10 [.ref told, .ref reader, .ref ring, .ref speeds, .ref wheel, .ref trials, .ref span, .ref search, .ref kept, .ref crosses, .ref trueM, .ref thought, .ref up, .ref low, .ref fits, .null]), (ring, ob 5 [.int 0, .ref rp, .ref rx, .ref ry, .ref rr, .ref rh, .ref rd, .int (-1), .int 0]), (thought, aI G 8 (fun _ => 0)), (told, ob 8 [.ref tn, .int 0]), (tn, aJ G 16 (fun _ => 0))]) rfl (by decide) (by decide) ?_
  rintro _ _ ⟨rfl, rfl⟩
  refine Z.at (pc' := 4) (st' := [.int (zb (decide (planei = 0 ∨ planei = 1)))]) (ws' := [(x, ob 10 [.ref told, .ref reader, .ref ring, .ref speeds, .ref wheel, .ref trials, .ref span, .ref search, .ref kept, .ref crosses, .ref trueM, .ref thought, .ref up, .ref low, .ref fits, .null]), (ring, ob 5 [.int 0, .ref rp, .ref rx, .ref ry, .ref rr, .ref rh, .ref rd, .int (-1), .int 0]), (thought, aI G 8 (fun _ => 0)), (told, ob 8 [.ref tn, .int 0]), (tn, aJ G 16 (fun _ => 0))]) (kc' := 0) (ks' := 0) rfl rfl rfl rfl rfl ?_
  refine zi_eq_zb X d_X10_all_4 (tgt := 18) (by decide) (fun c4_1 => ?_) (fun c4_1 => ?_)
  ·
    refine z_ldc2 X d_X10_all_18 cn_10_346 ?_
    exact z_lret X rfl d_X10_all_21 (Nat.le_of_ble_eq_true rfl) (Nat.le_of_ble_eq_true rfl) (congrArg (fun z => some (Value.long z)) (by unfold an_pk; (repeat' split) <;> first | rfl | (exfalso; omega)))
  ·
    refine z_run X bb_X10_all_7_9 bk_X10_all_7_9 (lv' := [(0, .ref x), (1, .int plane), (2, .int w)]) (st' := [.int 1, .int w]) rfl ?_
    refine zc_lt X d_X10_all_9 (tgt := 18) (by decide) (a := wi) (b := 1) hw (show (1 : Int32).toInt = 1 from by decide) (fun c9_2 => ?_) (fun c9_2 => ?_)
    ·
      refine z_ldc2 X d_X10_all_18 cn_10_346 ?_
      exact z_lret X rfl d_X10_all_21 (Nat.le_of_ble_eq_true rfl) (Nat.le_of_ble_eq_true rfl) (congrArg (fun z => some (Value.long z)) (by unfold an_pk; (repeat' split) <;> first | rfl | (exfalso; omega)))
    ·
      refine z_run X bb_X10_all_12_15 bk_X10_all_12_15 (lv' := [(0, .ref x), (1, .int plane), (2, .int w)]) (st' := [.int 9, .int w]) rfl ?_
      refine zc_le X d_X10_all_15 (tgt := 22) (by decide) (a := wi) (b := 9) hw (show (9 : Int32).toInt = 9 from by decide) (fun c15_3 => ?_) (fun c15_3 => ?_)
      ·
        refine z_run X bb_X10_all_22_25 bk_X10_all_22_25 (lv' := [(0, .ref x), (1, .int plane), (2, .int w)]) (st' := [.int w, .int plane, .ref x]) rfl ?_
        refine z_callV X k_10_386 (c_X10_gatherFitting l G x told reader ring speeds wheel trials span search kept crosses trueM thought up low fits rp rx ry rr rh rd plane w) d_X10_all_25 0 rfl rfl rfl ⟨Nat.le_of_ble_eq_true rfl, Nat.le_of_ble_eq_true rfl⟩ ⟨Nat.le_of_ble_eq_true rfl, Nat.le_of_ble_eq_true rfl⟩ rfl (rest := []) (As := [.int plane, .int w]) rfl (Nat.le_of_ble_eq_true rfl) [0, 1] [2, 3, 4] rfl (by decide) (wr := [(thought, aI G 8 (fun _ => 0)), (told, ob 8 [.ref tn, .int 0]), (tn, aJ G 16 (fun _ => 0))]) rfl (by decide) (by decide) ?_
        rintro _ _ ⟨rfl, rfl⟩
        refine Z.at (pc' := 28) (st' := [.int 0]) (ws' := [(thought, aI G 8 (fun _ => 0)), (told, ob 8 [.ref tn, .int 0]), (tn, aJ G 16 (fun _ => 0)), (x, ob 10 [.ref told, .ref reader, .ref ring, .ref speeds, .ref wheel, .ref trials, .ref span, .ref search, .ref kept, .ref crosses, .ref trueM, .ref thought, .ref up, .ref low, .ref fits, .null]), (ring, ob 5 [.int 0, .ref rp, .ref rx, .ref ry, .ref rr, .ref rh, .ref rd, .int (-1), .int 0])]) (kc' := 0) (ks' := 0) rfl rfl rfl rfl rfl ?_
        refine z_run X bb_X10_all_28_32 bk_X10_all_28_32 (lv' := [(3, .int 0), (0, .ref x), (1, .int plane), (2, .int w)]) (st' := [.int 0, .int plane, .ref x]) rfl ?_
        refine z_callV X k_10_348 (c_X10_unmended l G x told reader ring speeds wheel trials span search kept crosses trueM thought up low fits rp rx ry rr rh rd plane 0 planei 0 hplane (show (0 : Int32).toInt = 0 from by decide) (by omega) (by omega)) d_X10_all_32 3 rfl rfl rfl ⟨Nat.le_of_ble_eq_true rfl, Nat.le_of_ble_eq_true rfl⟩ ⟨Nat.le_of_ble_eq_true rfl, Nat.le_of_ble_eq_true rfl⟩ rfl (rest := []) (As := [.int plane, .int 0]) rfl (Nat.le_of_ble_eq_true rfl) [3, 0, 4] [1, 2] rfl (by decide) (wr := [(told, ob 8 [.ref tn, .int 0]), (tn, aJ G 16 (fun _ => 0))]) rfl (by decide) (by decide) ?_
        rintro _ _ ⟨rfl, rfl⟩
        refine Z.at (pc' := 35) (st' := [.int 0]) (ws' := [(told, ob 8 [.ref tn, .int 0]), (tn, aJ G 16 (fun _ => 0)), (x, ob 10 [.ref told, .ref reader, .ref ring, .ref speeds, .ref wheel, .ref trials, .ref span, .ref search, .ref kept, .ref crosses, .ref trueM, .ref thought, .ref up, .ref low, .ref fits, .null]), (thought, aI G 8 (fun _ => 0)), (ring, ob 5 [.int 0, .ref rp, .ref rx, .ref ry, .ref rr, .ref rh, .ref rd, .int (-1), .int 0])]) (kc' := 0) (ks' := 0) rfl rfl rfl rfl rfl ?_
        refine z_run X bb_X10_all_35_40 bk_X10_all_35_40 (lv' := [(4, .int 0), (3, .int 0), (0, .ref x), (1, .int plane), (2, .int w)]) (st' := [.int 1, .int plane, .ref x]) rfl ?_
        refine z_callV X k_10_348 (c_X10_unmended l G x told reader ring speeds wheel trials span search kept crosses trueM thought up low fits rp rx ry rr rh rd plane 1 planei 1 hplane (show (1 : Int32).toInt = 1 from by decide) (by omega) (by omega)) d_X10_all_40 2 rfl rfl rfl ⟨Nat.le_of_ble_eq_true rfl, Nat.le_of_ble_eq_true rfl⟩ ⟨Nat.le_of_ble_eq_true rfl, Nat.le_of_ble_eq_true rfl⟩ rfl (rest := []) (As := [.int plane, .int 1]) rfl (Nat.le_of_ble_eq_true rfl) [2, 3, 4] [0, 1] rfl (by decide) (wr := [(told, ob 8 [.ref tn, .int 0]), (tn, aJ G 16 (fun _ => 0))]) rfl (by decide) (by decide) ?_
        rintro _ _ ⟨rfl, rfl⟩
        refine Z.at (pc' := 43) (st' := [.int 0]) (ws' := [(told, ob 8 [.ref tn, .int 0]), (tn, aJ G 16 (fun _ => 0)), (x, ob 10 [.ref told, .ref reader, .ref ring, .ref speeds, .ref wheel, .ref trials, .ref span, .ref search, .ref kept, .ref crosses, .ref trueM, .ref thought, .ref up, .ref low, .ref fits, .null]), (thought, aI G 8 (fun _ => 0)), (ring, ob 5 [.int 0, .ref rp, .ref rx, .ref ry, .ref rr, .ref rh, .ref rd, .int (-1), .int 0])]) (kc' := 0) (ks' := 0) rfl rfl rfl rfl rfl ?_
        refine z_run X bb_X10_all_43_57 bk_X10_all_43_57 (lv' := [(7, .int 0), (6, .int 0), (5, .int 0), (4, .int 0), (3, .int 0), (0, .ref x), (1, .int plane), (2, .int w)]) (st' := [.long 0, .long 0]) rfl ?_
        refine z_callS X k_10_187 (c_X10_sizeOf0 l G) d_X10_all_57 ⟨Nat.le_of_ble_eq_true rfl, Nat.le_of_ble_eq_true rfl⟩ ⟨Nat.le_of_ble_eq_true rfl, Nat.le_of_ble_eq_true rfl⟩ rfl (rest := []) (As := [.long 0, .long 0]) rfl (Nat.le_of_ble_eq_true rfl) [] [0, 1, 2, 3, 4] rfl (by decide) (wr := [(told, ob 8 [.ref tn, .int 0]), (tn, aJ G 16 (fun _ => 0)), (x, ob 10 [.ref told, .ref reader, .ref ring, .ref speeds, .ref wheel, .ref trials, .ref span, .ref search, .ref kept, .ref crosses, .ref trueM, .ref thought, .ref up, .ref low, .ref fits, .null]), (thought, aI G 8 (fun _ => 0)), (ring, ob 5 [.int 0, .ref rp, .ref rx, .ref ry, .ref rr, .ref rh, .ref rd, .int (-1), .int 0])]) rfl (by decide) (by decide) ?_
        rintro _ _ ⟨rfl, rfl⟩
        refine Z.at (pc' := 60) (st' := [.long 0]) (ws' := [(told, ob 8 [.ref tn, .int 0]), (tn, aJ G 16 (fun _ => 0)), (x, ob 10 [.ref told, .ref reader, .ref ring, .ref speeds, .ref wheel, .ref trials, .ref span, .ref search, .ref kept, .ref crosses, .ref trueM, .ref thought, .ref up, .ref low, .ref fits, .null]), (thought, aI G 8 (fun _ => 0)), (ring, ob 5 [.int 0, .ref rp, .ref rx, .ref ry, .ref rr, .ref rh, .ref rd, .int (-1), .int 0])]) (kc' := 0) (ks' := 0) rfl rfl rfl rfl rfl ?_
        refine z_run X bb_X10_all_60_70 bk_X10_all_60_70 (lv' := [(10, .int 1), (8, .long 0), (7, .int 0), (6, .int 0), (5, .int 0), (4, .int 0), (3, .int 0), (0, .ref x), (1, .int plane), (2, .int w)]) (st' := [.int 1, .int 1]) rfl ?_
        refine zc_ge X d_X10_all_70 (tgt := 206) (by decide) (a := 1) (b := 1) (show (1 : Int32).toInt = 1 from by decide) (show (1 : Int32).toInt = 1 from by decide) (fun _ => ?_) (fun c70_4 => absurd c70_4 (by decide))
        refine z_run X bb_X10_all_206_207 bk_X10_all_206_207 (lv' := [(10, .int 1), (8, .long 0), (7, .int 0), (6, .int 0), (5, .int 0), (4, .int 0), (3, .int 0), (0, .ref x), (1, .int plane), (2, .int w)]) (st' := [.ref x]) rfl ?_
        refine z_get X fl_10_12 d_X10_all_207 2 rfl (v := .ref told) rfl ?_
        refine z_callV X k_10_180 (c_X8_start0 l G told tn) d_X10_all_210 0 rfl rfl rfl ⟨Nat.le_of_ble_eq_true rfl, Nat.le_of_ble_eq_true rfl⟩ ⟨Nat.le_of_ble_eq_true rfl, Nat.le_of_ble_eq_true rfl⟩ rfl (rest := []) (As := []) rfl (Nat.le_of_ble_eq_true rfl) [0] [1, 2, 3, 4] rfl (by decide) (wr := [(tn, aJ G 16 (fun _ => 0)), (x, ob 10 [.ref told, .ref reader, .ref ring, .ref speeds, .ref wheel, .ref trials, .ref span, .ref search, .ref kept, .ref crosses, .ref trueM, .ref thought, .ref up, .ref low, .ref fits, .null]), (thought, aI G 8 (fun _ => 0)), (ring, ob 5 [.int 0, .ref rp, .ref rx, .ref ry, .ref rr, .ref rh, .ref rd, .int (-1), .int 0])]) rfl (by decide) (by decide) ?_
        rintro _ _ ⟨rfl, rfl⟩
        refine Z.at (pc' := 213) (st' := []) (ws' := [(tn, aJ G 16 (fun _ => 0)), (x, ob 10 [.ref told, .ref reader, .ref ring, .ref speeds, .ref wheel, .ref trials, .ref span, .ref search, .ref kept, .ref crosses, .ref trueM, .ref thought, .ref up, .ref low, .ref fits, .null]), (thought, aI G 8 (fun _ => 0)), (ring, ob 5 [.int 0, .ref rp, .ref rx, .ref ry, .ref rr, .ref rh, .ref rd, .int (-1), .int 0]), (told, ob 8 [.ref tn, .int 0])]) (kc' := 0) (ks' := 0) rfl rfl rfl rfl rfl ?_
        refine z_run X bb_X10_all_213_214 bk_X10_all_213_214 (lv' := [(10, .int 1), (8, .long 0), (7, .int 0), (6, .int 0), (5, .int 0), (4, .int 0), (3, .int 0), (0, .ref x), (1, .int plane), (2, .int w)]) (st' := [.ref x]) rfl ?_
        refine z_get X fl_10_12 d_X10_all_214 1 rfl (v := .ref told) rfl ?_
        refine z_run X bb_X10_all_217_220 bk_X10_all_217_220 (lv' := [(10, .int 1), (8, .long 0), (7, .int 0), (6, .int 0), (5, .int 0), (4, .int 0), (3, .int 0), (0, .ref x), (1, .int plane), (2, .int w)]) (st' := [.long 0, .ref told]) rfl ?_
        refine z_callV X k_10_183 (c_X8_add0 l G told tn 0 (fun _ => 0)) d_X10_all_220 4 rfl rfl rfl ⟨Nat.le_of_ble_eq_true rfl, Nat.le_of_ble_eq_true rfl⟩ ⟨Nat.le_of_ble_eq_true rfl, Nat.le_of_ble_eq_true rfl⟩ rfl (rest := []) (As := [.long 0]) rfl (Nat.le_of_ble_eq_true rfl) [4, 0] [1, 2, 3] rfl (by decide) (wr := [(x, ob 10 [.ref told, .ref reader, .ref ring, .ref speeds, .ref wheel, .ref trials, .ref span, .ref search, .ref kept, .ref crosses, .ref trueM, .ref thought, .ref up, .ref low, .ref fits, .null]), (thought, aI G 8 (fun _ => 0)), (ring, ob 5 [.int 0, .ref rp, .ref rx, .ref ry, .ref rr, .ref rh, .ref rd, .int (-1), .int 0])]) rfl (by decide) (by decide) ?_
        rintro _ _ ⟨rfl, rfl⟩
        refine Z.at (pc' := 223) (st' := []) (ws' := [(x, ob 10 [.ref told, .ref reader, .ref ring, .ref speeds, .ref wheel, .ref trials, .ref span, .ref search, .ref kept, .ref crosses, .ref trueM, .ref thought, .ref up, .ref low, .ref fits, .null]), (thought, aI G 8 (fun _ => 0)), (ring, ob 5 [.int 0, .ref rp, .ref rx, .ref ry, .ref rr, .ref rh, .ref rd, .int (-1), .int 0]), (told, ob 8 [.ref tn, .int 1]), (tn, aJ G 16 (vp_updL (fun _ => 0) 0 0))]) (kc' := 0) (ks' := 0) rfl rfl rfl rfl rfl ?_
        refine z_run X bb_X10_all_223_225 bk_X10_all_223_225 (lv' := [(10, .int 1), (8, .long 0), (7, .int 0), (6, .int 0), (5, .int 0), (4, .int 0), (3, .int 0), (0, .ref x), (1, .int plane), (2, .int w)]) (st' := [.long 0]) rfl ?_
        exact z_lret X rfl d_X10_all_225 (Nat.le_of_ble_eq_true rfl) (Nat.le_of_ble_eq_true rfl) (congrArg (fun z => some (Value.long z)) (by unfold an_pk; (repeat' split) <;> first | rfl | (exfalso; omega)))
      ·
        refine z_ldc2 X d_X10_all_18 cn_10_346 ?_
        exact z_lret X rfl d_X10_all_21 (Nat.le_of_ble_eq_true rfl) (Nat.le_of_ble_eq_true rfl) (congrArg (fun z => some (Value.long z)) (by unfold an_pk; (repeat' split) <;> first | rfl | (exfalso; omega)))

theorem d_X10_bestOunce_12 : decode cX10_bestOunce 12 = .ok (.getfield 26, 3) := by decide +kernel
theorem d_X10_bestOunce_15 : decode cX10_bestOunce 15 = .ok (.getfield 136, 3) := by decide +kernel
theorem d_X10_bestOunce_18 : decode cX10_bestOunce 18 = .ok (.if_icmp .ge 103, 3) := by decide +kernel
theorem d_X10_bestOunce_122 : decode cX10_bestOunce 122 = .ok (.ireturn, 1) := by decide +kernel
abbrev bb_X10_bestOunce_0_12 : ZB := [(.bipush (-2), .int (-2)), (.istore_n 3, .null), (.lconst 0, .long 0), (.lstore 4, .null), (.iconst 0, .int 0), (.istore 6, .null), (.iload 6, .null), (.aload_n 0, .null)]
theorem bk_X10_bestOunce_0_12 : zchk cX10_bestOunce bb_X10_bestOunce_0_12 0 = true ∧ zpc bb_X10_bestOunce_0_12 0 = 12 := ⟨by decide +kernel, rfl⟩
abbrev bb_X10_bestOunce_121_122 : ZB := [(.iload_n 3, .null)]
theorem bk_X10_bestOunce_121_122 : zchk cX10_bestOunce bb_X10_bestOunce_121_122 121 = true ∧ zpc bb_X10_bestOunce_121_122 121 = 122 := ⟨by decide +kernel, rfl⟩
set_option maxHeartbeats 4000000 in
set_option maxRecDepth 100000 in
theorem c_X10_bestOunce (l : Launch) (G : KG) (x : Nat) (told : Nat) (reader : Nat) (ring : Nat) (speeds : Nat) (wheel : Nat) (trials : Nat) (span : Nat) (search : Nat) (kept : Nat) (crosses : Nat) (trueM : Nat) (thought : Nat) (up : Nat) (low : Nat) (fits : Nat) (rp : Nat) (rx : Nat) (ry : Nat) (rr : Nat) (rh : Nat) (rd : Nat) (plane : Int32) (what : Int32) : Ct l G yX10_bestOunce cX10_bestOunce 10 (some .int) { frames := 0, cells := 0, slots := 0, locals := 0 } [.ref x, .int plane, .int what] [(x, ob 10 [.ref told, .ref reader, .ref ring, .ref speeds, .ref wheel, .ref trials, .ref span, .ref search, .ref kept, .ref crosses, .ref trueM, .ref thought, .ref up, .ref low, .ref fits, .null]), (ring, ob 5 [.int 0, .ref rp, .ref rx, .ref ry, .ref rr, .ref rh, .ref rd, .int (-1), .int 0])] (fun r w1 => r = some (.int (-2)) ∧ w1 = [(x, ob 10 [.ref told, .ref reader, .ref ring, .ref speeds, .ref wheel, .ref trials, .ref span, .ref search, .ref kept, .ref crosses, .ref trueM, .ref thought, .ref up, .ref low, .ref fits, .null]), (ring, ob 5 [.int 0, .ref rp, .ref rx, .ref ry, .ref rr, .ref rh, .ref rd, .int (-1), .int 0])]) := by
  refine ct_of [(0, .ref x), (1, .int plane), (2, .int what)] (by decide) (Nat.le_of_ble_eq_true rfl) rfl ?_
  intro p0 e0 s0 m0 args0 below0 meth0 c0 A X
  refine z_run X bb_X10_bestOunce_0_12 bk_X10_bestOunce_0_12 (lv' := [(6, .int 0), (4, .long 0), (3, .int (-2)), (0, .ref x), (1, .int plane), (2, .int what)]) (st' := [.ref x, .int 0]) rfl ?_
  refine z_get X fl_10_26 d_X10_bestOunce_12 0 rfl (v := .ref ring) rfl ?_
  refine z_getN X fl_10_136 d_X10_bestOunce_15 1 rfl (v := .int 0) rfl ?_
  refine zc_ge X d_X10_bestOunce_18 (tgt := 121) (by decide) (a := 0) (b := 0) (show (0 : Int32).toInt = 0 from by decide) (show (0 : Int32).toInt = 0 from by decide) (fun _ => ?_) (fun c18_1 => absurd c18_1 (by decide))
  refine z_run X bb_X10_bestOunce_121_122 bk_X10_bestOunce_121_122 (lv' := [(6, .int 0), (4, .long 0), (3, .int (-2)), (0, .ref x), (1, .int plane), (2, .int what)]) (st' := [.int (-2)]) rfl ?_
  exact z_iret X rfl d_X10_bestOunce_122 (Nat.le_of_ble_eq_true rfl) (Nat.le_of_ble_eq_true rfl) ⟨rfl, rfl⟩

theorem d_X10_ounce_1 : decode cX10_ounce 1 = .ok (.invokestatic 156, 3) := by decide +kernel
theorem d_X10_ounce_4 : decode cX10_ounce 4 = .ok (.ifCond .eq 10, 3) := by decide +kernel
theorem d_X10_ounce_15 : decode cX10_ounce 15 = .ok (.ireturn, 1) := by decide +kernel
theorem d_X10_ounce_8 : decode cX10_ounce 8 = .ok (.invokestatic 156, 3) := by decide +kernel
theorem d_X10_ounce_11 : decode cX10_ounce 11 = .ok (.ifCond .ne 5, 3) := by decide +kernel
theorem d_X10_ounce_19 : decode cX10_ounce 19 = .ok (.invokevirtual 392, 3) := by decide +kernel
theorem d_X10_ounce_24 : decode cX10_ounce 24 = .ok (.ifCond .lt 23, 3) := by decide +kernel
theorem d_X10_ounce_48 : decode cX10_ounce 48 = .ok (.ireturn, 1) := by decide +kernel
abbrev bb_X10_ounce_0_1 : ZB := [(.iload_n 1, .null)]
theorem bk_X10_ounce_0_1 : zchk cX10_ounce bb_X10_ounce_0_1 0 = true ∧ zpc bb_X10_ounce_0_1 0 = 1 := ⟨by decide +kernel, rfl⟩
abbrev bb_X10_ounce_14_15 : ZB := [(.iconst (-1), .int (-1))]
theorem bk_X10_ounce_14_15 : zchk cX10_ounce bb_X10_ounce_14_15 14 = true ∧ zpc bb_X10_ounce_14_15 14 = 15 := ⟨by decide +kernel, rfl⟩
abbrev bb_X10_ounce_7_8 : ZB := [(.iload_n 2, .null)]
theorem bk_X10_ounce_7_8 : zchk cX10_ounce bb_X10_ounce_7_8 7 = true ∧ zpc bb_X10_ounce_7_8 7 = 8 := ⟨by decide +kernel, rfl⟩
abbrev bb_X10_ounce_16_19 : ZB := [(.aload_n 0, .null), (.iload_n 1, .null), (.iload_n 2, .null)]
theorem bk_X10_ounce_16_19 : zchk cX10_ounce bb_X10_ounce_16_19 16 = true ∧ zpc bb_X10_ounce_16_19 16 = 19 := ⟨by decide +kernel, rfl⟩
abbrev bb_X10_ounce_22_24 : ZB := [(.istore_n 3, .null), (.iload_n 3, .null)]
theorem bk_X10_ounce_22_24 : zchk cX10_ounce bb_X10_ounce_22_24 22 = true ∧ zpc bb_X10_ounce_22_24 22 = 24 := ⟨by decide +kernel, rfl⟩
abbrev bb_X10_ounce_47_48 : ZB := [(.iload_n 3, .null)]
theorem bk_X10_ounce_47_48 : zchk cX10_ounce bb_X10_ounce_47_48 47 = true ∧ zpc bb_X10_ounce_47_48 47 = 48 := ⟨by decide +kernel, rfl⟩
set_option maxHeartbeats 4000000 in
set_option maxRecDepth 100000 in
theorem c_X10_ounce (l : Launch) (G : KG) (x : Nat) (told : Nat) (reader : Nat) (ring : Nat) (speeds : Nat) (wheel : Nat) (trials : Nat) (span : Nat) (search : Nat) (kept : Nat) (crosses : Nat) (trueM : Nat) (thought : Nat) (up : Nat) (low : Nat) (fits : Nat) (rp : Nat) (rx : Nat) (ry : Nat) (rr : Nat) (rh : Nat) (rd : Nat) (plane : Int32) (what : Int32) (planei : Int) (whati : Int) (hplane : plane.toInt = planei) (hwhat : what.toInt = whati) : Ct l G yX10_ounce cX10_ounce 4 (some .int) { frames := 1, cells := 0, slots := 0, locals := 29 } [.ref x, .int plane, .int what] [(x, ob 10 [.ref told, .ref reader, .ref ring, .ref speeds, .ref wheel, .ref trials, .ref span, .ref search, .ref kept, .ref crosses, .ref trueM, .ref thought, .ref up, .ref low, .ref fits, .null]), (ring, ob 5 [.int 0, .ref rp, .ref rx, .ref ry, .ref rr, .ref rh, .ref rd, .int (-1), .int 0])] (fun r _ => r = some (.int (an_two planei whati))) := by
  refine ct_of [(0, .ref x), (1, .int plane), (2, .int what)] (by decide) (Nat.le_of_ble_eq_true rfl) rfl ?_
  intro p0 e0 s0 m0 args0 below0 meth0 c0 A X
  refine z_run X bb_X10_ounce_0_1 bk_X10_ounce_0_1 (lv' := [(0, .ref x), (1, .int plane), (2, .int what)]) (st' := [.int plane]) rfl ?_
  refine z_callS X k_10_156 (c_X10_isOneOfTwo l G plane planei hplane) d_X10_ounce_1 ⟨Nat.le_of_ble_eq_true rfl, Nat.le_of_ble_eq_true rfl⟩ ⟨Nat.le_of_ble_eq_true rfl, Nat.le_of_ble_eq_true rfl⟩ rfl (rest := []) (As := [.int plane]) rfl (Nat.le_of_ble_eq_true rfl) [] [0, 1] rfl (by decide) (wr := [(x, ob 10 [.ref told, .ref reader, .ref ring, .ref speeds, .ref wheel, .ref trials, .ref span, .ref search, .ref kept, .ref crosses, .ref trueM, .ref thought, .ref up, .ref low, .ref fits, .null]), (ring, ob 5 [.int 0, .ref rp, .ref rx, .ref ry, .ref rr, .ref rh, .ref rd, .int (-1), .int 0])]) rfl (by decide) (by decide) ?_
  rintro _ _ ⟨rfl, rfl⟩
  refine Z.at (pc' := 4) (st' := [.int (zb (decide (planei = 0 ∨ planei = 1)))]) (ws' := [(x, ob 10 [.ref told, .ref reader, .ref ring, .ref speeds, .ref wheel, .ref trials, .ref span, .ref search, .ref kept, .ref crosses, .ref trueM, .ref thought, .ref up, .ref low, .ref fits, .null]), (ring, ob 5 [.int 0, .ref rp, .ref rx, .ref ry, .ref rr, .ref rh, .ref rd, .int (-1), .int 0])]) (kc' := 0) (ks' := 0) rfl rfl rfl rfl rfl ?_
  refine zi_eq_zb X d_X10_ounce_4 (tgt := 14) (by decide) (fun c4_1 => ?_) (fun c4_1 => ?_)
  ·
    refine z_run X bb_X10_ounce_14_15 bk_X10_ounce_14_15 (lv' := [(0, .ref x), (1, .int plane), (2, .int what)]) (st' := [.int (-1)]) rfl ?_
    exact z_iret X rfl d_X10_ounce_15 (Nat.le_of_ble_eq_true rfl) (Nat.le_of_ble_eq_true rfl) (congrArg (fun z => some (Value.int z)) (by unfold an_two; (repeat' split) <;> first | rfl | (exfalso; omega)))
  ·
    refine z_run X bb_X10_ounce_7_8 bk_X10_ounce_7_8 (lv' := [(0, .ref x), (1, .int plane), (2, .int what)]) (st' := [.int what]) rfl ?_
    refine z_callS X k_10_156 (c_X10_isOneOfTwo l G what whati hwhat) d_X10_ounce_8 ⟨Nat.le_of_ble_eq_true rfl, Nat.le_of_ble_eq_true rfl⟩ ⟨Nat.le_of_ble_eq_true rfl, Nat.le_of_ble_eq_true rfl⟩ rfl (rest := []) (As := [.int what]) rfl (Nat.le_of_ble_eq_true rfl) [] [0, 1] rfl (by decide) (wr := [(x, ob 10 [.ref told, .ref reader, .ref ring, .ref speeds, .ref wheel, .ref trials, .ref span, .ref search, .ref kept, .ref crosses, .ref trueM, .ref thought, .ref up, .ref low, .ref fits, .null]), (ring, ob 5 [.int 0, .ref rp, .ref rx, .ref ry, .ref rr, .ref rh, .ref rd, .int (-1), .int 0])]) rfl (by decide) (by decide) ?_
    rintro _ _ ⟨rfl, rfl⟩
    refine Z.at (pc' := 11) (st' := [.int (zb (decide (whati = 0 ∨ whati = 1)))]) (ws' := [(x, ob 10 [.ref told, .ref reader, .ref ring, .ref speeds, .ref wheel, .ref trials, .ref span, .ref search, .ref kept, .ref crosses, .ref trueM, .ref thought, .ref up, .ref low, .ref fits, .null]), (ring, ob 5 [.int 0, .ref rp, .ref rx, .ref ry, .ref rr, .ref rh, .ref rd, .int (-1), .int 0])]) (kc' := 0) (ks' := 0) rfl rfl rfl rfl rfl ?_
    refine zi_ne_zb X d_X10_ounce_11 (tgt := 16) (by decide) (fun c11_2 => ?_) (fun c11_2 => ?_)
    ·
      refine z_run X bb_X10_ounce_16_19 bk_X10_ounce_16_19 (lv' := [(0, .ref x), (1, .int plane), (2, .int what)]) (st' := [.int what, .int plane, .ref x]) rfl ?_
      refine z_callV X k_10_392 (c_X10_bestOunce l G x told reader ring speeds wheel trials span search kept crosses trueM thought up low fits rp rx ry rr rh rd plane what) d_X10_ounce_19 0 rfl rfl rfl ⟨Nat.le_of_ble_eq_true rfl, Nat.le_of_ble_eq_true rfl⟩ ⟨Nat.le_of_ble_eq_true rfl, Nat.le_of_ble_eq_true rfl⟩ rfl (rest := []) (As := [.int plane, .int what]) rfl (Nat.le_of_ble_eq_true rfl) [0, 1] [] rfl (by decide) (wr := []) rfl (by decide) (by decide) ?_
      rintro _ _ ⟨rfl, rfl⟩
      refine Z.at (pc' := 22) (st' := [.int (-2)]) (ws' := [(x, ob 10 [.ref told, .ref reader, .ref ring, .ref speeds, .ref wheel, .ref trials, .ref span, .ref search, .ref kept, .ref crosses, .ref trueM, .ref thought, .ref up, .ref low, .ref fits, .null]), (ring, ob 5 [.int 0, .ref rp, .ref rx, .ref ry, .ref rr, .ref rh, .ref rd, .int (-1), .int 0])]) (kc' := 0) (ks' := 0) rfl rfl rfl rfl rfl ?_
      refine z_run X bb_X10_ounce_22_24 bk_X10_ounce_22_24 (lv' := [(3, .int (-2)), (0, .ref x), (1, .int plane), (2, .int what)]) (st' := [.int (-2)]) rfl ?_
      refine zi_lt X d_X10_ounce_24 (tgt := 47) (by decide) (a := (-2)) (show ((-2) : Int32).toInt = (-2) from by decide) (fun _ => ?_) (fun c24_3 => absurd c24_3 (by decide))
      refine z_run X bb_X10_ounce_47_48 bk_X10_ounce_47_48 (lv' := [(3, .int (-2)), (0, .ref x), (1, .int plane), (2, .int what)]) (st' := [.int (-2)]) rfl ?_
      exact z_iret X rfl d_X10_ounce_48 (Nat.le_of_ble_eq_true rfl) (Nat.le_of_ble_eq_true rfl) (congrArg (fun z => some (Value.int z)) (by unfold an_two; (repeat' split) <;> first | rfl | (exfalso; omega)))
    ·
      refine z_run X bb_X10_ounce_14_15 bk_X10_ounce_14_15 (lv' := [(0, .ref x), (1, .int plane), (2, .int what)]) (st' := [.int (-1)]) rfl ?_
      exact z_iret X rfl d_X10_ounce_15 (Nat.le_of_ble_eq_true rfl) (Nat.le_of_ble_eq_true rfl) (congrArg (fun z => some (Value.int z)) (by unfold an_two; (repeat' split) <;> first | rfl | (exfalso; omega)))

theorem d_X10_settleOunce_3 : decode cX10_settleOunce 3 = .ok (.invokevirtual 392, 3) := by decide +kernel
theorem d_X10_settleOunce_10 : decode cX10_settleOunce 10 = .ok (.invokevirtual 392, 3) := by decide +kernel
theorem d_X10_settleOunce_15 : decode cX10_settleOunce 15 = .ok (.ifCond .lt 12, 3) := by decide +kernel
theorem d_X10_settleOunce_31 : decode cX10_settleOunce 31 = .ok (.ifCond .lt 12, 3) := by decide +kernel
theorem d_X10_settleOunce_49 : decode cX10_settleOunce 49 = .ok (.lcmp, 1) := by decide +kernel
theorem d_X10_settleOunce_50 : decode cX10_settleOunce 50 = .ok (.ifCond .lt 12, 3) := by decide +kernel
theorem d_X10_settleOunce_56 : decode cX10_settleOunce 56 = .ok (.lcmp, 1) := by decide +kernel
theorem d_X10_settleOunce_57 : decode cX10_settleOunce 57 = .ok (.ifCond .lt 5, 3) := by decide +kernel
theorem d_X10_settleOunce_61 : decode cX10_settleOunce 61 = .ok (.ireturn, 1) := by decide +kernel
abbrev bb_X10_settleOunce_0_3 : ZB := [(.aload_n 0, .null), (.iload_n 1, .null), (.iconst 0, .int 0)]
theorem bk_X10_settleOunce_0_3 : zchk cX10_settleOunce bb_X10_settleOunce_0_3 0 = true ∧ zpc bb_X10_settleOunce_0_3 0 = 3 := ⟨by decide +kernel, rfl⟩
abbrev bb_X10_settleOunce_6_10 : ZB := [(.istore_n 2, .null), (.aload_n 0, .null), (.iload_n 1, .null), (.iconst 1, .int 1)]
theorem bk_X10_settleOunce_6_10 : zchk cX10_settleOunce bb_X10_settleOunce_6_10 6 = true ∧ zpc bb_X10_settleOunce_6_10 6 = 10 := ⟨by decide +kernel, rfl⟩
abbrev bb_X10_settleOunce_13_15 : ZB := [(.istore_n 3, .null), (.iload_n 2, .null)]
theorem bk_X10_settleOunce_13_15 : zchk cX10_settleOunce bb_X10_settleOunce_13_15 13 = true ∧ zpc bb_X10_settleOunce_13_15 13 = 15 := ⟨by decide +kernel, rfl⟩
abbrev bb_X10_settleOunce_27_31 : ZB := [(.lconst 0, .long 0), (.lstore 4, .null), (.iload_n 3, .null)]
theorem bk_X10_settleOunce_27_31 : zchk cX10_settleOunce bb_X10_settleOunce_27_31 27 = true ∧ zpc bb_X10_settleOunce_27_31 27 = 31 := ⟨by decide +kernel, rfl⟩
abbrev bb_X10_settleOunce_43_49 : ZB := [(.lconst 0, .long 0), (.lstore 6, .null), (.lload 4, .null), (.lconst 0, .long 0)]
theorem bk_X10_settleOunce_43_49 : zchk cX10_settleOunce bb_X10_settleOunce_43_49 43 = true ∧ zpc bb_X10_settleOunce_43_49 43 = 49 := ⟨by decide +kernel, rfl⟩
abbrev bb_X10_settleOunce_53_56 : ZB := [(.lload 6, .null), (.lconst 0, .long 0)]
theorem bk_X10_settleOunce_53_56 : zchk cX10_settleOunce bb_X10_settleOunce_53_56 53 = true ∧ zpc bb_X10_settleOunce_53_56 53 = 56 := ⟨by decide +kernel, rfl⟩
abbrev bb_X10_settleOunce_60_61 : ZB := [(.iconst 0, .int 0)]
theorem bk_X10_settleOunce_60_61 : zchk cX10_settleOunce bb_X10_settleOunce_60_61 60 = true ∧ zpc bb_X10_settleOunce_60_61 60 = 61 := ⟨by decide +kernel, rfl⟩
set_option maxHeartbeats 4000000 in
set_option maxRecDepth 100000 in
theorem c_X10_settleOunce (l : Launch) (G : KG) (x : Nat) (told : Nat) (reader : Nat) (ring : Nat) (speeds : Nat) (wheel : Nat) (trials : Nat) (span : Nat) (search : Nat) (kept : Nat) (crosses : Nat) (trueM : Nat) (thought : Nat) (up : Nat) (low : Nat) (fits : Nat) (rp : Nat) (rx : Nat) (ry : Nat) (rr : Nat) (rh : Nat) (rd : Nat) (plane : Int32) : Ct l G yX10_settleOunce cX10_settleOunce 8 (some .boolean) { frames := 1, cells := 0, slots := 0, locals := 29 } [.ref x, .int plane] [(x, ob 10 [.ref told, .ref reader, .ref ring, .ref speeds, .ref wheel, .ref trials, .ref span, .ref search, .ref kept, .ref crosses, .ref trueM, .ref thought, .ref up, .ref low, .ref fits, .null]), (ring, ob 5 [.int 0, .ref rp, .ref rx, .ref ry, .ref rr, .ref rh, .ref rd, .int (-1), .int 0])] (fun r w1 => r = some (.int 0) ∧ w1 = [(x, ob 10 [.ref told, .ref reader, .ref ring, .ref speeds, .ref wheel, .ref trials, .ref span, .ref search, .ref kept, .ref crosses, .ref trueM, .ref thought, .ref up, .ref low, .ref fits, .null]), (ring, ob 5 [.int 0, .ref rp, .ref rx, .ref ry, .ref rr, .ref rh, .ref rd, .int (-1), .int 0])]) := by
  refine ct_of [(0, .ref x), (1, .int plane)] (by decide) (Nat.le_of_ble_eq_true rfl) rfl ?_
  intro p0 e0 s0 m0 args0 below0 meth0 c0 A X
  refine z_run X bb_X10_settleOunce_0_3 bk_X10_settleOunce_0_3 (lv' := [(0, .ref x), (1, .int plane)]) (st' := [.int 0, .int plane, .ref x]) rfl ?_
  refine z_callV X k_10_392 (c_X10_bestOunce l G x told reader ring speeds wheel trials span search kept crosses trueM thought up low fits rp rx ry rr rh rd plane 0) d_X10_settleOunce_3 0 rfl rfl rfl ⟨Nat.le_of_ble_eq_true rfl, Nat.le_of_ble_eq_true rfl⟩ ⟨Nat.le_of_ble_eq_true rfl, Nat.le_of_ble_eq_true rfl⟩ rfl (rest := []) (As := [.int plane, .int 0]) rfl (Nat.le_of_ble_eq_true rfl) [0, 1] [] rfl (by decide) (wr := []) rfl (by decide) (by decide) ?_
  rintro _ _ ⟨rfl, rfl⟩
  refine Z.at (pc' := 6) (st' := [.int (-2)]) (ws' := [(x, ob 10 [.ref told, .ref reader, .ref ring, .ref speeds, .ref wheel, .ref trials, .ref span, .ref search, .ref kept, .ref crosses, .ref trueM, .ref thought, .ref up, .ref low, .ref fits, .null]), (ring, ob 5 [.int 0, .ref rp, .ref rx, .ref ry, .ref rr, .ref rh, .ref rd, .int (-1), .int 0])]) (kc' := 0) (ks' := 0) rfl rfl rfl rfl rfl ?_
  refine z_run X bb_X10_settleOunce_6_10 bk_X10_settleOunce_6_10 (lv' := [(2, .int (-2)), (0, .ref x), (1, .int plane)]) (st' := [.int 1, .int plane, .ref x]) rfl ?_
  refine z_callV X k_10_392 (c_X10_bestOunce l G x told reader ring speeds wheel trials span search kept crosses trueM thought up low fits rp rx ry rr rh rd plane 1) d_X10_settleOunce_10 0 rfl rfl rfl ⟨Nat.le_of_ble_eq_true rfl, Nat.le_of_ble_eq_true rfl⟩ ⟨Nat.le_of_ble_eq_true rfl, Nat.le_of_ble_eq_true rfl⟩ rfl (rest := []) (As := [.int plane, .int 1]) rfl (Nat.le_of_ble_eq_true rfl) [0, 1] [] rfl (by decide) (wr := []) rfl (by decide) (by decide) ?_
  rintro _ _ ⟨rfl, rfl⟩
  refine Z.at (pc' := 13) (st' := [.int (-2)]) (ws' := [(x, ob 10 [.ref told, .ref reader, .ref ring, .ref speeds, .ref wheel, .ref trials, .ref span, .ref search, .ref kept, .ref crosses, .ref trueM, .ref thought, .ref up, .ref low, .ref fits, .null]), (ring, ob 5 [.int 0, .ref rp, .ref rx, .ref ry, .ref rr, .ref rh, .ref rd, .int (-1), .int 0])]) (kc' := 0) (ks' := 0) rfl rfl rfl rfl rfl ?_
  refine z_run X bb_X10_settleOunce_13_15 bk_X10_settleOunce_13_15 (lv' := [(3, .int (-2)), (2, .int (-2)), (0, .ref x), (1, .int plane)]) (st' := [.int (-2)]) rfl ?_
  refine zi_lt X d_X10_settleOunce_15 (tgt := 27) (by decide) (a := (-2)) (show ((-2) : Int32).toInt = (-2) from by decide) (fun _ => ?_) (fun c15_1 => absurd c15_1 (by decide))
  refine z_run X bb_X10_settleOunce_27_31 bk_X10_settleOunce_27_31 (lv' := [(4, .long 0), (3, .int (-2)), (2, .int (-2)), (0, .ref x), (1, .int plane)]) (st' := [.int (-2)]) rfl ?_
  refine zi_lt X d_X10_settleOunce_31 (tgt := 43) (by decide) (a := (-2)) (show ((-2) : Int32).toInt = (-2) from by decide) (fun _ => ?_) (fun c31_2 => absurd c31_2 (by decide))
  refine z_run X bb_X10_settleOunce_43_49 bk_X10_settleOunce_43_49 (lv' := [(6, .long 0), (4, .long 0), (3, .int (-2)), (2, .int (-2)), (0, .ref x), (1, .int plane)]) (st' := [.long 0, .long 0]) rfl ?_
  refine zl_lt X d_X10_settleOunce_49 d_X10_settleOunce_50 (tgt := 62) (by decide) (a := 0) (b := 0) (show (0 : Int64).toInt = 0 from by decide) (show (0 : Int64).toInt = 0 from by decide) (fun c49_3 => absurd c49_3 (by decide)) (fun _ => ?_)
  refine z_run X bb_X10_settleOunce_53_56 bk_X10_settleOunce_53_56 (lv' := [(6, .long 0), (4, .long 0), (3, .int (-2)), (2, .int (-2)), (0, .ref x), (1, .int plane)]) (st' := [.long 0, .long 0]) rfl ?_
  refine zl_lt X d_X10_settleOunce_56 d_X10_settleOunce_57 (tgt := 62) (by decide) (a := 0) (b := 0) (show (0 : Int64).toInt = 0 from by decide) (show (0 : Int64).toInt = 0 from by decide) (fun c56_4 => absurd c56_4 (by decide)) (fun _ => ?_)
  refine z_run X bb_X10_settleOunce_60_61 bk_X10_settleOunce_60_61 (lv' := [(6, .long 0), (4, .long 0), (3, .int (-2)), (2, .int (-2)), (0, .ref x), (1, .int plane)]) (st' := [.int 0]) rfl ?_
  exact z_zret X rfl rfl d_X10_settleOunce_61 (Nat.le_of_ble_eq_true rfl) (Nat.le_of_ble_eq_true rfl) ⟨rfl, rfl⟩

theorem d_X10_settle_1 : decode cX10_settle 1 = .ok (.invokestatic 156, 3) := by decide +kernel
theorem d_X10_settle_4 : decode cX10_settle 4 = .ok (.ifCond .ne 5, 3) := by decide +kernel
theorem d_X10_settle_15 : decode cX10_settle 15 = .ok (.if_icmp .ge 17, 3) := by decide +kernel
theorem d_X10_settle_20 : decode cX10_settle 20 = .ok (.invokevirtual 398, 3) := by decide +kernel
theorem d_X10_settle_23 : decode cX10_settle 23 = .ok (.ifCond .eq 9, 3) := by decide +kernel
theorem d_X10_settle_33 : decode cX10_settle 33 = .ok (.ireturn, 1) := by decide +kernel
theorem d_X10_settle_8 : decode cX10_settle 8 = .ok (.ireturn, 1) := by decide +kernel
abbrev bb_X10_settle_0_1 : ZB := [(.iload_n 1, .null)]
theorem bk_X10_settle_0_1 : zchk cX10_settle bb_X10_settle_0_1 0 = true ∧ zpc bb_X10_settle_0_1 0 = 1 := ⟨by decide +kernel, rfl⟩
abbrev bb_X10_settle_9_15 : ZB := [(.iconst 0, .int 0), (.istore_n 2, .null), (.iload_n 2, .null), (.sipush 200, .int 200)]
theorem bk_X10_settle_9_15 : zchk cX10_settle bb_X10_settle_9_15 9 = true ∧ zpc bb_X10_settle_9_15 9 = 15 := ⟨by decide +kernel, rfl⟩
abbrev bb_X10_settle_18_20 : ZB := [(.aload_n 0, .null), (.iload_n 1, .null)]
theorem bk_X10_settle_18_20 : zchk cX10_settle bb_X10_settle_18_20 18 = true ∧ zpc bb_X10_settle_18_20 18 = 20 := ⟨by decide +kernel, rfl⟩
abbrev bb_X10_settle_32_33 : ZB := [(.iload_n 2, .null)]
theorem bk_X10_settle_32_33 : zchk cX10_settle bb_X10_settle_32_33 32 = true ∧ zpc bb_X10_settle_32_33 32 = 33 := ⟨by decide +kernel, rfl⟩
abbrev bb_X10_settle_7_8 : ZB := [(.iconst (-1), .int (-1))]
theorem bk_X10_settle_7_8 : zchk cX10_settle bb_X10_settle_7_8 7 = true ∧ zpc bb_X10_settle_7_8 7 = 8 := ⟨by decide +kernel, rfl⟩
set_option maxHeartbeats 4000000 in
set_option maxRecDepth 100000 in
theorem c_X10_settle (l : Launch) (G : KG) (x : Nat) (told : Nat) (reader : Nat) (ring : Nat) (speeds : Nat) (wheel : Nat) (trials : Nat) (span : Nat) (search : Nat) (kept : Nat) (crosses : Nat) (trueM : Nat) (thought : Nat) (up : Nat) (low : Nat) (fits : Nat) (rp : Nat) (rx : Nat) (ry : Nat) (rr : Nat) (rh : Nat) (rd : Nat) (plane : Int32) (planei : Int) (hplane : plane.toInt = planei) : Ct l G yX10_settle cX10_settle 3 (some .int) { frames := 2, cells := 0, slots := 0, locals := 56 } [.ref x, .int plane] [(x, ob 10 [.ref told, .ref reader, .ref ring, .ref speeds, .ref wheel, .ref trials, .ref span, .ref search, .ref kept, .ref crosses, .ref trueM, .ref thought, .ref up, .ref low, .ref fits, .null]), (ring, ob 5 [.int 0, .ref rp, .ref rx, .ref ry, .ref rr, .ref rh, .ref rd, .int (-1), .int 0])] (fun r _ => r = some (.int (an_planeI planei))) := by
  refine ct_of [(0, .ref x), (1, .int plane)] (by decide) (Nat.le_of_ble_eq_true rfl) rfl ?_
  intro p0 e0 s0 m0 args0 below0 meth0 c0 A X
  refine z_run X bb_X10_settle_0_1 bk_X10_settle_0_1 (lv' := [(0, .ref x), (1, .int plane)]) (st' := [.int plane]) rfl ?_
  refine z_callS X k_10_156 (c_X10_isOneOfTwo l G plane planei hplane) d_X10_settle_1 ⟨Nat.le_of_ble_eq_true rfl, Nat.le_of_ble_eq_true rfl⟩ ⟨Nat.le_of_ble_eq_true rfl, Nat.le_of_ble_eq_true rfl⟩ rfl (rest := []) (As := [.int plane]) rfl (Nat.le_of_ble_eq_true rfl) [] [0, 1] rfl (by decide) (wr := [(x, ob 10 [.ref told, .ref reader, .ref ring, .ref speeds, .ref wheel, .ref trials, .ref span, .ref search, .ref kept, .ref crosses, .ref trueM, .ref thought, .ref up, .ref low, .ref fits, .null]), (ring, ob 5 [.int 0, .ref rp, .ref rx, .ref ry, .ref rr, .ref rh, .ref rd, .int (-1), .int 0])]) rfl (by decide) (by decide) ?_
  rintro _ _ ⟨rfl, rfl⟩
  refine Z.at (pc' := 4) (st' := [.int (zb (decide (planei = 0 ∨ planei = 1)))]) (ws' := [(x, ob 10 [.ref told, .ref reader, .ref ring, .ref speeds, .ref wheel, .ref trials, .ref span, .ref search, .ref kept, .ref crosses, .ref trueM, .ref thought, .ref up, .ref low, .ref fits, .null]), (ring, ob 5 [.int 0, .ref rp, .ref rx, .ref ry, .ref rr, .ref rh, .ref rd, .int (-1), .int 0])]) (kc' := 0) (ks' := 0) rfl rfl rfl rfl rfl ?_
  refine zi_ne_zb X d_X10_settle_4 (tgt := 9) (by decide) (fun c4_1 => ?_) (fun c4_1 => ?_)
  ·
    refine z_run X bb_X10_settle_9_15 bk_X10_settle_9_15 (lv' := [(2, .int 0), (0, .ref x), (1, .int plane)]) (st' := [.int 200, .int 0]) rfl ?_
    refine zc_ge X d_X10_settle_15 (tgt := 32) (by decide) (a := 0) (b := 200) (show (0 : Int32).toInt = 0 from by decide) (show (200 : Int32).toInt = 200 from by decide) (fun c15_2 => absurd c15_2 (by decide)) (fun _ => ?_)
    refine z_run X bb_X10_settle_18_20 bk_X10_settle_18_20 (lv' := [(2, .int 0), (0, .ref x), (1, .int plane)]) (st' := [.int plane, .ref x]) rfl ?_
    refine z_callV X k_10_398 (c_X10_settleOunce l G x told reader ring speeds wheel trials span search kept crosses trueM thought up low fits rp rx ry rr rh rd plane) d_X10_settle_20 0 rfl rfl rfl ⟨Nat.le_of_ble_eq_true rfl, Nat.le_of_ble_eq_true rfl⟩ ⟨Nat.le_of_ble_eq_true rfl, Nat.le_of_ble_eq_true rfl⟩ rfl (rest := []) (As := [.int plane]) rfl (Nat.le_of_ble_eq_true rfl) [0, 1] [] rfl (by decide) (wr := []) rfl (by decide) (by decide) ?_
    rintro _ _ ⟨rfl, rfl⟩
    refine Z.at (pc' := 23) (st' := [.int 0]) (ws' := [(x, ob 10 [.ref told, .ref reader, .ref ring, .ref speeds, .ref wheel, .ref trials, .ref span, .ref search, .ref kept, .ref crosses, .ref trueM, .ref thought, .ref up, .ref low, .ref fits, .null]), (ring, ob 5 [.int 0, .ref rp, .ref rx, .ref ry, .ref rr, .ref rh, .ref rd, .int (-1), .int 0])]) (kc' := 0) (ks' := 0) rfl rfl rfl rfl rfl ?_
    refine zi_eq X d_X10_settle_23 (tgt := 32) (by decide) (a := 0) (show (0 : Int32).toInt = 0 from by decide) (fun _ => ?_) (fun c23_3 => absurd c23_3 (by decide))
    refine z_run X bb_X10_settle_32_33 bk_X10_settle_32_33 (lv' := [(2, .int 0), (0, .ref x), (1, .int plane)]) (st' := [.int 0]) rfl ?_
    exact z_iret X rfl d_X10_settle_33 (Nat.le_of_ble_eq_true rfl) (Nat.le_of_ble_eq_true rfl) (congrArg (fun z => some (Value.int z)) (by unfold an_planeI; (repeat' split) <;> first | rfl | (exfalso; omega)))
  ·
    refine z_run X bb_X10_settle_7_8 bk_X10_settle_7_8 (lv' := [(0, .ref x), (1, .int plane)]) (st' := [.int (-1)]) rfl ?_
    exact z_iret X rfl d_X10_settle_8 (Nat.le_of_ble_eq_true rfl) (Nat.le_of_ble_eq_true rfl) (congrArg (fun z => some (Value.int z)) (by unfold an_planeI; (repeat' split) <;> first | rfl | (exfalso; omega)))

theorem d_X10_both_1 : decode cX10_both 1 = .ok (.getfield 33, 3) := by decide +kernel
theorem d_X10_both_5 : decode cX10_both 5 = .ok (.invokevirtual 173, 3) := by decide +kernel
theorem d_X10_both_8 : decode cX10_both 8 = .ok (.ifCond .eq 41, 3) := by decide +kernel
theorem d_X10_both_50 : decode cX10_both 50 = .ok (.ireturn, 1) := by decide +kernel
abbrev bb_X10_both_0_1 : ZB := [(.aload_n 0, .null)]
theorem bk_X10_both_0_1 : zchk cX10_both bb_X10_both_0_1 0 = true ∧ zpc bb_X10_both_0_1 0 = 1 := ⟨by decide +kernel, rfl⟩
abbrev bb_X10_both_4_5 : ZB := [(.iload_n 1, .null)]
theorem bk_X10_both_4_5 : zchk cX10_both bb_X10_both_4_5 4 = true ∧ zpc bb_X10_both_4_5 4 = 5 := ⟨by decide +kernel, rfl⟩
abbrev bb_X10_both_49_50 : ZB := [(.iconst (-1), .int (-1))]
theorem bk_X10_both_49_50 : zchk cX10_both bb_X10_both_49_50 49 = true ∧ zpc bb_X10_both_49_50 49 = 50 := ⟨by decide +kernel, rfl⟩
set_option maxHeartbeats 4000000 in
set_option maxRecDepth 100000 in
theorem c_X10_both (l : Launch) (G : KG) (x : Nat) (told : Nat) (reader : Nat) (ring : Nat) (speeds : Nat) (wheel : Nat) (trials : Nat) (span : Nat) (search : Nat) (kept : Nat) (crosses : Nat) (trueM : Nat) (thought : Nat) (up : Nat) (low : Nat) (fits : Nat) (sf : Nat) (so : Nat) (sa : Nat) (sx : Nat) (sy : Nat) (speed : Int32) (x0 : Int32) (y0 : Int32) (x1 : Int32) (y1 : Int32) (speedi : Int) (x0i : Int) (y0i : Int) (x1i : Int) (y1i : Int) (hspeed : speed.toInt = speedi) (hx0 : x0.toInt = x0i) (hy0 : y0.toInt = y0i) (hx1 : x1.toInt = x1i) (hy1 : y1.toInt = y1i) : Ct l G yX10_both cX10_both 6 (some .int) { frames := 1, cells := 0, slots := 0, locals := 21 } [.ref x, .int speed, .int x0, .int y0, .int x1, .int y1] [(x, ob 10 [.ref told, .ref reader, .ref ring, .ref speeds, .ref wheel, .ref trials, .ref span, .ref search, .ref kept, .ref crosses, .ref trueM, .ref thought, .ref up, .ref low, .ref fits, .null]), (speeds, ob 7 [.int 0, .ref sf, .ref so, .ref sa, .ref sx, .ref sy])] (fun r _ => r = some (.int (-1))) := by
  refine ct_of [(0, .ref x), (1, .int speed), (2, .int x0), (3, .int y0), (4, .int x1), (5, .int y1)] (by decide) (Nat.le_of_ble_eq_true rfl) rfl ?_
  intro p0 e0 s0 m0 args0 below0 meth0 c0 A X
  refine z_run X bb_X10_both_0_1 bk_X10_both_0_1 (lv' := [(0, .ref x), (1, .int speed), (2, .int x0), (3, .int y0), (4, .int x1), (5, .int y1)]) (st' := [.ref x]) rfl ?_
  refine z_get X fl_10_33 d_X10_both_1 0 rfl (v := .ref speeds) rfl ?_
  refine z_run X bb_X10_both_4_5 bk_X10_both_4_5 (lv' := [(0, .ref x), (1, .int speed), (2, .int x0), (3, .int y0), (4, .int x1), (5, .int y1)]) (st' := [.int speed, .ref speeds]) rfl ?_
  refine z_callV X k_10_173 (c_X7_isSpeed l G speeds sf so sa sx sy speed speedi hspeed) d_X10_both_5 1 rfl rfl rfl ⟨Nat.le_of_ble_eq_true rfl, Nat.le_of_ble_eq_true rfl⟩ ⟨Nat.le_of_ble_eq_true rfl, Nat.le_of_ble_eq_true rfl⟩ rfl (rest := []) (As := [.int speed]) rfl (Nat.le_of_ble_eq_true rfl) [1] [0] rfl (by decide) (wr := [(x, ob 10 [.ref told, .ref reader, .ref ring, .ref speeds, .ref wheel, .ref trials, .ref span, .ref search, .ref kept, .ref crosses, .ref trueM, .ref thought, .ref up, .ref low, .ref fits, .null])]) rfl (by decide) (by decide) ?_
  rintro _ _ ⟨rfl, rfl⟩
  refine Z.at (pc' := 8) (st' := [.int 0]) (ws' := [(x, ob 10 [.ref told, .ref reader, .ref ring, .ref speeds, .ref wheel, .ref trials, .ref span, .ref search, .ref kept, .ref crosses, .ref trueM, .ref thought, .ref up, .ref low, .ref fits, .null]), (speeds, ob 7 [.int 0, .ref sf, .ref so, .ref sa, .ref sx, .ref sy])]) (kc' := 0) (ks' := 0) rfl rfl rfl rfl rfl ?_
  refine zi_eq X d_X10_both_8 (tgt := 49) (by decide) (a := 0) (show (0 : Int32).toInt = 0 from by decide) (fun _ => ?_) (fun c8_1 => absurd c8_1 (by decide))
  refine z_run X bb_X10_both_49_50 bk_X10_both_49_50 (lv' := [(0, .ref x), (1, .int speed), (2, .int x0), (3, .int y0), (4, .int x1), (5, .int y1)]) (st' := [.int (-1)]) rfl ?_
  exact z_iret X rfl d_X10_both_50 (Nat.le_of_ble_eq_true rfl) (Nat.le_of_ble_eq_true rfl) rfl

theorem d_X10_two_1 : decode cX10_two 1 = .ok (.getfield 33, 3) := by decide +kernel
theorem d_X10_two_5 : decode cX10_two 5 = .ok (.invokevirtual 173, 3) := by decide +kernel
theorem d_X10_two_8 : decode cX10_two 8 = .ok (.ifCond .ne 7, 3) := by decide +kernel
theorem d_X10_two_11 : decode cX10_two 11 = .ok (.ldc2_w 346, 3) := by decide +kernel
theorem d_X10_two_14 : decode cX10_two 14 = .ok (.lreturn, 1) := by decide +kernel
abbrev bb_X10_two_0_1 : ZB := [(.aload_n 0, .null)]
theorem bk_X10_two_0_1 : zchk cX10_two bb_X10_two_0_1 0 = true ∧ zpc bb_X10_two_0_1 0 = 1 := ⟨by decide +kernel, rfl⟩
abbrev bb_X10_two_4_5 : ZB := [(.iload_n 1, .null)]
theorem bk_X10_two_4_5 : zchk cX10_two bb_X10_two_4_5 4 = true ∧ zpc bb_X10_two_4_5 4 = 5 := ⟨by decide +kernel, rfl⟩
set_option maxHeartbeats 4000000 in
set_option maxRecDepth 100000 in
theorem c_X10_two (l : Launch) (G : KG) (x : Nat) (told : Nat) (reader : Nat) (ring : Nat) (speeds : Nat) (wheel : Nat) (trials : Nat) (span : Nat) (search : Nat) (kept : Nat) (crosses : Nat) (trueM : Nat) (thought : Nat) (up : Nat) (low : Nat) (fits : Nat) (sf : Nat) (so : Nat) (sa : Nat) (sx : Nat) (sy : Nat) (speed : Int32) (speedi : Int) (hspeed : speed.toInt = speedi) : Ct l G yX10_two cX10_two 5 (some .long) { frames := 1, cells := 0, slots := 0, locals := 21 } [.ref x, .int speed] [(x, ob 10 [.ref told, .ref reader, .ref ring, .ref speeds, .ref wheel, .ref trials, .ref span, .ref search, .ref kept, .ref crosses, .ref trueM, .ref thought, .ref up, .ref low, .ref fits, .null]), (speeds, ob 7 [.int 0, .ref sf, .ref so, .ref sa, .ref sx, .ref sy])] (fun r _ => r = some (.long (-1))) := by
  refine ct_of [(0, .ref x), (1, .int speed)] (by decide) (Nat.le_of_ble_eq_true rfl) rfl ?_
  intro p0 e0 s0 m0 args0 below0 meth0 c0 A X
  refine z_run X bb_X10_two_0_1 bk_X10_two_0_1 (lv' := [(0, .ref x), (1, .int speed)]) (st' := [.ref x]) rfl ?_
  refine z_get X fl_10_33 d_X10_two_1 0 rfl (v := .ref speeds) rfl ?_
  refine z_run X bb_X10_two_4_5 bk_X10_two_4_5 (lv' := [(0, .ref x), (1, .int speed)]) (st' := [.int speed, .ref speeds]) rfl ?_
  refine z_callV X k_10_173 (c_X7_isSpeed l G speeds sf so sa sx sy speed speedi hspeed) d_X10_two_5 1 rfl rfl rfl ⟨Nat.le_of_ble_eq_true rfl, Nat.le_of_ble_eq_true rfl⟩ ⟨Nat.le_of_ble_eq_true rfl, Nat.le_of_ble_eq_true rfl⟩ rfl (rest := []) (As := [.int speed]) rfl (Nat.le_of_ble_eq_true rfl) [1] [0] rfl (by decide) (wr := [(x, ob 10 [.ref told, .ref reader, .ref ring, .ref speeds, .ref wheel, .ref trials, .ref span, .ref search, .ref kept, .ref crosses, .ref trueM, .ref thought, .ref up, .ref low, .ref fits, .null])]) rfl (by decide) (by decide) ?_
  rintro _ _ ⟨rfl, rfl⟩
  refine Z.at (pc' := 8) (st' := [.int 0]) (ws' := [(x, ob 10 [.ref told, .ref reader, .ref ring, .ref speeds, .ref wheel, .ref trials, .ref span, .ref search, .ref kept, .ref crosses, .ref trueM, .ref thought, .ref up, .ref low, .ref fits, .null]), (speeds, ob 7 [.int 0, .ref sf, .ref so, .ref sa, .ref sx, .ref sy])]) (kc' := 0) (ks' := 0) rfl rfl rfl rfl rfl ?_
  refine zi_ne X d_X10_two_8 (tgt := 15) (by decide) (a := 0) (show (0 : Int32).toInt = 0 from by decide) (fun c8_1 => absurd c8_1 (by decide)) (fun _ => ?_)
  refine z_ldc2 X d_X10_two_11 cn_10_346 ?_
  exact z_lret X rfl d_X10_two_14 (Nat.le_of_ble_eq_true rfl) (Nat.le_of_ble_eq_true rfl) rfl

theorem d_X10_at_1 : decode cX10_at 1 = .ok (.getfield 33, 3) := by decide +kernel
theorem d_X10_at_5 : decode cX10_at 5 = .ok (.invokevirtual 173, 3) := by decide +kernel
theorem d_X10_at_8 : decode cX10_at 8 = .ok (.ifCond .eq 23, 3) := by decide +kernel
theorem d_X10_at_32 : decode cX10_at 32 = .ok (.ireturn, 1) := by decide +kernel
abbrev bb_X10_at_0_1 : ZB := [(.aload_n 0, .null)]
theorem bk_X10_at_0_1 : zchk cX10_at bb_X10_at_0_1 0 = true ∧ zpc bb_X10_at_0_1 0 = 1 := ⟨by decide +kernel, rfl⟩
abbrev bb_X10_at_4_5 : ZB := [(.iload_n 1, .null)]
theorem bk_X10_at_4_5 : zchk cX10_at bb_X10_at_4_5 4 = true ∧ zpc bb_X10_at_4_5 4 = 5 := ⟨by decide +kernel, rfl⟩
abbrev bb_X10_at_31_32 : ZB := [(.iconst 0, .int 0)]
theorem bk_X10_at_31_32 : zchk cX10_at bb_X10_at_31_32 31 = true ∧ zpc bb_X10_at_31_32 31 = 32 := ⟨by decide +kernel, rfl⟩
set_option maxHeartbeats 4000000 in
set_option maxRecDepth 100000 in
theorem c_X10_at (l : Launch) (G : KG) (x : Nat) (told : Nat) (reader : Nat) (ring : Nat) (speeds : Nat) (wheel : Nat) (trials : Nat) (span : Nat) (search : Nat) (kept : Nat) (crosses : Nat) (trueM : Nat) (thought : Nat) (up : Nat) (low : Nat) (fits : Nat) (sf : Nat) (so : Nat) (sa : Nat) (sx : Nat) (sy : Nat) (speed : Int32) (px : Int32) (py : Int32) (speedi : Int) (pxi : Int) (pyi : Int) (hspeed : speed.toInt = speedi) (hpx : px.toInt = pxi) (hpy : py.toInt = pyi) : Ct l G yX10_at cX10_at 4 (some .boolean) { frames := 1, cells := 0, slots := 0, locals := 21 } [.ref x, .int speed, .int px, .int py] [(x, ob 10 [.ref told, .ref reader, .ref ring, .ref speeds, .ref wheel, .ref trials, .ref span, .ref search, .ref kept, .ref crosses, .ref trueM, .ref thought, .ref up, .ref low, .ref fits, .null]), (speeds, ob 7 [.int 0, .ref sf, .ref so, .ref sa, .ref sx, .ref sy])] (fun r _ => r = some (.int 0)) := by
  refine ct_of [(0, .ref x), (1, .int speed), (2, .int px), (3, .int py)] (by decide) (Nat.le_of_ble_eq_true rfl) rfl ?_
  intro p0 e0 s0 m0 args0 below0 meth0 c0 A X
  refine z_run X bb_X10_at_0_1 bk_X10_at_0_1 (lv' := [(0, .ref x), (1, .int speed), (2, .int px), (3, .int py)]) (st' := [.ref x]) rfl ?_
  refine z_get X fl_10_33 d_X10_at_1 0 rfl (v := .ref speeds) rfl ?_
  refine z_run X bb_X10_at_4_5 bk_X10_at_4_5 (lv' := [(0, .ref x), (1, .int speed), (2, .int px), (3, .int py)]) (st' := [.int speed, .ref speeds]) rfl ?_
  refine z_callV X k_10_173 (c_X7_isSpeed l G speeds sf so sa sx sy speed speedi hspeed) d_X10_at_5 1 rfl rfl rfl ⟨Nat.le_of_ble_eq_true rfl, Nat.le_of_ble_eq_true rfl⟩ ⟨Nat.le_of_ble_eq_true rfl, Nat.le_of_ble_eq_true rfl⟩ rfl (rest := []) (As := [.int speed]) rfl (Nat.le_of_ble_eq_true rfl) [1] [0] rfl (by decide) (wr := [(x, ob 10 [.ref told, .ref reader, .ref ring, .ref speeds, .ref wheel, .ref trials, .ref span, .ref search, .ref kept, .ref crosses, .ref trueM, .ref thought, .ref up, .ref low, .ref fits, .null])]) rfl (by decide) (by decide) ?_
  rintro _ _ ⟨rfl, rfl⟩
  refine Z.at (pc' := 8) (st' := [.int 0]) (ws' := [(x, ob 10 [.ref told, .ref reader, .ref ring, .ref speeds, .ref wheel, .ref trials, .ref span, .ref search, .ref kept, .ref crosses, .ref trueM, .ref thought, .ref up, .ref low, .ref fits, .null]), (speeds, ob 7 [.int 0, .ref sf, .ref so, .ref sa, .ref sx, .ref sy])]) (kc' := 0) (ks' := 0) rfl rfl rfl rfl rfl ?_
  refine zi_eq X d_X10_at_8 (tgt := 31) (by decide) (a := 0) (show (0 : Int32).toInt = 0 from by decide) (fun _ => ?_) (fun c8_1 => absurd c8_1 (by decide))
  refine z_run X bb_X10_at_31_32 bk_X10_at_31_32 (lv' := [(0, .ref x), (1, .int speed), (2, .int px), (3, .int py)]) (st' := [.int 0]) rfl ?_
  exact z_zret X rfl rfl d_X10_at_32 (Nat.le_of_ble_eq_true rfl) (Nat.le_of_ble_eq_true rfl) rfl

theorem d_X10_worst_1 : decode cX10_worst 1 = .ok (.getfield 33, 3) := by decide +kernel
theorem d_X10_worst_4 : decode cX10_worst 4 = .ok (.getfield 191, 3) := by decide +kernel
theorem d_X10_worst_7 : decode cX10_worst 7 = .ok (.ifCond .ne 7, 3) := by decide +kernel
theorem d_X10_worst_10 : decode cX10_worst 10 = .ok (.ldc2_w 425, 3) := by decide +kernel
theorem d_X10_worst_13 : decode cX10_worst 13 = .ok (.lreturn, 1) := by decide +kernel
abbrev bb_X10_worst_0_1 : ZB := [(.aload_n 0, .null)]
theorem bk_X10_worst_0_1 : zchk cX10_worst bb_X10_worst_0_1 0 = true ∧ zpc bb_X10_worst_0_1 0 = 1 := ⟨by decide +kernel, rfl⟩
set_option maxHeartbeats 4000000 in
set_option maxRecDepth 100000 in
theorem c_X10_worst (l : Launch) (G : KG) (x : Nat) (told : Nat) (reader : Nat) (ring : Nat) (speeds : Nat) (wheel : Nat) (trials : Nat) (span : Nat) (search : Nat) (kept : Nat) (crosses : Nat) (trueM : Nat) (thought : Nat) (up : Nat) (low : Nat) (fits : Nat) (sf : Nat) (so : Nat) (sa : Nat) (sx : Nat) (sy : Nat) : Ct l G yX10_worst cX10_worst 4 (some .long) { frames := 0, cells := 0, slots := 0, locals := 0 } [.ref x] [(x, ob 10 [.ref told, .ref reader, .ref ring, .ref speeds, .ref wheel, .ref trials, .ref span, .ref search, .ref kept, .ref crosses, .ref trueM, .ref thought, .ref up, .ref low, .ref fits, .null]), (speeds, ob 7 [.int 0, .ref sf, .ref so, .ref sa, .ref sx, .ref sy])] (fun r _ => r = some (.long (-2))) := by
  refine ct_of [(0, .ref x)] (by decide) (Nat.le_of_ble_eq_true rfl) rfl ?_
  intro p0 e0 s0 m0 args0 below0 meth0 c0 A X
  refine z_run X bb_X10_worst_0_1 bk_X10_worst_0_1 (lv' := [(0, .ref x)]) (st' := [.ref x]) rfl ?_
  refine z_get X fl_10_33 d_X10_worst_1 0 rfl (v := .ref speeds) rfl ?_
  refine z_getN X fl_10_191 d_X10_worst_4 1 rfl (v := .int 0) rfl ?_
  refine zi_ne X d_X10_worst_7 (tgt := 14) (by decide) (a := 0) (show (0 : Int32).toInt = 0 from by decide) (fun c7_1 => absurd c7_1 (by decide)) (fun _ => ?_)
  refine z_ldc2 X d_X10_worst_10 cn_10_425 ?_
  exact z_lret X rfl d_X10_worst_13 (Nat.le_of_ble_eq_true rfl) (Nat.le_of_ble_eq_true rfl) rfl

theorem d_X10_floor_1 : decode cX10_floor 1 = .ok (.getfield 33, 3) := by decide +kernel
theorem d_X10_floor_5 : decode cX10_floor 5 = .ok (.invokevirtual 173, 3) := by decide +kernel
theorem d_X10_floor_8 : decode cX10_floor 8 = .ok (.ifCond .eq 30, 3) := by decide +kernel
theorem d_X10_floor_39 : decode cX10_floor 39 = .ok (.ireturn, 1) := by decide +kernel
abbrev bb_X10_floor_0_1 : ZB := [(.aload_n 0, .null)]
theorem bk_X10_floor_0_1 : zchk cX10_floor bb_X10_floor_0_1 0 = true ∧ zpc bb_X10_floor_0_1 0 = 1 := ⟨by decide +kernel, rfl⟩
abbrev bb_X10_floor_4_5 : ZB := [(.iload_n 1, .null)]
theorem bk_X10_floor_4_5 : zchk cX10_floor bb_X10_floor_4_5 4 = true ∧ zpc bb_X10_floor_4_5 4 = 5 := ⟨by decide +kernel, rfl⟩
abbrev bb_X10_floor_38_39 : ZB := [(.iconst (-1), .int (-1))]
theorem bk_X10_floor_38_39 : zchk cX10_floor bb_X10_floor_38_39 38 = true ∧ zpc bb_X10_floor_38_39 38 = 39 := ⟨by decide +kernel, rfl⟩
set_option maxHeartbeats 4000000 in
set_option maxRecDepth 100000 in
theorem c_X10_floor (l : Launch) (G : KG) (x : Nat) (told : Nat) (reader : Nat) (ring : Nat) (speeds : Nat) (wheel : Nat) (trials : Nat) (span : Nat) (search : Nat) (kept : Nat) (crosses : Nat) (trueM : Nat) (thought : Nat) (up : Nat) (low : Nat) (fits : Nat) (sf : Nat) (so : Nat) (sa : Nat) (sx : Nat) (sy : Nat) (one : Int32) (pp : Int64) (other : Int32) (qq : Int64) (onei : Int) (ppi : Int) (otheri : Int) (qqi : Int) (hone : one.toInt = onei) (hpp : pp.toInt = ppi) (hother : other.toInt = otheri) (hqq : qq.toInt = qqi) : Ct l G yX10_floor cX10_floor 13 (some .int) { frames := 1, cells := 0, slots := 0, locals := 21 } [.ref x, .int one, .long pp, .int other, .long qq] [(x, ob 10 [.ref told, .ref reader, .ref ring, .ref speeds, .ref wheel, .ref trials, .ref span, .ref search, .ref kept, .ref crosses, .ref trueM, .ref thought, .ref up, .ref low, .ref fits, .null]), (speeds, ob 7 [.int 0, .ref sf, .ref so, .ref sa, .ref sx, .ref sy])] (fun r _ => r = some (.int (-1))) := by
  refine ct_of [(0, .ref x), (1, .int one), (2, .long pp), (4, .int other), (5, .long qq)] (by decide) (Nat.le_of_ble_eq_true rfl) rfl ?_
  intro p0 e0 s0 m0 args0 below0 meth0 c0 A X
  refine z_run X bb_X10_floor_0_1 bk_X10_floor_0_1 (lv' := [(0, .ref x), (1, .int one), (2, .long pp), (4, .int other), (5, .long qq)]) (st' := [.ref x]) rfl ?_
  refine z_get X fl_10_33 d_X10_floor_1 0 rfl (v := .ref speeds) rfl ?_
  refine z_run X bb_X10_floor_4_5 bk_X10_floor_4_5 (lv' := [(0, .ref x), (1, .int one), (2, .long pp), (4, .int other), (5, .long qq)]) (st' := [.int one, .ref speeds]) rfl ?_
  refine z_callV X k_10_173 (c_X7_isSpeed l G speeds sf so sa sx sy one onei hone) d_X10_floor_5 1 rfl rfl rfl ⟨Nat.le_of_ble_eq_true rfl, Nat.le_of_ble_eq_true rfl⟩ ⟨Nat.le_of_ble_eq_true rfl, Nat.le_of_ble_eq_true rfl⟩ rfl (rest := []) (As := [.int one]) rfl (Nat.le_of_ble_eq_true rfl) [1] [0] rfl (by decide) (wr := [(x, ob 10 [.ref told, .ref reader, .ref ring, .ref speeds, .ref wheel, .ref trials, .ref span, .ref search, .ref kept, .ref crosses, .ref trueM, .ref thought, .ref up, .ref low, .ref fits, .null])]) rfl (by decide) (by decide) ?_
  rintro _ _ ⟨rfl, rfl⟩
  refine Z.at (pc' := 8) (st' := [.int 0]) (ws' := [(x, ob 10 [.ref told, .ref reader, .ref ring, .ref speeds, .ref wheel, .ref trials, .ref span, .ref search, .ref kept, .ref crosses, .ref trueM, .ref thought, .ref up, .ref low, .ref fits, .null]), (speeds, ob 7 [.int 0, .ref sf, .ref so, .ref sa, .ref sx, .ref sy])]) (kc' := 0) (ks' := 0) rfl rfl rfl rfl rfl ?_
  refine zi_eq X d_X10_floor_8 (tgt := 38) (by decide) (a := 0) (show (0 : Int32).toInt = 0 from by decide) (fun _ => ?_) (fun c8_1 => absurd c8_1 (by decide))
  refine z_run X bb_X10_floor_38_39 bk_X10_floor_38_39 (lv' := [(0, .ref x), (1, .int one), (2, .long pp), (4, .int other), (5, .long qq)]) (st' := [.int (-1)]) rfl ?_
  exact z_iret X rfl d_X10_floor_39 (Nat.le_of_ble_eq_true rfl) (Nat.le_of_ble_eq_true rfl) rfl

theorem d_X10_whose_1 : decode cX10_whose 1 = .ok (.getfield 33, 3) := by decide +kernel
theorem d_X10_whose_5 : decode cX10_whose 5 = .ok (.invokevirtual 173, 3) := by decide +kernel
theorem d_X10_whose_8 : decode cX10_whose 8 = .ok (.ifCond .eq 64, 3) := by decide +kernel
theorem d_X10_whose_73 : decode cX10_whose 73 = .ok (.ireturn, 1) := by decide +kernel
abbrev bb_X10_whose_0_1 : ZB := [(.aload_n 0, .null)]
theorem bk_X10_whose_0_1 : zchk cX10_whose bb_X10_whose_0_1 0 = true ∧ zpc bb_X10_whose_0_1 0 = 1 := ⟨by decide +kernel, rfl⟩
abbrev bb_X10_whose_4_5 : ZB := [(.iload_n 1, .null)]
theorem bk_X10_whose_4_5 : zchk cX10_whose bb_X10_whose_4_5 4 = true ∧ zpc bb_X10_whose_4_5 4 = 5 := ⟨by decide +kernel, rfl⟩
abbrev bb_X10_whose_72_73 : ZB := [(.iconst (-1), .int (-1))]
theorem bk_X10_whose_72_73 : zchk cX10_whose bb_X10_whose_72_73 72 = true ∧ zpc bb_X10_whose_72_73 72 = 73 := ⟨by decide +kernel, rfl⟩
set_option maxHeartbeats 4000000 in
set_option maxRecDepth 100000 in
theorem c_X10_whose (l : Launch) (G : KG) (x : Nat) (told : Nat) (reader : Nat) (ring : Nat) (speeds : Nat) (wheel : Nat) (trials : Nat) (span : Nat) (search : Nat) (kept : Nat) (crosses : Nat) (trueM : Nat) (thought : Nat) (up : Nat) (low : Nat) (fits : Nat) (sf : Nat) (so : Nat) (sa : Nat) (sx : Nat) (sy : Nat) (sa_ : Int32) (sb_ : Int32) (sc_ : Int32) (pp : Int64) (qq : Int64) (rr_ : Int64) (sa_i : Int) (sb_i : Int) (sc_i : Int) (ppi : Int) (qqi : Int) (rr_i : Int) (hsa_ : sa_.toInt = sa_i) (hsb_ : sb_.toInt = sb_i) (hsc_ : sc_.toInt = sc_i) (hpp : pp.toInt = ppi) (hqq : qq.toInt = qqi) (hrr_ : rr_.toInt = rr_i) : Ct l G yX10_whose cX10_whose 10 (some .int) { frames := 1, cells := 0, slots := 0, locals := 21 } [.ref x, .int sa_, .int sb_, .int sc_, .long pp, .long qq, .long rr_] [(x, ob 10 [.ref told, .ref reader, .ref ring, .ref speeds, .ref wheel, .ref trials, .ref span, .ref search, .ref kept, .ref crosses, .ref trueM, .ref thought, .ref up, .ref low, .ref fits, .null]), (speeds, ob 7 [.int 0, .ref sf, .ref so, .ref sa, .ref sx, .ref sy])] (fun r _ => r = some (.int (-1))) := by
  refine ct_of [(0, .ref x), (1, .int sa_), (2, .int sb_), (3, .int sc_), (4, .long pp), (6, .long qq), (8, .long rr_)] (by decide) (Nat.le_of_ble_eq_true rfl) rfl ?_
  intro p0 e0 s0 m0 args0 below0 meth0 c0 A X
  refine z_run X bb_X10_whose_0_1 bk_X10_whose_0_1 (lv' := [(0, .ref x), (1, .int sa_), (2, .int sb_), (3, .int sc_), (4, .long pp), (6, .long qq), (8, .long rr_)]) (st' := [.ref x]) rfl ?_
  refine z_get X fl_10_33 d_X10_whose_1 0 rfl (v := .ref speeds) rfl ?_
  refine z_run X bb_X10_whose_4_5 bk_X10_whose_4_5 (lv' := [(0, .ref x), (1, .int sa_), (2, .int sb_), (3, .int sc_), (4, .long pp), (6, .long qq), (8, .long rr_)]) (st' := [.int sa_, .ref speeds]) rfl ?_
  refine z_callV X k_10_173 (c_X7_isSpeed l G speeds sf so sa sx sy sa_ sa_i hsa_) d_X10_whose_5 1 rfl rfl rfl ⟨Nat.le_of_ble_eq_true rfl, Nat.le_of_ble_eq_true rfl⟩ ⟨Nat.le_of_ble_eq_true rfl, Nat.le_of_ble_eq_true rfl⟩ rfl (rest := []) (As := [.int sa_]) rfl (Nat.le_of_ble_eq_true rfl) [1] [0] rfl (by decide) (wr := [(x, ob 10 [.ref told, .ref reader, .ref ring, .ref speeds, .ref wheel, .ref trials, .ref span, .ref search, .ref kept, .ref crosses, .ref trueM, .ref thought, .ref up, .ref low, .ref fits, .null])]) rfl (by decide) (by decide) ?_
  rintro _ _ ⟨rfl, rfl⟩
  refine Z.at (pc' := 8) (st' := [.int 0]) (ws' := [(x, ob 10 [.ref told, .ref reader, .ref ring, .ref speeds, .ref wheel, .ref trials, .ref span, .ref search, .ref kept, .ref crosses, .ref trueM, .ref thought, .ref up, .ref low, .ref fits, .null]), (speeds, ob 7 [.int 0, .ref sf, .ref so, .ref sa, .ref sx, .ref sy])]) (kc' := 0) (ks' := 0) rfl rfl rfl rfl rfl ?_
  refine zi_eq X d_X10_whose_8 (tgt := 72) (by decide) (a := 0) (show (0 : Int32).toInt = 0 from by decide) (fun _ => ?_) (fun c8_1 => absurd c8_1 (by decide))
  refine z_run X bb_X10_whose_72_73 bk_X10_whose_72_73 (lv' := [(0, .ref x), (1, .int sa_), (2, .int sb_), (3, .int sc_), (4, .long pp), (6, .long qq), (8, .long rr_)]) (st' := [.int (-1)]) rfl ?_
  exact z_iret X rfl d_X10_whose_73 (Nat.le_of_ble_eq_true rfl) (Nat.le_of_ble_eq_true rfl) rfl

theorem d_X10_part_1 : decode cX10_part 1 = .ok (.getfield 33, 3) := by decide +kernel
theorem d_X10_part_5 : decode cX10_part 5 = .ok (.invokevirtual 173, 3) := by decide +kernel
theorem d_X10_part_8 : decode cX10_part 8 = .ok (.ifCond .ne 5, 3) := by decide +kernel
theorem d_X10_part_12 : decode cX10_part 12 = .ok (.ireturn, 1) := by decide +kernel
abbrev bb_X10_part_0_1 : ZB := [(.aload_n 0, .null)]
theorem bk_X10_part_0_1 : zchk cX10_part bb_X10_part_0_1 0 = true ∧ zpc bb_X10_part_0_1 0 = 1 := ⟨by decide +kernel, rfl⟩
abbrev bb_X10_part_4_5 : ZB := [(.iload_n 1, .null)]
theorem bk_X10_part_4_5 : zchk cX10_part bb_X10_part_4_5 4 = true ∧ zpc bb_X10_part_4_5 4 = 5 := ⟨by decide +kernel, rfl⟩
abbrev bb_X10_part_11_12 : ZB := [(.iconst (-1), .int (-1))]
theorem bk_X10_part_11_12 : zchk cX10_part bb_X10_part_11_12 11 = true ∧ zpc bb_X10_part_11_12 11 = 12 := ⟨by decide +kernel, rfl⟩
set_option maxHeartbeats 4000000 in
set_option maxRecDepth 100000 in
theorem c_X10_part (l : Launch) (G : KG) (x : Nat) (told : Nat) (reader : Nat) (ring : Nat) (speeds : Nat) (wheel : Nat) (trials : Nat) (span : Nat) (search : Nat) (kept : Nat) (crosses : Nat) (trueM : Nat) (thought : Nat) (up : Nat) (low : Nat) (fits : Nat) (sf : Nat) (so : Nat) (sa : Nat) (sx : Nat) (sy : Nat) (speed : Int32) (speedi : Int) (hspeed : speed.toInt = speedi) : Ct l G yX10_part cX10_part 5 (some .int) { frames := 1, cells := 0, slots := 0, locals := 21 } [.ref x, .int speed] [(x, ob 10 [.ref told, .ref reader, .ref ring, .ref speeds, .ref wheel, .ref trials, .ref span, .ref search, .ref kept, .ref crosses, .ref trueM, .ref thought, .ref up, .ref low, .ref fits, .null]), (speeds, ob 7 [.int 0, .ref sf, .ref so, .ref sa, .ref sx, .ref sy])] (fun r _ => r = some (.int (-1))) := by
  refine ct_of [(0, .ref x), (1, .int speed)] (by decide) (Nat.le_of_ble_eq_true rfl) rfl ?_
  intro p0 e0 s0 m0 args0 below0 meth0 c0 A X
  refine z_run X bb_X10_part_0_1 bk_X10_part_0_1 (lv' := [(0, .ref x), (1, .int speed)]) (st' := [.ref x]) rfl ?_
  refine z_get X fl_10_33 d_X10_part_1 0 rfl (v := .ref speeds) rfl ?_
  refine z_run X bb_X10_part_4_5 bk_X10_part_4_5 (lv' := [(0, .ref x), (1, .int speed)]) (st' := [.int speed, .ref speeds]) rfl ?_
  refine z_callV X k_10_173 (c_X7_isSpeed l G speeds sf so sa sx sy speed speedi hspeed) d_X10_part_5 1 rfl rfl rfl ⟨Nat.le_of_ble_eq_true rfl, Nat.le_of_ble_eq_true rfl⟩ ⟨Nat.le_of_ble_eq_true rfl, Nat.le_of_ble_eq_true rfl⟩ rfl (rest := []) (As := [.int speed]) rfl (Nat.le_of_ble_eq_true rfl) [1] [0] rfl (by decide) (wr := [(x, ob 10 [.ref told, .ref reader, .ref ring, .ref speeds, .ref wheel, .ref trials, .ref span, .ref search, .ref kept, .ref crosses, .ref trueM, .ref thought, .ref up, .ref low, .ref fits, .null])]) rfl (by decide) (by decide) ?_
  rintro _ _ ⟨rfl, rfl⟩
  refine Z.at (pc' := 8) (st' := [.int 0]) (ws' := [(x, ob 10 [.ref told, .ref reader, .ref ring, .ref speeds, .ref wheel, .ref trials, .ref span, .ref search, .ref kept, .ref crosses, .ref trueM, .ref thought, .ref up, .ref low, .ref fits, .null]), (speeds, ob 7 [.int 0, .ref sf, .ref so, .ref sa, .ref sx, .ref sy])]) (kc' := 0) (ks' := 0) rfl rfl rfl rfl rfl ?_
  refine zi_ne X d_X10_part_8 (tgt := 13) (by decide) (a := 0) (show (0 : Int32).toInt = 0 from by decide) (fun c8_1 => absurd c8_1 (by decide)) (fun _ => ?_)
  refine z_run X bb_X10_part_11_12 bk_X10_part_11_12 (lv' := [(0, .ref x), (1, .int speed)]) (st' := [.int (-1)]) rfl ?_
  exact z_iret X rfl d_X10_part_12 (Nat.le_of_ble_eq_true rfl) (Nat.le_of_ble_eq_true rfl) rfl

theorem d_X10_buckets_1 : decode cX10_buckets 1 = .ok (.invokestatic 156, 3) := by decide +kernel
theorem d_X10_buckets_4 : decode cX10_buckets 4 = .ok (.ifCond .eq 9, 3) := by decide +kernel
theorem d_X10_buckets_14 : decode cX10_buckets 14 = .ok (.ireturn, 1) := by decide +kernel
theorem d_X10_buckets_9 : decode cX10_buckets 9 = .ok (.lcmp, 1) := by decide +kernel
theorem d_X10_buckets_10 : decode cX10_buckets 10 = .ok (.ifCond .ge 5, 3) := by decide +kernel
theorem d_X10_buckets_18 : decode cX10_buckets 18 = .ok (.invokevirtual 348, 3) := by decide +kernel
theorem d_X10_buckets_26 : decode cX10_buckets 26 = .ok (.invokevirtual 348, 3) := by decide +kernel
theorem d_X10_buckets_37 : decode cX10_buckets 37 = .ok (.invokestatic 187, 3) := by decide +kernel
theorem d_X10_buckets_41 : decode cX10_buckets 41 = .ok (.lcmp, 1) := by decide +kernel
theorem d_X10_buckets_42 : decode cX10_buckets 42 = .ok (.ifCond .le 5, 3) := by decide +kernel
theorem d_X10_buckets_57 : decode cX10_buckets 57 = .ok (.if_icmp .ge 111, 3) := by decide +kernel
theorem d_X10_buckets_66 : decode cX10_buckets 66 = .ok (.getfield 26, 3) := by decide +kernel
theorem d_X10_buckets_69 : decode cX10_buckets 69 = .ok (.getfield 136, 3) := by decide +kernel
theorem d_X10_buckets_72 : decode cX10_buckets 72 = .ok (.if_icmp .ge 90, 3) := by decide +kernel
theorem d_X10_buckets_165 : decode cX10_buckets 165 = .ok (.goto (-112), 3) := by decide +kernel
theorem d_X10_buckets_170 : decode cX10_buckets 170 = .ok (.ireturn, 1) := by decide +kernel
theorem d_X10_buckets_46 : decode cX10_buckets 46 = .ok (.ireturn, 1) := by decide +kernel
abbrev bb_X10_buckets_0_1 : ZB := [(.iload_n 1, .null)]
theorem bk_X10_buckets_0_1 : zchk cX10_buckets bb_X10_buckets_0_1 0 = true ∧ zpc bb_X10_buckets_0_1 0 = 1 := ⟨by decide +kernel, rfl⟩
abbrev bb_X10_buckets_13_14 : ZB := [(.iconst (-1), .int (-1))]
theorem bk_X10_buckets_13_14 : zchk cX10_buckets bb_X10_buckets_13_14 13 = true ∧ zpc bb_X10_buckets_13_14 13 = 14 := ⟨by decide +kernel, rfl⟩
abbrev bb_X10_buckets_7_9 : ZB := [(.lload_n 2, .null), (.lconst 0, .long 0)]
theorem bk_X10_buckets_7_9 : zchk cX10_buckets bb_X10_buckets_7_9 7 = true ∧ zpc bb_X10_buckets_7_9 7 = 9 := ⟨by decide +kernel, rfl⟩
abbrev bb_X10_buckets_15_18 : ZB := [(.aload_n 0, .null), (.iload_n 1, .null), (.iconst 0, .int 0)]
theorem bk_X10_buckets_15_18 : zchk cX10_buckets bb_X10_buckets_15_18 15 = true ∧ zpc bb_X10_buckets_15_18 15 = 18 := ⟨by decide +kernel, rfl⟩
abbrev bb_X10_buckets_21_26 : ZB := [(.istore 4, .null), (.aload_n 0, .null), (.iload_n 1, .null), (.iconst 1, .int 1)]
theorem bk_X10_buckets_21_26 : zchk cX10_buckets bb_X10_buckets_21_26 21 = true ∧ zpc bb_X10_buckets_21_26 21 = 26 := ⟨by decide +kernel, rfl⟩
abbrev bb_X10_buckets_29_37 : ZB := [(.istore 5, .null), (.iload 4, .null), (.i2l, .null), (.iload 5, .null), (.i2l, .null)]
theorem bk_X10_buckets_29_37 : zchk cX10_buckets bb_X10_buckets_29_37 29 = true ∧ zpc bb_X10_buckets_29_37 29 = 37 := ⟨by decide +kernel, rfl⟩
abbrev bb_X10_buckets_40_41 : ZB := [(.lload_n 2, .null)]
theorem bk_X10_buckets_40_41 : zchk cX10_buckets bb_X10_buckets_40_41 40 = true ∧ zpc bb_X10_buckets_40_41 40 = 41 := ⟨by decide +kernel, rfl⟩
abbrev bb_X10_buckets_47_57 : ZB := [(.iconst 0, .int 0), (.istore 6, .null), (.iconst 0, .int 0), (.istore 7, .null), (.iload 7, .null), (.bipush 9, .int 9)]
theorem bk_X10_buckets_47_57 : zchk cX10_buckets bb_X10_buckets_47_57 47 = true ∧ zpc bb_X10_buckets_47_57 47 = 57 := ⟨by decide +kernel, rfl⟩
abbrev bb_X10_buckets_60_66 : ZB := [(.iconst 0, .int 0), (.istore 8, .null), (.iload 8, .null), (.aload_n 0, .null)]
theorem bk_X10_buckets_60_66 : zchk cX10_buckets bb_X10_buckets_60_66 60 = true ∧ zpc bb_X10_buckets_60_66 60 = 66 := ⟨by decide +kernel, rfl⟩
abbrev bb_X10_buckets_162_165 : ZB := [(.iinc 7 1, .int 1)]
theorem bk_X10_buckets_162_165 : zchk cX10_buckets bb_X10_buckets_162_165 162 = true ∧ zpc bb_X10_buckets_162_165 162 = 165 := ⟨by decide +kernel, rfl⟩
abbrev bb_X10_buckets_53_57 : ZB := [(.iload 7, .null), (.bipush 9, .int 9)]
theorem bk_X10_buckets_53_57 : zchk cX10_buckets bb_X10_buckets_53_57 53 = true ∧ zpc bb_X10_buckets_53_57 53 = 57 := ⟨by decide +kernel, rfl⟩
abbrev bb_X10_buckets_168_170 : ZB := [(.bipush (-2), .int (-2))]
theorem bk_X10_buckets_168_170 : zchk cX10_buckets bb_X10_buckets_168_170 168 = true ∧ zpc bb_X10_buckets_168_170 168 = 170 := ⟨by decide +kernel, rfl⟩
abbrev bb_X10_buckets_45_46 : ZB := [(.iconst 0, .int 0)]
theorem bk_X10_buckets_45_46 : zchk cX10_buckets bb_X10_buckets_45_46 45 = true ∧ zpc bb_X10_buckets_45_46 45 = 46 := ⟨by decide +kernel, rfl⟩
set_option maxHeartbeats 4000000 in
set_option maxRecDepth 100000 in
theorem c_X10_buckets (l : Launch) (G : KG) (x : Nat) (told : Nat) (reader : Nat) (ring : Nat) (speeds : Nat) (wheel : Nat) (trials : Nat) (span : Nat) (search : Nat) (kept : Nat) (crosses : Nat) (trueM : Nat) (thought : Nat) (up : Nat) (low : Nat) (fits : Nat) (rp : Nat) (rx : Nat) (ry : Nat) (rr : Nat) (rh : Nat) (rd : Nat) (plane : Int32) (bound : Int64) (planei : Int) (boundi : Int) (hplane : plane.toInt = planei) (hbound : bound.toInt = boundi) : Ct l G yX10_buckets cX10_buckets 9 (some .int) { frames := 2, cells := 0, slots := 0, locals := 47 } [.ref x, .int plane, .long bound] [(x, ob 10 [.ref told, .ref reader, .ref ring, .ref speeds, .ref wheel, .ref trials, .ref span, .ref search, .ref kept, .ref crosses, .ref trueM, .ref thought, .ref up, .ref low, .ref fits, .null]), (ring, ob 5 [.int 0, .ref rp, .ref rx, .ref ry, .ref rr, .ref rh, .ref rd, .int (-1), .int 0]), (thought, aI G 8 (fun _ => 0))] (fun r _ => r = some (.int (an_buck planei boundi))) := by
  refine ct_of [(0, .ref x), (1, .int plane), (2, .long bound)] (by decide) (Nat.le_of_ble_eq_true rfl) rfl ?_
  intro p0 e0 s0 m0 args0 below0 meth0 c0 A X
  refine z_run X bb_X10_buckets_0_1 bk_X10_buckets_0_1 (lv' := [(0, .ref x), (1, .int plane), (2, .long bound)]) (st' := [.int plane]) rfl ?_
  refine z_callS X k_10_156 (c_X10_isOneOfTwo l G plane planei hplane) d_X10_buckets_1 ⟨Nat.le_of_ble_eq_true rfl, Nat.le_of_ble_eq_true rfl⟩ ⟨Nat.le_of_ble_eq_true rfl, Nat.le_of_ble_eq_true rfl⟩ rfl (rest := []) (As := [.int plane]) rfl (Nat.le_of_ble_eq_true rfl) [] [0, 1, 2] rfl (by decide) (wr := [(x, ob 10 [.ref told, .ref reader, .ref ring, .ref speeds, .ref wheel, .ref trials, .ref span, .ref search, .ref kept, .ref crosses, .ref trueM, .ref thought, .ref up, .ref low, .ref fits, .null]), (ring, ob 5 [.int 0, .ref rp, .ref rx, .ref ry, .ref rr, .ref rh, .ref rd, .int (-1), .int 0]), (thought, aI G 8 (fun _ => 0))]) rfl (by decide) (by decide) ?_
  rintro _ _ ⟨rfl, rfl⟩
  refine Z.at (pc' := 4) (st' := [.int (zb (decide (planei = 0 ∨ planei = 1)))]) (ws' := [(x, ob 10 [.ref told, .ref reader, .ref ring, .ref speeds, .ref wheel, .ref trials, .ref span, .ref search, .ref kept, .ref crosses, .ref trueM, .ref thought, .ref up, .ref low, .ref fits, .null]), (ring, ob 5 [.int 0, .ref rp, .ref rx, .ref ry, .ref rr, .ref rh, .ref rd, .int (-1), .int 0]), (thought, aI G 8 (fun _ => 0))]) (kc' := 0) (ks' := 0) rfl rfl rfl rfl rfl ?_
  refine zi_eq_zb X d_X10_buckets_4 (tgt := 13) (by decide) (fun c4_1 => ?_) (fun c4_1 => ?_)
  ·
    refine z_run X bb_X10_buckets_13_14 bk_X10_buckets_13_14 (lv' := [(0, .ref x), (1, .int plane), (2, .long bound)]) (st' := [.int (-1)]) rfl ?_
    exact z_iret X rfl d_X10_buckets_14 (Nat.le_of_ble_eq_true rfl) (Nat.le_of_ble_eq_true rfl) (congrArg (fun z => some (Value.int z)) (by unfold an_buck; (repeat' split) <;> first | rfl | (exfalso; omega)))
  ·
    refine z_run X bb_X10_buckets_7_9 bk_X10_buckets_7_9 (lv' := [(0, .ref x), (1, .int plane), (2, .long bound)]) (st' := [.long 0, .long bound]) rfl ?_
    refine zl_ge X d_X10_buckets_9 d_X10_buckets_10 (tgt := 15) (by decide) (a := boundi) (b := 0) hbound (show (0 : Int64).toInt = 0 from by decide) (fun c9_2 => ?_) (fun c9_2 => ?_)
    ·
      refine z_run X bb_X10_buckets_15_18 bk_X10_buckets_15_18 (lv' := [(0, .ref x), (1, .int plane), (2, .long bound)]) (st' := [.int 0, .int plane, .ref x]) rfl ?_
      refine z_callV X k_10_348 (c_X10_unmended l G x told reader ring speeds wheel trials span search kept crosses trueM thought up low fits rp rx ry rr rh rd plane 0 planei 0 hplane (show (0 : Int32).toInt = 0 from by decide) (by omega) (by omega)) d_X10_buckets_18 0 rfl rfl rfl ⟨Nat.le_of_ble_eq_true rfl, Nat.le_of_ble_eq_true rfl⟩ ⟨Nat.le_of_ble_eq_true rfl, Nat.le_of_ble_eq_true rfl⟩ rfl (rest := []) (As := [.int plane, .int 0]) rfl (Nat.le_of_ble_eq_true rfl) [0, 2, 1] [] rfl (by decide) (wr := []) rfl (by decide) (by decide) ?_
      rintro _ _ ⟨rfl, rfl⟩
      refine Z.at (pc' := 21) (st' := [.int 0]) (ws' := [(x, ob 10 [.ref told, .ref reader, .ref ring, .ref speeds, .ref wheel, .ref trials, .ref span, .ref search, .ref kept, .ref crosses, .ref trueM, .ref thought, .ref up, .ref low, .ref fits, .null]), (thought, aI G 8 (fun _ => 0)), (ring, ob 5 [.int 0, .ref rp, .ref rx, .ref ry, .ref rr, .ref rh, .ref rd, .int (-1), .int 0])]) (kc' := 0) (ks' := 0) rfl rfl rfl rfl rfl ?_
      refine z_run X bb_X10_buckets_21_26 bk_X10_buckets_21_26 (lv' := [(4, .int 0), (0, .ref x), (1, .int plane), (2, .long bound)]) (st' := [.int 1, .int plane, .ref x]) rfl ?_
      refine z_callV X k_10_348 (c_X10_unmended l G x told reader ring speeds wheel trials span search kept crosses trueM thought up low fits rp rx ry rr rh rd plane 1 planei 1 hplane (show (1 : Int32).toInt = 1 from by decide) (by omega) (by omega)) d_X10_buckets_26 0 rfl rfl rfl ⟨Nat.le_of_ble_eq_true rfl, Nat.le_of_ble_eq_true rfl⟩ ⟨Nat.le_of_ble_eq_true rfl, Nat.le_of_ble_eq_true rfl⟩ rfl (rest := []) (As := [.int plane, .int 1]) rfl (Nat.le_of_ble_eq_true rfl) [0, 1, 2] [] rfl (by decide) (wr := []) rfl (by decide) (by decide) ?_
      rintro _ _ ⟨rfl, rfl⟩
      refine Z.at (pc' := 29) (st' := [.int 0]) (ws' := [(x, ob 10 [.ref told, .ref reader, .ref ring, .ref speeds, .ref wheel, .ref trials, .ref span, .ref search, .ref kept, .ref crosses, .ref trueM, .ref thought, .ref up, .ref low, .ref fits, .null]), (thought, aI G 8 (fun _ => 0)), (ring, ob 5 [.int 0, .ref rp, .ref rx, .ref ry, .ref rr, .ref rh, .ref rd, .int (-1), .int 0])]) (kc' := 0) (ks' := 0) rfl rfl rfl rfl rfl ?_
      refine z_run X bb_X10_buckets_29_37 bk_X10_buckets_29_37 (lv' := [(5, .int 0), (4, .int 0), (0, .ref x), (1, .int plane), (2, .long bound)]) (st' := [.long 0, .long 0]) rfl ?_
      refine z_callS X k_10_187 (c_X10_sizeOf0 l G) d_X10_buckets_37 ⟨Nat.le_of_ble_eq_true rfl, Nat.le_of_ble_eq_true rfl⟩ ⟨Nat.le_of_ble_eq_true rfl, Nat.le_of_ble_eq_true rfl⟩ rfl (rest := []) (As := [.long 0, .long 0]) rfl (Nat.le_of_ble_eq_true rfl) [] [0, 1, 2] rfl (by decide) (wr := [(x, ob 10 [.ref told, .ref reader, .ref ring, .ref speeds, .ref wheel, .ref trials, .ref span, .ref search, .ref kept, .ref crosses, .ref trueM, .ref thought, .ref up, .ref low, .ref fits, .null]), (thought, aI G 8 (fun _ => 0)), (ring, ob 5 [.int 0, .ref rp, .ref rx, .ref ry, .ref rr, .ref rh, .ref rd, .int (-1), .int 0])]) rfl (by decide) (by decide) ?_
      rintro _ _ ⟨rfl, rfl⟩
      refine Z.at (pc' := 40) (st' := [.long 0]) (ws' := [(x, ob 10 [.ref told, .ref reader, .ref ring, .ref speeds, .ref wheel, .ref trials, .ref span, .ref search, .ref kept, .ref crosses, .ref trueM, .ref thought, .ref up, .ref low, .ref fits, .null]), (thought, aI G 8 (fun _ => 0)), (ring, ob 5 [.int 0, .ref rp, .ref rx, .ref ry, .ref rr, .ref rh, .ref rd, .int (-1), .int 0])]) (kc' := 0) (ks' := 0) rfl rfl rfl rfl rfl ?_
      refine z_run X bb_X10_buckets_40_41 bk_X10_buckets_40_41 (lv' := [(5, .int 0), (4, .int 0), (0, .ref x), (1, .int plane), (2, .long bound)]) (st' := [.long bound, .long 0]) rfl ?_
      refine zl_le X d_X10_buckets_41 d_X10_buckets_42 (tgt := 47) (by decide) (a := 0) (b := boundi) (show (0 : Int64).toInt = 0 from by decide) hbound (fun c41_3 => ?_) (fun c41_3 => ?_)
      ·
        refine z_run X bb_X10_buckets_47_57 bk_X10_buckets_47_57 (lv' := [(7, .int 0), (6, .int 0), (5, .int 0), (4, .int 0), (0, .ref x), (1, .int plane), (2, .long bound)]) (st' := [.int 9, .int 0]) rfl ?_
        refine zc_ge X d_X10_buckets_57 (tgt := 168) (by decide) (a := 0) (b := 9) (show (0 : Int32).toInt = 0 from by decide) (show (9 : Int32).toInt = 9 from by decide) (fun c57_4 => absurd c57_4 (by decide)) (fun _ => ?_)
        refine z_run X bb_X10_buckets_60_66 bk_X10_buckets_60_66 (lv' := [(8, .int 0), (7, .int 0), (6, .int 0), (5, .int 0), (4, .int 0), (0, .ref x), (1, .int plane), (2, .long bound)]) (st' := [.ref x, .int 0]) rfl ?_
        refine z_get X fl_10_26 d_X10_buckets_66 0 rfl (v := .ref ring) rfl ?_
        refine z_getN X fl_10_136 d_X10_buckets_69 2 rfl (v := .int 0) rfl ?_
        refine zc_ge X d_X10_buckets_72 (tgt := 162) (by decide) (a := 0) (b := 0) (show (0 : Int32).toInt = 0 from by decide) (show (0 : Int32).toInt = 0 from by decide) (fun _ => ?_) (fun c72_5 => absurd c72_5 (by decide))
        refine z_run X bb_X10_buckets_162_165 bk_X10_buckets_162_165 (lv' := [(7, .int 1), (8, .int 0), (6, .int 0), (5, .int 0), (4, .int 0), (0, .ref x), (1, .int plane), (2, .long bound)]) (st' := []) rfl ?_
        refine z_goto X d_X10_buckets_165 (tgt := 53) (by decide) ?_
        refine z_run X bb_X10_buckets_53_57 bk_X10_buckets_53_57 (lv' := [(7, .int 1), (8, .int 0), (6, .int 0), (5, .int 0), (4, .int 0), (0, .ref x), (1, .int plane), (2, .long bound)]) (st' := [.int 9, .int 1]) rfl ?_
        refine zc_ge X d_X10_buckets_57 (tgt := 168) (by decide) (a := 1) (b := 9) (show (1 : Int32).toInt = 1 from by decide) (show (9 : Int32).toInt = 9 from by decide) (fun c57_6 => absurd c57_6 (by decide)) (fun _ => ?_)
        refine z_run X bb_X10_buckets_60_66 bk_X10_buckets_60_66 (lv' := [(8, .int 0), (7, .int 1), (6, .int 0), (5, .int 0), (4, .int 0), (0, .ref x), (1, .int plane), (2, .long bound)]) (st' := [.ref x, .int 0]) rfl ?_
        refine z_get X fl_10_26 d_X10_buckets_66 0 rfl (v := .ref ring) rfl ?_
        refine z_getN X fl_10_136 d_X10_buckets_69 2 rfl (v := .int 0) rfl ?_
        refine zc_ge X d_X10_buckets_72 (tgt := 162) (by decide) (a := 0) (b := 0) (show (0 : Int32).toInt = 0 from by decide) (show (0 : Int32).toInt = 0 from by decide) (fun _ => ?_) (fun c72_7 => absurd c72_7 (by decide))
        refine z_run X bb_X10_buckets_162_165 bk_X10_buckets_162_165 (lv' := [(7, .int 2), (8, .int 0), (6, .int 0), (5, .int 0), (4, .int 0), (0, .ref x), (1, .int plane), (2, .long bound)]) (st' := []) rfl ?_
        refine z_goto X d_X10_buckets_165 (tgt := 53) (by decide) ?_
        refine z_run X bb_X10_buckets_53_57 bk_X10_buckets_53_57 (lv' := [(7, .int 2), (8, .int 0), (6, .int 0), (5, .int 0), (4, .int 0), (0, .ref x), (1, .int plane), (2, .long bound)]) (st' := [.int 9, .int 2]) rfl ?_
        refine zc_ge X d_X10_buckets_57 (tgt := 168) (by decide) (a := 2) (b := 9) (show (2 : Int32).toInt = 2 from by decide) (show (9 : Int32).toInt = 9 from by decide) (fun c57_8 => absurd c57_8 (by decide)) (fun _ => ?_)
        refine z_run X bb_X10_buckets_60_66 bk_X10_buckets_60_66 (lv' := [(8, .int 0), (7, .int 2), (6, .int 0), (5, .int 0), (4, .int 0), (0, .ref x), (1, .int plane), (2, .long bound)]) (st' := [.ref x, .int 0]) rfl ?_
        refine z_get X fl_10_26 d_X10_buckets_66 0 rfl (v := .ref ring) rfl ?_
        refine z_getN X fl_10_136 d_X10_buckets_69 2 rfl (v := .int 0) rfl ?_
        refine zc_ge X d_X10_buckets_72 (tgt := 162) (by decide) (a := 0) (b := 0) (show (0 : Int32).toInt = 0 from by decide) (show (0 : Int32).toInt = 0 from by decide) (fun _ => ?_) (fun c72_9 => absurd c72_9 (by decide))
        refine z_run X bb_X10_buckets_162_165 bk_X10_buckets_162_165 (lv' := [(7, .int 3), (8, .int 0), (6, .int 0), (5, .int 0), (4, .int 0), (0, .ref x), (1, .int plane), (2, .long bound)]) (st' := []) rfl ?_
        refine z_goto X d_X10_buckets_165 (tgt := 53) (by decide) ?_
        refine z_run X bb_X10_buckets_53_57 bk_X10_buckets_53_57 (lv' := [(7, .int 3), (8, .int 0), (6, .int 0), (5, .int 0), (4, .int 0), (0, .ref x), (1, .int plane), (2, .long bound)]) (st' := [.int 9, .int 3]) rfl ?_
        refine zc_ge X d_X10_buckets_57 (tgt := 168) (by decide) (a := 3) (b := 9) (show (3 : Int32).toInt = 3 from by decide) (show (9 : Int32).toInt = 9 from by decide) (fun c57_10 => absurd c57_10 (by decide)) (fun _ => ?_)
        refine z_run X bb_X10_buckets_60_66 bk_X10_buckets_60_66 (lv' := [(8, .int 0), (7, .int 3), (6, .int 0), (5, .int 0), (4, .int 0), (0, .ref x), (1, .int plane), (2, .long bound)]) (st' := [.ref x, .int 0]) rfl ?_
        refine z_get X fl_10_26 d_X10_buckets_66 0 rfl (v := .ref ring) rfl ?_
        refine z_getN X fl_10_136 d_X10_buckets_69 2 rfl (v := .int 0) rfl ?_
        refine zc_ge X d_X10_buckets_72 (tgt := 162) (by decide) (a := 0) (b := 0) (show (0 : Int32).toInt = 0 from by decide) (show (0 : Int32).toInt = 0 from by decide) (fun _ => ?_) (fun c72_11 => absurd c72_11 (by decide))
        refine z_run X bb_X10_buckets_162_165 bk_X10_buckets_162_165 (lv' := [(7, .int 4), (8, .int 0), (6, .int 0), (5, .int 0), (4, .int 0), (0, .ref x), (1, .int plane), (2, .long bound)]) (st' := []) rfl ?_
        refine z_goto X d_X10_buckets_165 (tgt := 53) (by decide) ?_
        refine z_run X bb_X10_buckets_53_57 bk_X10_buckets_53_57 (lv' := [(7, .int 4), (8, .int 0), (6, .int 0), (5, .int 0), (4, .int 0), (0, .ref x), (1, .int plane), (2, .long bound)]) (st' := [.int 9, .int 4]) rfl ?_
        refine zc_ge X d_X10_buckets_57 (tgt := 168) (by decide) (a := 4) (b := 9) (show (4 : Int32).toInt = 4 from by decide) (show (9 : Int32).toInt = 9 from by decide) (fun c57_12 => absurd c57_12 (by decide)) (fun _ => ?_)
        refine z_run X bb_X10_buckets_60_66 bk_X10_buckets_60_66 (lv' := [(8, .int 0), (7, .int 4), (6, .int 0), (5, .int 0), (4, .int 0), (0, .ref x), (1, .int plane), (2, .long bound)]) (st' := [.ref x, .int 0]) rfl ?_
        refine z_get X fl_10_26 d_X10_buckets_66 0 rfl (v := .ref ring) rfl ?_
        refine z_getN X fl_10_136 d_X10_buckets_69 2 rfl (v := .int 0) rfl ?_
        refine zc_ge X d_X10_buckets_72 (tgt := 162) (by decide) (a := 0) (b := 0) (show (0 : Int32).toInt = 0 from by decide) (show (0 : Int32).toInt = 0 from by decide) (fun _ => ?_) (fun c72_13 => absurd c72_13 (by decide))
        refine z_run X bb_X10_buckets_162_165 bk_X10_buckets_162_165 (lv' := [(7, .int 5), (8, .int 0), (6, .int 0), (5, .int 0), (4, .int 0), (0, .ref x), (1, .int plane), (2, .long bound)]) (st' := []) rfl ?_
        refine z_goto X d_X10_buckets_165 (tgt := 53) (by decide) ?_
        refine z_run X bb_X10_buckets_53_57 bk_X10_buckets_53_57 (lv' := [(7, .int 5), (8, .int 0), (6, .int 0), (5, .int 0), (4, .int 0), (0, .ref x), (1, .int plane), (2, .long bound)]) (st' := [.int 9, .int 5]) rfl ?_
        refine zc_ge X d_X10_buckets_57 (tgt := 168) (by decide) (a := 5) (b := 9) (show (5 : Int32).toInt = 5 from by decide) (show (9 : Int32).toInt = 9 from by decide) (fun c57_14 => absurd c57_14 (by decide)) (fun _ => ?_)
        refine z_run X bb_X10_buckets_60_66 bk_X10_buckets_60_66 (lv' := [(8, .int 0), (7, .int 5), (6, .int 0), (5, .int 0), (4, .int 0), (0, .ref x), (1, .int plane), (2, .long bound)]) (st' := [.ref x, .int 0]) rfl ?_
        refine z_get X fl_10_26 d_X10_buckets_66 0 rfl (v := .ref ring) rfl ?_
        refine z_getN X fl_10_136 d_X10_buckets_69 2 rfl (v := .int 0) rfl ?_
        refine zc_ge X d_X10_buckets_72 (tgt := 162) (by decide) (a := 0) (b := 0) (show (0 : Int32).toInt = 0 from by decide) (show (0 : Int32).toInt = 0 from by decide) (fun _ => ?_) (fun c72_15 => absurd c72_15 (by decide))
        refine z_run X bb_X10_buckets_162_165 bk_X10_buckets_162_165 (lv' := [(7, .int 6), (8, .int 0), (6, .int 0), (5, .int 0), (4, .int 0), (0, .ref x), (1, .int plane), (2, .long bound)]) (st' := []) rfl ?_
        refine z_goto X d_X10_buckets_165 (tgt := 53) (by decide) ?_
        refine z_run X bb_X10_buckets_53_57 bk_X10_buckets_53_57 (lv' := [(7, .int 6), (8, .int 0), (6, .int 0), (5, .int 0), (4, .int 0), (0, .ref x), (1, .int plane), (2, .long bound)]) (st' := [.int 9, .int 6]) rfl ?_
        refine zc_ge X d_X10_buckets_57 (tgt := 168) (by decide) (a := 6) (b := 9) (show (6 : Int32).toInt = 6 from by decide) (show (9 : Int32).toInt = 9 from by decide) (fun c57_16 => absurd c57_16 (by decide)) (fun _ => ?_)
        refine z_run X bb_X10_buckets_60_66 bk_X10_buckets_60_66 (lv' := [(8, .int 0), (7, .int 6), (6, .int 0), (5, .int 0), (4, .int 0), (0, .ref x), (1, .int plane), (2, .long bound)]) (st' := [.ref x, .int 0]) rfl ?_
        refine z_get X fl_10_26 d_X10_buckets_66 0 rfl (v := .ref ring) rfl ?_
        refine z_getN X fl_10_136 d_X10_buckets_69 2 rfl (v := .int 0) rfl ?_
        refine zc_ge X d_X10_buckets_72 (tgt := 162) (by decide) (a := 0) (b := 0) (show (0 : Int32).toInt = 0 from by decide) (show (0 : Int32).toInt = 0 from by decide) (fun _ => ?_) (fun c72_17 => absurd c72_17 (by decide))
        refine z_run X bb_X10_buckets_162_165 bk_X10_buckets_162_165 (lv' := [(7, .int 7), (8, .int 0), (6, .int 0), (5, .int 0), (4, .int 0), (0, .ref x), (1, .int plane), (2, .long bound)]) (st' := []) rfl ?_
        refine z_goto X d_X10_buckets_165 (tgt := 53) (by decide) ?_
        refine z_run X bb_X10_buckets_53_57 bk_X10_buckets_53_57 (lv' := [(7, .int 7), (8, .int 0), (6, .int 0), (5, .int 0), (4, .int 0), (0, .ref x), (1, .int plane), (2, .long bound)]) (st' := [.int 9, .int 7]) rfl ?_
        refine zc_ge X d_X10_buckets_57 (tgt := 168) (by decide) (a := 7) (b := 9) (show (7 : Int32).toInt = 7 from by decide) (show (9 : Int32).toInt = 9 from by decide) (fun c57_18 => absurd c57_18 (by decide)) (fun _ => ?_)
        refine z_run X bb_X10_buckets_60_66 bk_X10_buckets_60_66 (lv' := [(8, .int 0), (7, .int 7), (6, .int 0), (5, .int 0), (4, .int 0), (0, .ref x), (1, .int plane), (2, .long bound)]) (st' := [.ref x, .int 0]) rfl ?_
        refine z_get X fl_10_26 d_X10_buckets_66 0 rfl (v := .ref ring) rfl ?_
        refine z_getN X fl_10_136 d_X10_buckets_69 2 rfl (v := .int 0) rfl ?_
        refine zc_ge X d_X10_buckets_72 (tgt := 162) (by decide) (a := 0) (b := 0) (show (0 : Int32).toInt = 0 from by decide) (show (0 : Int32).toInt = 0 from by decide) (fun _ => ?_) (fun c72_19 => absurd c72_19 (by decide))
        refine z_run X bb_X10_buckets_162_165 bk_X10_buckets_162_165 (lv' := [(7, .int 8), (8, .int 0), (6, .int 0), (5, .int 0), (4, .int 0), (0, .ref x), (1, .int plane), (2, .long bound)]) (st' := []) rfl ?_
        refine z_goto X d_X10_buckets_165 (tgt := 53) (by decide) ?_
        refine z_run X bb_X10_buckets_53_57 bk_X10_buckets_53_57 (lv' := [(7, .int 8), (8, .int 0), (6, .int 0), (5, .int 0), (4, .int 0), (0, .ref x), (1, .int plane), (2, .long bound)]) (st' := [.int 9, .int 8]) rfl ?_
        refine zc_ge X d_X10_buckets_57 (tgt := 168) (by decide) (a := 8) (b := 9) (show (8 : Int32).toInt = 8 from by decide) (show (9 : Int32).toInt = 9 from by decide) (fun c57_20 => absurd c57_20 (by decide)) (fun _ => ?_)
        refine z_run X bb_X10_buckets_60_66 bk_X10_buckets_60_66 (lv' := [(8, .int 0), (7, .int 8), (6, .int 0), (5, .int 0), (4, .int 0), (0, .ref x), (1, .int plane), (2, .long bound)]) (st' := [.ref x, .int 0]) rfl ?_
        refine z_get X fl_10_26 d_X10_buckets_66 0 rfl (v := .ref ring) rfl ?_
        refine z_getN X fl_10_136 d_X10_buckets_69 2 rfl (v := .int 0) rfl ?_
        refine zc_ge X d_X10_buckets_72 (tgt := 162) (by decide) (a := 0) (b := 0) (show (0 : Int32).toInt = 0 from by decide) (show (0 : Int32).toInt = 0 from by decide) (fun _ => ?_) (fun c72_21 => absurd c72_21 (by decide))
        refine z_run X bb_X10_buckets_162_165 bk_X10_buckets_162_165 (lv' := [(7, .int 9), (8, .int 0), (6, .int 0), (5, .int 0), (4, .int 0), (0, .ref x), (1, .int plane), (2, .long bound)]) (st' := []) rfl ?_
        refine z_goto X d_X10_buckets_165 (tgt := 53) (by decide) ?_
        refine z_run X bb_X10_buckets_53_57 bk_X10_buckets_53_57 (lv' := [(7, .int 9), (8, .int 0), (6, .int 0), (5, .int 0), (4, .int 0), (0, .ref x), (1, .int plane), (2, .long bound)]) (st' := [.int 9, .int 9]) rfl ?_
        refine zc_ge X d_X10_buckets_57 (tgt := 168) (by decide) (a := 9) (b := 9) (show (9 : Int32).toInt = 9 from by decide) (show (9 : Int32).toInt = 9 from by decide) (fun _ => ?_) (fun c57_22 => absurd c57_22 (by decide))
        refine z_run X bb_X10_buckets_168_170 bk_X10_buckets_168_170 (lv' := [(7, .int 9), (8, .int 0), (6, .int 0), (5, .int 0), (4, .int 0), (0, .ref x), (1, .int plane), (2, .long bound)]) (st' := [.int (-2)]) rfl ?_
        exact z_iret X rfl d_X10_buckets_170 (Nat.le_of_ble_eq_true rfl) (Nat.le_of_ble_eq_true rfl) (congrArg (fun z => some (Value.int z)) (by unfold an_buck; (repeat' split) <;> first | rfl | (exfalso; omega)))
      ·
        refine z_run X bb_X10_buckets_45_46 bk_X10_buckets_45_46 (lv' := [(5, .int 0), (4, .int 0), (0, .ref x), (1, .int plane), (2, .long bound)]) (st' := [.int 0]) rfl ?_
        exact z_iret X rfl d_X10_buckets_46 (Nat.le_of_ble_eq_true rfl) (Nat.le_of_ble_eq_true rfl) (congrArg (fun z => some (Value.int z)) (by unfold an_buck; (repeat' split) <;> first | rfl | (exfalso; omega)))
    ·
      refine z_run X bb_X10_buckets_13_14 bk_X10_buckets_13_14 (lv' := [(0, .ref x), (1, .int plane), (2, .long bound)]) (st' := [.int (-1)]) rfl ?_
      exact z_iret X rfl d_X10_buckets_14 (Nat.le_of_ble_eq_true rfl) (Nat.le_of_ble_eq_true rfl) (congrArg (fun z => some (Value.int z)) (by unfold an_buck; (repeat' split) <;> first | rfl | (exfalso; omega)))

theorem d_X10_cogsHavePlaces_1 : decode cX10_cogsHavePlaces 1 = .ok (.getfield 40, 3) := by decide +kernel
theorem d_X10_cogsHavePlaces_4 : decode cX10_cogsHavePlaces 4 = .ok (.getfield 467, 3) := by decide +kernel
theorem d_X10_cogsHavePlaces_7 : decode cX10_cogsHavePlaces 7 = .ok (.ifCond .le 24, 3) := by decide +kernel
theorem d_X10_cogsHavePlaces_32 : decode cX10_cogsHavePlaces 32 = .ok (.ireturn, 1) := by decide +kernel
abbrev bb_X10_cogsHavePlaces_0_1 : ZB := [(.aload_n 0, .null)]
theorem bk_X10_cogsHavePlaces_0_1 : zchk cX10_cogsHavePlaces bb_X10_cogsHavePlaces_0_1 0 = true ∧ zpc bb_X10_cogsHavePlaces_0_1 0 = 1 := ⟨by decide +kernel, rfl⟩
abbrev bb_X10_cogsHavePlaces_31_32 : ZB := [(.iconst 0, .int 0)]
theorem bk_X10_cogsHavePlaces_31_32 : zchk cX10_cogsHavePlaces bb_X10_cogsHavePlaces_31_32 31 = true ∧ zpc bb_X10_cogsHavePlaces_31_32 31 = 32 := ⟨by decide +kernel, rfl⟩
set_option maxHeartbeats 4000000 in
set_option maxRecDepth 100000 in
theorem c_X10_cogsHavePlaces (l : Launch) (G : KG) (x : Nat) (told : Nat) (reader : Nat) (ring : Nat) (speeds : Nat) (wheel : Nat) (trials : Nat) (span : Nat) (search : Nat) (kept : Nat) (crosses : Nat) (trueM : Nat) (thought : Nat) (up : Nat) (low : Nat) (fits : Nat) (ww : Nat) (ws : Nat) (wb : Nat) : Ct l G yX10_cogsHavePlaces cX10_cogsHavePlaces 1 (some .boolean) { frames := 0, cells := 0, slots := 0, locals := 0 } [.ref x] [(x, ob 10 [.ref told, .ref reader, .ref ring, .ref speeds, .ref wheel, .ref trials, .ref span, .ref search, .ref kept, .ref crosses, .ref trueM, .ref thought, .ref up, .ref low, .ref fits, .null]), (wheel, ob 0 [.int 0, .ref ww, .ref ws, .ref wb, .int 0, .int 0, .long 0])] (fun r w1 => r = some (.int 0) ∧ w1 = [(x, ob 10 [.ref told, .ref reader, .ref ring, .ref speeds, .ref wheel, .ref trials, .ref span, .ref search, .ref kept, .ref crosses, .ref trueM, .ref thought, .ref up, .ref low, .ref fits, .null]), (wheel, ob 0 [.int 0, .ref ww, .ref ws, .ref wb, .int 0, .int 0, .long 0])]) := by
  refine ct_of [(0, .ref x)] (by decide) (Nat.le_of_ble_eq_true rfl) rfl ?_
  intro p0 e0 s0 m0 args0 below0 meth0 c0 A X
  refine z_run X bb_X10_cogsHavePlaces_0_1 bk_X10_cogsHavePlaces_0_1 (lv' := [(0, .ref x)]) (st' := [.ref x]) rfl ?_
  refine z_get X fl_10_40 d_X10_cogsHavePlaces_1 0 rfl (v := .ref wheel) rfl ?_
  refine z_getN X fl_10_467 d_X10_cogsHavePlaces_4 1 rfl (v := .int 0) rfl ?_
  refine zi_le X d_X10_cogsHavePlaces_7 (tgt := 31) (by decide) (a := 0) (show (0 : Int32).toInt = 0 from by decide) (fun _ => ?_) (fun c7_1 => absurd c7_1 (by decide))
  refine z_run X bb_X10_cogsHavePlaces_31_32 bk_X10_cogsHavePlaces_31_32 (lv' := [(0, .ref x)]) (st' := [.int 0]) rfl ?_
  exact z_zret X rfl rfl d_X10_cogsHavePlaces_32 (Nat.le_of_ble_eq_true rfl) (Nat.le_of_ble_eq_true rfl) ⟨rfl, rfl⟩

theorem d_X10_cogs_1 : decode cX10_cogs 1 = .ok (.invokevirtual 452, 3) := by decide +kernel
theorem d_X10_cogs_4 : decode cX10_cogs 4 = .ok (.ifCond .ne 7, 3) := by decide +kernel
theorem d_X10_cogs_7 : decode cX10_cogs 7 = .ok (.ldc2_w 346, 3) := by decide +kernel
theorem d_X10_cogs_10 : decode cX10_cogs 10 = .ok (.lreturn, 1) := by decide +kernel
abbrev bb_X10_cogs_0_1 : ZB := [(.aload_n 0, .null)]
theorem bk_X10_cogs_0_1 : zchk cX10_cogs bb_X10_cogs_0_1 0 = true ∧ zpc bb_X10_cogs_0_1 0 = 1 := ⟨by decide +kernel, rfl⟩
set_option maxHeartbeats 4000000 in
set_option maxRecDepth 100000 in
theorem c_X10_cogs (l : Launch) (G : KG) (x : Nat) (told : Nat) (reader : Nat) (ring : Nat) (speeds : Nat) (wheel : Nat) (trials : Nat) (span : Nat) (search : Nat) (kept : Nat) (crosses : Nat) (trueM : Nat) (thought : Nat) (up : Nat) (low : Nat) (fits : Nat) (ww : Nat) (ws : Nat) (wb : Nat) : Ct l G yX10_cogs cX10_cogs 1 (some .long) { frames := 1, cells := 0, slots := 0, locals := 20 } [.ref x] [(x, ob 10 [.ref told, .ref reader, .ref ring, .ref speeds, .ref wheel, .ref trials, .ref span, .ref search, .ref kept, .ref crosses, .ref trueM, .ref thought, .ref up, .ref low, .ref fits, .null]), (wheel, ob 0 [.int 0, .ref ww, .ref ws, .ref wb, .int 0, .int 0, .long 0])] (fun r _ => r = some (.long (-1))) := by
  refine ct_of [(0, .ref x)] (by decide) (Nat.le_of_ble_eq_true rfl) rfl ?_
  intro p0 e0 s0 m0 args0 below0 meth0 c0 A X
  refine z_run X bb_X10_cogs_0_1 bk_X10_cogs_0_1 (lv' := [(0, .ref x)]) (st' := [.ref x]) rfl ?_
  refine z_callV X k_10_452 (c_X10_cogsHavePlaces l G x told reader ring speeds wheel trials span search kept crosses trueM thought up low fits ww ws wb) d_X10_cogs_1 0 rfl rfl rfl ⟨Nat.le_of_ble_eq_true rfl, Nat.le_of_ble_eq_true rfl⟩ ⟨Nat.le_of_ble_eq_true rfl, Nat.le_of_ble_eq_true rfl⟩ rfl (rest := []) (As := []) rfl (Nat.le_of_ble_eq_true rfl) [0, 1] [] rfl (by decide) (wr := []) rfl (by decide) (by decide) ?_
  rintro _ _ ⟨rfl, rfl⟩
  refine Z.at (pc' := 4) (st' := [.int 0]) (ws' := [(x, ob 10 [.ref told, .ref reader, .ref ring, .ref speeds, .ref wheel, .ref trials, .ref span, .ref search, .ref kept, .ref crosses, .ref trueM, .ref thought, .ref up, .ref low, .ref fits, .null]), (wheel, ob 0 [.int 0, .ref ww, .ref ws, .ref wb, .int 0, .int 0, .long 0])]) (kc' := 0) (ks' := 0) rfl rfl rfl rfl rfl ?_
  refine zi_ne X d_X10_cogs_4 (tgt := 11) (by decide) (a := 0) (show (0 : Int32).toInt = 0 from by decide) (fun c4_1 => absurd c4_1 (by decide)) (fun _ => ?_)
  refine z_ldc2 X d_X10_cogs_7 cn_10_346 ?_
  exact z_lret X rfl d_X10_cogs_10 (Nat.le_of_ble_eq_true rfl) (Nat.le_of_ble_eq_true rfl) rfl

theorem d_X10_order_1 : decode cX10_order 1 = .ok (.invokevirtual 452, 3) := by decide +kernel
theorem d_X10_order_4 : decode cX10_order 4 = .ok (.ifCond .ne 7, 3) := by decide +kernel
theorem d_X10_order_7 : decode cX10_order 7 = .ok (.ldc2_w 346, 3) := by decide +kernel
theorem d_X10_order_10 : decode cX10_order 10 = .ok (.lreturn, 1) := by decide +kernel
abbrev bb_X10_order_0_1 : ZB := [(.aload_n 0, .null)]
theorem bk_X10_order_0_1 : zchk cX10_order bb_X10_order_0_1 0 = true ∧ zpc bb_X10_order_0_1 0 = 1 := ⟨by decide +kernel, rfl⟩
set_option maxHeartbeats 4000000 in
set_option maxRecDepth 100000 in
theorem c_X10_order (l : Launch) (G : KG) (x : Nat) (told : Nat) (reader : Nat) (ring : Nat) (speeds : Nat) (wheel : Nat) (trials : Nat) (span : Nat) (search : Nat) (kept : Nat) (crosses : Nat) (trueM : Nat) (thought : Nat) (up : Nat) (low : Nat) (fits : Nat) (ww : Nat) (ws : Nat) (wb : Nat) : Ct l G yX10_order cX10_order 2 (some .long) { frames := 1, cells := 0, slots := 0, locals := 20 } [.ref x] [(x, ob 10 [.ref told, .ref reader, .ref ring, .ref speeds, .ref wheel, .ref trials, .ref span, .ref search, .ref kept, .ref crosses, .ref trueM, .ref thought, .ref up, .ref low, .ref fits, .null]), (wheel, ob 0 [.int 0, .ref ww, .ref ws, .ref wb, .int 0, .int 0, .long 0])] (fun r _ => r = some (.long (-1))) := by
  refine ct_of [(0, .ref x)] (by decide) (Nat.le_of_ble_eq_true rfl) rfl ?_
  intro p0 e0 s0 m0 args0 below0 meth0 c0 A X
  refine z_run X bb_X10_order_0_1 bk_X10_order_0_1 (lv' := [(0, .ref x)]) (st' := [.ref x]) rfl ?_
  refine z_callV X k_10_452 (c_X10_cogsHavePlaces l G x told reader ring speeds wheel trials span search kept crosses trueM thought up low fits ww ws wb) d_X10_order_1 0 rfl rfl rfl ⟨Nat.le_of_ble_eq_true rfl, Nat.le_of_ble_eq_true rfl⟩ ⟨Nat.le_of_ble_eq_true rfl, Nat.le_of_ble_eq_true rfl⟩ rfl (rest := []) (As := []) rfl (Nat.le_of_ble_eq_true rfl) [0, 1] [] rfl (by decide) (wr := []) rfl (by decide) (by decide) ?_
  rintro _ _ ⟨rfl, rfl⟩
  refine Z.at (pc' := 4) (st' := [.int 0]) (ws' := [(x, ob 10 [.ref told, .ref reader, .ref ring, .ref speeds, .ref wheel, .ref trials, .ref span, .ref search, .ref kept, .ref crosses, .ref trueM, .ref thought, .ref up, .ref low, .ref fits, .null]), (wheel, ob 0 [.int 0, .ref ww, .ref ws, .ref wb, .int 0, .int 0, .long 0])]) (kc' := 0) (ks' := 0) rfl rfl rfl rfl rfl ?_
  refine zi_ne X d_X10_order_4 (tgt := 11) (by decide) (a := 0) (show (0 : Int32).toInt = 0 from by decide) (fun c4_1 => absurd c4_1 (by decide)) (fun _ => ?_)
  refine z_ldc2 X d_X10_order_7 cn_10_346 ?_
  exact z_lret X rfl d_X10_order_10 (Nat.le_of_ble_eq_true rfl) (Nat.le_of_ble_eq_true rfl) rfl

theorem d_X10_round_1 : decode cX10_round 1 = .ok (.invokevirtual 452, 3) := by decide +kernel
theorem d_X10_round_4 : decode cX10_round 4 = .ok (.ifCond .ne 5, 3) := by decide +kernel
theorem d_X10_round_8 : decode cX10_round 8 = .ok (.ireturn, 1) := by decide +kernel
abbrev bb_X10_round_0_1 : ZB := [(.aload_n 0, .null)]
theorem bk_X10_round_0_1 : zchk cX10_round bb_X10_round_0_1 0 = true ∧ zpc bb_X10_round_0_1 0 = 1 := ⟨by decide +kernel, rfl⟩
abbrev bb_X10_round_7_8 : ZB := [(.iconst (-1), .int (-1))]
theorem bk_X10_round_7_8 : zchk cX10_round bb_X10_round_7_8 7 = true ∧ zpc bb_X10_round_7_8 7 = 8 := ⟨by decide +kernel, rfl⟩
set_option maxHeartbeats 4000000 in
set_option maxRecDepth 100000 in
theorem c_X10_round (l : Launch) (G : KG) (x : Nat) (told : Nat) (reader : Nat) (ring : Nat) (speeds : Nat) (wheel : Nat) (trials : Nat) (span : Nat) (search : Nat) (kept : Nat) (crosses : Nat) (trueM : Nat) (thought : Nat) (up : Nat) (low : Nat) (fits : Nat) (ww : Nat) (ws : Nat) (wb : Nat) : Ct l G yX10_round cX10_round 3 (some .int) { frames := 1, cells := 0, slots := 0, locals := 20 } [.ref x] [(x, ob 10 [.ref told, .ref reader, .ref ring, .ref speeds, .ref wheel, .ref trials, .ref span, .ref search, .ref kept, .ref crosses, .ref trueM, .ref thought, .ref up, .ref low, .ref fits, .null]), (wheel, ob 0 [.int 0, .ref ww, .ref ws, .ref wb, .int 0, .int 0, .long 0])] (fun r _ => r = some (.int (-1))) := by
  refine ct_of [(0, .ref x)] (by decide) (Nat.le_of_ble_eq_true rfl) rfl ?_
  intro p0 e0 s0 m0 args0 below0 meth0 c0 A X
  refine z_run X bb_X10_round_0_1 bk_X10_round_0_1 (lv' := [(0, .ref x)]) (st' := [.ref x]) rfl ?_
  refine z_callV X k_10_452 (c_X10_cogsHavePlaces l G x told reader ring speeds wheel trials span search kept crosses trueM thought up low fits ww ws wb) d_X10_round_1 0 rfl rfl rfl ⟨Nat.le_of_ble_eq_true rfl, Nat.le_of_ble_eq_true rfl⟩ ⟨Nat.le_of_ble_eq_true rfl, Nat.le_of_ble_eq_true rfl⟩ rfl (rest := []) (As := []) rfl (Nat.le_of_ble_eq_true rfl) [0, 1] [] rfl (by decide) (wr := []) rfl (by decide) (by decide) ?_
  rintro _ _ ⟨rfl, rfl⟩
  refine Z.at (pc' := 4) (st' := [.int 0]) (ws' := [(x, ob 10 [.ref told, .ref reader, .ref ring, .ref speeds, .ref wheel, .ref trials, .ref span, .ref search, .ref kept, .ref crosses, .ref trueM, .ref thought, .ref up, .ref low, .ref fits, .null]), (wheel, ob 0 [.int 0, .ref ww, .ref ws, .ref wb, .int 0, .int 0, .long 0])]) (kc' := 0) (ks' := 0) rfl rfl rfl rfl rfl ?_
  refine zi_ne X d_X10_round_4 (tgt := 9) (by decide) (a := 0) (show (0 : Int32).toInt = 0 from by decide) (fun c4_1 => absurd c4_1 (by decide)) (fun _ => ?_)
  refine z_run X bb_X10_round_7_8 bk_X10_round_7_8 (lv' := [(0, .ref x)]) (st' := [.int (-1)]) rfl ?_
  exact z_iret X rfl d_X10_round_8 (Nat.le_of_ble_eq_true rfl) (Nat.le_of_ble_eq_true rfl) rfl

theorem d_X10_count_1 : decode cX10_count 1 = .ok (.tableswitch 123 0 8 #[51, 59, 67, 75, 83, 91, 99, 107, 115], 51) := by decide +kernel
theorem d_X10_count_53 : decode cX10_count 53 = .ok (.getfield 26, 3) := by decide +kernel
theorem d_X10_count_56 : decode cX10_count 56 = .ok (.getfield 136, 3) := by decide +kernel
theorem d_X10_count_59 : decode cX10_count 59 = .ok (.ireturn, 1) := by decide +kernel
theorem d_X10_count_61 : decode cX10_count 61 = .ok (.getfield 33, 3) := by decide +kernel
theorem d_X10_count_64 : decode cX10_count 64 = .ok (.getfield 191, 3) := by decide +kernel
theorem d_X10_count_67 : decode cX10_count 67 = .ok (.ireturn, 1) := by decide +kernel
theorem d_X10_count_69 : decode cX10_count 69 = .ok (.getfield 40, 3) := by decide +kernel
theorem d_X10_count_72 : decode cX10_count 72 = .ok (.getfield 467, 3) := by decide +kernel
theorem d_X10_count_75 : decode cX10_count 75 = .ok (.ireturn, 1) := by decide +kernel
theorem d_X10_count_77 : decode cX10_count 77 = .ok (.getfield 47, 3) := by decide +kernel
theorem d_X10_count_80 : decode cX10_count 80 = .ok (.getfield 206, 3) := by decide +kernel
theorem d_X10_count_83 : decode cX10_count 83 = .ok (.ireturn, 1) := by decide +kernel
theorem d_X10_count_85 : decode cX10_count 85 = .ok (.getfield 26, 3) := by decide +kernel
theorem d_X10_count_88 : decode cX10_count 88 = .ok (.invokevirtual 152, 3) := by decide +kernel
theorem d_X10_count_91 : decode cX10_count 91 = .ok (.ireturn, 1) := by decide +kernel
theorem d_X10_count_93 : decode cX10_count 93 = .ok (.getfield 26, 3) := by decide +kernel
theorem d_X10_count_96 : decode cX10_count 96 = .ok (.getfield 167, 3) := by decide +kernel
theorem d_X10_count_99 : decode cX10_count 99 = .ok (.ireturn, 1) := by decide +kernel
theorem d_X10_count_101 : decode cX10_count 101 = .ok (.getfield 26, 3) := by decide +kernel
theorem d_X10_count_104 : decode cX10_count 104 = .ok (.getfield 170, 3) := by decide +kernel
theorem d_X10_count_107 : decode cX10_count 107 = .ok (.ireturn, 1) := by decide +kernel
theorem d_X10_count_109 : decode cX10_count 109 = .ok (.getfield 12, 3) := by decide +kernel
theorem d_X10_count_112 : decode cX10_count 112 = .ok (.getfield 492, 3) := by decide +kernel
theorem d_X10_count_115 : decode cX10_count 115 = .ok (.ireturn, 1) := by decide +kernel
theorem d_X10_count_117 : decode cX10_count 117 = .ok (.getfield 19, 3) := by decide +kernel
theorem d_X10_count_120 : decode cX10_count 120 = .ok (.getfield 495, 3) := by decide +kernel
theorem d_X10_count_123 : decode cX10_count 123 = .ok (.ireturn, 1) := by decide +kernel
theorem d_X10_count_125 : decode cX10_count 125 = .ok (.ireturn, 1) := by decide +kernel
abbrev bb_X10_count_0_1 : ZB := [(.iload_n 1, .null)]
theorem bk_X10_count_0_1 : zchk cX10_count bb_X10_count_0_1 0 = true ∧ zpc bb_X10_count_0_1 0 = 1 := ⟨by decide +kernel, rfl⟩
abbrev bb_X10_count_52_53 : ZB := [(.aload_n 0, .null)]
theorem bk_X10_count_52_53 : zchk cX10_count bb_X10_count_52_53 52 = true ∧ zpc bb_X10_count_52_53 52 = 53 := ⟨by decide +kernel, rfl⟩
abbrev bb_X10_count_60_61 : ZB := [(.aload_n 0, .null)]
theorem bk_X10_count_60_61 : zchk cX10_count bb_X10_count_60_61 60 = true ∧ zpc bb_X10_count_60_61 60 = 61 := ⟨by decide +kernel, rfl⟩
abbrev bb_X10_count_68_69 : ZB := [(.aload_n 0, .null)]
theorem bk_X10_count_68_69 : zchk cX10_count bb_X10_count_68_69 68 = true ∧ zpc bb_X10_count_68_69 68 = 69 := ⟨by decide +kernel, rfl⟩
abbrev bb_X10_count_76_77 : ZB := [(.aload_n 0, .null)]
theorem bk_X10_count_76_77 : zchk cX10_count bb_X10_count_76_77 76 = true ∧ zpc bb_X10_count_76_77 76 = 77 := ⟨by decide +kernel, rfl⟩
abbrev bb_X10_count_84_85 : ZB := [(.aload_n 0, .null)]
theorem bk_X10_count_84_85 : zchk cX10_count bb_X10_count_84_85 84 = true ∧ zpc bb_X10_count_84_85 84 = 85 := ⟨by decide +kernel, rfl⟩
abbrev bb_X10_count_92_93 : ZB := [(.aload_n 0, .null)]
theorem bk_X10_count_92_93 : zchk cX10_count bb_X10_count_92_93 92 = true ∧ zpc bb_X10_count_92_93 92 = 93 := ⟨by decide +kernel, rfl⟩
abbrev bb_X10_count_100_101 : ZB := [(.aload_n 0, .null)]
theorem bk_X10_count_100_101 : zchk cX10_count bb_X10_count_100_101 100 = true ∧ zpc bb_X10_count_100_101 100 = 101 := ⟨by decide +kernel, rfl⟩
abbrev bb_X10_count_108_109 : ZB := [(.aload_n 0, .null)]
theorem bk_X10_count_108_109 : zchk cX10_count bb_X10_count_108_109 108 = true ∧ zpc bb_X10_count_108_109 108 = 109 := ⟨by decide +kernel, rfl⟩
abbrev bb_X10_count_116_117 : ZB := [(.aload_n 0, .null)]
theorem bk_X10_count_116_117 : zchk cX10_count bb_X10_count_116_117 116 = true ∧ zpc bb_X10_count_116_117 116 = 117 := ⟨by decide +kernel, rfl⟩
abbrev bb_X10_count_124_125 : ZB := [(.iconst (-1), .int (-1))]
theorem bk_X10_count_124_125 : zchk cX10_count bb_X10_count_124_125 124 = true ∧ zpc bb_X10_count_124_125 124 = 125 := ⟨by decide +kernel, rfl⟩
set_option maxHeartbeats 4000000 in
set_option maxRecDepth 100000 in
theorem c_X10_count (l : Launch) (G : KG) (x : Nat) (told : Nat) (reader : Nat) (ring : Nat) (speeds : Nat) (wheel : Nat) (trials : Nat) (span : Nat) (search : Nat) (kept : Nat) (crosses : Nat) (trueM : Nat) (thought : Nat) (up : Nat) (low : Nat) (fits : Nat) (tn : Nat) (rs : Nat) (rp : Nat) (rx : Nat) (ry : Nat) (rr : Nat) (rh : Nat) (rd : Nat) (sf : Nat) (so : Nat) (sa : Nat) (sx : Nat) (sy : Nat) (ww : Nat) (ws : Nat) (wb : Nat) (ts : Nat) (tw : Nat) (tf : Nat) (te : Nat) (tg : Nat) (tl : Nat) (tc : Nat) (tx : Nat) (ty : Nat) (what : Int32) (whati : Int) (hwhat : what.toInt = whati) : Ct l G yX10_count cX10_count 2 (some .int) { frames := 1, cells := 0, slots := 0, locals := 22 } [.ref x, .int what] [(x, ob 10 [.ref told, .ref reader, .ref ring, .ref speeds, .ref wheel, .ref trials, .ref span, .ref search, .ref kept, .ref crosses, .ref trueM, .ref thought, .ref up, .ref low, .ref fits, .null]), (told, ob 8 [.ref tn, .int 0]), (reader, ob 4 [.ref rs, .int 0, .int 0, .int 0, .int 0, .int 0, .int 0, .int 0]), (ring, ob 5 [.int 0, .ref rp, .ref rx, .ref ry, .ref rr, .ref rh, .ref rd, .int (-1), .int 0]), (speeds, ob 7 [.int 0, .ref sf, .ref so, .ref sa, .ref sx, .ref sy]), (wheel, ob 0 [.int 0, .ref ww, .ref ws, .ref wb, .int 0, .int 0, .long 0]), (trials, ob 9 [.int 0, .ref ts, .ref tw, .ref tf, .ref te, .ref tg, .ref tl, .ref tc, .ref tx, .ref ty])] (fun r _ => r = some (.int (an_count whati))) := by
  refine ct_of [(0, .ref x), (1, .int what)] (by decide) (Nat.le_of_ble_eq_true rfl) rfl ?_
  intro p0 e0 s0 m0 args0 below0 meth0 c0 A X
  refine z_run X bb_X10_count_0_1 bk_X10_count_0_1 (lv' := [(0, .ref x), (1, .int what)]) (st' := [.int what]) rfl ?_
  by_cases t1_1 : whati = 0
  ·
    have t1_1_ := hwhat.trans t1_1
    refine z_tableIn X d_X10_count_1 (by rw [t1_1_]; decide) (by rw [t1_1_]; decide) (off := 51) (by rw [t1_1_]; rfl) (tgt := 52) (by decide) ?_
    refine z_run X bb_X10_count_52_53 bk_X10_count_52_53 (lv' := [(0, .ref x), (1, .int what)]) (st' := [.ref x]) rfl ?_
    refine z_get X fl_10_26 d_X10_count_53 0 rfl (v := .ref ring) rfl ?_
    refine z_getN X fl_10_136 d_X10_count_56 3 rfl (v := .int 0) rfl ?_
    exact z_iret X rfl d_X10_count_59 (Nat.le_of_ble_eq_true rfl) (Nat.le_of_ble_eq_true rfl) (congrArg (fun z => some (Value.int z)) (by unfold an_count; (repeat' split) <;> first | rfl | (exfalso; omega)))
  by_cases t1_2 : whati = 1
  ·
    have t1_2_ := hwhat.trans t1_2
    refine z_tableIn X d_X10_count_1 (by rw [t1_2_]; decide) (by rw [t1_2_]; decide) (off := 59) (by rw [t1_2_]; rfl) (tgt := 60) (by decide) ?_
    refine z_run X bb_X10_count_60_61 bk_X10_count_60_61 (lv' := [(0, .ref x), (1, .int what)]) (st' := [.ref x]) rfl ?_
    refine z_get X fl_10_33 d_X10_count_61 0 rfl (v := .ref speeds) rfl ?_
    refine z_getN X fl_10_191 d_X10_count_64 4 rfl (v := .int 0) rfl ?_
    exact z_iret X rfl d_X10_count_67 (Nat.le_of_ble_eq_true rfl) (Nat.le_of_ble_eq_true rfl) (congrArg (fun z => some (Value.int z)) (by unfold an_count; (repeat' split) <;> first | rfl | (exfalso; omega)))
  by_cases t1_3 : whati = 2
  ·
    have t1_3_ := hwhat.trans t1_3
    refine z_tableIn X d_X10_count_1 (by rw [t1_3_]; decide) (by rw [t1_3_]; decide) (off := 67) (by rw [t1_3_]; rfl) (tgt := 68) (by decide) ?_
    refine z_run X bb_X10_count_68_69 bk_X10_count_68_69 (lv' := [(0, .ref x), (1, .int what)]) (st' := [.ref x]) rfl ?_
    refine z_get X fl_10_40 d_X10_count_69 0 rfl (v := .ref wheel) rfl ?_
    refine z_getN X fl_10_467 d_X10_count_72 5 rfl (v := .int 0) rfl ?_
    exact z_iret X rfl d_X10_count_75 (Nat.le_of_ble_eq_true rfl) (Nat.le_of_ble_eq_true rfl) (congrArg (fun z => some (Value.int z)) (by unfold an_count; (repeat' split) <;> first | rfl | (exfalso; omega)))
  by_cases t1_4 : whati = 3
  ·
    have t1_4_ := hwhat.trans t1_4
    refine z_tableIn X d_X10_count_1 (by rw [t1_4_]; decide) (by rw [t1_4_]; decide) (off := 75) (by rw [t1_4_]; rfl) (tgt := 76) (by decide) ?_
    refine z_run X bb_X10_count_76_77 bk_X10_count_76_77 (lv' := [(0, .ref x), (1, .int what)]) (st' := [.ref x]) rfl ?_
    refine z_get X fl_10_47 d_X10_count_77 0 rfl (v := .ref trials) rfl ?_
    refine z_getN X fl_10_206 d_X10_count_80 6 rfl (v := .int 0) rfl ?_
    exact z_iret X rfl d_X10_count_83 (Nat.le_of_ble_eq_true rfl) (Nat.le_of_ble_eq_true rfl) (congrArg (fun z => some (Value.int z)) (by unfold an_count; (repeat' split) <;> first | rfl | (exfalso; omega)))
  by_cases t1_5 : whati = 4
  ·
    have t1_5_ := hwhat.trans t1_5
    refine z_tableIn X d_X10_count_1 (by rw [t1_5_]; decide) (by rw [t1_5_]; decide) (off := 83) (by rw [t1_5_]; rfl) (tgt := 84) (by decide) ?_
    refine z_run X bb_X10_count_84_85 bk_X10_count_84_85 (lv' := [(0, .ref x), (1, .int what)]) (st' := [.ref x]) rfl ?_
    refine z_get X fl_10_26 d_X10_count_85 0 rfl (v := .ref ring) rfl ?_
    refine z_callV X k_10_152 (c_X5_ouncesInAll l G ring rp rx ry rr rh rd) d_X10_count_88 3 rfl rfl rfl ⟨Nat.le_of_ble_eq_true rfl, Nat.le_of_ble_eq_true rfl⟩ ⟨Nat.le_of_ble_eq_true rfl, Nat.le_of_ble_eq_true rfl⟩ rfl (rest := []) (As := []) rfl (Nat.le_of_ble_eq_true rfl) [3] [0, 1, 2, 4, 5, 6] rfl (by decide) (wr := [(x, ob 10 [.ref told, .ref reader, .ref ring, .ref speeds, .ref wheel, .ref trials, .ref span, .ref search, .ref kept, .ref crosses, .ref trueM, .ref thought, .ref up, .ref low, .ref fits, .null]), (told, ob 8 [.ref tn, .int 0]), (reader, ob 4 [.ref rs, .int 0, .int 0, .int 0, .int 0, .int 0, .int 0, .int 0]), (speeds, ob 7 [.int 0, .ref sf, .ref so, .ref sa, .ref sx, .ref sy]), (wheel, ob 0 [.int 0, .ref ww, .ref ws, .ref wb, .int 0, .int 0, .long 0]), (trials, ob 9 [.int 0, .ref ts, .ref tw, .ref tf, .ref te, .ref tg, .ref tl, .ref tc, .ref tx, .ref ty])]) rfl (by decide) (by decide) ?_
    rintro _ _ ⟨rfl, rfl⟩
    refine Z.at (pc' := 91) (st' := [.int 0]) (ws' := [(x, ob 10 [.ref told, .ref reader, .ref ring, .ref speeds, .ref wheel, .ref trials, .ref span, .ref search, .ref kept, .ref crosses, .ref trueM, .ref thought, .ref up, .ref low, .ref fits, .null]), (told, ob 8 [.ref tn, .int 0]), (reader, ob 4 [.ref rs, .int 0, .int 0, .int 0, .int 0, .int 0, .int 0, .int 0]), (speeds, ob 7 [.int 0, .ref sf, .ref so, .ref sa, .ref sx, .ref sy]), (wheel, ob 0 [.int 0, .ref ww, .ref ws, .ref wb, .int 0, .int 0, .long 0]), (trials, ob 9 [.int 0, .ref ts, .ref tw, .ref tf, .ref te, .ref tg, .ref tl, .ref tc, .ref tx, .ref ty]), (ring, ob 5 [.int 0, .ref rp, .ref rx, .ref ry, .ref rr, .ref rh, .ref rd, .int (-1), .int 0])]) (kc' := 0) (ks' := 0) rfl rfl rfl rfl rfl ?_
    exact z_iret X rfl d_X10_count_91 (Nat.le_of_ble_eq_true rfl) (Nat.le_of_ble_eq_true rfl) (congrArg (fun z => some (Value.int z)) (by unfold an_count; (repeat' split) <;> first | rfl | (exfalso; omega)))
  by_cases t1_6 : whati = 5
  ·
    have t1_6_ := hwhat.trans t1_6
    refine z_tableIn X d_X10_count_1 (by rw [t1_6_]; decide) (by rw [t1_6_]; decide) (off := 91) (by rw [t1_6_]; rfl) (tgt := 92) (by decide) ?_
    refine z_run X bb_X10_count_92_93 bk_X10_count_92_93 (lv' := [(0, .ref x), (1, .int what)]) (st' := [.ref x]) rfl ?_
    refine z_get X fl_10_26 d_X10_count_93 0 rfl (v := .ref ring) rfl ?_
    refine z_getN X fl_10_167 d_X10_count_96 3 rfl (v := .int (-1)) rfl ?_
    exact z_iret X rfl d_X10_count_99 (Nat.le_of_ble_eq_true rfl) (Nat.le_of_ble_eq_true rfl) (congrArg (fun z => some (Value.int z)) (by unfold an_count; (repeat' split) <;> first | rfl | (exfalso; omega)))
  by_cases t1_7 : whati = 6
  ·
    have t1_7_ := hwhat.trans t1_7
    refine z_tableIn X d_X10_count_1 (by rw [t1_7_]; decide) (by rw [t1_7_]; decide) (off := 99) (by rw [t1_7_]; rfl) (tgt := 100) (by decide) ?_
    refine z_run X bb_X10_count_100_101 bk_X10_count_100_101 (lv' := [(0, .ref x), (1, .int what)]) (st' := [.ref x]) rfl ?_
    refine z_get X fl_10_26 d_X10_count_101 0 rfl (v := .ref ring) rfl ?_
    refine z_getN X fl_10_170 d_X10_count_104 3 rfl (v := .int 0) rfl ?_
    exact z_iret X rfl d_X10_count_107 (Nat.le_of_ble_eq_true rfl) (Nat.le_of_ble_eq_true rfl) (congrArg (fun z => some (Value.int z)) (by unfold an_count; (repeat' split) <;> first | rfl | (exfalso; omega)))
  by_cases t1_8 : whati = 7
  ·
    have t1_8_ := hwhat.trans t1_8
    refine z_tableIn X d_X10_count_1 (by rw [t1_8_]; decide) (by rw [t1_8_]; decide) (off := 107) (by rw [t1_8_]; rfl) (tgt := 108) (by decide) ?_
    refine z_run X bb_X10_count_108_109 bk_X10_count_108_109 (lv' := [(0, .ref x), (1, .int what)]) (st' := [.ref x]) rfl ?_
    refine z_get X fl_10_12 d_X10_count_109 0 rfl (v := .ref told) rfl ?_
    refine z_getN X fl_10_492 d_X10_count_112 1 rfl (v := .int 0) rfl ?_
    exact z_iret X rfl d_X10_count_115 (Nat.le_of_ble_eq_true rfl) (Nat.le_of_ble_eq_true rfl) (congrArg (fun z => some (Value.int z)) (by unfold an_count; (repeat' split) <;> first | rfl | (exfalso; omega)))
  by_cases t1_9 : whati = 8
  ·
    have t1_9_ := hwhat.trans t1_9
    refine z_tableIn X d_X10_count_1 (by rw [t1_9_]; decide) (by rw [t1_9_]; decide) (off := 115) (by rw [t1_9_]; rfl) (tgt := 116) (by decide) ?_
    refine z_run X bb_X10_count_116_117 bk_X10_count_116_117 (lv' := [(0, .ref x), (1, .int what)]) (st' := [.ref x]) rfl ?_
    refine z_get X fl_10_19 d_X10_count_117 0 rfl (v := .ref reader) rfl ?_
    refine z_getN X fl_10_495 d_X10_count_120 2 rfl (v := .int 0) rfl ?_
    exact z_iret X rfl d_X10_count_123 (Nat.le_of_ble_eq_true rfl) (Nat.le_of_ble_eq_true rfl) (congrArg (fun z => some (Value.int z)) (by unfold an_count; (repeat' split) <;> first | rfl | (exfalso; omega)))
  refine z_tableOut X d_X10_count_1 (by rw [hwhat]; omega) (tgt := 124) (by decide) ?_
  refine z_run X bb_X10_count_124_125 bk_X10_count_124_125 (lv' := [(0, .ref x), (1, .int what)]) (st' := [.int (-1)]) rfl ?_
  exact z_iret X rfl d_X10_count_125 (Nat.le_of_ble_eq_true rfl) (Nat.le_of_ble_eq_true rfl) (congrArg (fun z => some (Value.int z)) (by unfold an_count; (repeat' split) <;> first | rfl | (exfalso; omega)))

theorem d_X10_copy_4 : decode cX10_copy 4 = .ok (.arraylength, 1) := by decide +kernel
theorem d_X10_copy_5 : decode cX10_copy 5 = .ok (.if_icmp .ge 21, 3) := by decide +kernel
theorem d_X10_copy_26 : decode cX10_copy 26 = .ok (.return_, 1) := by decide +kernel
theorem d_X10_copy_10 : decode cX10_copy 10 = .ok (.arraylength, 1) := by decide +kernel
theorem d_X10_copy_11 : decode cX10_copy 11 = .ok (.if_icmp .ge 15, 3) := by decide +kernel
theorem d_X10_copy_18 : decode cX10_copy 18 = .ok (.iaload, 1) := by decide +kernel
theorem d_X10_copy_19 : decode cX10_copy 19 = .ok (.iastore, 1) := by decide +kernel
theorem d_X10_copy_23 : decode cX10_copy 23 = .ok (.goto (-21), 3) := by decide +kernel
abbrev bb_X10_copy_0_2 : ZB := [(.iconst 0, .int 0), (.istore_n 2, .null)]
theorem bk_X10_copy_0_2 : zchk cX10_copy bb_X10_copy_0_2 0 = true ∧ zpc bb_X10_copy_0_2 0 = 2 := ⟨by decide +kernel, rfl⟩
abbrev bb_X10_copy_2_4 : ZB := [(.iload_n 2, .null), (.aload_n 0, .null)]
theorem bk_X10_copy_2_4 : zchk cX10_copy bb_X10_copy_2_4 2 = true ∧ zpc bb_X10_copy_2_4 2 = 4 := ⟨by decide +kernel, rfl⟩
abbrev bb_X10_copy_8_10 : ZB := [(.iload_n 2, .null), (.aload_n 1, .null)]
theorem bk_X10_copy_8_10 : zchk cX10_copy bb_X10_copy_8_10 8 = true ∧ zpc bb_X10_copy_8_10 8 = 10 := ⟨by decide +kernel, rfl⟩
abbrev bb_X10_copy_14_18 : ZB := [(.aload_n 1, .null), (.iload_n 2, .null), (.aload_n 0, .null), (.iload_n 2, .null)]
theorem bk_X10_copy_14_18 : zchk cX10_copy bb_X10_copy_14_18 14 = true ∧ zpc bb_X10_copy_14_18 14 = 18 := ⟨by decide +kernel, rfl⟩
abbrev bb_X10_copy_20_23 : ZB := [(.iinc 2 1, .int 1)]
theorem bk_X10_copy_20_23 : zchk cX10_copy bb_X10_copy_20_23 20 = true ∧ zpc bb_X10_copy_20_23 20 = 23 := ⟨by decide +kernel, rfl⟩
set_option maxHeartbeats 4000000 in
set_option maxRecDepth 100000 in
theorem c_X10_copy (l : Launch) (G : KG) (ca : Nat) (cb : Nat) (n : Nat) (m : Nat) (f : Nat → Int32) (g : Nat → Int32) (hn : n < 2 ^ 31) (hm : m < 2 ^ 31) : Ct l G yX10_copy cX10_copy 3 none { frames := 0, cells := 0, slots := 0, locals := 0 } [.ref ca, .ref cb] [(ca, aI G n f), (cb, aI G m g)] (fun r w1 => ∃ (g2 : Nat → Int32), r = none ∧ w1 = [(ca, aI G n f), (cb, aI G m g2)]) := by
  refine ct_of [(0, .ref ca), (1, .ref cb)] (by decide) (Nat.le_of_ble_eq_true rfl) rfl ?_
  intro p0 e0 s0 m0 args0 below0 meth0 c0 A X
  refine z_run X bb_X10_copy_0_2 bk_X10_copy_0_2 (lv' := [(2, .int 0), (0, .ref ca), (1, .ref cb)]) (st' := []) rfl ?_
  refine zloop (σ := Int32 × Int × (Nat → Int32)) (fun z => [(2, .int z.1), (0, .ref ca), (1, .ref cb)]) (fun z => []) (fun z => [(ca, aI G n f), (cb, aI G m z.2.2)]) (fun z => (z.1.toInt = z.2.1) ∧ (0 ≤ z.2.1 ∧ z.2.1 ≤ n)) (fun z => (n - z.2.1).toNat) (0, 0, g) ?_ ?_
  ·
    rintro ⟨ii, ia, fu⟩ ⟨hii, hri⟩ ih2
    dsimp only at *
    refine z_run X bb_X10_copy_2_4 bk_X10_copy_2_4 (lv' := [(2, .int ii), (0, .ref ca), (1, .ref cb)]) (st' := [.ref ca, .int ii]) rfl ?_
    refine z_alen X d_X10_copy_4 0 0 rfl rfl (v := (nI n)) rfl ?_
    refine zc_ge X d_X10_copy_5 (tgt := 26) (by decide) (a := ia) (b := (n : Int)) hii (tI_nI hn) (fun c5_1 => ?_) (fun c5_1 => ?_)
    ·
      exact z_vret X rfl d_X10_copy_26 (Nat.le_of_ble_eq_true rfl) (Nat.le_of_ble_eq_true rfl) ⟨fu, rfl, rfl⟩
    ·
      refine z_run X bb_X10_copy_8_10 bk_X10_copy_8_10 (lv' := [(2, .int ii), (0, .ref ca), (1, .ref cb)]) (st' := [.ref cb, .int ii]) rfl ?_
      refine z_alen X d_X10_copy_10 1 0 rfl rfl (v := (nI m)) rfl ?_
      refine zc_ge X d_X10_copy_11 (tgt := 26) (by decide) (a := ia) (b := (m : Int)) hii (tI_nI hm) (fun c11_2 => ?_) (fun c11_2 => ?_)
      ·
        exact z_vret X rfl d_X10_copy_26 (Nat.le_of_ble_eq_true rfl) (Nat.le_of_ble_eq_true rfl) ⟨fu, rfl, rfl⟩
      ·
        refine z_run X bb_X10_copy_14_18 bk_X10_copy_14_18 (lv' := [(2, .int ii), (0, .ref ca), (1, .ref cb)]) (st' := [.int ii, .ref ca, .int ii, .ref cb]) rfl ?_
        refine z_iald X d_X10_copy_18 0 rfl (vin hii (by omega) (by omega)) (v := (f ii.toNatClampNeg)) rfl ?_
        refine z_iast X d_X10_copy_19 1 rfl (vin hii (by omega) (by omega)) (ws' := [(ca, aI G n f), (cb, aI G m (upd fu ii.toNatClampNeg (f ii.toNatClampNeg)))]) rfl ?_
        refine z_run X bb_X10_copy_20_23 bk_X10_copy_20_23 (lv' := [(2, .int (ii + 1)), (0, .ref ca), (1, .ref cb)]) (st' := []) rfl ?_
        refine z_goto X d_X10_copy_23 (tgt := 2) (by decide) ?_
        exact ih2 ((ii + 1), (ia + 1), (upd fu ii.toNatClampNeg (f ii.toNatClampNeg))) ⟨(tI_add hii (show (1 : Int32).toInt = 1 from by decide) (by omega)), (by dsimp only; omega)⟩ (by dsimp only; omega)
  · exact ⟨(show (0 : Int32).toInt = 0 from by decide), (by dsimp only; omega)⟩
