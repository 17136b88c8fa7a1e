theorem d_X7_copyApart_1 : decode cX7_copyApart 1 = .ok (.getfield 22, 3) := by decide +kernel
theorem d_X7_copyApart_5 : decode cX7_copyApart 5 = .ok (.getfield 22, 3) := by decide +kernel
theorem d_X7_copyApart_8 : decode cX7_copyApart 8 = .ok (.invokestatic 32, 3) := by decide +kernel
theorem d_X7_copyApart_12 : decode cX7_copyApart 12 = .ok (.getfield 25, 3) := by decide +kernel
theorem d_X7_copyApart_16 : decode cX7_copyApart 16 = .ok (.getfield 25, 3) := by decide +kernel
theorem d_X7_copyApart_19 : decode cX7_copyApart 19 = .ok (.invokestatic 32, 3) := by decide +kernel
theorem d_X7_copyApart_27 : decode cX7_copyApart 27 = .ok (.if_icmp .ge 21, 3) := by decide +kernel
theorem d_X7_copyApart_48 : decode cX7_copyApart 48 = .ok (.return_, 1) := by decide +kernel
theorem d_X7_copyApart_31 : decode cX7_copyApart 31 = .ok (.getfield 18, 3) := by decide +kernel
theorem d_X7_copyApart_36 : decode cX7_copyApart 36 = .ok (.getfield 18, 3) := by decide +kernel
theorem d_X7_copyApart_40 : decode cX7_copyApart 40 = .ok (.baload, 1) := by decide +kernel
theorem d_X7_copyApart_41 : decode cX7_copyApart 41 = .ok (.bastore, 1) := by decide +kernel
theorem d_X7_copyApart_45 : decode cX7_copyApart 45 = .ok (.goto (-21), 3) := by decide +kernel
abbrev bb_X7_copyApart_0_1 : ZB := [(.aload_n 1, .null)]
theorem bk_X7_copyApart_0_1 : zchk cX7_copyApart bb_X7_copyApart_0_1 0 = true ∧ zpc bb_X7_copyApart_0_1 0 = 1 := ⟨by decide +kernel, rfl⟩
abbrev bb_X7_copyApart_4_5 : ZB := [(.aload_n 0, .null)]
theorem bk_X7_copyApart_4_5 : zchk cX7_copyApart bb_X7_copyApart_4_5 4 = true ∧ zpc bb_X7_copyApart_4_5 4 = 5 := ⟨by decide +kernel, rfl⟩
abbrev bb_X7_copyApart_11_12 : ZB := [(.aload_n 1, .null)]
theorem bk_X7_copyApart_11_12 : zchk cX7_copyApart bb_X7_copyApart_11_12 11 = true ∧ zpc bb_X7_copyApart_11_12 11 = 12 := ⟨by decide +kernel, rfl⟩
abbrev bb_X7_copyApart_15_16 : ZB := [(.aload_n 0, .null)]
theorem bk_X7_copyApart_15_16 : zchk cX7_copyApart bb_X7_copyApart_15_16 15 = true ∧ zpc bb_X7_copyApart_15_16 15 = 16 := ⟨by decide +kernel, rfl⟩
abbrev bb_X7_copyApart_22_24 : ZB := [(.iconst 0, .int 0), (.istore_n 2, .null)]
theorem bk_X7_copyApart_22_24 : zchk cX7_copyApart bb_X7_copyApart_22_24 22 = true ∧ zpc bb_X7_copyApart_22_24 22 = 24 := ⟨by decide +kernel, rfl⟩
abbrev bb_X7_copyApart_24_27 : ZB := [(.iload_n 2, .null), (.bipush 6, .int 6)]
theorem bk_X7_copyApart_24_27 : zchk cX7_copyApart bb_X7_copyApart_24_27 24 = true ∧ zpc bb_X7_copyApart_24_27 24 = 27 := ⟨by decide +kernel, rfl⟩
abbrev bb_X7_copyApart_30_31 : ZB := [(.aload_n 0, .null)]
theorem bk_X7_copyApart_30_31 : zchk cX7_copyApart bb_X7_copyApart_30_31 30 = true ∧ zpc bb_X7_copyApart_30_31 30 = 31 := ⟨by decide +kernel, rfl⟩
abbrev bb_X7_copyApart_34_36 : ZB := [(.iload_n 2, .null), (.aload_n 1, .null)]
theorem bk_X7_copyApart_34_36 : zchk cX7_copyApart bb_X7_copyApart_34_36 34 = true ∧ zpc bb_X7_copyApart_34_36 34 = 36 := ⟨by decide +kernel, rfl⟩
abbrev bb_X7_copyApart_39_40 : ZB := [(.iload_n 2, .null)]
theorem bk_X7_copyApart_39_40 : zchk cX7_copyApart bb_X7_copyApart_39_40 39 = true ∧ zpc bb_X7_copyApart_39_40 39 = 40 := ⟨by decide +kernel, rfl⟩
abbrev bb_X7_copyApart_42_45 : ZB := [(.iinc 2 1, .int 1)]
theorem bk_X7_copyApart_42_45 : zchk cX7_copyApart bb_X7_copyApart_42_45 42 = true ∧ zpc bb_X7_copyApart_42_45 42 = 45 := ⟨by decide +kernel, rfl⟩
set_option maxHeartbeats 4000000 in
set_option maxRecDepth 100000 in
theorem c_X7_copyApart (l : Launch) (G : KG) (k0a : Nat) (k0af : Nat) (k0ao : Nat) (k0aa : Nat) (k0ax : Nat) (k0ay : Nat) (speeds : Nat) (sf : Nat) (so : Nat) (sa : Nat) (sx : Nat) (sy : Nat) : Ct l G yX7_copyApart cX7_copyApart 3 none { frames := 1, cells := 0, slots := 0, locals := 22 } [.ref k0a, .ref speeds] [(k0a, ob 7 [.int 0, .ref k0af, .ref k0ao, .ref k0aa, .ref k0ax, .ref k0ay]), (k0ax, aI G 6 (fun _ => 0)), (k0ay, aI G 6 (fun _ => 0)), (k0aa, aZ G 6 (fun _ => 0)), (speeds, ob 7 [.int 0, .ref sf, .ref so, .ref sa, .ref sx, .ref sy]), (sx, aI G 6 (fun _ => 0)), (sy, aI G 6 (fun _ => 0)), (sa, aZ G 6 (fun _ => 0))] (fun r w1 => ∃ (e1 : Nat → Int32), ∃ (e2 : Nat → Int32), ∃ (e3 : Nat → Int32), r = none ∧ w1 = [(k0a, ob 7 [.int 0, .ref k0af, .ref k0ao, .ref k0aa, .ref k0ax, .ref k0ay]), (k0ax, aI G 6 e1), (k0ay, aI G 6 e2), (k0aa, aZ G 6 e3), (speeds, ob 7 [.int 0, .ref sf, .ref so, .ref sa, .ref sx, .ref sy]), (sx, aI G 6 (fun _ => 0)), (sy, aI G 6 (fun _ => 0)), (sa, aZ G 6 (fun _ => 0))]) := by
  refine ct_of [(0, .ref k0a), (1, .ref speeds)] (by decide) (Nat.le_of_ble_eq_true rfl) rfl ?_
  intro p0 e0 s0 m0 args0 below0 meth0 c0 A X
  refine z_run X bb_X7_copyApart_0_1 bk_X7_copyApart_0_1 (lv' := [(0, .ref k0a), (1, .ref speeds)]) (st' := [.ref speeds]) rfl ?_
  refine z_get X fl_7_22 d_X7_copyApart_1 4 rfl (v := .ref sx) rfl ?_
  refine z_run X bb_X7_copyApart_4_5 bk_X7_copyApart_4_5 (lv' := [(0, .ref k0a), (1, .ref speeds)]) (st' := [.ref k0a, .ref sx]) rfl ?_
  refine z_get X fl_7_22 d_X7_copyApart_5 0 rfl (v := .ref k0ax) rfl ?_
  refine z_callSN X k_7_32 (c_X10_copy l G sx k0ax 6 6 (fun _ => 0) (fun _ => 0) (by omega) (by omega)) d_X7_copyApart_8 ⟨Nat.le_of_ble_eq_true rfl, Nat.le_of_ble_eq_true rfl⟩ ⟨Nat.le_of_ble_eq_true rfl, Nat.le_of_ble_eq_true rfl⟩ rfl (rest := []) (As := [.ref sx, .ref k0ax]) rfl (Nat.le_of_ble_eq_true rfl) [5, 1] [0, 2, 3, 4, 6, 7] rfl (by decide) (wr := [(k0a, ob 7 [.int 0, .ref k0af, .ref k0ao, .ref k0aa, .ref k0ax, .ref k0ay]), (k0ay, aI G 6 (fun _ => 0)), (k0aa, aZ G 6 (fun _ => 0)), (speeds, ob 7 [.int 0, .ref sf, .ref so, .ref sa, .ref sx, .ref sy]), (sy, aI G 6 (fun _ => 0)), (sa, aZ G 6 (fun _ => 0))]) rfl (by decide) (by decide) ?_
  rintro _ _ ⟨g2_1, rfl, rfl⟩
  refine Z.at (pc' := 11) (st' := []) (ws' := [(k0a, ob 7 [.int 0, .ref k0af, .ref k0ao, .ref k0aa, .ref k0ax, .ref k0ay]), (k0ay, aI G 6 (fun _ => 0)), (k0aa, aZ G 6 (fun _ => 0)), (speeds, ob 7 [.int 0, .ref sf, .ref so, .ref sa, .ref sx, .ref sy]), (sy, aI G 6 (fun _ => 0)), (sa, aZ G 6 (fun _ => 0)), (sx, aI G 6 (fun _ => 0)), (k0ax, aI G 6 g2_1)]) (kc' := 0) (ks' := 0) rfl rfl rfl rfl rfl ?_
  refine z_run X bb_X7_copyApart_11_12 bk_X7_copyApart_11_12 (lv' := [(0, .ref k0a), (1, .ref speeds)]) (st' := [.ref speeds]) rfl ?_
  refine z_get X fl_7_25 d_X7_copyApart_12 3 rfl (v := .ref sy) rfl ?_
  refine z_run X bb_X7_copyApart_15_16 bk_X7_copyApart_15_16 (lv' := [(0, .ref k0a), (1, .ref speeds)]) (st' := [.ref k0a, .ref sy]) rfl ?_
  refine z_get X fl_7_25 d_X7_copyApart_16 0 rfl (v := .ref k0ay) rfl ?_
  refine z_callSN X k_7_32 (c_X10_copy l G sy k0ay 6 6 (fun _ => 0) (fun _ => 0) (by omega) (by omega)) d_X7_copyApart_19 ⟨Nat.le_of_ble_eq_true rfl, Nat.le_of_ble_eq_true rfl⟩ ⟨Nat.le_of_ble_eq_true rfl, Nat.le_of_ble_eq_true rfl⟩ rfl (rest := []) (As := [.ref sy, .ref k0ay]) rfl (Nat.le_of_ble_eq_true rfl) [4, 1] [0, 2, 3, 5, 6, 7] rfl (by decide) (wr := [(k0a, ob 7 [.int 0, .ref k0af, .ref k0ao, .ref k0aa, .ref k0ax, .ref k0ay]), (k0aa, aZ G 6 (fun _ => 0)), (speeds, ob 7 [.int 0, .ref sf, .ref so, .ref sa, .ref sx, .ref sy]), (sa, aZ G 6 (fun _ => 0)), (sx, aI G 6 (fun _ => 0)), (k0ax, aI G 6 g2_1)]) rfl (by decide) (by decide) ?_
  rintro _ _ ⟨g2_2, rfl, rfl⟩
  refine Z.at (pc' := 22) (st' := []) (ws' := [(k0a, ob 7 [.int 0, .ref k0af, .ref k0ao, .ref k0aa, .ref k0ax, .ref k0ay]), (k0aa, aZ G 6 (fun _ => 0)), (speeds, ob 7 [.int 0, .ref sf, .ref so, .ref sa, .ref sx, .ref sy]), (sa, aZ G 6 (fun _ => 0)), (sx, aI G 6 (fun _ => 0)), (k0ax, aI G 6 g2_1), (sy, aI G 6 (fun _ => 0)), (k0ay, aI G 6 g2_2)]) (kc' := 0) (ks' := 0) rfl rfl rfl rfl rfl ?_
  refine z_run X bb_X7_copyApart_22_24 bk_X7_copyApart_22_24 (lv' := [(2, .int 0), (0, .ref k0a), (1, .ref speeds)]) (st' := []) rfl ?_
  refine zloop (σ := Int32 × Int × (Nat → Int32)) (fun z => [(2, .int z.1), (0, .ref k0a), (1, .ref speeds)]) (fun z => []) (fun z => [(k0a, ob 7 [.int 0, .ref k0af, .ref k0ao, .ref k0aa, .ref k0ax, .ref k0ay]), (k0aa, aZ G 6 z.2.2), (speeds, ob 7 [.int 0, .ref sf, .ref so, .ref sa, .ref sx, .ref sy]), (sa, aZ G 6 (fun _ => 0)), (sx, aI G 6 (fun _ => 0)), (k0ax, aI G 6 g2_1), (sy, aI G 6 (fun _ => 0)), (k0ay, aI G 6 g2_2)]) (fun z => (z.1.toInt = z.2.1) ∧ (0 ≤ z.2.1 ∧ z.2.1 ≤ 6)) (fun z => (6 - z.2.1).toNat) (0, 0, (fun _ => 0)) ?_ ?_
  ·
    rintro ⟨ii, ia, fu⟩ ⟨hii, hri⟩ ih24
    dsimp only at *
    refine z_run X bb_X7_copyApart_24_27 bk_X7_copyApart_24_27 (lv' := [(2, .int ii), (0, .ref k0a), (1, .ref speeds)]) (st' := [.int 6, .int ii]) rfl ?_
    refine zc_ge X d_X7_copyApart_27 (tgt := 48) (by decide) (a := ia) (b := 6) hii (show (6 : Int32).toInt = 6 from by decide) (fun c27_3 => ?_) (fun c27_3 => ?_)
    ·
      refine Z.sub (lv' := []) [] rfl [0, 5, 7, 1, 2, 4, 6, 3] (ws' := [(k0a, ob 7 [.int 0, .ref k0af, .ref k0ao, .ref k0aa, .ref k0ax, .ref k0ay]), (k0ax, aI G 6 g2_1), (k0ay, aI G 6 g2_2), (k0aa, aZ G 6 fu), (speeds, ob 7 [.int 0, .ref sf, .ref so, .ref sa, .ref sx, .ref sy]), (sx, aI G 6 (fun _ => 0)), (sy, aI G 6 (fun _ => 0)), (sa, aZ G 6 (fun _ => 0))]) rfl (by decide) ?_
      exact z_vret X rfl d_X7_copyApart_48 (Nat.le_of_ble_eq_true rfl) (Nat.le_of_ble_eq_true rfl) ⟨g2_1, g2_2, fu, rfl, rfl⟩
    ·
      refine z_run X bb_X7_copyApart_30_31 bk_X7_copyApart_30_31 (lv' := [(2, .int ii), (0, .ref k0a), (1, .ref speeds)]) (st' := [.ref k0a]) rfl ?_
      refine z_get X fl_7_18 d_X7_copyApart_31 0 rfl (v := .ref k0aa) rfl ?_
      refine z_run X bb_X7_copyApart_34_36 bk_X7_copyApart_34_36 (lv' := [(2, .int ii), (0, .ref k0a), (1, .ref speeds)]) (st' := [.ref speeds, .int ii, .ref k0aa]) rfl ?_
      refine z_get X fl_7_18 d_X7_copyApart_36 2 rfl (v := .ref sa) rfl ?_
      refine z_run X bb_X7_copyApart_39_40 bk_X7_copyApart_39_40 (lv' := [(2, .int ii), (0, .ref k0a), (1, .ref speeds)]) (st' := [.int ii, .ref sa, .int ii, .ref k0aa]) rfl ?_
      refine z_zald X d_X7_copyApart_40 3 rfl (vin hii (by omega) (by omega)) (v := 0) rfl ?_
      refine z_zast X d_X7_copyApart_41 1 rfl (vin hii (by omega) (by omega)) (ws' := [(k0a, ob 7 [.int 0, .ref k0af, .ref k0ao, .ref k0aa, .ref k0ax, .ref k0ay]), (k0aa, aZ G 6 (upd fu ii.toNatClampNeg 0)), (speeds, ob 7 [.int 0, .ref sf, .ref so, .ref sa, .ref sx, .ref sy]), (sa, aZ G 6 (fun _ => 0)), (sx, aI G 6 (fun _ => 0)), (k0ax, aI G 6 g2_1), (sy, aI G 6 (fun _ => 0)), (k0ay, aI G 6 g2_2)]) rfl ?_
      refine z_run X bb_X7_copyApart_42_45 bk_X7_copyApart_42_45 (lv' := [(2, .int (ii + 1)), (0, .ref k0a), (1, .ref speeds)]) (st' := []) rfl ?_
      refine z_goto X d_X7_copyApart_45 (tgt := 24) (by decide) ?_
      exact ih24 ((ii + 1), (ia + 1), (upd fu ii.toNatClampNeg 0)) ⟨(tI_add hii (show (1 : Int32).toInt = 1 from by decide) (by omega)), (by dsimp only; omega)⟩ (by dsimp only; omega)
  · exact ⟨(show (0 : Int32).toInt = 0 from by decide), (by dsimp only; omega)⟩

theorem d_X9_copyTrials_2 : decode cX9_copyTrials 2 = .ok (.getfield 44, 3) := by decide +kernel
theorem d_X9_copyTrials_5 : decode cX9_copyTrials 5 = .ok (.putfield 44, 3) := by decide +kernel
theorem d_X9_copyTrials_9 : decode cX9_copyTrials 9 = .ok (.getfield 9, 3) := by decide +kernel
theorem d_X9_copyTrials_13 : decode cX9_copyTrials 13 = .ok (.getfield 9, 3) := by decide +kernel
theorem d_X9_copyTrials_16 : decode cX9_copyTrials 16 = .ok (.invokestatic 66, 3) := by decide +kernel
theorem d_X9_copyTrials_20 : decode cX9_copyTrials 20 = .ok (.getfield 19, 3) := by decide +kernel
theorem d_X9_copyTrials_24 : decode cX9_copyTrials 24 = .ok (.getfield 19, 3) := by decide +kernel
theorem d_X9_copyTrials_27 : decode cX9_copyTrials 27 = .ok (.invokestatic 66, 3) := by decide +kernel
theorem d_X9_copyTrials_31 : decode cX9_copyTrials 31 = .ok (.getfield 22, 3) := by decide +kernel
theorem d_X9_copyTrials_35 : decode cX9_copyTrials 35 = .ok (.getfield 22, 3) := by decide +kernel
theorem d_X9_copyTrials_38 : decode cX9_copyTrials 38 = .ok (.invokestatic 66, 3) := by decide +kernel
theorem d_X9_copyTrials_42 : decode cX9_copyTrials 42 = .ok (.getfield 25, 3) := by decide +kernel
theorem d_X9_copyTrials_46 : decode cX9_copyTrials 46 = .ok (.getfield 25, 3) := by decide +kernel
theorem d_X9_copyTrials_49 : decode cX9_copyTrials 49 = .ok (.invokestatic 66, 3) := by decide +kernel
theorem d_X9_copyTrials_53 : decode cX9_copyTrials 53 = .ok (.getfield 28, 3) := by decide +kernel
theorem d_X9_copyTrials_57 : decode cX9_copyTrials 57 = .ok (.getfield 28, 3) := by decide +kernel
theorem d_X9_copyTrials_60 : decode cX9_copyTrials 60 = .ok (.invokestatic 66, 3) := by decide +kernel
theorem d_X9_copyTrials_68 : decode cX9_copyTrials 68 = .ok (.if_icmp .ge 21, 3) := by decide +kernel
theorem d_X9_copyTrials_89 : decode cX9_copyTrials 89 = .ok (.return_, 1) := by decide +kernel
theorem d_X9_copyTrials_72 : decode cX9_copyTrials 72 = .ok (.getfield 15, 3) := by decide +kernel
theorem d_X9_copyTrials_77 : decode cX9_copyTrials 77 = .ok (.getfield 15, 3) := by decide +kernel
theorem d_X9_copyTrials_81 : decode cX9_copyTrials 81 = .ok (.baload, 1) := by decide +kernel
theorem d_X9_copyTrials_82 : decode cX9_copyTrials 82 = .ok (.bastore, 1) := by decide +kernel
theorem d_X9_copyTrials_86 : decode cX9_copyTrials 86 = .ok (.goto (-21), 3) := by decide +kernel
abbrev bb_X9_copyTrials_0_2 : ZB := [(.aload_n 0, .null), (.aload_n 1, .null)]
theorem bk_X9_copyTrials_0_2 : zchk cX9_copyTrials bb_X9_copyTrials_0_2 0 = true ∧ zpc bb_X9_copyTrials_0_2 0 = 2 := ⟨by decide +kernel, rfl⟩
abbrev bb_X9_copyTrials_8_9 : ZB := [(.aload_n 1, .null)]
theorem bk_X9_copyTrials_8_9 : zchk cX9_copyTrials bb_X9_copyTrials_8_9 8 = true ∧ zpc bb_X9_copyTrials_8_9 8 = 9 := ⟨by decide +kernel, rfl⟩
abbrev bb_X9_copyTrials_12_13 : ZB := [(.aload_n 0, .null)]
theorem bk_X9_copyTrials_12_13 : zchk cX9_copyTrials bb_X9_copyTrials_12_13 12 = true ∧ zpc bb_X9_copyTrials_12_13 12 = 13 := ⟨by decide +kernel, rfl⟩
abbrev bb_X9_copyTrials_19_20 : ZB := [(.aload_n 1, .null)]
theorem bk_X9_copyTrials_19_20 : zchk cX9_copyTrials bb_X9_copyTrials_19_20 19 = true ∧ zpc bb_X9_copyTrials_19_20 19 = 20 := ⟨by decide +kernel, rfl⟩
abbrev bb_X9_copyTrials_23_24 : ZB := [(.aload_n 0, .null)]
theorem bk_X9_copyTrials_23_24 : zchk cX9_copyTrials bb_X9_copyTrials_23_24 23 = true ∧ zpc bb_X9_copyTrials_23_24 23 = 24 := ⟨by decide +kernel, rfl⟩
abbrev bb_X9_copyTrials_30_31 : ZB := [(.aload_n 1, .null)]
theorem bk_X9_copyTrials_30_31 : zchk cX9_copyTrials bb_X9_copyTrials_30_31 30 = true ∧ zpc bb_X9_copyTrials_30_31 30 = 31 := ⟨by decide +kernel, rfl⟩
abbrev bb_X9_copyTrials_34_35 : ZB := [(.aload_n 0, .null)]
theorem bk_X9_copyTrials_34_35 : zchk cX9_copyTrials bb_X9_copyTrials_34_35 34 = true ∧ zpc bb_X9_copyTrials_34_35 34 = 35 := ⟨by decide +kernel, rfl⟩
abbrev bb_X9_copyTrials_41_42 : ZB := [(.aload_n 1, .null)]
theorem bk_X9_copyTrials_41_42 : zchk cX9_copyTrials bb_X9_copyTrials_41_42 41 = true ∧ zpc bb_X9_copyTrials_41_42 41 = 42 := ⟨by decide +kernel, rfl⟩
abbrev bb_X9_copyTrials_45_46 : ZB := [(.aload_n 0, .null)]
theorem bk_X9_copyTrials_45_46 : zchk cX9_copyTrials bb_X9_copyTrials_45_46 45 = true ∧ zpc bb_X9_copyTrials_45_46 45 = 46 := ⟨by decide +kernel, rfl⟩
abbrev bb_X9_copyTrials_52_53 : ZB := [(.aload_n 1, .null)]
theorem bk_X9_copyTrials_52_53 : zchk cX9_copyTrials bb_X9_copyTrials_52_53 52 = true ∧ zpc bb_X9_copyTrials_52_53 52 = 53 := ⟨by decide +kernel, rfl⟩
abbrev bb_X9_copyTrials_56_57 : ZB := [(.aload_n 0, .null)]
theorem bk_X9_copyTrials_56_57 : zchk cX9_copyTrials bb_X9_copyTrials_56_57 56 = true ∧ zpc bb_X9_copyTrials_56_57 56 = 57 := ⟨by decide +kernel, rfl⟩
abbrev bb_X9_copyTrials_63_65 : ZB := [(.iconst 0, .int 0), (.istore_n 2, .null)]
theorem bk_X9_copyTrials_63_65 : zchk cX9_copyTrials bb_X9_copyTrials_63_65 63 = true ∧ zpc bb_X9_copyTrials_63_65 63 = 65 := ⟨by decide +kernel, rfl⟩
abbrev bb_X9_copyTrials_65_68 : ZB := [(.iload_n 2, .null), (.bipush 12, .int 12)]
theorem bk_X9_copyTrials_65_68 : zchk cX9_copyTrials bb_X9_copyTrials_65_68 65 = true ∧ zpc bb_X9_copyTrials_65_68 65 = 68 := ⟨by decide +kernel, rfl⟩
abbrev bb_X9_copyTrials_71_72 : ZB := [(.aload_n 0, .null)]
theorem bk_X9_copyTrials_71_72 : zchk cX9_copyTrials bb_X9_copyTrials_71_72 71 = true ∧ zpc bb_X9_copyTrials_71_72 71 = 72 := ⟨by decide +kernel, rfl⟩
abbrev bb_X9_copyTrials_75_77 : ZB := [(.iload_n 2, .null), (.aload_n 1, .null)]
theorem bk_X9_copyTrials_75_77 : zchk cX9_copyTrials bb_X9_copyTrials_75_77 75 = true ∧ zpc bb_X9_copyTrials_75_77 75 = 77 := ⟨by decide +kernel, rfl⟩
abbrev bb_X9_copyTrials_80_81 : ZB := [(.iload_n 2, .null)]
theorem bk_X9_copyTrials_80_81 : zchk cX9_copyTrials bb_X9_copyTrials_80_81 80 = true ∧ zpc bb_X9_copyTrials_80_81 80 = 81 := ⟨by decide +kernel, rfl⟩
abbrev bb_X9_copyTrials_83_86 : ZB := [(.iinc 2 1, .int 1)]
theorem bk_X9_copyTrials_83_86 : zchk cX9_copyTrials bb_X9_copyTrials_83_86 83 = true ∧ zpc bb_X9_copyTrials_83_86 83 = 86 := ⟨by decide +kernel, rfl⟩
set_option maxHeartbeats 4000000 in
set_option maxRecDepth 100000 in
theorem c_X9_copyTrials (l : Launch) (G : KG) (k0r : Nat) (k0rs : Nat) (k0rw : Nat) (k0rf : Nat) (k0re : Nat) (k0rg : Nat) (k0rl : Nat) (k0rc : Nat) (k0rx : Nat) (k0ry : Nat) (trials : Nat) (ts : Nat) (tw : Nat) (tf : Nat) (te : Nat) (tg : Nat) (tl : Nat) (tc : Nat) (tx : Nat) (ty : Nat) : Ct l G yX9_copyTrials cX9_copyTrials 3 none { frames := 1, cells := 0, slots := 0, locals := 22 } [.ref k0r, .ref trials] [(k0r, ob 9 [.int 0, .ref k0rs, .ref k0rw, .ref k0rf, .ref k0re, .ref k0rg, .ref k0rl, .ref k0rc, .ref k0rx, .ref k0ry]), (k0rs, aI G 12 (fun _ => 0)), (k0rf, aI G 12 (fun _ => 0)), (k0re, aI G 12 (fun _ => 0)), (k0rg, aI G 12 (fun _ => 0)), (k0rl, aI G 48 (fun _ => 0)), (k0rw, aZ G 12 (fun _ => 0)), (trials, ob 9 [.int 0, .ref ts, .ref tw, .ref tf, .ref te, .ref tg, .ref tl, .ref tc, .ref tx, .ref ty]), (ts, aI G 12 (fun _ => 0)), (tf, aI G 12 (fun _ => 0)), (te, aI G 12 (fun _ => 0)), (tg, aI G 12 (fun _ => 0)), (tl, aI G 48 (fun _ => 0)), (tw, aZ G 12 (fun _ => 0))] (fun r w1 => ∃ (e1 : Nat → Int32), ∃ (e2 : Nat → Int32), ∃ (e3 : Nat → Int32), ∃ (e4 : Nat → Int32), ∃ (e5 : Nat → Int32), ∃ (e6 : Nat → Int32), r = none ∧ w1 = [(k0r, ob 9 [.int 0, .ref k0rs, .ref k0rw, .ref k0rf, .ref k0re, .ref k0rg, .ref k0rl, .ref k0rc, .ref k0rx, .ref k0ry]), (k0rs, aI G 12 e1), (k0rf, aI G 12 e2), (k0re, aI G 12 e3), (k0rg, aI G 12 e4), (k0rl, aI G 48 e5), (k0rw, aZ G 12 e6), (trials, ob 9 [.int 0, .ref ts, .ref tw, .ref tf, .ref te, .ref tg, .ref tl, .ref tc, .ref tx, .ref ty]), (ts, aI G 12 (fun _ => 0)), (tf, aI G 12 (fun _ => 0)), (te, aI G 12 (fun _ => 0)), (tg, aI G 12 (fun _ => 0)), (tl, aI G 48 (fun _ => 0)), (tw, aZ G 12 (fun _ => 0))]) := by
  refine ct_of [(0, .ref k0r), (1, .ref trials)] (by decide) (Nat.le_of_ble_eq_true rfl) rfl ?_
  intro p0 e0 s0 m0 args0 below0 meth0 c0 A X
  refine z_run X bb_X9_copyTrials_0_2 bk_X9_copyTrials_0_2 (lv' := [(0, .ref k0r), (1, .ref trials)]) (st' := [.ref trials, .ref k0r]) rfl ?_
  refine z_get X fl_9_44 d_X9_copyTrials_2 7 rfl (v := .int 0) rfl ?_
  refine z_put X fl_9_44 d_X9_copyTrials_5 0 rfl (ty := .int) (T := TX9) (N := 10) rfl (Or.inl rfl) (by decide +kernel) rfl (by rfl) (Nat.le_of_ble_eq_true rfl) (ws' := [(k0r, ob 9 [.int 0, .ref k0rs, .ref k0rw, .ref k0rf, .ref k0re, .ref k0rg, .ref k0rl, .ref k0rc, .ref k0rx, .ref k0ry]), (k0rs, aI G 12 (fun _ => 0)), (k0rf, aI G 12 (fun _ => 0)), (k0re, aI G 12 (fun _ => 0)), (k0rg, aI G 12 (fun _ => 0)), (k0rl, aI G 48 (fun _ => 0)), (k0rw, aZ G 12 (fun _ => 0)), (trials, ob 9 [.int 0, .ref ts, .ref tw, .ref tf, .ref te, .ref tg, .ref tl, .ref tc, .ref tx, .ref ty]), (ts, aI G 12 (fun _ => 0)), (tf, aI G 12 (fun _ => 0)), (te, aI G 12 (fun _ => 0)), (tg, aI G 12 (fun _ => 0)), (tl, aI G 48 (fun _ => 0)), (tw, aZ G 12 (fun _ => 0))]) rfl ?_
  refine z_run X bb_X9_copyTrials_8_9 bk_X9_copyTrials_8_9 (lv' := [(0, .ref k0r), (1, .ref trials)]) (st' := [.ref trials]) rfl ?_
  refine z_get X fl_9_9 d_X9_copyTrials_9 7 rfl (v := .ref ts) rfl ?_
  refine z_run X bb_X9_copyTrials_12_13 bk_X9_copyTrials_12_13 (lv' := [(0, .ref k0r), (1, .ref trials)]) (st' := [.ref k0r, .ref ts]) rfl ?_
  refine z_get X fl_9_9 d_X9_copyTrials_13 0 rfl (v := .ref k0rs) rfl ?_
  refine z_callSN X k_9_66 (c_X10_copy l G ts k0rs 12 12 (fun _ => 0) (fun _ => 0) (by omega) (by omega)) d_X9_copyTrials_16 ⟨Nat.le_of_ble_eq_true rfl, Nat.le_of_ble_eq_true rfl⟩ ⟨Nat.le_of_ble_eq_true rfl, Nat.le_of_ble_eq_true rfl⟩ rfl (rest := []) (As := [.ref ts, .ref k0rs]) rfl (Nat.le_of_ble_eq_true rfl) [8, 1] [0, 2, 3, 4, 5, 6, 7, 9, 10, 11, 12, 13] rfl (by decide) (wr := [(k0r, ob 9 [.int 0, .ref k0rs, .ref k0rw, .ref k0rf, .ref k0re, .ref k0rg, .ref k0rl, .ref k0rc, .ref k0rx, .ref k0ry]), (k0rf, aI G 12 (fun _ => 0)), (k0re, aI G 12 (fun _ => 0)), (k0rg, aI G 12 (fun _ => 0)), (k0rl, aI G 48 (fun _ => 0)), (k0rw, aZ G 12 (fun _ => 0)), (trials, ob 9 [.int 0, .ref ts, .ref tw, .ref tf, .ref te, .ref tg, .ref tl, .ref tc, .ref tx, .ref ty]), (tf, aI G 12 (fun _ => 0)), (te, aI G 12 (fun _ => 0)), (tg, aI G 12 (fun _ => 0)), (tl, aI G 48 (fun _ => 0)), (tw, aZ G 12 (fun _ => 0))]) rfl (by decide) (by decide) ?_
  rintro _ _ ⟨g2_1, rfl, rfl⟩
  refine Z.at (pc' := 19) (st' := []) (ws' := [(k0r, ob 9 [.int 0, .ref k0rs, .ref k0rw, .ref k0rf, .ref k0re, .ref k0rg, .ref k0rl, .ref k0rc, .ref k0rx, .ref k0ry]), (k0rf, aI G 12 (fun _ => 0)), (k0re, aI G 12 (fun _ => 0)), (k0rg, aI G 12 (fun _ => 0)), (k0rl, aI G 48 (fun _ => 0)), (k0rw, aZ G 12 (fun _ => 0)), (trials, ob 9 [.int 0, .ref ts, .ref tw, .ref tf, .ref te, .ref tg, .ref tl, .ref tc, .ref tx, .ref ty]), (tf, aI G 12 (fun _ => 0)), (te, aI G 12 (fun _ => 0)), (tg, aI G 12 (fun _ => 0)), (tl, aI G 48 (fun _ => 0)), (tw, aZ G 12 (fun _ => 0)), (ts, aI G 12 (fun _ => 0)), (k0rs, aI G 12 g2_1)]) (kc' := 0) (ks' := 0) rfl rfl rfl rfl rfl ?_
  refine z_run X bb_X9_copyTrials_19_20 bk_X9_copyTrials_19_20 (lv' := [(0, .ref k0r), (1, .ref trials)]) (st' := [.ref trials]) rfl ?_
  refine z_get X fl_9_19 d_X9_copyTrials_20 6 rfl (v := .ref tf) rfl ?_
  refine z_run X bb_X9_copyTrials_23_24 bk_X9_copyTrials_23_24 (lv' := [(0, .ref k0r), (1, .ref trials)]) (st' := [.ref k0r, .ref tf]) rfl ?_
  refine z_get X fl_9_19 d_X9_copyTrials_24 0 rfl (v := .ref k0rf) rfl ?_
  refine z_callSN X k_9_66 (c_X10_copy l G tf k0rf 12 12 (fun _ => 0) (fun _ => 0) (by omega) (by omega)) d_X9_copyTrials_27 ⟨Nat.le_of_ble_eq_true rfl, Nat.le_of_ble_eq_true rfl⟩ ⟨Nat.le_of_ble_eq_true rfl, Nat.le_of_ble_eq_true rfl⟩ rfl (rest := []) (As := [.ref tf, .ref k0rf]) rfl (Nat.le_of_ble_eq_true rfl) [7, 1] [0, 2, 3, 4, 5, 6, 8, 9, 10, 11, 12, 13] rfl (by decide) (wr := [(k0r, ob 9 [.int 0, .ref k0rs, .ref k0rw, .ref k0rf, .ref k0re, .ref k0rg, .ref k0rl, .ref k0rc, .ref k0rx, .ref k0ry]), (k0re, aI G 12 (fun _ => 0)), (k0rg, aI G 12 (fun _ => 0)), (k0rl, aI G 48 (fun _ => 0)), (k0rw, aZ G 12 (fun _ => 0)), (trials, ob 9 [.int 0, .ref ts, .ref tw, .ref tf, .ref te, .ref tg, .ref tl, .ref tc, .ref tx, .ref ty]), (te, aI G 12 (fun _ => 0)), (tg, aI G 12 (fun _ => 0)), (tl, aI G 48 (fun _ => 0)), (tw, aZ G 12 (fun _ => 0)), (ts, aI G 12 (fun _ => 0)), (k0rs, aI G 12 g2_1)]) rfl (by decide) (by decide) ?_
  rintro _ _ ⟨g2_2, rfl, rfl⟩
  refine Z.at (pc' := 30) (st' := []) (ws' := [(k0r, ob 9 [.int 0, .ref k0rs, .ref k0rw, .ref k0rf, .ref k0re, .ref k0rg, .ref k0rl, .ref k0rc, .ref k0rx, .ref k0ry]), (k0re, aI G 12 (fun _ => 0)), (k0rg, aI G 12 (fun _ => 0)), (k0rl, aI G 48 (fun _ => 0)), (k0rw, aZ G 12 (fun _ => 0)), (trials, ob 9 [.int 0, .ref ts, .ref tw, .ref tf, .ref te, .ref tg, .ref tl, .ref tc, .ref tx, .ref ty]), (te, aI G 12 (fun _ => 0)), (tg, aI G 12 (fun _ => 0)), (tl, aI G 48 (fun _ => 0)), (tw, aZ G 12 (fun _ => 0)), (ts, aI G 12 (fun _ => 0)), (k0rs, aI G 12 g2_1), (tf, aI G 12 (fun _ => 0)), (k0rf, aI G 12 g2_2)]) (kc' := 0) (ks' := 0) rfl rfl rfl rfl rfl ?_
  refine z_run X bb_X9_copyTrials_30_31 bk_X9_copyTrials_30_31 (lv' := [(0, .ref k0r), (1, .ref trials)]) (st' := [.ref trials]) rfl ?_
  refine z_get X fl_9_22 d_X9_copyTrials_31 5 rfl (v := .ref te) rfl ?_
  refine z_run X bb_X9_copyTrials_34_35 bk_X9_copyTrials_34_35 (lv' := [(0, .ref k0r), (1, .ref trials)]) (st' := [.ref k0r, .ref te]) rfl ?_
  refine z_get X fl_9_22 d_X9_copyTrials_35 0 rfl (v := .ref k0re) rfl ?_
  refine z_callSN X k_9_66 (c_X10_copy l G te k0re 12 12 (fun _ => 0) (fun _ => 0) (by omega) (by omega)) d_X9_copyTrials_38 ⟨Nat.le_of_ble_eq_true rfl, Nat.le_of_ble_eq_true rfl⟩ ⟨Nat.le_of_ble_eq_true rfl, Nat.le_of_ble_eq_true rfl⟩ rfl (rest := []) (As := [.ref te, .ref k0re]) rfl (Nat.le_of_ble_eq_true rfl) [6, 1] [0, 2, 3, 4, 5, 7, 8, 9, 10, 11, 12, 13] rfl (by decide) (wr := [(k0r, ob 9 [.int 0, .ref k0rs, .ref k0rw, .ref k0rf, .ref k0re, .ref k0rg, .ref k0rl, .ref k0rc, .ref k0rx, .ref k0ry]), (k0rg, aI G 12 (fun _ => 0)), (k0rl, aI G 48 (fun _ => 0)), (k0rw, aZ G 12 (fun _ => 0)), (trials, ob 9 [.int 0, .ref ts, .ref tw, .ref tf, .ref te, .ref tg, .ref tl, .ref tc, .ref tx, .ref ty]), (tg, aI G 12 (fun _ => 0)), (tl, aI G 48 (fun _ => 0)), (tw, aZ G 12 (fun _ => 0)), (ts, aI G 12 (fun _ => 0)), (k0rs, aI G 12 g2_1), (tf, aI G 12 (fun _ => 0)), (k0rf, aI G 12 g2_2)]) rfl (by decide) (by decide) ?_
  rintro _ _ ⟨g2_3, rfl, rfl⟩
  refine Z.at (pc' := 41) (st' := []) (ws' := [(k0r, ob 9 [.int 0, .ref k0rs, .ref k0rw, .ref k0rf, .ref k0re, .ref k0rg, .ref k0rl, .ref k0rc, .ref k0rx, .ref k0ry]), (k0rg, aI G 12 (fun _ => 0)), (k0rl, aI G 48 (fun _ => 0)), (k0rw, aZ G 12 (fun _ => 0)), (trials, ob 9 [.int 0, .ref ts, .ref tw, .ref tf, .ref te, .ref tg, .ref tl, .ref tc, .ref tx, .ref ty]), (tg, aI G 12 (fun _ => 0)), (tl, aI G 48 (fun _ => 0)), (tw, aZ G 12 (fun _ => 0)), (ts, aI G 12 (fun _ => 0)), (k0rs, aI G 12 g2_1), (tf, aI G 12 (fun _ => 0)), (k0rf, aI G 12 g2_2), (te, aI G 12 (fun _ => 0)), (k0re, aI G 12 g2_3)]) (kc' := 0) (ks' := 0) rfl rfl rfl rfl rfl ?_
  refine z_run X bb_X9_copyTrials_41_42 bk_X9_copyTrials_41_42 (lv' := [(0, .ref k0r), (1, .ref trials)]) (st' := [.ref trials]) rfl ?_
  refine z_get X fl_9_25 d_X9_copyTrials_42 4 rfl (v := .ref tg) rfl ?_
  refine z_run X bb_X9_copyTrials_45_46 bk_X9_copyTrials_45_46 (lv' := [(0, .ref k0r), (1, .ref trials)]) (st' := [.ref k0r, .ref tg]) rfl ?_
  refine z_get X fl_9_25 d_X9_copyTrials_46 0 rfl (v := .ref k0rg) rfl ?_
  refine z_callSN X k_9_66 (c_X10_copy l G tg k0rg 12 12 (fun _ => 0) (fun _ => 0) (by omega) (by omega)) d_X9_copyTrials_49 ⟨Nat.le_of_ble_eq_true rfl, Nat.le_of_ble_eq_true rfl⟩ ⟨Nat.le_of_ble_eq_true rfl, Nat.le_of_ble_eq_true rfl⟩ rfl (rest := []) (As := [.ref tg, .ref k0rg]) rfl (Nat.le_of_ble_eq_true rfl) [5, 1] [0, 2, 3, 4, 6, 7, 8, 9, 10, 11, 12, 13] rfl (by decide) (wr := [(k0r, ob 9 [.int 0, .ref k0rs, .ref k0rw, .ref k0rf, .ref k0re, .ref k0rg, .ref k0rl, .ref k0rc, .ref k0rx, .ref k0ry]), (k0rl, aI G 48 (fun _ => 0)), (k0rw, aZ G 12 (fun _ => 0)), (trials, ob 9 [.int 0, .ref ts, .ref tw, .ref tf, .ref te, .ref tg, .ref tl, .ref tc, .ref tx, .ref ty]), (tl, aI G 48 (fun _ => 0)), (tw, aZ G 12 (fun _ => 0)), (ts, aI G 12 (fun _ => 0)), (k0rs, aI G 12 g2_1), (tf, aI G 12 (fun _ => 0)), (k0rf, aI G 12 g2_2), (te, aI G 12 (fun _ => 0)), (k0re, aI G 12 g2_3)]) rfl (by decide) (by decide) ?_
  rintro _ _ ⟨g2_4, rfl, rfl⟩
  refine Z.at (pc' := 52) (st' := []) (ws' := [(k0r, ob 9 [.int 0, .ref k0rs, .ref k0rw, .ref k0rf, .ref k0re, .ref k0rg, .ref k0rl, .ref k0rc, .ref k0rx, .ref k0ry]), (k0rl, aI G 48 (fun _ => 0)), (k0rw, aZ G 12 (fun _ => 0)), (trials, ob 9 [.int 0, .ref ts, .ref tw, .ref tf, .ref te, .ref tg, .ref tl, .ref tc, .ref tx, .ref ty]), (tl, aI G 48 (fun _ => 0)), (tw, aZ G 12 (fun _ => 0)), (ts, aI G 12 (fun _ => 0)), (k0rs, aI G 12 g2_1), (tf, aI G 12 (fun _ => 0)), (k0rf, aI G 12 g2_2), (te, aI G 12 (fun _ => 0)), (k0re, aI G 12 g2_3), (tg, aI G 12 (fun _ => 0)), (k0rg, aI G 12 g2_4)]) (kc' := 0) (ks' := 0) rfl rfl rfl rfl rfl ?_
  refine z_run X bb_X9_copyTrials_52_53 bk_X9_copyTrials_52_53 (lv' := [(0, .ref k0r), (1, .ref trials)]) (st' := [.ref trials]) rfl ?_
  refine z_get X fl_9_28 d_X9_copyTrials_53 3 rfl (v := .ref tl) rfl ?_
  refine z_run X bb_X9_copyTrials_56_57 bk_X9_copyTrials_56_57 (lv' := [(0, .ref k0r), (1, .ref trials)]) (st' := [.ref k0r, .ref tl]) rfl ?_
  refine z_get X fl_9_28 d_X9_copyTrials_57 0 rfl (v := .ref k0rl) rfl ?_
  refine z_callSN X k_9_66 (c_X10_copy l G tl k0rl 48 48 (fun _ => 0) (fun _ => 0) (by omega) (by omega)) d_X9_copyTrials_60 ⟨Nat.le_of_ble_eq_true rfl, Nat.le_of_ble_eq_true rfl⟩ ⟨Nat.le_of_ble_eq_true rfl, Nat.le_of_ble_eq_true rfl⟩ rfl (rest := []) (As := [.ref tl, .ref k0rl]) rfl (Nat.le_of_ble_eq_true rfl) [4, 1] [0, 2, 3, 5, 6, 7, 8, 9, 10, 11, 12, 13] rfl (by decide) (wr := [(k0r, ob 9 [.int 0, .ref k0rs, .ref k0rw, .ref k0rf, .ref k0re, .ref k0rg, .ref k0rl, .ref k0rc, .ref k0rx, .ref k0ry]), (k0rw, aZ G 12 (fun _ => 0)), (trials, ob 9 [.int 0, .ref ts, .ref tw, .ref tf, .ref te, .ref tg, .ref tl, .ref tc, .ref tx, .ref ty]), (tw, aZ G 12 (fun _ => 0)), (ts, aI G 12 (fun _ => 0)), (k0rs, aI G 12 g2_1), (tf, aI G 12 (fun _ => 0)), (k0rf, aI G 12 g2_2), (te, aI G 12 (fun _ => 0)), (k0re, aI G 12 g2_3), (tg, aI G 12 (fun _ => 0)), (k0rg, aI G 12 g2_4)]) rfl (by decide) (by decide) ?_
  rintro _ _ ⟨g2_5, rfl, rfl⟩
  refine Z.at (pc' := 63) (st' := []) (ws' := [(k0r, ob 9 [.int 0, .ref k0rs, .ref k0rw, .ref k0rf, .ref k0re, .ref k0rg, .ref k0rl, .ref k0rc, .ref k0rx, .ref k0ry]), (k0rw, aZ G 12 (fun _ => 0)), (trials, ob 9 [.int 0, .ref ts, .ref tw, .ref tf, .ref te, .ref tg, .ref tl, .ref tc, .ref tx, .ref ty]), (tw, aZ G 12 (fun _ => 0)), (ts, aI G 12 (fun _ => 0)), (k0rs, aI G 12 g2_1), (tf, aI G 12 (fun _ => 0)), (k0rf, aI G 12 g2_2), (te, aI G 12 (fun _ => 0)), (k0re, aI G 12 g2_3), (tg, aI G 12 (fun _ => 0)), (k0rg, aI G 12 g2_4), (tl, aI G 48 (fun _ => 0)), (k0rl, aI G 48 g2_5)]) (kc' := 0) (ks' := 0) rfl rfl rfl rfl rfl ?_
  refine z_run X bb_X9_copyTrials_63_65 bk_X9_copyTrials_63_65 (lv' := [(2, .int 0), (0, .ref k0r), (1, .ref trials)]) (st' := []) rfl ?_
  refine zloop (σ := Int32 × Int × (Nat → Int32)) (fun z => [(2, .int z.1), (0, .ref k0r), (1, .ref trials)]) (fun z => []) (fun z => [(k0r, ob 9 [.int 0, .ref k0rs, .ref k0rw, .ref k0rf, .ref k0re, .ref k0rg, .ref k0rl, .ref k0rc, .ref k0rx, .ref k0ry]), (k0rw, aZ G 12 z.2.2), (trials, ob 9 [.int 0, .ref ts, .ref tw, .ref tf, .ref te, .ref tg, .ref tl, .ref tc, .ref tx, .ref ty]), (tw, aZ G 12 (fun _ => 0)), (ts, aI G 12 (fun _ => 0)), (k0rs, aI G 12 g2_1), (tf, aI G 12 (fun _ => 0)), (k0rf, aI G 12 g2_2), (te, aI G 12 (fun _ => 0)), (k0re, aI G 12 g2_3), (tg, aI G 12 (fun _ => 0)), (k0rg, aI G 12 g2_4), (tl, aI G 48 (fun _ => 0)), (k0rl, aI G 48 g2_5)]) (fun z => (z.1.toInt = z.2.1) ∧ (0 ≤ z.2.1 ∧ z.2.1 ≤ 12)) (fun z => (12 - z.2.1).toNat) (0, 0, (fun _ => 0)) ?_ ?_
  ·
    rintro ⟨ii, ia, fu⟩ ⟨hii, hri⟩ ih65
    dsimp only at *
    refine z_run X bb_X9_copyTrials_65_68 bk_X9_copyTrials_65_68 (lv' := [(2, .int ii), (0, .ref k0r), (1, .ref trials)]) (st' := [.int 12, .int ii]) rfl ?_
    refine zc_ge X d_X9_copyTrials_68 (tgt := 89) (by decide) (a := ia) (b := 12) hii (show (12 : Int32).toInt = 12 from by decide) (fun c68_6 => ?_) (fun c68_6 => ?_)
    ·
      refine Z.sub (lv' := []) [] rfl [0, 5, 7, 9, 11, 13, 1, 2, 4, 6, 8, 10, 12, 3] (ws' := [(k0r, ob 9 [.int 0, .ref k0rs, .ref k0rw, .ref k0rf, .ref k0re, .ref k0rg, .ref k0rl, .ref k0rc, .ref k0rx, .ref k0ry]), (k0rs, aI G 12 g2_1), (k0rf, aI G 12 g2_2), (k0re, aI G 12 g2_3), (k0rg, aI G 12 g2_4), (k0rl, aI G 48 g2_5), (k0rw, aZ G 12 fu), (trials, ob 9 [.int 0, .ref ts, .ref tw, .ref tf, .ref te, .ref tg, .ref tl, .ref tc, .ref tx, .ref ty]), (ts, aI G 12 (fun _ => 0)), (tf, aI G 12 (fun _ => 0)), (te, aI G 12 (fun _ => 0)), (tg, aI G 12 (fun _ => 0)), (tl, aI G 48 (fun _ => 0)), (tw, aZ G 12 (fun _ => 0))]) rfl (by decide) ?_
      exact z_vret X rfl d_X9_copyTrials_89 (Nat.le_of_ble_eq_true rfl) (Nat.le_of_ble_eq_true rfl) ⟨g2_1, g2_2, g2_3, g2_4, g2_5, fu, rfl, rfl⟩
    ·
      refine z_run X bb_X9_copyTrials_71_72 bk_X9_copyTrials_71_72 (lv' := [(2, .int ii), (0, .ref k0r), (1, .ref trials)]) (st' := [.ref k0r]) rfl ?_
      refine z_get X fl_9_15 d_X9_copyTrials_72 0 rfl (v := .ref k0rw) rfl ?_
      refine z_run X bb_X9_copyTrials_75_77 bk_X9_copyTrials_75_77 (lv' := [(2, .int ii), (0, .ref k0r), (1, .ref trials)]) (st' := [.ref trials, .int ii, .ref k0rw]) rfl ?_
      refine z_get X fl_9_15 d_X9_copyTrials_77 2 rfl (v := .ref tw) rfl ?_
      refine z_run X bb_X9_copyTrials_80_81 bk_X9_copyTrials_80_81 (lv' := [(2, .int ii), (0, .ref k0r), (1, .ref trials)]) (st' := [.int ii, .ref tw, .int ii, .ref k0rw]) rfl ?_
      refine z_zald X d_X9_copyTrials_81 3 rfl (vin hii (by omega) (by omega)) (v := 0) rfl ?_
      refine z_zast X d_X9_copyTrials_82 1 rfl (vin hii (by omega) (by omega)) (ws' := [(k0r, ob 9 [.int 0, .ref k0rs, .ref k0rw, .ref k0rf, .ref k0re, .ref k0rg, .ref k0rl, .ref k0rc, .ref k0rx, .ref k0ry]), (k0rw, aZ G 12 (upd fu ii.toNatClampNeg 0)), (trials, ob 9 [.int 0, .ref ts, .ref tw, .ref tf, .ref te, .ref tg, .ref tl, .ref tc, .ref tx, .ref ty]), (tw, aZ G 12 (fun _ => 0)), (ts, aI G 12 (fun _ => 0)), (k0rs, aI G 12 g2_1), (tf, aI G 12 (fun _ => 0)), (k0rf, aI G 12 g2_2), (te, aI G 12 (fun _ => 0)), (k0re, aI G 12 g2_3), (tg, aI G 12 (fun _ => 0)), (k0rg, aI G 12 g2_4), (tl, aI G 48 (fun _ => 0)), (k0rl, aI G 48 g2_5)]) rfl ?_
      refine z_run X bb_X9_copyTrials_83_86 bk_X9_copyTrials_83_86 (lv' := [(2, .int (ii + 1)), (0, .ref k0r), (1, .ref trials)]) (st' := []) rfl ?_
      refine z_goto X d_X9_copyTrials_86 (tgt := 65) (by decide) ?_
      exact ih65 ((ii + 1), (ia + 1), (upd fu ii.toNatClampNeg 0)) ⟨(tI_add hii (show (1 : Int32).toInt = 1 from by decide) (by omega)), (by dsimp only; omega)⟩ (by dsimp only; omega)
  · exact ⟨(show (0 : Int32).toInt = 0 from by decide), (by dsimp only; omega)⟩

theorem d_X2_store_2 : decode cX2_store 2 = .ok (.putfield 32, 3) := by decide +kernel
theorem d_X2_store_6 : decode cX2_store 6 = .ok (.getfield 36, 3) := by decide +kernel
theorem d_X2_store_10 : decode cX2_store 10 = .ok (.getfield 9, 3) := by decide +kernel
theorem d_X2_store_13 : decode cX2_store 13 = .ok (.invokestatic 39, 3) := by decide +kernel
theorem d_X2_store_19 : decode cX2_store 19 = .ok (.getfield 15, 3) := by decide +kernel
theorem d_X2_store_22 : decode cX2_store 22 = .ok (.invokestatic 39, 3) := by decide +kernel
theorem d_X2_store_26 : decode cX2_store 26 = .ok (.getfield 21, 3) := by decide +kernel
theorem d_X2_store_30 : decode cX2_store 30 = .ok (.invokevirtual 43, 3) := by decide +kernel
theorem d_X2_store_34 : decode cX2_store 34 = .ok (.getfield 28, 3) := by decide +kernel
theorem d_X2_store_38 : decode cX2_store 38 = .ok (.invokevirtual 47, 3) := by decide +kernel
theorem d_X2_store_43 : decode cX2_store 43 = .ok (.getfield 51, 3) := by decide +kernel
theorem d_X2_store_46 : decode cX2_store 46 = .ok (.putfield 55, 3) := by decide +kernel
theorem d_X2_store_51 : decode cX2_store 51 = .ok (.getfield 56, 3) := by decide +kernel
theorem d_X2_store_54 : decode cX2_store 54 = .ok (.putfield 59, 3) := by decide +kernel
theorem d_X2_store_57 : decode cX2_store 57 = .ok (.return_, 1) := by decide +kernel
abbrev bb_X2_store_0_2 : ZB := [(.aload_n 0, .null), (.iconst 1, .int 1)]
theorem bk_X2_store_0_2 : zchk cX2_store bb_X2_store_0_2 0 = true ∧ zpc bb_X2_store_0_2 0 = 2 := ⟨by decide +kernel, rfl⟩
abbrev bb_X2_store_5_6 : ZB := [(.aload_n 1, .null)]
theorem bk_X2_store_5_6 : zchk cX2_store bb_X2_store_5_6 5 = true ∧ zpc bb_X2_store_5_6 5 = 6 := ⟨by decide +kernel, rfl⟩
abbrev bb_X2_store_9_10 : ZB := [(.aload_n 0, .null)]
theorem bk_X2_store_9_10 : zchk cX2_store bb_X2_store_9_10 9 = true ∧ zpc bb_X2_store_9_10 9 = 10 := ⟨by decide +kernel, rfl⟩
abbrev bb_X2_store_16_19 : ZB := [(.aload 4, .null), (.aload_n 0, .null)]
theorem bk_X2_store_16_19 : zchk cX2_store bb_X2_store_16_19 16 = true ∧ zpc bb_X2_store_16_19 16 = 19 := ⟨by decide +kernel, rfl⟩
abbrev bb_X2_store_25_26 : ZB := [(.aload_n 0, .null)]
theorem bk_X2_store_25_26 : zchk cX2_store bb_X2_store_25_26 25 = true ∧ zpc bb_X2_store_25_26 25 = 26 := ⟨by decide +kernel, rfl⟩
abbrev bb_X2_store_29_30 : ZB := [(.aload_n 2, .null)]
theorem bk_X2_store_29_30 : zchk cX2_store bb_X2_store_29_30 29 = true ∧ zpc bb_X2_store_29_30 29 = 30 := ⟨by decide +kernel, rfl⟩
abbrev bb_X2_store_33_34 : ZB := [(.aload_n 0, .null)]
theorem bk_X2_store_33_34 : zchk cX2_store bb_X2_store_33_34 33 = true ∧ zpc bb_X2_store_33_34 33 = 34 := ⟨by decide +kernel, rfl⟩
abbrev bb_X2_store_37_38 : ZB := [(.aload_n 3, .null)]
theorem bk_X2_store_37_38 : zchk cX2_store bb_X2_store_37_38 37 = true ∧ zpc bb_X2_store_37_38 37 = 38 := ⟨by decide +kernel, rfl⟩
abbrev bb_X2_store_41_43 : ZB := [(.aload_n 0, .null), (.aload_n 1, .null)]
theorem bk_X2_store_41_43 : zchk cX2_store bb_X2_store_41_43 41 = true ∧ zpc bb_X2_store_41_43 41 = 43 := ⟨by decide +kernel, rfl⟩
abbrev bb_X2_store_49_51 : ZB := [(.aload_n 0, .null), (.aload_n 1, .null)]
theorem bk_X2_store_49_51 : zchk cX2_store bb_X2_store_49_51 49 = true ∧ zpc bb_X2_store_49_51 49 = 51 := ⟨by decide +kernel, rfl⟩
set_option maxHeartbeats 4000000 in
set_option maxRecDepth 100000 in
theorem c_X2_store (l : Launch) (G : KG) (k0 : Nat) (k0h : Nat) (k0t : Nat) (k0a : Nat) (k0r : Nat) (k0af : Nat) (k0ao : Nat) (k0aa : Nat) (k0ax : Nat) (k0ay : Nat) (k0rs : Nat) (k0rw : Nat) (k0rf : Nat) (k0re : Nat) (k0rg : Nat) (k0rl : Nat) (k0rc : Nat) (k0rx : Nat) (k0ry : Nat) (ring : Nat) (rp : Nat) (rx : Nat) (ry : Nat) (rr : Nat) (rh : Nat) (rd : Nat) (speeds : Nat) (sf : Nat) (so : Nat) (sa : Nat) (sx : Nat) (sy : Nat) (trials : Nat) (ts : Nat) (tw : Nat) (tf : Nat) (te : Nat) (tg : Nat) (tl : Nat) (tc : Nat) (tx : Nat) (ty : Nat) (thought : Nat) : Ct l G yX2_store cX2_store 5 none { frames := 2, cells := 0, slots := 0, locals := 44 } [.ref k0, .ref ring, .ref speeds, .ref trials, .ref thought] [(k0, ob 2 [.int 0, .ref k0h, .ref k0t, .ref k0a, .ref k0r, .int 0, .int 0]), (k0h, aI G 16 (fun _ => 0)), (k0t, aI G 8 (fun _ => 0)), (k0a, ob 7 [.int 0, .ref k0af, .ref k0ao, .ref k0aa, .ref k0ax, .ref k0ay]), (k0ax, aI G 6 (fun _ => 0)), (k0ay, aI G 6 (fun _ => 0)), (k0aa, aZ G 6 (fun _ => 0)), (k0r, ob 9 [.int 0, .ref k0rs, .ref k0rw, .ref k0rf, .ref k0re, .ref k0rg, .ref k0rl, .ref k0rc, .ref k0rx, .ref k0ry]), (k0rs, aI G 12 (fun _ => 0)), (k0rf, aI G 12 (fun _ => 0)), (k0re, aI G 12 (fun _ => 0)), (k0rg, aI G 12 (fun _ => 0)), (k0rl, aI G 48 (fun _ => 0)), (k0rw, aZ G 12 (fun _ => 0)), (ring, ob 5 [.int 0, .ref rp, .ref rx, .ref ry, .ref rr, .ref rh, .ref rd, .int (-1), .int 0]), (rh, aI G 16 (fun _ => 0)), (speeds, ob 7 [.int 0, .ref sf, .ref so, .ref sa, .ref sx, .ref sy]), (sx, aI G 6 (fun _ => 0)), (sy, aI G 6 (fun _ => 0)), (sa, aZ G 6 (fun _ => 0)), (trials, ob 9 [.int 0, .ref ts, .ref tw, .ref tf, .ref te, .ref tg, .ref tl, .ref tc, .ref tx, .ref ty]), (ts, aI G 12 (fun _ => 0)), (tf, aI G 12 (fun _ => 0)), (te, aI G 12 (fun _ => 0)), (tg, aI G 12 (fun _ => 0)), (tl, aI G 48 (fun _ => 0)), (tw, aZ G 12 (fun _ => 0)), (thought, aI G 8 (fun _ => 0))] (fun r _ => r = none) := by
  refine ct_of [(0, .ref k0), (1, .ref ring), (2, .ref speeds), (3, .ref trials), (4, .ref thought)] (by decide) (Nat.le_of_ble_eq_true rfl) rfl ?_
  intro p0 e0 s0 m0 args0 below0 meth0 c0 A X
  refine z_run X bb_X2_store_0_2 bk_X2_store_0_2 (lv' := [(0, .ref k0), (1, .ref ring), (2, .ref speeds), (3, .ref trials), (4, .ref thought)]) (st' := [.int 1, .ref k0]) rfl ?_
  refine z_put X fl_2_32 d_X2_store_2 0 rfl (ty := .boolean) (T := TX2) (N := 7) rfl (Or.inl rfl) (by decide +kernel) rfl (by rfl) (Nat.le_of_ble_eq_true rfl) (ws' := [(k0, ob 2 [.int 1, .ref k0h, .ref k0t, .ref k0a, .ref k0r, .int 0, .int 0]), (k0h, aI G 16 (fun _ => 0)), (k0t, aI G 8 (fun _ => 0)), (k0a, ob 7 [.int 0, .ref k0af, .ref k0ao, .ref k0aa, .ref k0ax, .ref k0ay]), (k0ax, aI G 6 (fun _ => 0)), (k0ay, aI G 6 (fun _ => 0)), (k0aa, aZ G 6 (fun _ => 0)), (k0r, ob 9 [.int 0, .ref k0rs, .ref k0rw, .ref k0rf, .ref k0re, .ref k0rg, .ref k0rl, .ref k0rc, .ref k0rx, .ref k0ry]), (k0rs, aI G 12 (fun _ => 0)), (k0rf, aI G 12 (fun _ => 0)), (k0re, aI G 12 (fun _ => 0)), (k0rg, aI G 12 (fun _ => 0)), (k0rl, aI G 48 (fun _ => 0)), (k0rw, aZ G 12 (fun _ => 0)), (ring, ob 5 [.int 0, .ref rp, .ref rx, .ref ry, .ref rr, .ref rh, .ref rd, .int (-1), .int 0]), (rh, aI G 16 (fun _ => 0)), (speeds, ob 7 [.int 0, .ref sf, .ref so, .ref sa, .ref sx, .ref sy]), (sx, aI G 6 (fun _ => 0)), (sy, aI G 6 (fun _ => 0)), (sa, aZ G 6 (fun _ => 0)), (trials, ob 9 [.int 0, .ref ts, .ref tw, .ref tf, .ref te, .ref tg, .ref tl, .ref tc, .ref tx, .ref ty]), (ts, aI G 12 (fun _ => 0)), (tf, aI G 12 (fun _ => 0)), (te, aI G 12 (fun _ => 0)), (tg, aI G 12 (fun _ => 0)), (tl, aI G 48 (fun _ => 0)), (tw, aZ G 12 (fun _ => 0)), (thought, aI G 8 (fun _ => 0))]) rfl ?_
  refine z_run X bb_X2_store_5_6 bk_X2_store_5_6 (lv' := [(0, .ref k0), (1, .ref ring), (2, .ref speeds), (3, .ref trials), (4, .ref thought)]) (st' := [.ref ring]) rfl ?_
  refine z_getN X fl_2_36 d_X2_store_6 14 rfl (v := .ref rh) rfl ?_
  refine z_run X bb_X2_store_9_10 bk_X2_store_9_10 (lv' := [(0, .ref k0), (1, .ref ring), (2, .ref speeds), (3, .ref trials), (4, .ref thought)]) (st' := [.ref k0, .ref rh]) rfl ?_
  refine z_get X fl_2_9 d_X2_store_10 0 rfl (v := .ref k0h) rfl ?_
  refine z_callSN X k_2_39 (c_X10_copy l G rh k0h 16 16 (fun _ => 0) (fun _ => 0) (by omega) (by omega)) d_X2_store_13 ⟨Nat.le_of_ble_eq_true rfl, Nat.le_of_ble_eq_true rfl⟩ ⟨Nat.le_of_ble_eq_true rfl, Nat.le_of_ble_eq_true rfl⟩ rfl (rest := []) (As := [.ref rh, .ref k0h]) rfl (Nat.le_of_ble_eq_true rfl) [15, 1] [0, 2, 3, 4, 5, 6, 7, 8, 9, 10, 11, 12, 13, 14, 16, 17, 18, 19, 20, 21, 22, 23, 24, 25, 26, 27] rfl (by decide) (wr := [(k0, ob 2 [.int 1, .ref k0h, .ref k0t, .ref k0a, .ref k0r, .int 0, .int 0]), (k0t, aI G 8 (fun _ => 0)), (k0a, ob 7 [.int 0, .ref k0af, .ref k0ao, .ref k0aa, .ref k0ax, .ref k0ay]), (k0ax, aI G 6 (fun _ => 0)), (k0ay, aI G 6 (fun _ => 0)), (k0aa, aZ G 6 (fun _ => 0)), (k0r, ob 9 [.int 0, .ref k0rs, .ref k0rw, .ref k0rf, .ref k0re, .ref k0rg, .ref k0rl, .ref k0rc, .ref k0rx, .ref k0ry]), (k0rs, aI G 12 (fun _ => 0)), (k0rf, aI G 12 (fun _ => 0)), (k0re, aI G 12 (fun _ => 0)), (k0rg, aI G 12 (fun _ => 0)), (k0rl, aI G 48 (fun _ => 0)), (k0rw, aZ G 12 (fun _ => 0)), (ring, ob 5 [.int 0, .ref rp, .ref rx, .ref ry, .ref rr, .ref rh, .ref rd, .int (-1), .int 0]), (speeds, ob 7 [.int 0, .ref sf, .ref so, .ref sa, .ref sx, .ref sy]), (sx, aI G 6 (fun _ => 0)), (sy, aI G 6 (fun _ => 0)), (sa, aZ G 6 (fun _ => 0)), (trials, ob 9 [.int 0, .ref ts, .ref tw, .ref tf, .ref te, .ref tg, .ref tl, .ref tc, .ref tx, .ref ty]), (ts, aI G 12 (fun _ => 0)), (tf, aI G 12 (fun _ => 0)), (te, aI G 12 (fun _ => 0)), (tg, aI G 12 (fun _ => 0)), (tl, aI G 48 (fun _ => 0)), (tw, aZ G 12 (fun _ => 0)), (thought, aI G 8 (fun _ => 0))]) rfl (by decide) (by decide) ?_
  rintro _ _ ⟨g2_1, rfl, rfl⟩
  refine Z.at (pc' := 16) (st' := []) (ws' := [(k0, ob 2 [.int 1, .ref k0h, .ref k0t, .ref k0a, .ref k0r, .int 0, .int 0]), (k0t, aI G 8 (fun _ => 0)), (k0a, ob 7 [.int 0, .ref k0af, .ref k0ao, .ref k0aa, .ref k0ax, .ref k0ay]), (k0ax, aI G 6 (fun _ => 0)), (k0ay, aI G 6 (fun _ => 0)), (k0aa, aZ G 6 (fun _ => 0)), (k0r, ob 9 [.int 0, .ref k0rs, .ref k0rw, .ref k0rf, .ref k0re, .ref k0rg, .ref k0rl, .ref k0rc, .ref k0rx, .ref k0ry]), (k0rs, aI G 12 (fun _ => 0)), (k0rf, aI G 12 (fun _ => 0)), (k0re, aI G 12 (fun _ => 0)), (k0rg, aI G 12 (fun _ => 0)), (k0rl, aI G 48 (fun _ => 0)), (k0rw, aZ G 12 (fun _ => 0)), (ring, ob 5 [.int 0, .ref rp, .ref rx, .ref ry, .ref rr, .ref rh, .ref rd, .int (-1), .int 0]), (speeds, ob 7 [.int 0, .ref sf, .ref so, .ref sa, .ref sx, .ref sy]), (sx, aI G 6 (fun _ => 0)), (sy, aI G 6 (fun _ => 0)), (sa, aZ G 6 (fun _ => 0)), (trials, ob 9 [.int 0, .ref ts, .ref tw, .ref tf, .ref te, .ref tg, .ref tl, .ref tc, .ref tx, .ref ty]), (ts, aI G 12 (fun _ => 0)), (tf, aI G 12 (fun _ => 0)), (te, aI G 12 (fun _ => 0)), (tg, aI G 12 (fun _ => 0)), (tl, aI G 48 (fun _ => 0)), (tw, aZ G 12 (fun _ => 0)), (thought, aI G 8 (fun _ => 0)), (rh, aI G 16 (fun _ => 0)), (k0h, aI G 16 g2_1)]) (kc' := 0) (ks' := 0) rfl rfl rfl rfl rfl ?_
  refine z_run X bb_X2_store_16_19 bk_X2_store_16_19 (lv' := [(0, .ref k0), (1, .ref ring), (2, .ref speeds), (3, .ref trials), (4, .ref thought)]) (st' := [.ref k0, .ref thought]) rfl ?_
  refine z_get X fl_2_15 d_X2_store_19 0 rfl (v := .ref k0t) rfl ?_
  refine z_callSN X k_2_39 (c_X10_copy l G thought k0t 8 8 (fun _ => 0) (fun _ => 0) (by omega) (by omega)) d_X2_store_22 ⟨Nat.le_of_ble_eq_true rfl, Nat.le_of_ble_eq_true rfl⟩ ⟨Nat.le_of_ble_eq_true rfl, Nat.le_of_ble_eq_true rfl⟩ rfl (rest := []) (As := [.ref thought, .ref k0t]) rfl (Nat.le_of_ble_eq_true rfl) [25, 1] [0, 2, 3, 4, 5, 6, 7, 8, 9, 10, 11, 12, 13, 14, 15, 16, 17, 18, 19, 20, 21, 22, 23, 24, 26, 27] rfl (by decide) (wr := [(k0, ob 2 [.int 1, .ref k0h, .ref k0t, .ref k0a, .ref k0r, .int 0, .int 0]), (k0a, ob 7 [.int 0, .ref k0af, .ref k0ao, .ref k0aa, .ref k0ax, .ref k0ay]), (k0ax, aI G 6 (fun _ => 0)), (k0ay, aI G 6 (fun _ => 0)), (k0aa, aZ G 6 (fun _ => 0)), (k0r, ob 9 [.int 0, .ref k0rs, .ref k0rw, .ref k0rf, .ref k0re, .ref k0rg, .ref k0rl, .ref k0rc, .ref k0rx, .ref k0ry]), (k0rs, aI G 12 (fun _ => 0)), (k0rf, aI G 12 (fun _ => 0)), (k0re, aI G 12 (fun _ => 0)), (k0rg, aI G 12 (fun _ => 0)), (k0rl, aI G 48 (fun _ => 0)), (k0rw, aZ G 12 (fun _ => 0)), (ring, ob 5 [.int 0, .ref rp, .ref rx, .ref ry, .ref rr, .ref rh, .ref rd, .int (-1), .int 0]), (speeds, ob 7 [.int 0, .ref sf, .ref so, .ref sa, .ref sx, .ref sy]), (sx, aI G 6 (fun _ => 0)), (sy, aI G 6 (fun _ => 0)), (sa, aZ G 6 (fun _ => 0)), (trials, ob 9 [.int 0, .ref ts, .ref tw, .ref tf, .ref te, .ref tg, .ref tl, .ref tc, .ref tx, .ref ty]), (ts, aI G 12 (fun _ => 0)), (tf, aI G 12 (fun _ => 0)), (te, aI G 12 (fun _ => 0)), (tg, aI G 12 (fun _ => 0)), (tl, aI G 48 (fun _ => 0)), (tw, aZ G 12 (fun _ => 0)), (rh, aI G 16 (fun _ => 0)), (k0h, aI G 16 g2_1)]) rfl (by decide) (by decide) ?_
  rintro _ _ ⟨g2_2, rfl, rfl⟩
  refine Z.at (pc' := 25) (st' := []) (ws' := [(k0, ob 2 [.int 1, .ref k0h, .ref k0t, .ref k0a, .ref k0r, .int 0, .int 0]), (k0a, ob 7 [.int 0, .ref k0af, .ref k0ao, .ref k0aa, .ref k0ax, .ref k0ay]), (k0ax, aI G 6 (fun _ => 0)), (k0ay, aI G 6 (fun _ => 0)), (k0aa, aZ G 6 (fun _ => 0)), (k0r, ob 9 [.int 0, .ref k0rs, .ref k0rw, .ref k0rf, .ref k0re, .ref k0rg, .ref k0rl, .ref k0rc, .ref k0rx, .ref k0ry]), (k0rs, aI G 12 (fun _ => 0)), (k0rf, aI G 12 (fun _ => 0)), (k0re, aI G 12 (fun _ => 0)), (k0rg, aI G 12 (fun _ => 0)), (k0rl, aI G 48 (fun _ => 0)), (k0rw, aZ G 12 (fun _ => 0)), (ring, ob 5 [.int 0, .ref rp, .ref rx, .ref ry, .ref rr, .ref rh, .ref rd, .int (-1), .int 0]), (speeds, ob 7 [.int 0, .ref sf, .ref so, .ref sa, .ref sx, .ref sy]), (sx, aI G 6 (fun _ => 0)), (sy, aI G 6 (fun _ => 0)), (sa, aZ G 6 (fun _ => 0)), (trials, ob 9 [.int 0, .ref ts, .ref tw, .ref tf, .ref te, .ref tg, .ref tl, .ref tc, .ref tx, .ref ty]), (ts, aI G 12 (fun _ => 0)), (tf, aI G 12 (fun _ => 0)), (te, aI G 12 (fun _ => 0)), (tg, aI G 12 (fun _ => 0)), (tl, aI G 48 (fun _ => 0)), (tw, aZ G 12 (fun _ => 0)), (rh, aI G 16 (fun _ => 0)), (k0h, aI G 16 g2_1), (thought, aI G 8 (fun _ => 0)), (k0t, aI G 8 g2_2)]) (kc' := 0) (ks' := 0) rfl rfl rfl rfl rfl ?_
  refine z_run X bb_X2_store_25_26 bk_X2_store_25_26 (lv' := [(0, .ref k0), (1, .ref ring), (2, .ref speeds), (3, .ref trials), (4, .ref thought)]) (st' := [.ref k0]) rfl ?_
  refine z_get X fl_2_21 d_X2_store_26 0 rfl (v := .ref k0a) rfl ?_
  refine z_run X bb_X2_store_29_30 bk_X2_store_29_30 (lv' := [(0, .ref k0), (1, .ref ring), (2, .ref speeds), (3, .ref trials), (4, .ref thought)]) (st' := [.ref speeds, .ref k0a]) rfl ?_
  refine z_callV X k_2_43 (c_X7_copyApart l G k0a k0af k0ao k0aa k0ax k0ay speeds sf so sa sx sy) d_X2_store_30 1 rfl rfl rfl ⟨Nat.le_of_ble_eq_true rfl, Nat.le_of_ble_eq_true rfl⟩ ⟨Nat.le_of_ble_eq_true rfl, Nat.le_of_ble_eq_true rfl⟩ rfl (rest := []) (As := [.ref speeds]) rfl (Nat.le_of_ble_eq_true rfl) [1, 2, 3, 4, 13, 14, 15, 16] [0, 5, 6, 7, 8, 9, 10, 11, 12, 17, 18, 19, 20, 21, 22, 23, 24, 25, 26, 27] rfl (by decide) (wr := [(k0, ob 2 [.int 1, .ref k0h, .ref k0t, .ref k0a, .ref k0r, .int 0, .int 0]), (k0r, ob 9 [.int 0, .ref k0rs, .ref k0rw, .ref k0rf, .ref k0re, .ref k0rg, .ref k0rl, .ref k0rc, .ref k0rx, .ref k0ry]), (k0rs, aI G 12 (fun _ => 0)), (k0rf, aI G 12 (fun _ => 0)), (k0re, aI G 12 (fun _ => 0)), (k0rg, aI G 12 (fun _ => 0)), (k0rl, aI G 48 (fun _ => 0)), (k0rw, aZ G 12 (fun _ => 0)), (ring, ob 5 [.int 0, .ref rp, .ref rx, .ref ry, .ref rr, .ref rh, .ref rd, .int (-1), .int 0]), (trials, ob 9 [.int 0, .ref ts, .ref tw, .ref tf, .ref te, .ref tg, .ref tl, .ref tc, .ref tx, .ref ty]), (ts, aI G 12 (fun _ => 0)), (tf, aI G 12 (fun _ => 0)), (te, aI G 12 (fun _ => 0)), (tg, aI G 12 (fun _ => 0)), (tl, aI G 48 (fun _ => 0)), (tw, aZ G 12 (fun _ => 0)), (rh, aI G 16 (fun _ => 0)), (k0h, aI G 16 g2_1), (thought, aI G 8 (fun _ => 0)), (k0t, aI G 8 g2_2)]) rfl (by decide) (by decide) ?_
  rintro _ _ ⟨e1_3, e2_4, e3_5, rfl, rfl⟩
  refine Z.at (pc' := 33) (st' := []) (ws' := [(k0, ob 2 [.int 1, .ref k0h, .ref k0t, .ref k0a, .ref k0r, .int 0, .int 0]), (k0r, ob 9 [.int 0, .ref k0rs, .ref k0rw, .ref k0rf, .ref k0re, .ref k0rg, .ref k0rl, .ref k0rc, .ref k0rx, .ref k0ry]), (k0rs, aI G 12 (fun _ => 0)), (k0rf, aI G 12 (fun _ => 0)), (k0re, aI G 12 (fun _ => 0)), (k0rg, aI G 12 (fun _ => 0)), (k0rl, aI G 48 (fun _ => 0)), (k0rw, aZ G 12 (fun _ => 0)), (ring, ob 5 [.int 0, .ref rp, .ref rx, .ref ry, .ref rr, .ref rh, .ref rd, .int (-1), .int 0]), (trials, ob 9 [.int 0, .ref ts, .ref tw, .ref tf, .ref te, .ref tg, .ref tl, .ref tc, .ref tx, .ref ty]), (ts, aI G 12 (fun _ => 0)), (tf, aI G 12 (fun _ => 0)), (te, aI G 12 (fun _ => 0)), (tg, aI G 12 (fun _ => 0)), (tl, aI G 48 (fun _ => 0)), (tw, aZ G 12 (fun _ => 0)), (rh, aI G 16 (fun _ => 0)), (k0h, aI G 16 g2_1), (thought, aI G 8 (fun _ => 0)), (k0t, aI G 8 g2_2), (k0a, ob 7 [.int 0, .ref k0af, .ref k0ao, .ref k0aa, .ref k0ax, .ref k0ay]), (k0ax, aI G 6 e1_3), (k0ay, aI G 6 e2_4), (k0aa, aZ G 6 e3_5), (speeds, ob 7 [.int 0, .ref sf, .ref so, .ref sa, .ref sx, .ref sy]), (sx, aI G 6 (fun _ => 0)), (sy, aI G 6 (fun _ => 0)), (sa, aZ G 6 (fun _ => 0))]) (kc' := 0) (ks' := 0) rfl rfl rfl rfl rfl ?_
  refine z_run X bb_X2_store_33_34 bk_X2_store_33_34 (lv' := [(0, .ref k0), (1, .ref ring), (2, .ref speeds), (3, .ref trials), (4, .ref thought)]) (st' := [.ref k0]) rfl ?_
  refine z_get X fl_2_28 d_X2_store_34 0 rfl (v := .ref k0r) rfl ?_
  refine z_run X bb_X2_store_37_38 bk_X2_store_37_38 (lv' := [(0, .ref k0), (1, .ref ring), (2, .ref speeds), (3, .ref trials), (4, .ref thought)]) (st' := [.ref trials, .ref k0r]) rfl ?_
  refine z_callV X k_2_47 (c_X9_copyTrials l G k0r k0rs k0rw k0rf k0re k0rg k0rl k0rc k0rx k0ry trials ts tw tf te tg tl tc tx ty) d_X2_store_38 1 rfl rfl rfl ⟨Nat.le_of_ble_eq_true rfl, Nat.le_of_ble_eq_true rfl⟩ ⟨Nat.le_of_ble_eq_true rfl, Nat.le_of_ble_eq_true rfl⟩ rfl (rest := []) (As := [.ref trials]) rfl (Nat.le_of_ble_eq_true rfl) [1, 2, 3, 4, 5, 6, 7, 9, 10, 11, 12, 13, 14, 15] [0, 8, 16, 17, 18, 19, 20, 21, 22, 23, 24, 25, 26, 27] rfl (by decide) (wr := [(k0, ob 2 [.int 1, .ref k0h, .ref k0t, .ref k0a, .ref k0r, .int 0, .int 0]), (ring, ob 5 [.int 0, .ref rp, .ref rx, .ref ry, .ref rr, .ref rh, .ref rd, .int (-1), .int 0]), (rh, aI G 16 (fun _ => 0)), (k0h, aI G 16 g2_1), (thought, aI G 8 (fun _ => 0)), (k0t, aI G 8 g2_2), (k0a, ob 7 [.int 0, .ref k0af, .ref k0ao, .ref k0aa, .ref k0ax, .ref k0ay]), (k0ax, aI G 6 e1_3), (k0ay, aI G 6 e2_4), (k0aa, aZ G 6 e3_5), (speeds, ob 7 [.int 0, .ref sf, .ref so, .ref sa, .ref sx, .ref sy]), (sx, aI G 6 (fun _ => 0)), (sy, aI G 6 (fun _ => 0)), (sa, aZ G 6 (fun _ => 0))]) rfl (by decide) (by decide) ?_
  rintro _ _ ⟨e1_6, e2_7, e3_8, e4_9, e5_10, e6_11, rfl, rfl⟩
  refine Z.at (pc' := 41) (st' := []) (ws' := [(k0, ob 2 [.int 1, .ref k0h, .ref k0t, .ref k0a, .ref k0r, .int 0, .int 0]), (ring, ob 5 [.int 0, .ref rp, .ref rx, .ref ry, .ref rr, .ref rh, .ref rd, .int (-1), .int 0]), (rh, aI G 16 (fun _ => 0)), (k0h, aI G 16 g2_1), (thought, aI G 8 (fun _ => 0)), (k0t, aI G 8 g2_2), (k0a, ob 7 [.int 0, .ref k0af, .ref k0ao, .ref k0aa, .ref k0ax, .ref k0ay]), (k0ax, aI G 6 e1_3), (k0ay, aI G 6 e2_4), (k0aa, aZ G 6 e3_5), (speeds, ob 7 [.int 0, .ref sf, .ref so, .ref sa, .ref sx, .ref sy]), (sx, aI G 6 (fun _ => 0)), (sy, aI G 6 (fun _ => 0)), (sa, aZ G 6 (fun _ => 0)), (k0r, ob 9 [.int 0, .ref k0rs, .ref k0rw, .ref k0rf, .ref k0re, .ref k0rg, .ref k0rl, .ref k0rc, .ref k0rx, .ref k0ry]), (k0rs, aI G 12 e1_6), (k0rf, aI G 12 e2_7), (k0re, aI G 12 e3_8), (k0rg, aI G 12 e4_9), (k0rl, aI G 48 e5_10), (k0rw, aZ G 12 e6_11), (trials, ob 9 [.int 0, .ref ts, .ref tw, .ref tf, .ref te, .ref tg, .ref tl, .ref tc, .ref tx, .ref ty]), (ts, aI G 12 (fun _ => 0)), (tf, aI G 12 (fun _ => 0)), (te, aI G 12 (fun _ => 0)), (tg, aI G 12 (fun _ => 0)), (tl, aI G 48 (fun _ => 0)), (tw, aZ G 12 (fun _ => 0))]) (kc' := 0) (ks' := 0) rfl rfl rfl rfl rfl ?_
  refine z_run X bb_X2_store_41_43 bk_X2_store_41_43 (lv' := [(0, .ref k0), (1, .ref ring), (2, .ref speeds), (3, .ref trials), (4, .ref thought)]) (st' := [.ref ring, .ref k0]) rfl ?_
  refine z_getN X fl_2_51 d_X2_store_43 1 rfl (v := .int (-1)) rfl ?_
  refine z_put X fl_2_55 d_X2_store_46 0 rfl (ty := .int) (T := TX2) (N := 7) rfl (Or.inl rfl) (by decide +kernel) rfl (by rfl) (Nat.le_of_ble_eq_true rfl) (ws' := [(k0, ob 2 [.int 1, .ref k0h, .ref k0t, .ref k0a, .ref k0r, .int (-1), .int 0]), (ring, ob 5 [.int 0, .ref rp, .ref rx, .ref ry, .ref rr, .ref rh, .ref rd, .int (-1), .int 0]), (rh, aI G 16 (fun _ => 0)), (k0h, aI G 16 g2_1), (thought, aI G 8 (fun _ => 0)), (k0t, aI G 8 g2_2), (k0a, ob 7 [.int 0, .ref k0af, .ref k0ao, .ref k0aa, .ref k0ax, .ref k0ay]), (k0ax, aI G 6 e1_3), (k0ay, aI G 6 e2_4), (k0aa, aZ G 6 e3_5), (speeds, ob 7 [.int 0, .ref sf, .ref so, .ref sa, .ref sx, .ref sy]), (sx, aI G 6 (fun _ => 0)), (sy, aI G 6 (fun _ => 0)), (sa, aZ G 6 (fun _ => 0)), (k0r, ob 9 [.int 0, .ref k0rs, .ref k0rw, .ref k0rf, .ref k0re, .ref k0rg, .ref k0rl, .ref k0rc, .ref k0rx, .ref k0ry]), (k0rs, aI G 12 e1_6), (k0rf, aI G 12 e2_7), (k0re, aI G 12 e3_8), (k0rg, aI G 12 e4_9), (k0rl, aI G 48 e5_10), (k0rw, aZ G 12 e6_11), (trials, ob 9 [.int 0, .ref ts, .ref tw, .ref tf, .ref te, .ref tg, .ref tl, .ref tc, .ref tx, .ref ty]), (ts, aI G 12 (fun _ => 0)), (tf, aI G 12 (fun _ => 0)), (te, aI G 12 (fun _ => 0)), (tg, aI G 12 (fun _ => 0)), (tl, aI G 48 (fun _ => 0)), (tw, aZ G 12 (fun _ => 0))]) rfl ?_
  refine z_run X bb_X2_store_49_51 bk_X2_store_49_51 (lv' := [(0, .ref k0), (1, .ref ring), (2, .ref speeds), (3, .ref trials), (4, .ref thought)]) (st' := [.ref ring, .ref k0]) rfl ?_
  refine z_getN X fl_2_56 d_X2_store_51 1 rfl (v := .int 0) rfl ?_
  refine z_put X fl_2_59 d_X2_store_54 0 rfl (ty := .int) (T := TX2) (N := 7) rfl (Or.inl rfl) (by decide +kernel) rfl (by rfl) (Nat.le_of_ble_eq_true rfl) (ws' := [(k0, ob 2 [.int 1, .ref k0h, .ref k0t, .ref k0a, .ref k0r, .int (-1), .int 0]), (ring, ob 5 [.int 0, .ref rp, .ref rx, .ref ry, .ref rr, .ref rh, .ref rd, .int (-1), .int 0]), (rh, aI G 16 (fun _ => 0)), (k0h, aI G 16 g2_1), (thought, aI G 8 (fun _ => 0)), (k0t, aI G 8 g2_2), (k0a, ob 7 [.int 0, .ref k0af, .ref k0ao, .ref k0aa, .ref k0ax, .ref k0ay]), (k0ax, aI G 6 e1_3), (k0ay, aI G 6 e2_4), (k0aa, aZ G 6 e3_5), (speeds, ob 7 [.int 0, .ref sf, .ref so, .ref sa, .ref sx, .ref sy]), (sx, aI G 6 (fun _ => 0)), (sy, aI G 6 (fun _ => 0)), (sa, aZ G 6 (fun _ => 0)), (k0r, ob 9 [.int 0, .ref k0rs, .ref k0rw, .ref k0rf, .ref k0re, .ref k0rg, .ref k0rl, .ref k0rc, .ref k0rx, .ref k0ry]), (k0rs, aI G 12 e1_6), (k0rf, aI G 12 e2_7), (k0re, aI G 12 e3_8), (k0rg, aI G 12 e4_9), (k0rl, aI G 48 e5_10), (k0rw, aZ G 12 e6_11), (trials, ob 9 [.int 0, .ref ts, .ref tw, .ref tf, .ref te, .ref tg, .ref tl, .ref tc, .ref tx, .ref ty]), (ts, aI G 12 (fun _ => 0)), (tf, aI G 12 (fun _ => 0)), (te, aI G 12 (fun _ => 0)), (tg, aI G 12 (fun _ => 0)), (tl, aI G 48 (fun _ => 0)), (tw, aZ G 12 (fun _ => 0))]) rfl ?_
  exact z_vret X rfl d_X2_store_57 (Nat.le_of_ble_eq_true rfl) (Nat.le_of_ble_eq_true rfl) rfl

theorem d_X10_keep_1 : decode cX10_keep 1 = .ok (.ifCond .lt 17, 3) := by decide +kernel
theorem d_X10_keep_19 : decode cX10_keep 19 = .ok (.ireturn, 1) := by decide +kernel
theorem d_X10_keep_6 : decode cX10_keep 6 = .ok (.if_icmp .ge 12, 3) := by decide +kernel
theorem d_X10_keep_10 : decode cX10_keep 10 = .ok (.getfield 67, 3) := by decide +kernel
theorem d_X10_keep_14 : decode cX10_keep 14 = .ok (.aaload, 1) := by decide +kernel
theorem d_X10_keep_15 : decode cX10_keep 15 = .ok (.ifnonnull 5, 3) := by decide +kernel
theorem d_X10_keep_21 : decode cX10_keep 21 = .ok (.getfield 67, 3) := by decide +kernel
theorem d_X10_keep_25 : decode cX10_keep 25 = .ok (.aaload, 1) := by decide +kernel
theorem d_X10_keep_27 : decode cX10_keep 27 = .ok (.getfield 26, 3) := by decide +kernel
theorem d_X10_keep_31 : decode cX10_keep 31 = .ok (.getfield 33, 3) := by decide +kernel
theorem d_X10_keep_35 : decode cX10_keep 35 = .ok (.getfield 47, 3) := by decide +kernel
theorem d_X10_keep_39 : decode cX10_keep 39 = .ok (.getfield 78, 3) := by decide +kernel
theorem d_X10_keep_42 : decode cX10_keep 42 = .ok (.invokevirtual 481, 3) := by decide +kernel
theorem d_X10_keep_46 : decode cX10_keep 46 = .ok (.ireturn, 1) := by decide +kernel
abbrev bb_X10_keep_0_1 : ZB := [(.iload_n 1, .null)]
theorem bk_X10_keep_0_1 : zchk cX10_keep bb_X10_keep_0_1 0 = true ∧ zpc bb_X10_keep_0_1 0 = 1 := ⟨by decide +kernel, rfl⟩
abbrev bb_X10_keep_18_19 : ZB := [(.iconst 0, .int 0)]
theorem bk_X10_keep_18_19 : zchk cX10_keep bb_X10_keep_18_19 18 = true ∧ zpc bb_X10_keep_18_19 18 = 19 := ⟨by decide +kernel, rfl⟩
abbrev bb_X10_keep_4_6 : ZB := [(.iload_n 1, .null), (.iconst 3, .int 3)]
theorem bk_X10_keep_4_6 : zchk cX10_keep bb_X10_keep_4_6 4 = true ∧ zpc bb_X10_keep_4_6 4 = 6 := ⟨by decide +kernel, rfl⟩
abbrev bb_X10_keep_9_10 : ZB := [(.aload_n 0, .null)]
theorem bk_X10_keep_9_10 : zchk cX10_keep bb_X10_keep_9_10 9 = true ∧ zpc bb_X10_keep_9_10 9 = 10 := ⟨by decide +kernel, rfl⟩
abbrev bb_X10_keep_13_14 : ZB := [(.iload_n 1, .null)]
theorem bk_X10_keep_13_14 : zchk cX10_keep bb_X10_keep_13_14 13 = true ∧ zpc bb_X10_keep_13_14 13 = 14 := ⟨by decide +kernel, rfl⟩
abbrev bb_X10_keep_20_21 : ZB := [(.aload_n 0, .null)]
theorem bk_X10_keep_20_21 : zchk cX10_keep bb_X10_keep_20_21 20 = true ∧ zpc bb_X10_keep_20_21 20 = 21 := ⟨by decide +kernel, rfl⟩
abbrev bb_X10_keep_24_25 : ZB := [(.iload_n 1, .null)]
theorem bk_X10_keep_24_25 : zchk cX10_keep bb_X10_keep_24_25 24 = true ∧ zpc bb_X10_keep_24_25 24 = 25 := ⟨by decide +kernel, rfl⟩
abbrev bb_X10_keep_26_27 : ZB := [(.aload_n 0, .null)]
theorem bk_X10_keep_26_27 : zchk cX10_keep bb_X10_keep_26_27 26 = true ∧ zpc bb_X10_keep_26_27 26 = 27 := ⟨by decide +kernel, rfl⟩
abbrev bb_X10_keep_30_31 : ZB := [(.aload_n 0, .null)]
theorem bk_X10_keep_30_31 : zchk cX10_keep bb_X10_keep_30_31 30 = true ∧ zpc bb_X10_keep_30_31 30 = 31 := ⟨by decide +kernel, rfl⟩
abbrev bb_X10_keep_34_35 : ZB := [(.aload_n 0, .null)]
theorem bk_X10_keep_34_35 : zchk cX10_keep bb_X10_keep_34_35 34 = true ∧ zpc bb_X10_keep_34_35 34 = 35 := ⟨by decide +kernel, rfl⟩
abbrev bb_X10_keep_38_39 : ZB := [(.aload_n 0, .null)]
theorem bk_X10_keep_38_39 : zchk cX10_keep bb_X10_keep_38_39 38 = true ∧ zpc bb_X10_keep_38_39 38 = 39 := ⟨by decide +kernel, rfl⟩
abbrev bb_X10_keep_45_46 : ZB := [(.iconst 1, .int 1)]
theorem bk_X10_keep_45_46 : zchk cX10_keep bb_X10_keep_45_46 45 = true ∧ zpc bb_X10_keep_45_46 45 = 46 := ⟨by decide +kernel, rfl⟩
set_option maxHeartbeats 4000000 in
set_option maxRecDepth 100000 in
theorem c_X10_keep (l : Launch) (G : KG) (x : Nat) (told : Nat) (reader : Nat) (ring : Nat) (speeds : Nat) (wheel : Nat) (trials : Nat) (span : Nat) (search : Nat) (kept : Nat) (crosses : Nat) (trueM : Nat) (thought : Nat) (up : Nat) (low : Nat) (fits : Nat) (k0 : Nat) (k1 : Nat) (k2 : Nat) (k0h : Nat) (k0t : Nat) (k0a : Nat) (k0r : Nat) (k0af : Nat) (k0ao : Nat) (k0aa : Nat) (k0ax : Nat) (k0ay : Nat) (k0rs : Nat) (k0rw : Nat) (k0rf : Nat) (k0re : Nat) (k0rg : Nat) (k0rl : Nat) (k0rc : Nat) (k0rx : Nat) (k0ry : Nat) (rp : Nat) (rx : Nat) (ry : Nat) (rr : Nat) (rh : Nat) (rd : Nat) (sf : Nat) (so : Nat) (sa : Nat) (sx : Nat) (sy : Nat) (ts : Nat) (tw : Nat) (tf : Nat) (te : Nat) (tg : Nat) (tl : Nat) (tc : Nat) (tx : Nat) (ty : Nat) (k1h : Nat) (k1t : Nat) (k1a : Nat) (k1r : Nat) (k1af : Nat) (k1ao : Nat) (k1aa : Nat) (k1ax : Nat) (k1ay : Nat) (k1rs : Nat) (k1rw : Nat) (k1rf : Nat) (k1re : Nat) (k1rg : Nat) (k1rl : Nat) (k1rc : Nat) (k1rx : Nat) (k1ry : Nat) (k2h : Nat) (k2t : Nat) (k2a : Nat) (k2r : Nat) (k2af : Nat) (k2ao : Nat) (k2aa : Nat) (k2ax : Nat) (k2ay : Nat) (k2rs : Nat) (k2rw : Nat) (k2rf : Nat) (k2re : Nat) (k2rg : Nat) (k2rl : Nat) (k2rc : Nat) (k2rx : Nat) (k2ry : Nat) (i : Int32) (ii : Int) (hi : i.toInt = ii) : Ct l G yX10_keep cX10_keep 2 (some .boolean) { frames := 3, cells := 0, slots := 0, locals := 68 } [.ref x, .int i] [(x, ob 10 [.ref told, .ref reader, .ref ring, .ref speeds, .ref wheel, .ref trials, .ref span, .ref search, .ref kept, .ref crosses, .ref trueM, .ref thought, .ref up, .ref low, .ref fits, .null]), (kept, aO G 3 (va_up (va_up (va_up (fun _ => none) 0 (some k0)) 1 (some k1)) 2 (some k2))), (k0, ob 2 [.int 0, .ref k0h, .ref k0t, .ref k0a, .ref k0r, .int 0, .int 0]), (k0h, aI G 16 (fun _ => 0)), (k0t, aI G 8 (fun _ => 0)), (k0a, ob 7 [.int 0, .ref k0af, .ref k0ao, .ref k0aa, .ref k0ax, .ref k0ay]), (k0ax, aI G 6 (fun _ => 0)), (k0ay, aI G 6 (fun _ => 0)), (k0aa, aZ G 6 (fun _ => 0)), (k0r, ob 9 [.int 0, .ref k0rs, .ref k0rw, .ref k0rf, .ref k0re, .ref k0rg, .ref k0rl, .ref k0rc, .ref k0rx, .ref k0ry]), (k0rs, aI G 12 (fun _ => 0)), (k0rf, aI G 12 (fun _ => 0)), (k0re, aI G 12 (fun _ => 0)), (k0rg, aI G 12 (fun _ => 0)), (k0rl, aI G 48 (fun _ => 0)), (k0rw, aZ G 12 (fun _ => 0)), (ring, ob 5 [.int 0, .ref rp, .ref rx, .ref ry, .ref rr, .ref rh, .ref rd, .int (-1), .int 0]), (rh, aI G 16 (fun _ => 0)), (speeds, ob 7 [.int 0, .ref sf, .ref so, .ref sa, .ref sx, .ref sy]), (sx, aI G 6 (fun _ => 0)), (sy, aI G 6 (fun _ => 0)), (sa, aZ G 6 (fun _ => 0)), (trials, ob 9 [.int 0, .ref ts, .ref tw, .ref tf, .ref te, .ref tg, .ref tl, .ref tc, .ref tx, .ref ty]), (ts, aI G 12 (fun _ => 0)), (tf, aI G 12 (fun _ => 0)), (te, aI G 12 (fun _ => 0)), (tg, aI G 12 (fun _ => 0)), (tl, aI G 48 (fun _ => 0)), (tw, aZ G 12 (fun _ => 0)), (thought, aI G 8 (fun _ => 0)), (k1, ob 2 [.int 0, .ref k1h, .ref k1t, .ref k1a, .ref k1r, .int 0, .int 0]), (k1h, aI G 16 (fun _ => 0)), (k1t, aI G 8 (fun _ => 0)), (k1a, ob 7 [.int 0, .ref k1af, .ref k1ao, .ref k1aa, .ref k1ax, .ref k1ay]), (k1ax, aI G 6 (fun _ => 0)), (k1ay, aI G 6 (fun _ => 0)), (k1aa, aZ G 6 (fun _ => 0)), (k1r, ob 9 [.int 0, .ref k1rs, .ref k1rw, .ref k1rf, .ref k1re, .ref k1rg, .ref k1rl, .ref k1rc, .ref k1rx, .ref k1ry]), (k1rs, aI G 12 (fun _ => 0)), (k1rf, aI G 12 (fun _ => 0)), (k1re, aI G 12 (fun _ => 0)), (k1rg, aI G 12 (fun _ => 0)), (k1rl, aI G 48 (fun _ => 0)), (k1rw, aZ G 12 (fun _ => 0)), (k2, ob 2 [.int 0, .ref k2h, .ref k2t, .ref k2a, .ref k2r, .int 0, .int 0]), (k2h, aI G 16 (fun _ => 0)), (k2t, aI G 8 (fun _ => 0)), (k2a, ob 7 [.int 0, .ref k2af, .ref k2ao, .ref k2aa, .ref k2ax, .ref k2ay]), (k2ax, aI G 6 (fun _ => 0)), (k2ay, aI G 6 (fun _ => 0)), (k2aa, aZ G 6 (fun _ => 0)), (k2r, ob 9 [.int 0, .ref k2rs, .ref k2rw, .ref k2rf, .ref k2re, .ref k2rg, .ref k2rl, .ref k2rc, .ref k2rx, .ref k2ry]), (k2rs, aI G 12 (fun _ => 0)), (k2rf, aI G 12 (fun _ => 0)), (k2re, aI G 12 (fun _ => 0)), (k2rg, aI G 12 (fun _ => 0)), (k2rl, aI G 48 (fun _ => 0)), (k2rw, aZ G 12 (fun _ => 0))] (fun r _ => r = some (.int (zb (decide (0 ≤ ii ∧ ii < 3))))) := by
  refine ct_of [(0, .ref x), (1, .int i)] (by decide) (Nat.le_of_ble_eq_true rfl) rfl ?_
  intro p0 e0 s0 m0 args0 below0 meth0 c0 A X
  refine z_run X bb_X10_keep_0_1 bk_X10_keep_0_1 (lv' := [(0, .ref x), (1, .int i)]) (st' := [.int i]) rfl ?_
  refine zi_lt X d_X10_keep_1 (tgt := 18) (by decide) (a := ii) hi (fun c1_1 => ?_) (fun c1_1 => ?_)
  ·
    refine z_run X bb_X10_keep_18_19 bk_X10_keep_18_19 (lv' := [(0, .ref x), (1, .int i)]) (st' := [.int 0]) rfl ?_
    exact z_zret X rfl rfl d_X10_keep_19 (Nat.le_of_ble_eq_true rfl) (Nat.le_of_ble_eq_true rfl) (congrArg (fun z => some (Value.int z)) (zb_f (by omega)).symm)
  ·
    refine z_run X bb_X10_keep_4_6 bk_X10_keep_4_6 (lv' := [(0, .ref x), (1, .int i)]) (st' := [.int 3, .int i]) rfl ?_
    refine zc_ge X d_X10_keep_6 (tgt := 18) (by decide) (a := ii) (b := 3) hi (show (3 : Int32).toInt = 3 from by decide) (fun c6_2 => ?_) (fun c6_2 => ?_)
    ·
      refine z_run X bb_X10_keep_18_19 bk_X10_keep_18_19 (lv' := [(0, .ref x), (1, .int i)]) (st' := [.int 0]) rfl ?_
      exact z_zret X rfl rfl d_X10_keep_19 (Nat.le_of_ble_eq_true rfl) (Nat.le_of_ble_eq_true rfl) (congrArg (fun z => some (Value.int z)) (zb_f (by omega)).symm)
    ·
      rcases (show ii = 0 ∨ ii = 1 ∨ ii = 2 from by omega) with hs | hs | hs
      ·
        obtain rfl : i = 0 := i32_eq hi (by decide) hs
        refine z_run X bb_X10_keep_9_10 bk_X10_keep_9_10 (lv' := [(0, .ref x), (1, .int 0)]) (st' := [.ref x]) rfl ?_
        refine z_get X fl_10_67 d_X10_keep_10 0 rfl (v := .ref kept) rfl ?_
        refine z_run X bb_X10_keep_13_14 bk_X10_keep_13_14 (lv' := [(0, .ref x), (1, .int 0)]) (st' := [.int 0, .ref kept]) rfl ?_
        refine z_oald X d_X10_keep_14 1 rfl (show vp_in _ _ from by unfold vp_in; decide) (v := .ref k0) rfl ?_
        refine z_ifnonnull X d_X10_keep_15 (tgt := 20) (by decide) ?_
        refine z_run X bb_X10_keep_20_21 bk_X10_keep_20_21 (lv' := [(0, .ref x), (1, .int 0)]) (st' := [.ref x]) rfl ?_
        refine z_get X fl_10_67 d_X10_keep_21 0 rfl (v := .ref kept) rfl ?_
        refine z_run X bb_X10_keep_24_25 bk_X10_keep_24_25 (lv' := [(0, .ref x), (1, .int 0)]) (st' := [.int 0, .ref kept]) rfl ?_
        refine z_oald X d_X10_keep_25 1 rfl (show vp_in _ _ from by unfold vp_in; decide) (v := .ref k0) rfl ?_
        refine z_run X bb_X10_keep_26_27 bk_X10_keep_26_27 (lv' := [(0, .ref x), (1, .int 0)]) (st' := [.ref x, .ref k0]) rfl ?_
        refine z_get X fl_10_26 d_X10_keep_27 0 rfl (v := .ref ring) rfl ?_
        refine z_run X bb_X10_keep_30_31 bk_X10_keep_30_31 (lv' := [(0, .ref x), (1, .int 0)]) (st' := [.ref x, .ref ring, .ref k0]) rfl ?_
        refine z_get X fl_10_33 d_X10_keep_31 0 rfl (v := .ref speeds) rfl ?_
        refine z_run X bb_X10_keep_34_35 bk_X10_keep_34_35 (lv' := [(0, .ref x), (1, .int 0)]) (st' := [.ref x, .ref speeds, .ref ring, .ref k0]) rfl ?_
        refine z_get X fl_10_47 d_X10_keep_35 0 rfl (v := .ref trials) rfl ?_
        refine z_run X bb_X10_keep_38_39 bk_X10_keep_38_39 (lv' := [(0, .ref x), (1, .int 0)]) (st' := [.ref x, .ref trials, .ref speeds, .ref ring, .ref k0]) rfl ?_
        refine z_get X fl_10_78 d_X10_keep_39 0 rfl (v := .ref thought) rfl ?_
        refine z_callV X k_10_481 (c_X2_store l G k0 k0h k0t k0a k0r k0af k0ao k0aa k0ax k0ay k0rs k0rw k0rf k0re k0rg k0rl k0rc k0rx k0ry ring rp rx ry rr rh rd speeds sf so sa sx sy trials ts tw tf te tg tl tc tx ty thought) d_X10_keep_42 2 rfl rfl rfl ⟨Nat.le_of_ble_eq_true rfl, Nat.le_of_ble_eq_true rfl⟩ ⟨Nat.le_of_ble_eq_true rfl, Nat.le_of_ble_eq_true rfl⟩ rfl (rest := []) (As := [.ref ring, .ref speeds, .ref trials, .ref thought]) rfl (Nat.le_of_ble_eq_true rfl) [2, 3, 4, 5, 6, 7, 8, 9, 10, 11, 12, 13, 14, 15, 16, 17, 18, 19, 20, 21, 22, 23, 24, 25, 26, 27, 28, 29] [0, 1, 30, 31, 32, 33, 34, 35, 36, 37, 38, 39, 40, 41, 42, 43, 44, 45, 46, 47, 48, 49, 50, 51, 52, 53, 54, 55, 56, 57] rfl (by decide) (wr := [(x, ob 10 [.ref told, .ref reader, .ref ring, .ref speeds, .ref wheel, .ref trials, .ref span, .ref search, .ref kept, .ref crosses, .ref trueM, .ref thought, .ref up, .ref low, .ref fits, .null]), (kept, aO G 3 (va_up (va_up (va_up (fun _ => none) 0 (some k0)) 1 (some k1)) 2 (some k2))), (k1, ob 2 [.int 0, .ref k1h, .ref k1t, .ref k1a, .ref k1r, .int 0, .int 0]), (k1h, aI G 16 (fun _ => 0)), (k1t, aI G 8 (fun _ => 0)), (k1a, ob 7 [.int 0, .ref k1af, .ref k1ao, .ref k1aa, .ref k1ax, .ref k1ay]), (k1ax, aI G 6 (fun _ => 0)), (k1ay, aI G 6 (fun _ => 0)), (k1aa, aZ G 6 (fun _ => 0)), (k1r, ob 9 [.int 0, .ref k1rs, .ref k1rw, .ref k1rf, .ref k1re, .ref k1rg, .ref k1rl, .ref k1rc, .ref k1rx, .ref k1ry]), (k1rs, aI G 12 (fun _ => 0)), (k1rf, aI G 12 (fun _ => 0)), (k1re, aI G 12 (fun _ => 0)), (k1rg, aI G 12 (fun _ => 0)), (k1rl, aI G 48 (fun _ => 0)), (k1rw, aZ G 12 (fun _ => 0)), (k2, ob 2 [.int 0, .ref k2h, .ref k2t, .ref k2a, .ref k2r, .int 0, .int 0]), (k2h, aI G 16 (fun _ => 0)), (k2t, aI G 8 (fun _ => 0)), (k2a, ob 7 [.int 0, .ref k2af, .ref k2ao, .ref k2aa, .ref k2ax, .ref k2ay]), (k2ax, aI G 6 (fun _ => 0)), (k2ay, aI G 6 (fun _ => 0)), (k2aa, aZ G 6 (fun _ => 0)), (k2r, ob 9 [.int 0, .ref k2rs, .ref k2rw, .ref k2rf, .ref k2re, .ref k2rg, .ref k2rl, .ref k2rc, .ref k2rx, .ref k2ry]), (k2rs, aI G 12 (fun _ => 0)), (k2rf, aI G 12 (fun _ => 0)), (k2re, aI G 12 (fun _ => 0)), (k2rg, aI G 12 (fun _ => 0)), (k2rl, aI G 48 (fun _ => 0)), (k2rw, aZ G 12 (fun _ => 0))]) rfl (by decide) (by decide) ?_
        rintro _ _ rfl
        refine Z.sub (lv' := [(0, .ref x), (1, .int 0)]) [0, 1] rfl [0, 1, 2, 3, 4, 5, 6, 7, 8, 9, 10, 11, 12, 13, 14, 15, 16, 17, 18, 19, 20, 21, 22, 23, 24, 25, 26, 27, 28, 29] (ws' := [(x, ob 10 [.ref told, .ref reader, .ref ring, .ref speeds, .ref wheel, .ref trials, .ref span, .ref search, .ref kept, .ref crosses, .ref trueM, .ref thought, .ref up, .ref low, .ref fits, .null]), (kept, aO G 3 (va_up (va_up (va_up (fun _ => none) 0 (some k0)) 1 (some k1)) 2 (some k2))), (k1, ob 2 [.int 0, .ref k1h, .ref k1t, .ref k1a, .ref k1r, .int 0, .int 0]), (k1h, aI G 16 (fun _ => 0)), (k1t, aI G 8 (fun _ => 0)), (k1a, ob 7 [.int 0, .ref k1af, .ref k1ao, .ref k1aa, .ref k1ax, .ref k1ay]), (k1ax, aI G 6 (fun _ => 0)), (k1ay, aI G 6 (fun _ => 0)), (k1aa, aZ G 6 (fun _ => 0)), (k1r, ob 9 [.int 0, .ref k1rs, .ref k1rw, .ref k1rf, .ref k1re, .ref k1rg, .ref k1rl, .ref k1rc, .ref k1rx, .ref k1ry]), (k1rs, aI G 12 (fun _ => 0)), (k1rf, aI G 12 (fun _ => 0)), (k1re, aI G 12 (fun _ => 0)), (k1rg, aI G 12 (fun _ => 0)), (k1rl, aI G 48 (fun _ => 0)), (k1rw, aZ G 12 (fun _ => 0)), (k2, ob 2 [.int 0, .ref k2h, .ref k2t, .ref k2a, .ref k2r, .int 0, .int 0]), (k2h, aI G 16 (fun _ => 0)), (k2t, aI G 8 (fun _ => 0)), (k2a, ob 7 [.int 0, .ref k2af, .ref k2ao, .ref k2aa, .ref k2ax, .ref k2ay]), (k2ax, aI G 6 (fun _ => 0)), (k2ay, aI G 6 (fun _ => 0)), (k2aa, aZ G 6 (fun _ => 0)), (k2r, ob 9 [.int 0, .ref k2rs, .ref k2rw, .ref k2rf, .ref k2re, .ref k2rg, .ref k2rl, .ref k2rc, .ref k2rx, .ref k2ry]), (k2rs, aI G 12 (fun _ => 0)), (k2rf, aI G 12 (fun _ => 0)), (k2re, aI G 12 (fun _ => 0)), (k2rg, aI G 12 (fun _ => 0)), (k2rl, aI G 48 (fun _ => 0)), (k2rw, aZ G 12 (fun _ => 0))]) rfl (by decide) ?_
        refine Z.at (pc' := 45) (st' := []) (ws' := [(x, ob 10 [.ref told, .ref reader, .ref ring, .ref speeds, .ref wheel, .ref trials, .ref span, .ref search, .ref kept, .ref crosses, .ref trueM, .ref thought, .ref up, .ref low, .ref fits, .null]), (kept, aO G 3 (va_up (va_up (va_up (fun _ => none) 0 (some k0)) 1 (some k1)) 2 (some k2))), (k1, ob 2 [.int 0, .ref k1h, .ref k1t, .ref k1a, .ref k1r, .int 0, .int 0]), (k1h, aI G 16 (fun _ => 0)), (k1t, aI G 8 (fun _ => 0)), (k1a, ob 7 [.int 0, .ref k1af, .ref k1ao, .ref k1aa, .ref k1ax, .ref k1ay]), (k1ax, aI G 6 (fun _ => 0)), (k1ay, aI G 6 (fun _ => 0)), (k1aa, aZ G 6 (fun _ => 0)), (k1r, ob 9 [.int 0, .ref k1rs, .ref k1rw, .ref k1rf, .ref k1re, .ref k1rg, .ref k1rl, .ref k1rc, .ref k1rx, .ref k1ry]), (k1rs, aI G 12 (fun _ => 0)), (k1rf, aI G 12 (fun _ => 0)), (k1re, aI G 12 (fun _ => 0)), (k1rg, aI G 12 (fun _ => 0)), (k1rl, aI G 48 (fun _ => 0)), (k1rw, aZ G 12 (fun _ => 0)), (k2, ob 2 [.int 0, .ref k2h, .ref k2t, .ref k2a, .ref k2r, .int 0, .int 0]), (k2h, aI G 16 (fun _ => 0)), (k2t, aI G 8 (fun _ => 0)), (k2a, ob 7 [.int 0, .ref k2af, .ref k2ao, .ref k2aa, .ref k2ax, .ref k2ay]), (k2ax, aI G 6 (fun _ => 0)), (k2ay, aI G 6 (fun _ => 0)), (k2aa, aZ G 6 (fun _ => 0)), (k2r, ob 9 [.int 0, .ref k2rs, .ref k2rw, .ref k2rf, .ref k2re, .ref k2rg, .ref k2rl, .ref k2rc, .ref k2rx, .ref k2ry]), (k2rs, aI G 12 (fun _ => 0)), (k2rf, aI G 12 (fun _ => 0)), (k2re, aI G 12 (fun _ => 0)), (k2rg, aI G 12 (fun _ => 0)), (k2rl, aI G 48 (fun _ => 0)), (k2rw, aZ G 12 (fun _ => 0))]) (kc' := 0) (ks' := 0) rfl rfl rfl rfl rfl ?_
        refine z_run X bb_X10_keep_45_46 bk_X10_keep_45_46 (lv' := [(0, .ref x), (1, .int 0)]) (st' := [.int 1]) rfl ?_
        exact z_zret X rfl rfl d_X10_keep_46 (Nat.le_of_ble_eq_true rfl) (Nat.le_of_ble_eq_true rfl) (congrArg (fun z => some (Value.int z)) (zb_t (by omega)).symm)
      ·
        obtain rfl : i = 1 := i32_eq hi (by decide) hs
        refine z_run X bb_X10_keep_9_10 bk_X10_keep_9_10 (lv' := [(0, .ref x), (1, .int 1)]) (st' := [.ref x]) rfl ?_
        refine z_get X fl_10_67 d_X10_keep_10 0 rfl (v := .ref kept) rfl ?_
        refine z_run X bb_X10_keep_13_14 bk_X10_keep_13_14 (lv' := [(0, .ref x), (1, .int 1)]) (st' := [.int 1, .ref kept]) rfl ?_
        refine z_oald X d_X10_keep_14 1 rfl (show vp_in _ _ from by unfold vp_in; decide) (v := .ref k1) rfl ?_
        refine z_ifnonnull X d_X10_keep_15 (tgt := 20) (by decide) ?_
        refine z_run X bb_X10_keep_20_21 bk_X10_keep_20_21 (lv' := [(0, .ref x), (1, .int 1)]) (st' := [.ref x]) rfl ?_
        refine z_get X fl_10_67 d_X10_keep_21 0 rfl (v := .ref kept) rfl ?_
        refine z_run X bb_X10_keep_24_25 bk_X10_keep_24_25 (lv' := [(0, .ref x), (1, .int 1)]) (st' := [.int 1, .ref kept]) rfl ?_
        refine z_oald X d_X10_keep_25 1 rfl (show vp_in _ _ from by unfold vp_in; decide) (v := .ref k1) rfl ?_
        refine z_run X bb_X10_keep_26_27 bk_X10_keep_26_27 (lv' := [(0, .ref x), (1, .int 1)]) (st' := [.ref x, .ref k1]) rfl ?_
        refine z_get X fl_10_26 d_X10_keep_27 0 rfl (v := .ref ring) rfl ?_
        refine z_run X bb_X10_keep_30_31 bk_X10_keep_30_31 (lv' := [(0, .ref x), (1, .int 1)]) (st' := [.ref x, .ref ring, .ref k1]) rfl ?_
        refine z_get X fl_10_33 d_X10_keep_31 0 rfl (v := .ref speeds) rfl ?_
        refine z_run X bb_X10_keep_34_35 bk_X10_keep_34_35 (lv' := [(0, .ref x), (1, .int 1)]) (st' := [.ref x, .ref speeds, .ref ring, .ref k1]) rfl ?_
        refine z_get X fl_10_47 d_X10_keep_35 0 rfl (v := .ref trials) rfl ?_
        refine z_run X bb_X10_keep_38_39 bk_X10_keep_38_39 (lv' := [(0, .ref x), (1, .int 1)]) (st' := [.ref x, .ref trials, .ref speeds, .ref ring, .ref k1]) rfl ?_
        refine z_get X fl_10_78 d_X10_keep_39 0 rfl (v := .ref thought) rfl ?_
        refine z_callV X k_10_481 (c_X2_store l G k1 k1h k1t k1a k1r k1af k1ao k1aa k1ax k1ay k1rs k1rw k1rf k1re k1rg k1rl k1rc k1rx k1ry ring rp rx ry rr rh rd speeds sf so sa sx sy trials ts tw tf te tg tl tc tx ty thought) d_X10_keep_42 30 rfl rfl rfl ⟨Nat.le_of_ble_eq_true rfl, Nat.le_of_ble_eq_true rfl⟩ ⟨Nat.le_of_ble_eq_true rfl, Nat.le_of_ble_eq_true rfl⟩ rfl (rest := []) (As := [.ref ring, .ref speeds, .ref trials, .ref thought]) rfl (Nat.le_of_ble_eq_true rfl) [30, 31, 32, 33, 34, 35, 36, 37, 38, 39, 40, 41, 42, 43, 16, 17, 18, 19, 20, 21, 22, 23, 24, 25, 26, 27, 28, 29] [0, 1, 2, 3, 4, 5, 6, 7, 8, 9, 10, 11, 12, 13, 14, 15, 44, 45, 46, 47, 48, 49, 50, 51, 52, 53, 54, 55, 56, 57] rfl (by decide) (wr := [(x, ob 10 [.ref told, .ref reader, .ref ring, .ref speeds, .ref wheel, .ref trials, .ref span, .ref search, .ref kept, .ref crosses, .ref trueM, .ref thought, .ref up, .ref low, .ref fits, .null]), (kept, aO G 3 (va_up (va_up (va_up (fun _ => none) 0 (some k0)) 1 (some k1)) 2 (some k2))), (k0, ob 2 [.int 0, .ref k0h, .ref k0t, .ref k0a, .ref k0r, .int 0, .int 0]), (k0h, aI G 16 (fun _ => 0)), (k0t, aI G 8 (fun _ => 0)), (k0a, ob 7 [.int 0, .ref k0af, .ref k0ao, .ref k0aa, .ref k0ax, .ref k0ay]), (k0ax, aI G 6 (fun _ => 0)), (k0ay, aI G 6 (fun _ => 0)), (k0aa, aZ G 6 (fun _ => 0)), (k0r, ob 9 [.int 0, .ref k0rs, .ref k0rw, .ref k0rf, .ref k0re, .ref k0rg, .ref k0rl, .ref k0rc, .ref k0rx, .ref k0ry]), (k0rs, aI G 12 (fun _ => 0)), (k0rf, aI G 12 (fun _ => 0)), (k0re, aI G 12 (fun _ => 0)), (k0rg, aI G 12 (fun _ => 0)), (k0rl, aI G 48 (fun _ => 0)), (k0rw, aZ G 12 (fun _ => 0)), (k2, ob 2 [.int 0, .ref k2h, .ref k2t, .ref k2a, .ref k2r, .int 0, .int 0]), (k2h, aI G 16 (fun _ => 0)), (k2t, aI G 8 (fun _ => 0)), (k2a, ob 7 [.int 0, .ref k2af, .ref k2ao, .ref k2aa, .ref k2ax, .ref k2ay]), (k2ax, aI G 6 (fun _ => 0)), (k2ay, aI G 6 (fun _ => 0)), (k2aa, aZ G 6 (fun _ => 0)), (k2r, ob 9 [.int 0, .ref k2rs, .ref k2rw, .ref k2rf, .ref k2re, .ref k2rg, .ref k2rl, .ref k2rc, .ref k2rx, .ref k2ry]), (k2rs, aI G 12 (fun _ => 0)), (k2rf, aI G 12 (fun _ => 0)), (k2re, aI G 12 (fun _ => 0)), (k2rg, aI G 12 (fun _ => 0)), (k2rl, aI G 48 (fun _ => 0)), (k2rw, aZ G 12 (fun _ => 0))]) rfl (by decide) (by decide) ?_
        rintro _ _ rfl
        refine Z.sub (lv' := [(0, .ref x), (1, .int 1)]) [0, 1] rfl [0, 1, 2, 3, 4, 5, 6, 7, 8, 9, 10, 11, 12, 13, 14, 15, 16, 17, 18, 19, 20, 21, 22, 23, 24, 25, 26, 27, 28, 29] (ws' := [(x, ob 10 [.ref told, .ref reader, .ref ring, .ref speeds, .ref wheel, .ref trials, .ref span, .ref search, .ref kept, .ref crosses, .ref trueM, .ref thought, .ref up, .ref low, .ref fits, .null]), (kept, aO G 3 (va_up (va_up (va_up (fun _ => none) 0 (some k0)) 1 (some k1)) 2 (some k2))), (k0, ob 2 [.int 0, .ref k0h, .ref k0t, .ref k0a, .ref k0r, .int 0, .int 0]), (k0h, aI G 16 (fun _ => 0)), (k0t, aI G 8 (fun _ => 0)), (k0a, ob 7 [.int 0, .ref k0af, .ref k0ao, .ref k0aa, .ref k0ax, .ref k0ay]), (k0ax, aI G 6 (fun _ => 0)), (k0ay, aI G 6 (fun _ => 0)), (k0aa, aZ G 6 (fun _ => 0)), (k0r, ob 9 [.int 0, .ref k0rs, .ref k0rw, .ref k0rf, .ref k0re, .ref k0rg, .ref k0rl, .ref k0rc, .ref k0rx, .ref k0ry]), (k0rs, aI G 12 (fun _ => 0)), (k0rf, aI G 12 (fun _ => 0)), (k0re, aI G 12 (fun _ => 0)), (k0rg, aI G 12 (fun _ => 0)), (k0rl, aI G 48 (fun _ => 0)), (k0rw, aZ G 12 (fun _ => 0)), (k2, ob 2 [.int 0, .ref k2h, .ref k2t, .ref k2a, .ref k2r, .int 0, .int 0]), (k2h, aI G 16 (fun _ => 0)), (k2t, aI G 8 (fun _ => 0)), (k2a, ob 7 [.int 0, .ref k2af, .ref k2ao, .ref k2aa, .ref k2ax, .ref k2ay]), (k2ax, aI G 6 (fun _ => 0)), (k2ay, aI G 6 (fun _ => 0)), (k2aa, aZ G 6 (fun _ => 0)), (k2r, ob 9 [.int 0, .ref k2rs, .ref k2rw, .ref k2rf, .ref k2re, .ref k2rg, .ref k2rl, .ref k2rc, .ref k2rx, .ref k2ry]), (k2rs, aI G 12 (fun _ => 0)), (k2rf, aI G 12 (fun _ => 0)), (k2re, aI G 12 (fun _ => 0)), (k2rg, aI G 12 (fun _ => 0)), (k2rl, aI G 48 (fun _ => 0)), (k2rw, aZ G 12 (fun _ => 0))]) rfl (by decide) ?_
        refine Z.at (pc' := 45) (st' := []) (ws' := [(x, ob 10 [.ref told, .ref reader, .ref ring, .ref speeds, .ref wheel, .ref trials, .ref span, .ref search, .ref kept, .ref crosses, .ref trueM, .ref thought, .ref up, .ref low, .ref fits, .null]), (kept, aO G 3 (va_up (va_up (va_up (fun _ => none) 0 (some k0)) 1 (some k1)) 2 (some k2))), (k0, ob 2 [.int 0, .ref k0h, .ref k0t, .ref k0a, .ref k0r, .int 0, .int 0]), (k0h, aI G 16 (fun _ => 0)), (k0t, aI G 8 (fun _ => 0)), (k0a, ob 7 [.int 0, .ref k0af, .ref k0ao, .ref k0aa, .ref k0ax, .ref k0ay]), (k0ax, aI G 6 (fun _ => 0)), (k0ay, aI G 6 (fun _ => 0)), (k0aa, aZ G 6 (fun _ => 0)), (k0r, ob 9 [.int 0, .ref k0rs, .ref k0rw, .ref k0rf, .ref k0re, .ref k0rg, .ref k0rl, .ref k0rc, .ref k0rx, .ref k0ry]), (k0rs, aI G 12 (fun _ => 0)), (k0rf, aI G 12 (fun _ => 0)), (k0re, aI G 12 (fun _ => 0)), (k0rg, aI G 12 (fun _ => 0)), (k0rl, aI G 48 (fun _ => 0)), (k0rw, aZ G 12 (fun _ => 0)), (k2, ob 2 [.int 0, .ref k2h, .ref k2t, .ref k2a, .ref k2r, .int 0, .int 0]), (k2h, aI G 16 (fun _ => 0)), (k2t, aI G 8 (fun _ => 0)), (k2a, ob 7 [.int 0, .ref k2af, .ref k2ao, .ref k2aa, .ref k2ax, .ref k2ay]), (k2ax, aI G 6 (fun _ => 0)), (k2ay, aI G 6 (fun _ => 0)), (k2aa, aZ G 6 (fun _ => 0)), (k2r, ob 9 [.int 0, .ref k2rs, .ref k2rw, .ref k2rf, .ref k2re, .ref k2rg, .ref k2rl, .ref k2rc, .ref k2rx, .ref k2ry]), (k2rs, aI G 12 (fun _ => 0)), (k2rf, aI G 12 (fun _ => 0)), (k2re, aI G 12 (fun _ => 0)), (k2rg, aI G 12 (fun _ => 0)), (k2rl, aI G 48 (fun _ => 0)), (k2rw, aZ G 12 (fun _ => 0))]) (kc' := 0) (ks' := 0) rfl rfl rfl rfl rfl ?_
        refine z_run X bb_X10_keep_45_46 bk_X10_keep_45_46 (lv' := [(0, .ref x), (1, .int 1)]) (st' := [.int 1]) rfl ?_
        exact z_zret X rfl rfl d_X10_keep_46 (Nat.le_of_ble_eq_true rfl) (Nat.le_of_ble_eq_true rfl) (congrArg (fun z => some (Value.int z)) (zb_t (by omega)).symm)
      ·
        obtain rfl : i = 2 := i32_eq hi (by decide) hs
        refine z_run X bb_X10_keep_9_10 bk_X10_keep_9_10 (lv' := [(0, .ref x), (1, .int 2)]) (st' := [.ref x]) rfl ?_
        refine z_get X fl_10_67 d_X10_keep_10 0 rfl (v := .ref kept) rfl ?_
        refine z_run X bb_X10_keep_13_14 bk_X10_keep_13_14 (lv' := [(0, .ref x), (1, .int 2)]) (st' := [.int 2, .ref kept]) rfl ?_
        refine z_oald X d_X10_keep_14 1 rfl (show vp_in _ _ from by unfold vp_in; decide) (v := .ref k2) rfl ?_
        refine z_ifnonnull X d_X10_keep_15 (tgt := 20) (by decide) ?_
        refine z_run X bb_X10_keep_20_21 bk_X10_keep_20_21 (lv' := [(0, .ref x), (1, .int 2)]) (st' := [.ref x]) rfl ?_
        refine z_get X fl_10_67 d_X10_keep_21 0 rfl (v := .ref kept) rfl ?_
        refine z_run X bb_X10_keep_24_25 bk_X10_keep_24_25 (lv' := [(0, .ref x), (1, .int 2)]) (st' := [.int 2, .ref kept]) rfl ?_
        refine z_oald X d_X10_keep_25 1 rfl (show vp_in _ _ from by unfold vp_in; decide) (v := .ref k2) rfl ?_
        refine z_run X bb_X10_keep_26_27 bk_X10_keep_26_27 (lv' := [(0, .ref x), (1, .int 2)]) (st' := [.ref x, .ref k2]) rfl ?_
        refine z_get X fl_10_26 d_X10_keep_27 0 rfl (v := .ref ring) rfl ?_
        refine z_run X bb_X10_keep_30_31 bk_X10_keep_30_31 (lv' := [(0, .ref x), (1, .int 2)]) (st' := [.ref x, .ref ring, .ref k2]) rfl ?_
        refine z_get X fl_10_33 d_X10_keep_31 0 rfl (v := .ref speeds) rfl ?_
        refine z_run X bb_X10_keep_34_35 bk_X10_keep_34_35 (lv' := [(0, .ref x), (1, .int 2)]) (st' := [.ref x, .ref speeds, .ref ring, .ref k2]) rfl ?_
        refine z_get X fl_10_47 d_X10_keep_35 0 rfl (v := .ref trials) rfl ?_
        refine z_run X bb_X10_keep_38_39 bk_X10_keep_38_39 (lv' := [(0, .ref x), (1, .int 2)]) (st' := [.ref x, .ref trials, .ref speeds, .ref ring, .ref k2]) rfl ?_
        refine z_get X fl_10_78 d_X10_keep_39 0 rfl (v := .ref thought) rfl ?_
        refine z_callV X k_10_481 (c_X2_store l G k2 k2h k2t k2a k2r k2af k2ao k2aa k2ax k2ay k2rs k2rw k2rf k2re k2rg k2rl k2rc k2rx k2ry ring rp rx ry rr rh rd speeds sf so sa sx sy trials ts tw tf te tg tl tc tx ty thought) d_X10_keep_42 44 rfl rfl rfl ⟨Nat.le_of_ble_eq_true rfl, Nat.le_of_ble_eq_true rfl⟩ ⟨Nat.le_of_ble_eq_true rfl, Nat.le_of_ble_eq_true rfl⟩ rfl (rest := []) (As := [.ref ring, .ref speeds, .ref trials, .ref thought]) rfl (Nat.le_of_ble_eq_true rfl) [44, 45, 46, 47, 48, 49, 50, 51, 52, 53, 54, 55, 56, 57, 16, 17, 18, 19, 20, 21, 22, 23, 24, 25, 26, 27, 28, 29] [0, 1, 2, 3, 4, 5, 6, 7, 8, 9, 10, 11, 12, 13, 14, 15, 30, 31, 32, 33, 34, 35, 36, 37, 38, 39, 40, 41, 42, 43] rfl (by decide) (wr := [(x, ob 10 [.ref told, .ref reader, .ref ring, .ref speeds, .ref wheel, .ref trials, .ref span, .ref search, .ref kept, .ref crosses, .ref trueM, .ref thought, .ref up, .ref low, .ref fits, .null]), (kept, aO G 3 (va_up (va_up (va_up (fun _ => none) 0 (some k0)) 1 (some k1)) 2 (some k2))), (k0, ob 2 [.int 0, .ref k0h, .ref k0t, .ref k0a, .ref k0r, .int 0, .int 0]), (k0h, aI G 16 (fun _ => 0)), (k0t, aI G 8 (fun _ => 0)), (k0a, ob 7 [.int 0, .ref k0af, .ref k0ao, .ref k0aa, .ref k0ax, .ref k0ay]), (k0ax, aI G 6 (fun _ => 0)), (k0ay, aI G 6 (fun _ => 0)), (k0aa, aZ G 6 (fun _ => 0)), (k0r, ob 9 [.int 0, .ref k0rs, .ref k0rw, .ref k0rf, .ref k0re, .ref k0rg, .ref k0rl, .ref k0rc, .ref k0rx, .ref k0ry]), (k0rs, aI G 12 (fun _ => 0)), (k0rf, aI G 12 (fun _ => 0)), (k0re, aI G 12 (fun _ => 0)), (k0rg, aI G 12 (fun _ => 0)), (k0rl, aI G 48 (fun _ => 0)), (k0rw, aZ G 12 (fun _ => 0)), (k1, ob 2 [.int 0, .ref k1h, .ref k1t, .ref k1a, .ref k1r, .int 0, .int 0]), (k1h, aI G 16 (fun _ => 0)), (k1t, aI G 8 (fun _ => 0)), (k1a, ob 7 [.int 0, .ref k1af, .ref k1ao, .ref k1aa, .ref k1ax, .ref k1ay]), (k1ax, aI G 6 (fun _ => 0)), (k1ay, aI G 6 (fun _ => 0)), (k1aa, aZ G 6 (fun _ => 0)), (k1r, ob 9 [.int 0, .ref k1rs, .ref k1rw, .ref k1rf, .ref k1re, .ref k1rg, .ref k1rl, .ref k1rc, .ref k1rx, .ref k1ry]), (k1rs, aI G 12 (fun _ => 0)), (k1rf, aI G 12 (fun _ => 0)), (k1re, aI G 12 (fun _ => 0)), (k1rg, aI G 12 (fun _ => 0)), (k1rl, aI G 48 (fun _ => 0)), (k1rw, aZ G 12 (fun _ => 0))]) rfl (by decide) (by decide) ?_
        rintro _ _ rfl
        refine Z.sub (lv' := [(0, .ref x), (1, .int 2)]) [0, 1] rfl [0, 1, 2, 3, 4, 5, 6, 7, 8, 9, 10, 11, 12, 13, 14, 15, 16, 17, 18, 19, 20, 21, 22, 23, 24, 25, 26, 27, 28, 29] (ws' := [(x, ob 10 [.ref told, .ref reader, .ref ring, .ref speeds, .ref wheel, .ref trials, .ref span, .ref search, .ref kept, .ref crosses, .ref trueM, .ref thought, .ref up, .ref low, .ref fits, .null]), (kept, aO G 3 (va_up (va_up (va_up (fun _ => none) 0 (some k0)) 1 (some k1)) 2 (some k2))), (k0, ob 2 [.int 0, .ref k0h, .ref k0t, .ref k0a, .ref k0r, .int 0, .int 0]), (k0h, aI G 16 (fun _ => 0)), (k0t, aI G 8 (fun _ => 0)), (k0a, ob 7 [.int 0, .ref k0af, .ref k0ao, .ref k0aa, .ref k0ax, .ref k0ay]), (k0ax, aI G 6 (fun _ => 0)), (k0ay, aI G 6 (fun _ => 0)), (k0aa, aZ G 6 (fun _ => 0)), (k0r, ob 9 [.int 0, .ref k0rs, .ref k0rw, .ref k0rf, .ref k0re, .ref k0rg, .ref k0rl, .ref k0rc, .ref k0rx, .ref k0ry]), (k0rs, aI G 12 (fun _ => 0)), (k0rf, aI G 12 (fun _ => 0)), (k0re, aI G 12 (fun _ => 0)), (k0rg, aI G 12 (fun _ => 0)), (k0rl, aI G 48 (fun _ => 0)), (k0rw, aZ G 12 (fun _ => 0)), (k1, ob 2 [.int 0, .ref k1h, .ref k1t, .ref k1a, .ref k1r, .int 0, .int 0]), (k1h, aI G 16 (fun _ => 0)), (k1t, aI G 8 (fun _ => 0)), (k1a, ob 7 [.int 0, .ref k1af, .ref k1ao, .ref k1aa, .ref k1ax, .ref k1ay]), (k1ax, aI G 6 (fun _ => 0)), (k1ay, aI G 6 (fun _ => 0)), (k1aa, aZ G 6 (fun _ => 0)), (k1r, ob 9 [.int 0, .ref k1rs, .ref k1rw, .ref k1rf, .ref k1re, .ref k1rg, .ref k1rl, .ref k1rc, .ref k1rx, .ref k1ry]), (k1rs, aI G 12 (fun _ => 0)), (k1rf, aI G 12 (fun _ => 0)), (k1re, aI G 12 (fun _ => 0)), (k1rg, aI G 12 (fun _ => 0)), (k1rl, aI G 48 (fun _ => 0)), (k1rw, aZ G 12 (fun _ => 0))]) rfl (by decide) ?_
        refine Z.at (pc' := 45) (st' := []) (ws' := [(x, ob 10 [.ref told, .ref reader, .ref ring, .ref speeds, .ref wheel, .ref trials, .ref span, .ref search, .ref kept, .ref crosses, .ref trueM, .ref thought, .ref up, .ref low, .ref fits, .null]), (kept, aO G 3 (va_up (va_up (va_up (fun _ => none) 0 (some k0)) 1 (some k1)) 2 (some k2))), (k0, ob 2 [.int 0, .ref k0h, .ref k0t, .ref k0a, .ref k0r, .int 0, .int 0]), (k0h, aI G 16 (fun _ => 0)), (k0t, aI G 8 (fun _ => 0)), (k0a, ob 7 [.int 0, .ref k0af, .ref k0ao, .ref k0aa, .ref k0ax, .ref k0ay]), (k0ax, aI G 6 (fun _ => 0)), (k0ay, aI G 6 (fun _ => 0)), (k0aa, aZ G 6 (fun _ => 0)), (k0r, ob 9 [.int 0, .ref k0rs, .ref k0rw, .ref k0rf, .ref k0re, .ref k0rg, .ref k0rl, .ref k0rc, .ref k0rx, .ref k0ry]), (k0rs, aI G 12 (fun _ => 0)), (k0rf, aI G 12 (fun _ => 0)), (k0re, aI G 12 (fun _ => 0)), (k0rg, aI G 12 (fun _ => 0)), (k0rl, aI G 48 (fun _ => 0)), (k0rw, aZ G 12 (fun _ => 0)), (k1, ob 2 [.int 0, .ref k1h, .ref k1t, .ref k1a, .ref k1r, .int 0, .int 0]), (k1h, aI G 16 (fun _ => 0)), (k1t, aI G 8 (fun _ => 0)), (k1a, ob 7 [.int 0, .ref k1af, .ref k1ao, .ref k1aa, .ref k1ax, .ref k1ay]), (k1ax, aI G 6 (fun _ => 0)), (k1ay, aI G 6 (fun _ => 0)), (k1aa, aZ G 6 (fun _ => 0)), (k1r, ob 9 [.int 0, .ref k1rs, .ref k1rw, .ref k1rf, .ref k1re, .ref k1rg, .ref k1rl, .ref k1rc, .ref k1rx, .ref k1ry]), (k1rs, aI G 12 (fun _ => 0)), (k1rf, aI G 12 (fun _ => 0)), (k1re, aI G 12 (fun _ => 0)), (k1rg, aI G 12 (fun _ => 0)), (k1rl, aI G 48 (fun _ => 0)), (k1rw, aZ G 12 (fun _ => 0))]) (kc' := 0) (ks' := 0) rfl rfl rfl rfl rfl ?_
        refine z_run X bb_X10_keep_45_46 bk_X10_keep_45_46 (lv' := [(0, .ref x), (1, .int 2)]) (st' := [.int 1]) rfl ?_
        exact z_zret X rfl rfl d_X10_keep_46 (Nat.le_of_ble_eq_true rfl) (Nat.le_of_ble_eq_true rfl) (congrArg (fun z => some (Value.int z)) (zb_t (by omega)).symm)

theorem d_X10_again_1 : decode cX10_again 1 = .ok (.ifCond .lt 29, 3) := by decide +kernel
theorem d_X10_again_31 : decode cX10_again 31 = .ok (.ireturn, 1) := by decide +kernel
theorem d_X10_again_6 : decode cX10_again 6 = .ok (.if_icmp .ge 24, 3) := by decide +kernel
theorem d_X10_again_10 : decode cX10_again 10 = .ok (.getfield 67, 3) := by decide +kernel
theorem d_X10_again_14 : decode cX10_again 14 = .ok (.aaload, 1) := by decide +kernel
theorem d_X10_again_15 : decode cX10_again 15 = .ok (.ifnull 15, 3) := by decide +kernel
theorem d_X10_again_19 : decode cX10_again 19 = .ok (.getfield 67, 3) := by decide +kernel
theorem d_X10_again_23 : decode cX10_again 23 = .ok (.aaload, 1) := by decide +kernel
theorem d_X10_again_24 : decode cX10_again 24 = .ok (.getfield 485, 3) := by decide +kernel
theorem d_X10_again_27 : decode cX10_again 27 = .ok (.ifCond .ne 5, 3) := by decide +kernel
abbrev bb_X10_again_0_1 : ZB := [(.iload_n 1, .null)]
theorem bk_X10_again_0_1 : zchk cX10_again bb_X10_again_0_1 0 = true ∧ zpc bb_X10_again_0_1 0 = 1 := ⟨by decide +kernel, rfl⟩
abbrev bb_X10_again_30_31 : ZB := [(.iconst 0, .int 0)]
theorem bk_X10_again_30_31 : zchk cX10_again bb_X10_again_30_31 30 = true ∧ zpc bb_X10_again_30_31 30 = 31 := ⟨by decide +kernel, rfl⟩
abbrev bb_X10_again_4_6 : ZB := [(.iload_n 1, .null), (.iconst 3, .int 3)]
theorem bk_X10_again_4_6 : zchk cX10_again bb_X10_again_4_6 4 = true ∧ zpc bb_X10_again_4_6 4 = 6 := ⟨by decide +kernel, rfl⟩
abbrev bb_X10_again_9_10 : ZB := [(.aload_n 0, .null)]
theorem bk_X10_again_9_10 : zchk cX10_again bb_X10_again_9_10 9 = true ∧ zpc bb_X10_again_9_10 9 = 10 := ⟨by decide +kernel, rfl⟩
abbrev bb_X10_again_13_14 : ZB := [(.iload_n 1, .null)]
theorem bk_X10_again_13_14 : zchk cX10_again bb_X10_again_13_14 13 = true ∧ zpc bb_X10_again_13_14 13 = 14 := ⟨by decide +kernel, rfl⟩
abbrev bb_X10_again_18_19 : ZB := [(.aload_n 0, .null)]
theorem bk_X10_again_18_19 : zchk cX10_again bb_X10_again_18_19 18 = true ∧ zpc bb_X10_again_18_19 18 = 19 := ⟨by decide +kernel, rfl⟩
abbrev bb_X10_again_22_23 : ZB := [(.iload_n 1, .null)]
theorem bk_X10_again_22_23 : zchk cX10_again bb_X10_again_22_23 22 = true ∧ zpc bb_X10_again_22_23 22 = 23 := ⟨by decide +kernel, rfl⟩
set_option maxHeartbeats 4000000 in
set_option maxRecDepth 100000 in
theorem c_X10_again (l : Launch) (G : KG) (x : Nat) (told : Nat) (reader : Nat) (ring : Nat) (speeds : Nat) (wheel : Nat) (trials : Nat) (span : Nat) (search : Nat) (kept : Nat) (crosses : Nat) (trueM : Nat) (thought : Nat) (up : Nat) (low : Nat) (fits : Nat) (k0 : Nat) (k1 : Nat) (k2 : Nat) (k0h : Nat) (k0t : Nat) (k0a : Nat) (k0r : Nat) (k1h : Nat) (k1t : Nat) (k1a : Nat) (k1r : Nat) (k2h : Nat) (k2t : Nat) (k2a : Nat) (k2r : Nat) (i : Int32) (ii : Int) (hi : i.toInt = ii) : Ct l G yX10_again cX10_again 2 (some .boolean) { frames := 0, cells := 0, slots := 0, locals := 0 } [.ref x, .int i] [(x, ob 10 [.ref told, .ref reader, .ref ring, .ref speeds, .ref wheel, .ref trials, .ref span, .ref search, .ref kept, .ref crosses, .ref trueM, .ref thought, .ref up, .ref low, .ref fits, .null]), (kept, aO G 3 (va_up (va_up (va_up (fun _ => none) 0 (some k0)) 1 (some k1)) 2 (some k2))), (k0, ob 2 [.int 0, .ref k0h, .ref k0t, .ref k0a, .ref k0r, .int 0, .int 0]), (k1, ob 2 [.int 0, .ref k1h, .ref k1t, .ref k1a, .ref k1r, .int 0, .int 0]), (k2, ob 2 [.int 0, .ref k2h, .ref k2t, .ref k2a, .ref k2r, .int 0, .int 0])] (fun r _ => r = some (.int 0)) := by
  refine ct_of [(0, .ref x), (1, .int i)] (by decide) (Nat.le_of_ble_eq_true rfl) rfl ?_
  intro p0 e0 s0 m0 args0 below0 meth0 c0 A X
  refine z_run X bb_X10_again_0_1 bk_X10_again_0_1 (lv' := [(0, .ref x), (1, .int i)]) (st' := [.int i]) rfl ?_
  refine zi_lt X d_X10_again_1 (tgt := 30) (by decide) (a := ii) hi (fun c1_1 => ?_) (fun c1_1 => ?_)
  ·
    refine z_run X bb_X10_again_30_31 bk_X10_again_30_31 (lv' := [(0, .ref x), (1, .int i)]) (st' := [.int 0]) rfl ?_
    exact z_zret X rfl rfl d_X10_again_31 (Nat.le_of_ble_eq_true rfl) (Nat.le_of_ble_eq_true rfl) rfl
  ·
    refine z_run X bb_X10_again_4_6 bk_X10_again_4_6 (lv' := [(0, .ref x), (1, .int i)]) (st' := [.int 3, .int i]) rfl ?_
    refine zc_ge X d_X10_again_6 (tgt := 30) (by decide) (a := ii) (b := 3) hi (show (3 : Int32).toInt = 3 from by decide) (fun c6_2 => ?_) (fun c6_2 => ?_)
    ·
      refine z_run X bb_X10_again_30_31 bk_X10_again_30_31 (lv' := [(0, .ref x), (1, .int i)]) (st' := [.int 0]) rfl ?_
      exact z_zret X rfl rfl d_X10_again_31 (Nat.le_of_ble_eq_true rfl) (Nat.le_of_ble_eq_true rfl) rfl
    ·
      rcases (show ii = 0 ∨ ii = 1 ∨ ii = 2 from by omega) with hs | hs | hs
      ·
        obtain rfl : i = 0 := i32_eq hi (by decide) hs
        refine z_run X bb_X10_again_9_10 bk_X10_again_9_10 (lv' := [(0, .ref x), (1, .int 0)]) (st' := [.ref x]) rfl ?_
        refine z_get X fl_10_67 d_X10_again_10 0 rfl (v := .ref kept) rfl ?_
        refine z_run X bb_X10_again_13_14 bk_X10_again_13_14 (lv' := [(0, .ref x), (1, .int 0)]) (st' := [.int 0, .ref kept]) rfl ?_
        refine z_oald X d_X10_again_14 1 rfl (show vp_in _ _ from by unfold vp_in; decide) (v := .ref k0) rfl ?_
        refine z_ifnull X d_X10_again_15 ?_
        refine z_run X bb_X10_again_18_19 bk_X10_again_18_19 (lv' := [(0, .ref x), (1, .int 0)]) (st' := [.ref x]) rfl ?_
        refine z_get X fl_10_67 d_X10_again_19 0 rfl (v := .ref kept) rfl ?_
        refine z_run X bb_X10_again_22_23 bk_X10_again_22_23 (lv' := [(0, .ref x), (1, .int 0)]) (st' := [.int 0, .ref kept]) rfl ?_
        refine z_oald X d_X10_again_23 1 rfl (show vp_in _ _ from by unfold vp_in; decide) (v := .ref k0) rfl ?_
        refine z_getN X fl_10_485 d_X10_again_24 2 rfl (v := .int 0) rfl ?_
        refine zi_ne X d_X10_again_27 (tgt := 32) (by decide) (a := 0) (show (0 : Int32).toInt = 0 from by decide) (fun c27_3 => absurd c27_3 (by decide)) (fun _ => ?_)
        refine z_run X bb_X10_again_30_31 bk_X10_again_30_31 (lv' := [(0, .ref x), (1, .int 0)]) (st' := [.int 0]) rfl ?_
        exact z_zret X rfl rfl d_X10_again_31 (Nat.le_of_ble_eq_true rfl) (Nat.le_of_ble_eq_true rfl) rfl
      ·
        obtain rfl : i = 1 := i32_eq hi (by decide) hs
        refine z_run X bb_X10_again_9_10 bk_X10_again_9_10 (lv' := [(0, .ref x), (1, .int 1)]) (st' := [.ref x]) rfl ?_
        refine z_get X fl_10_67 d_X10_again_10 0 rfl (v := .ref kept) rfl ?_
        refine z_run X bb_X10_again_13_14 bk_X10_again_13_14 (lv' := [(0, .ref x), (1, .int 1)]) (st' := [.int 1, .ref kept]) rfl ?_
        refine z_oald X d_X10_again_14 1 rfl (show vp_in _ _ from by unfold vp_in; decide) (v := .ref k1) rfl ?_
        refine z_ifnull X d_X10_again_15 ?_
        refine z_run X bb_X10_again_18_19 bk_X10_again_18_19 (lv' := [(0, .ref x), (1, .int 1)]) (st' := [.ref x]) rfl ?_
        refine z_get X fl_10_67 d_X10_again_19 0 rfl (v := .ref kept) rfl ?_
        refine z_run X bb_X10_again_22_23 bk_X10_again_22_23 (lv' := [(0, .ref x), (1, .int 1)]) (st' := [.int 1, .ref kept]) rfl ?_
        refine z_oald X d_X10_again_23 1 rfl (show vp_in _ _ from by unfold vp_in; decide) (v := .ref k1) rfl ?_
        refine z_getN X fl_10_485 d_X10_again_24 3 rfl (v := .int 0) rfl ?_
        refine zi_ne X d_X10_again_27 (tgt := 32) (by decide) (a := 0) (show (0 : Int32).toInt = 0 from by decide) (fun c27_4 => absurd c27_4 (by decide)) (fun _ => ?_)
        refine z_run X bb_X10_again_30_31 bk_X10_again_30_31 (lv' := [(0, .ref x), (1, .int 1)]) (st' := [.int 0]) rfl ?_
        exact z_zret X rfl rfl d_X10_again_31 (Nat.le_of_ble_eq_true rfl) (Nat.le_of_ble_eq_true rfl) rfl
      ·
        obtain rfl : i = 2 := i32_eq hi (by decide) hs
        refine z_run X bb_X10_again_9_10 bk_X10_again_9_10 (lv' := [(0, .ref x), (1, .int 2)]) (st' := [.ref x]) rfl ?_
        refine z_get X fl_10_67 d_X10_again_10 0 rfl (v := .ref kept) rfl ?_
        refine z_run X bb_X10_again_13_14 bk_X10_again_13_14 (lv' := [(0, .ref x), (1, .int 2)]) (st' := [.int 2, .ref kept]) rfl ?_
        refine z_oald X d_X10_again_14 1 rfl (show vp_in _ _ from by unfold vp_in; decide) (v := .ref k2) rfl ?_
        refine z_ifnull X d_X10_again_15 ?_
        refine z_run X bb_X10_again_18_19 bk_X10_again_18_19 (lv' := [(0, .ref x), (1, .int 2)]) (st' := [.ref x]) rfl ?_
        refine z_get X fl_10_67 d_X10_again_19 0 rfl (v := .ref kept) rfl ?_
        refine z_run X bb_X10_again_22_23 bk_X10_again_22_23 (lv' := [(0, .ref x), (1, .int 2)]) (st' := [.int 2, .ref kept]) rfl ?_
        refine z_oald X d_X10_again_23 1 rfl (show vp_in _ _ from by unfold vp_in; decide) (v := .ref k2) rfl ?_
        refine z_getN X fl_10_485 d_X10_again_24 4 rfl (v := .int 0) rfl ?_
        refine zi_ne X d_X10_again_27 (tgt := 32) (by decide) (a := 0) (show (0 : Int32).toInt = 0 from by decide) (fun c27_5 => absurd c27_5 (by decide)) (fun _ => ?_)
        refine z_run X bb_X10_again_30_31 bk_X10_again_30_31 (lv' := [(0, .ref x), (1, .int 2)]) (st' := [.int 0]) rfl ?_
        exact z_zret X rfl rfl d_X10_again_31 (Nat.le_of_ble_eq_true rfl) (Nat.le_of_ble_eq_true rfl) rfl
