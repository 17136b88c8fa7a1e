/-! whose of the class -/
theorem do_X10_partingOfSpeeds_1 : decode cX10_partingOfSpeeds 1 = .ok (.getfield 33, 3) := by decide +kernel
theorem do_X10_partingOfSpeeds_4 : decode cX10_partingOfSpeeds 4 = .ok (.getfield 195, 3) := by decide +kernel
theorem do_X10_partingOfSpeeds_8 : decode cX10_partingOfSpeeds 8 = .ok (.iaload, 1) := by decide +kernel
theorem do_X10_partingOfSpeeds_10 : decode cX10_partingOfSpeeds 10 = .ok (.getfield 33, 3) := by decide +kernel
theorem do_X10_partingOfSpeeds_13 : decode cX10_partingOfSpeeds 13 = .ok (.getfield 195, 3) := by decide +kernel
theorem do_X10_partingOfSpeeds_17 : decode cX10_partingOfSpeeds 17 = .ok (.iaload, 1) := by decide +kernel
theorem do_X10_partingOfSpeeds_23 : decode cX10_partingOfSpeeds 23 = .ok (.getfield 33, 3) := by decide +kernel
theorem do_X10_partingOfSpeeds_26 : decode cX10_partingOfSpeeds 26 = .ok (.getfield 195, 3) := by decide +kernel
theorem do_X10_partingOfSpeeds_30 : decode cX10_partingOfSpeeds 30 = .ok (.iaload, 1) := by decide +kernel
theorem do_X10_partingOfSpeeds_32 : decode cX10_partingOfSpeeds 32 = .ok (.getfield 33, 3) := by decide +kernel
theorem do_X10_partingOfSpeeds_35 : decode cX10_partingOfSpeeds 35 = .ok (.getfield 195, 3) := by decide +kernel
theorem do_X10_partingOfSpeeds_39 : decode cX10_partingOfSpeeds 39 = .ok (.iaload, 1) := by decide +kernel
theorem do_X10_partingOfSpeeds_45 : decode cX10_partingOfSpeeds 45 = .ok (.getfield 33, 3) := by decide +kernel
theorem do_X10_partingOfSpeeds_48 : decode cX10_partingOfSpeeds 48 = .ok (.getfield 202, 3) := by decide +kernel
theorem do_X10_partingOfSpeeds_52 : decode cX10_partingOfSpeeds 52 = .ok (.iaload, 1) := by decide +kernel
theorem do_X10_partingOfSpeeds_54 : decode cX10_partingOfSpeeds 54 = .ok (.getfield 33, 3) := by decide +kernel
theorem do_X10_partingOfSpeeds_57 : decode cX10_partingOfSpeeds 57 = .ok (.getfield 202, 3) := by decide +kernel
theorem do_X10_partingOfSpeeds_61 : decode cX10_partingOfSpeeds 61 = .ok (.iaload, 1) := by decide +kernel
theorem do_X10_partingOfSpeeds_67 : decode cX10_partingOfSpeeds 67 = .ok (.getfield 33, 3) := by decide +kernel
theorem do_X10_partingOfSpeeds_70 : decode cX10_partingOfSpeeds 70 = .ok (.getfield 202, 3) := by decide +kernel
theorem do_X10_partingOfSpeeds_74 : decode cX10_partingOfSpeeds 74 = .ok (.iaload, 1) := by decide +kernel
theorem do_X10_partingOfSpeeds_76 : decode cX10_partingOfSpeeds 76 = .ok (.getfield 33, 3) := by decide +kernel
theorem do_X10_partingOfSpeeds_79 : decode cX10_partingOfSpeeds 79 = .ok (.getfield 202, 3) := by decide +kernel
theorem do_X10_partingOfSpeeds_83 : decode cX10_partingOfSpeeds 83 = .ok (.iaload, 1) := by decide +kernel
theorem do_X10_partingOfSpeeds_99 : decode cX10_partingOfSpeeds 99 = .ok (.lreturn, 1) := by decide +kernel
abbrev bo_X10_partingOfSpeeds_0_1 : ZB := [(.aload_n 0, .null)]
theorem ko_X10_partingOfSpeeds_0_1 : zchk cX10_partingOfSpeeds bo_X10_partingOfSpeeds_0_1 0 = true ∧ zpc bo_X10_partingOfSpeeds_0_1 0 = 1 := ⟨by decide +kernel, rfl⟩
abbrev bo_X10_partingOfSpeeds_7_8 : ZB := [(.iload_n 2, .null)]
theorem ko_X10_partingOfSpeeds_7_8 : zchk cX10_partingOfSpeeds bo_X10_partingOfSpeeds_7_8 7 = true ∧ zpc bo_X10_partingOfSpeeds_7_8 7 = 8 := ⟨by decide +kernel, rfl⟩
abbrev bo_X10_partingOfSpeeds_9_10 : ZB := [(.aload_n 0, .null)]
theorem ko_X10_partingOfSpeeds_9_10 : zchk cX10_partingOfSpeeds bo_X10_partingOfSpeeds_9_10 9 = true ∧ zpc bo_X10_partingOfSpeeds_9_10 9 = 10 := ⟨by decide +kernel, rfl⟩
abbrev bo_X10_partingOfSpeeds_16_17 : ZB := [(.iload_n 1, .null)]
theorem ko_X10_partingOfSpeeds_16_17 : zchk cX10_partingOfSpeeds bo_X10_partingOfSpeeds_16_17 16 = true ∧ zpc bo_X10_partingOfSpeeds_16_17 16 = 17 := ⟨by decide +kernel, rfl⟩
abbrev bo_X10_partingOfSpeeds_18_23 : ZB := [(.isub, .null), (.i2l, .null), (.lstore 4, .null), (.aload_n 0, .null)]
theorem ko_X10_partingOfSpeeds_18_23 : zchk cX10_partingOfSpeeds bo_X10_partingOfSpeeds_18_23 18 = true ∧ zpc bo_X10_partingOfSpeeds_18_23 18 = 23 := ⟨by decide +kernel, rfl⟩
abbrev bo_X10_partingOfSpeeds_29_30 : ZB := [(.iload_n 3, .null)]
theorem ko_X10_partingOfSpeeds_29_30 : zchk cX10_partingOfSpeeds bo_X10_partingOfSpeeds_29_30 29 = true ∧ zpc bo_X10_partingOfSpeeds_29_30 29 = 30 := ⟨by decide +kernel, rfl⟩
abbrev bo_X10_partingOfSpeeds_31_32 : ZB := [(.aload_n 0, .null)]
theorem ko_X10_partingOfSpeeds_31_32 : zchk cX10_partingOfSpeeds bo_X10_partingOfSpeeds_31_32 31 = true ∧ zpc bo_X10_partingOfSpeeds_31_32 31 = 32 := ⟨by decide +kernel, rfl⟩
abbrev bo_X10_partingOfSpeeds_38_39 : ZB := [(.iload_n 1, .null)]
theorem ko_X10_partingOfSpeeds_38_39 : zchk cX10_partingOfSpeeds bo_X10_partingOfSpeeds_38_39 38 = true ∧ zpc bo_X10_partingOfSpeeds_38_39 38 = 39 := ⟨by decide +kernel, rfl⟩
abbrev bo_X10_partingOfSpeeds_40_45 : ZB := [(.isub, .null), (.i2l, .null), (.lstore 6, .null), (.aload_n 0, .null)]
theorem ko_X10_partingOfSpeeds_40_45 : zchk cX10_partingOfSpeeds bo_X10_partingOfSpeeds_40_45 40 = true ∧ zpc bo_X10_partingOfSpeeds_40_45 40 = 45 := ⟨by decide +kernel, rfl⟩
abbrev bo_X10_partingOfSpeeds_51_52 : ZB := [(.iload_n 2, .null)]
theorem ko_X10_partingOfSpeeds_51_52 : zchk cX10_partingOfSpeeds bo_X10_partingOfSpeeds_51_52 51 = true ∧ zpc bo_X10_partingOfSpeeds_51_52 51 = 52 := ⟨by decide +kernel, rfl⟩
abbrev bo_X10_partingOfSpeeds_53_54 : ZB := [(.aload_n 0, .null)]
theorem ko_X10_partingOfSpeeds_53_54 : zchk cX10_partingOfSpeeds bo_X10_partingOfSpeeds_53_54 53 = true ∧ zpc bo_X10_partingOfSpeeds_53_54 53 = 54 := ⟨by decide +kernel, rfl⟩
abbrev bo_X10_partingOfSpeeds_60_61 : ZB := [(.iload_n 1, .null)]
theorem ko_X10_partingOfSpeeds_60_61 : zchk cX10_partingOfSpeeds bo_X10_partingOfSpeeds_60_61 60 = true ∧ zpc bo_X10_partingOfSpeeds_60_61 60 = 61 := ⟨by decide +kernel, rfl⟩
abbrev bo_X10_partingOfSpeeds_62_67 : ZB := [(.isub, .null), (.i2l, .null), (.lstore 8, .null), (.aload_n 0, .null)]
theorem ko_X10_partingOfSpeeds_62_67 : zchk cX10_partingOfSpeeds bo_X10_partingOfSpeeds_62_67 62 = true ∧ zpc bo_X10_partingOfSpeeds_62_67 62 = 67 := ⟨by decide +kernel, rfl⟩
abbrev bo_X10_partingOfSpeeds_73_74 : ZB := [(.iload_n 3, .null)]
theorem ko_X10_partingOfSpeeds_73_74 : zchk cX10_partingOfSpeeds bo_X10_partingOfSpeeds_73_74 73 = true ∧ zpc bo_X10_partingOfSpeeds_73_74 73 = 74 := ⟨by decide +kernel, rfl⟩
abbrev bo_X10_partingOfSpeeds_75_76 : ZB := [(.aload_n 0, .null)]
theorem ko_X10_partingOfSpeeds_75_76 : zchk cX10_partingOfSpeeds bo_X10_partingOfSpeeds_75_76 75 = true ∧ zpc bo_X10_partingOfSpeeds_75_76 75 = 76 := ⟨by decide +kernel, rfl⟩
abbrev bo_X10_partingOfSpeeds_82_83 : ZB := [(.iload_n 1, .null)]
theorem ko_X10_partingOfSpeeds_82_83 : zchk cX10_partingOfSpeeds bo_X10_partingOfSpeeds_82_83 82 = true ∧ zpc bo_X10_partingOfSpeeds_82_83 82 = 83 := ⟨by decide +kernel, rfl⟩
abbrev bo_X10_partingOfSpeeds_84_99 : ZB := [(.isub, .null), (.i2l, .null), (.lstore 10, .null), (.lload 4, .null), (.lload 10, .null), (.lmul, .null), (.lload 6, .null), (.lload 8, .null), (.lmul, .null), (.lsub, .null)]
theorem ko_X10_partingOfSpeeds_84_99 : zchk cX10_partingOfSpeeds bo_X10_partingOfSpeeds_84_99 84 = true ∧ zpc bo_X10_partingOfSpeeds_84_99 84 = 99 := ⟨by decide +kernel, rfl⟩
set_option maxHeartbeats 4000000 in
set_option maxRecDepth 100000 in
theorem co_X10_partingOfSpeeds (l : Launch) (G : KG) (x : Nat) (told : Nat) (x_reader : Value) (x_ring : Value) (speeds : Nat) (x_wheel : Value) (x_trials : Value) (x_span : Value) (x_search : Value) (x_kept : Value) (x_crosses : Value) (x_trueMasses : Value) (x_thought : Value) (x_up : Value) (x_low : Value) (x_fits : Value) (x_pulls : Value) (sc : Int32) (sf : Nat) (so : Nat) (sX2 : Value) (sX3 : Value) (sX4 : Value) (ff : Nat → Int32) (fo : Nat → Int32) (uq : Int32) (vq : Int32) (wq : Int32) (ui : Int) (vi : Int) (wi : Int) (huq : uq.toInt = ui) (hvq : vq.toInt = vi) (hwq : wq.toInt = wi) (hi0 : 0 ≤ ui ∧ ui < 6 ∧ 0 ≤ vi ∧ vi < 6 ∧ 0 ≤ wi ∧ wi < 6) : Ct l G yX10_partingOfSpeeds cX10_partingOfSpeeds 12 (some .long) { frames := 0, cells := 0, slots := 0, locals := 0 } [.ref x, .int uq, .int vq, .int wq] [(x, ob 10 [.ref told, x_reader, x_ring, .ref speeds, x_wheel, x_trials, x_span, x_search, x_kept, x_crosses, x_trueMasses, x_thought, x_up, x_low, x_fits, x_pulls]), (speeds, ob 7 [.int sc, .ref sf, .ref so, sX2, sX3, sX4]), (sf, aI G 6 ff), (so, aI G 6 fo)] (fun r w1 => ∃ (rz : Int64), (rz = (((ff vq.toNatClampNeg) - (ff uq.toNatClampNeg)).toInt64 * ((fo wq.toNatClampNeg) - (fo uq.toNatClampNeg)).toInt64 - ((ff wq.toNatClampNeg) - (ff uq.toNatClampNeg)).toInt64 * ((fo vq.toNatClampNeg) - (fo uq.toNatClampNeg)).toInt64)) ∧ r = some (.long rz) ∧ w1 = [(x, ob 10 [.ref told, x_reader, x_ring, .ref speeds, x_wheel, x_trials, x_span, x_search, x_kept, x_crosses, x_trueMasses, x_thought, x_up, x_low, x_fits, x_pulls]), (speeds, ob 7 [.int sc, .ref sf, .ref so, sX2, sX3, sX4]), (sf, aI G 6 ff), (so, aI G 6 fo)]) := by
  refine ct_of [(0, .ref x), (1, .int uq), (2, .int vq), (3, .int wq)] (by decide) (Nat.le_of_ble_eq_true rfl) rfl ?_
  intro p0 e0 s0 m0 args0 below0 meth0 c0 A X
  refine z_run X bo_X10_partingOfSpeeds_0_1 ko_X10_partingOfSpeeds_0_1 (lv' := [(0, .ref x), (1, .int uq), (2, .int vq), (3, .int wq)]) (st' := [.ref x]) rfl ?_
  refine z_get X fl_10_33 do_X10_partingOfSpeeds_1 0 rfl (v := .ref speeds) rfl ?_
  refine z_getN X fl_10_195 do_X10_partingOfSpeeds_4 1 rfl (v := .ref sf) rfl ?_
  refine z_run X bo_X10_partingOfSpeeds_7_8 ko_X10_partingOfSpeeds_7_8 (lv' := [(0, .ref x), (1, .int uq), (2, .int vq), (3, .int wq)]) (st' := [.int vq, .ref sf]) rfl ?_
  refine z_iald X do_X10_partingOfSpeeds_8 2 rfl (vin hvq (by omega) (by omega)) (v := (ff vq.toNatClampNeg)) rfl ?_
  refine z_run X bo_X10_partingOfSpeeds_9_10 ko_X10_partingOfSpeeds_9_10 (lv' := [(0, .ref x), (1, .int uq), (2, .int vq), (3, .int wq)]) (st' := [.ref x, .int (ff vq.toNatClampNeg)]) rfl ?_
  refine z_get X fl_10_33 do_X10_partingOfSpeeds_10 0 rfl (v := .ref speeds) rfl ?_
  refine z_getN X fl_10_195 do_X10_partingOfSpeeds_13 1 rfl (v := .ref sf) rfl ?_
  refine z_run X bo_X10_partingOfSpeeds_16_17 ko_X10_partingOfSpeeds_16_17 (lv' := [(0, .ref x), (1, .int uq), (2, .int vq), (3, .int wq)]) (st' := [.int uq, .ref sf, .int (ff vq.toNatClampNeg)]) rfl ?_
  refine z_iald X do_X10_partingOfSpeeds_17 2 rfl (vin huq (by omega) (by omega)) (v := (ff uq.toNatClampNeg)) rfl ?_
  refine z_run X bo_X10_partingOfSpeeds_18_23 ko_X10_partingOfSpeeds_18_23 (lv' := [(4, .long ((ff vq.toNatClampNeg) - (ff uq.toNatClampNeg)).toInt64), (0, .ref x), (1, .int uq), (2, .int vq), (3, .int wq)]) (st' := [.ref x]) rfl ?_
  refine z_get X fl_10_33 do_X10_partingOfSpeeds_23 0 rfl (v := .ref speeds) rfl ?_
  refine z_getN X fl_10_195 do_X10_partingOfSpeeds_26 1 rfl (v := .ref sf) rfl ?_
  refine z_run X bo_X10_partingOfSpeeds_29_30 ko_X10_partingOfSpeeds_29_30 (lv' := [(4, .long ((ff vq.toNatClampNeg) - (ff uq.toNatClampNeg)).toInt64), (0, .ref x), (1, .int uq), (2, .int vq), (3, .int wq)]) (st' := [.int wq, .ref sf]) rfl ?_
  refine z_iald X do_X10_partingOfSpeeds_30 2 rfl (vin hwq (by omega) (by omega)) (v := (ff wq.toNatClampNeg)) rfl ?_
  refine z_run X bo_X10_partingOfSpeeds_31_32 ko_X10_partingOfSpeeds_31_32 (lv' := [(4, .long ((ff vq.toNatClampNeg) - (ff uq.toNatClampNeg)).toInt64), (0, .ref x), (1, .int uq), (2, .int vq), (3, .int wq)]) (st' := [.ref x, .int (ff wq.toNatClampNeg)]) rfl ?_
  refine z_get X fl_10_33 do_X10_partingOfSpeeds_32 0 rfl (v := .ref speeds) rfl ?_
  refine z_getN X fl_10_195 do_X10_partingOfSpeeds_35 1 rfl (v := .ref sf) rfl ?_
  refine z_run X bo_X10_partingOfSpeeds_38_39 ko_X10_partingOfSpeeds_38_39 (lv' := [(4, .long ((ff vq.toNatClampNeg) - (ff uq.toNatClampNeg)).toInt64), (0, .ref x), (1, .int uq), (2, .int vq), (3, .int wq)]) (st' := [.int uq, .ref sf, .int (ff wq.toNatClampNeg)]) rfl ?_
  refine z_iald X do_X10_partingOfSpeeds_39 2 rfl (vin huq (by omega) (by omega)) (v := (ff uq.toNatClampNeg)) rfl ?_
  refine z_run X bo_X10_partingOfSpeeds_40_45 ko_X10_partingOfSpeeds_40_45 (lv' := [(6, .long ((ff wq.toNatClampNeg) - (ff uq.toNatClampNeg)).toInt64), (4, .long ((ff vq.toNatClampNeg) - (ff uq.toNatClampNeg)).toInt64), (0, .ref x), (1, .int uq), (2, .int vq), (3, .int wq)]) (st' := [.ref x]) rfl ?_
  refine z_get X fl_10_33 do_X10_partingOfSpeeds_45 0 rfl (v := .ref speeds) rfl ?_
  refine z_getN X fl_10_202 do_X10_partingOfSpeeds_48 1 rfl (v := .ref so) rfl ?_
  refine z_run X bo_X10_partingOfSpeeds_51_52 ko_X10_partingOfSpeeds_51_52 (lv' := [(6, .long ((ff wq.toNatClampNeg) - (ff uq.toNatClampNeg)).toInt64), (4, .long ((ff vq.toNatClampNeg) - (ff uq.toNatClampNeg)).toInt64), (0, .ref x), (1, .int uq), (2, .int vq), (3, .int wq)]) (st' := [.int vq, .ref so]) rfl ?_
  refine z_iald X do_X10_partingOfSpeeds_52 3 rfl (vin hvq (by omega) (by omega)) (v := (fo vq.toNatClampNeg)) rfl ?_
  refine z_run X bo_X10_partingOfSpeeds_53_54 ko_X10_partingOfSpeeds_53_54 (lv' := [(6, .long ((ff wq.toNatClampNeg) - (ff uq.toNatClampNeg)).toInt64), (4, .long ((ff vq.toNatClampNeg) - (ff uq.toNatClampNeg)).toInt64), (0, .ref x), (1, .int uq), (2, .int vq), (3, .int wq)]) (st' := [.ref x, .int (fo vq.toNatClampNeg)]) rfl ?_
  refine z_get X fl_10_33 do_X10_partingOfSpeeds_54 0 rfl (v := .ref speeds) rfl ?_
  refine z_getN X fl_10_202 do_X10_partingOfSpeeds_57 1 rfl (v := .ref so) rfl ?_
  refine z_run X bo_X10_partingOfSpeeds_60_61 ko_X10_partingOfSpeeds_60_61 (lv' := [(6, .long ((ff wq.toNatClampNeg) - (ff uq.toNatClampNeg)).toInt64), (4, .long ((ff vq.toNatClampNeg) - (ff uq.toNatClampNeg)).toInt64), (0, .ref x), (1, .int uq), (2, .int vq), (3, .int wq)]) (st' := [.int uq, .ref so, .int (fo vq.toNatClampNeg)]) rfl ?_
  refine z_iald X do_X10_partingOfSpeeds_61 3 rfl (vin huq (by omega) (by omega)) (v := (fo uq.toNatClampNeg)) rfl ?_
  refine z_run X bo_X10_partingOfSpeeds_62_67 ko_X10_partingOfSpeeds_62_67 (lv' := [(8, .long ((fo vq.toNatClampNeg) - (fo uq.toNatClampNeg)).toInt64), (6, .long ((ff wq.toNatClampNeg) - (ff uq.toNatClampNeg)).toInt64), (4, .long ((ff vq.toNatClampNeg) - (ff uq.toNatClampNeg)).toInt64), (0, .ref x), (1, .int uq), (2, .int vq), (3, .int wq)]) (st' := [.ref x]) rfl ?_
  refine z_get X fl_10_33 do_X10_partingOfSpeeds_67 0 rfl (v := .ref speeds) rfl ?_
  refine z_getN X fl_10_202 do_X10_partingOfSpeeds_70 1 rfl (v := .ref so) rfl ?_
  refine z_run X bo_X10_partingOfSpeeds_73_74 ko_X10_partingOfSpeeds_73_74 (lv' := [(8, .long ((fo vq.toNatClampNeg) - (fo uq.toNatClampNeg)).toInt64), (6, .long ((ff wq.toNatClampNeg) - (ff uq.toNatClampNeg)).toInt64), (4, .long ((ff vq.toNatClampNeg) - (ff uq.toNatClampNeg)).toInt64), (0, .ref x), (1, .int uq), (2, .int vq), (3, .int wq)]) (st' := [.int wq, .ref so]) rfl ?_
  refine z_iald X do_X10_partingOfSpeeds_74 3 rfl (vin hwq (by omega) (by omega)) (v := (fo wq.toNatClampNeg)) rfl ?_
  refine z_run X bo_X10_partingOfSpeeds_75_76 ko_X10_partingOfSpeeds_75_76 (lv' := [(8, .long ((fo vq.toNatClampNeg) - (fo uq.toNatClampNeg)).toInt64), (6, .long ((ff wq.toNatClampNeg) - (ff uq.toNatClampNeg)).toInt64), (4, .long ((ff vq.toNatClampNeg) - (ff uq.toNatClampNeg)).toInt64), (0, .ref x), (1, .int uq), (2, .int vq), (3, .int wq)]) (st' := [.ref x, .int (fo wq.toNatClampNeg)]) rfl ?_
  refine z_get X fl_10_33 do_X10_partingOfSpeeds_76 0 rfl (v := .ref speeds) rfl ?_
  refine z_getN X fl_10_202 do_X10_partingOfSpeeds_79 1 rfl (v := .ref so) rfl ?_
  refine z_run X bo_X10_partingOfSpeeds_82_83 ko_X10_partingOfSpeeds_82_83 (lv' := [(8, .long ((fo vq.toNatClampNeg) - (fo uq.toNatClampNeg)).toInt64), (6, .long ((ff wq.toNatClampNeg) - (ff uq.toNatClampNeg)).toInt64), (4, .long ((ff vq.toNatClampNeg) - (ff uq.toNatClampNeg)).toInt64), (0, .ref x), (1, .int uq), (2, .int vq), (3, .int wq)]) (st' := [.int uq, .ref so, .int (fo wq.toNatClampNeg)]) rfl ?_
  refine z_iald X do_X10_partingOfSpeeds_83 3 rfl (vin huq (by omega) (by omega)) (v := (fo uq.toNatClampNeg)) rfl ?_
  refine z_run X bo_X10_partingOfSpeeds_84_99 ko_X10_partingOfSpeeds_84_99 (lv' := [(10, .long ((fo wq.toNatClampNeg) - (fo uq.toNatClampNeg)).toInt64), (8, .long ((fo vq.toNatClampNeg) - (fo uq.toNatClampNeg)).toInt64), (6, .long ((ff wq.toNatClampNeg) - (ff uq.toNatClampNeg)).toInt64), (4, .long ((ff vq.toNatClampNeg) - (ff uq.toNatClampNeg)).toInt64), (0, .ref x), (1, .int uq), (2, .int vq), (3, .int wq)]) (st' := [.long ((((ff vq.toNatClampNeg) - (ff uq.toNatClampNeg)).toInt64 * ((fo wq.toNatClampNeg) - (fo uq.toNatClampNeg)).toInt64) - (((ff wq.toNatClampNeg) - (ff uq.toNatClampNeg)).toInt64 * ((fo vq.toNatClampNeg) - (fo uq.toNatClampNeg)).toInt64))]) rfl ?_
  exact z_lret X rfl do_X10_partingOfSpeeds_99 (Nat.le_of_ble_eq_true rfl) (Nat.le_of_ble_eq_true rfl) ⟨((((ff vq.toNatClampNeg) - (ff uq.toNatClampNeg)).toInt64 * ((fo wq.toNatClampNeg) - (fo uq.toNatClampNeg)).toInt64) - (((ff wq.toNatClampNeg) - (ff uq.toNatClampNeg)).toInt64 * ((fo vq.toNatClampNeg) - (fo uq.toNatClampNeg)).toInt64)), rfl, rfl, rfl⟩

theorem do_X10_tellThree_4 : decode cX10_tellThree 4 = .ok (.invokevirtual 435, 3) := by decide +kernel
theorem do_X10_tellThree_10 : decode cX10_tellThree 10 = .ok (.getfield 33, 3) := by decide +kernel
theorem do_X10_tellThree_13 : decode cX10_tellThree 13 = .ok (.getfield 195, 3) := by decide +kernel
theorem do_X10_tellThree_17 : decode cX10_tellThree 17 = .ok (.iaload, 1) := by decide +kernel
theorem do_X10_tellThree_19 : decode cX10_tellThree 19 = .ok (.getfield 33, 3) := by decide +kernel
theorem do_X10_tellThree_22 : decode cX10_tellThree 22 = .ok (.getfield 195, 3) := by decide +kernel
theorem do_X10_tellThree_26 : decode cX10_tellThree 26 = .ok (.iaload, 1) := by decide +kernel
theorem do_X10_tellThree_32 : decode cX10_tellThree 32 = .ok (.getfield 33, 3) := by decide +kernel
theorem do_X10_tellThree_35 : decode cX10_tellThree 35 = .ok (.getfield 195, 3) := by decide +kernel
theorem do_X10_tellThree_39 : decode cX10_tellThree 39 = .ok (.iaload, 1) := by decide +kernel
theorem do_X10_tellThree_41 : decode cX10_tellThree 41 = .ok (.getfield 33, 3) := by decide +kernel
theorem do_X10_tellThree_44 : decode cX10_tellThree 44 = .ok (.getfield 195, 3) := by decide +kernel
theorem do_X10_tellThree_48 : decode cX10_tellThree 48 = .ok (.iaload, 1) := by decide +kernel
theorem do_X10_tellThree_54 : decode cX10_tellThree 54 = .ok (.getfield 33, 3) := by decide +kernel
theorem do_X10_tellThree_57 : decode cX10_tellThree 57 = .ok (.getfield 202, 3) := by decide +kernel
theorem do_X10_tellThree_61 : decode cX10_tellThree 61 = .ok (.iaload, 1) := by decide +kernel
theorem do_X10_tellThree_63 : decode cX10_tellThree 63 = .ok (.getfield 33, 3) := by decide +kernel
theorem do_X10_tellThree_66 : decode cX10_tellThree 66 = .ok (.getfield 202, 3) := by decide +kernel
theorem do_X10_tellThree_70 : decode cX10_tellThree 70 = .ok (.iaload, 1) := by decide +kernel
theorem do_X10_tellThree_76 : decode cX10_tellThree 76 = .ok (.getfield 33, 3) := by decide +kernel
theorem do_X10_tellThree_79 : decode cX10_tellThree 79 = .ok (.getfield 202, 3) := by decide +kernel
theorem do_X10_tellThree_83 : decode cX10_tellThree 83 = .ok (.iaload, 1) := by decide +kernel
theorem do_X10_tellThree_85 : decode cX10_tellThree 85 = .ok (.getfield 33, 3) := by decide +kernel
theorem do_X10_tellThree_88 : decode cX10_tellThree 88 = .ok (.getfield 202, 3) := by decide +kernel
theorem do_X10_tellThree_92 : decode cX10_tellThree 92 = .ok (.iaload, 1) := by decide +kernel
theorem do_X10_tellThree_136 : decode cX10_tellThree 136 = .ok (.getfield 12, 3) := by decide +kernel
theorem do_X10_tellThree_143 : decode cX10_tellThree 143 = .ok (.invokevirtual 408, 3) := by decide +kernel
theorem do_X10_tellThree_147 : decode cX10_tellThree 147 = .ok (.getfield 12, 3) := by decide +kernel
theorem do_X10_tellThree_154 : decode cX10_tellThree 154 = .ok (.invokevirtual 408, 3) := by decide +kernel
theorem do_X10_tellThree_158 : decode cX10_tellThree 158 = .ok (.getfield 12, 3) := by decide +kernel
theorem do_X10_tellThree_167 : decode cX10_tellThree 167 = .ok (.getfield 33, 3) := by decide +kernel
theorem do_X10_tellThree_170 : decode cX10_tellThree 170 = .ok (.getfield 195, 3) := by decide +kernel
theorem do_X10_tellThree_174 : decode cX10_tellThree 174 = .ok (.iaload, 1) := by decide +kernel
theorem do_X10_tellThree_181 : decode cX10_tellThree 181 = .ok (.getfield 33, 3) := by decide +kernel
theorem do_X10_tellThree_184 : decode cX10_tellThree 184 = .ok (.getfield 202, 3) := by decide +kernel
theorem do_X10_tellThree_188 : decode cX10_tellThree 188 = .ok (.iaload, 1) := by decide +kernel
theorem do_X10_tellThree_196 : decode cX10_tellThree 196 = .ok (.invokevirtual 408, 3) := by decide +kernel
theorem do_X10_tellThree_199 : decode cX10_tellThree 199 = .ok (.return_, 1) := by decide +kernel
abbrev bo_X10_tellThree_0_4 : ZB := [(.aload_n 0, .null), (.iload_n 1, .null), (.iload_n 2, .null), (.iload_n 3, .null)]
theorem ko_X10_tellThree_0_4 : zchk cX10_tellThree bo_X10_tellThree_0_4 0 = true ∧ zpc bo_X10_tellThree_0_4 0 = 4 := ⟨by decide +kernel, rfl⟩
abbrev bo_X10_tellThree_7_10 : ZB := [(.lstore 10, .null), (.aload_n 0, .null)]
theorem ko_X10_tellThree_7_10 : zchk cX10_tellThree bo_X10_tellThree_7_10 7 = true ∧ zpc bo_X10_tellThree_7_10 7 = 10 := ⟨by decide +kernel, rfl⟩
abbrev bo_X10_tellThree_16_17 : ZB := [(.iload_n 2, .null)]
theorem ko_X10_tellThree_16_17 : zchk cX10_tellThree bo_X10_tellThree_16_17 16 = true ∧ zpc bo_X10_tellThree_16_17 16 = 17 := ⟨by decide +kernel, rfl⟩
abbrev bo_X10_tellThree_18_19 : ZB := [(.aload_n 0, .null)]
theorem ko_X10_tellThree_18_19 : zchk cX10_tellThree bo_X10_tellThree_18_19 18 = true ∧ zpc bo_X10_tellThree_18_19 18 = 19 := ⟨by decide +kernel, rfl⟩
abbrev bo_X10_tellThree_25_26 : ZB := [(.iload_n 1, .null)]
theorem ko_X10_tellThree_25_26 : zchk cX10_tellThree bo_X10_tellThree_25_26 25 = true ∧ zpc bo_X10_tellThree_25_26 25 = 26 := ⟨by decide +kernel, rfl⟩
abbrev bo_X10_tellThree_27_32 : ZB := [(.isub, .null), (.i2l, .null), (.lstore 12, .null), (.aload_n 0, .null)]
theorem ko_X10_tellThree_27_32 : zchk cX10_tellThree bo_X10_tellThree_27_32 27 = true ∧ zpc bo_X10_tellThree_27_32 27 = 32 := ⟨by decide +kernel, rfl⟩
abbrev bo_X10_tellThree_38_39 : ZB := [(.iload_n 3, .null)]
theorem ko_X10_tellThree_38_39 : zchk cX10_tellThree bo_X10_tellThree_38_39 38 = true ∧ zpc bo_X10_tellThree_38_39 38 = 39 := ⟨by decide +kernel, rfl⟩
abbrev bo_X10_tellThree_40_41 : ZB := [(.aload_n 0, .null)]
theorem ko_X10_tellThree_40_41 : zchk cX10_tellThree bo_X10_tellThree_40_41 40 = true ∧ zpc bo_X10_tellThree_40_41 40 = 41 := ⟨by decide +kernel, rfl⟩
abbrev bo_X10_tellThree_47_48 : ZB := [(.iload_n 1, .null)]
theorem ko_X10_tellThree_47_48 : zchk cX10_tellThree bo_X10_tellThree_47_48 47 = true ∧ zpc bo_X10_tellThree_47_48 47 = 48 := ⟨by decide +kernel, rfl⟩
abbrev bo_X10_tellThree_49_54 : ZB := [(.isub, .null), (.i2l, .null), (.lstore 14, .null), (.aload_n 0, .null)]
theorem ko_X10_tellThree_49_54 : zchk cX10_tellThree bo_X10_tellThree_49_54 49 = true ∧ zpc bo_X10_tellThree_49_54 49 = 54 := ⟨by decide +kernel, rfl⟩
abbrev bo_X10_tellThree_60_61 : ZB := [(.iload_n 2, .null)]
theorem ko_X10_tellThree_60_61 : zchk cX10_tellThree bo_X10_tellThree_60_61 60 = true ∧ zpc bo_X10_tellThree_60_61 60 = 61 := ⟨by decide +kernel, rfl⟩
abbrev bo_X10_tellThree_62_63 : ZB := [(.aload_n 0, .null)]
theorem ko_X10_tellThree_62_63 : zchk cX10_tellThree bo_X10_tellThree_62_63 62 = true ∧ zpc bo_X10_tellThree_62_63 62 = 63 := ⟨by decide +kernel, rfl⟩
abbrev bo_X10_tellThree_69_70 : ZB := [(.iload_n 1, .null)]
theorem ko_X10_tellThree_69_70 : zchk cX10_tellThree bo_X10_tellThree_69_70 69 = true ∧ zpc bo_X10_tellThree_69_70 69 = 70 := ⟨by decide +kernel, rfl⟩
abbrev bo_X10_tellThree_71_76 : ZB := [(.isub, .null), (.i2l, .null), (.lstore 16, .null), (.aload_n 0, .null)]
theorem ko_X10_tellThree_71_76 : zchk cX10_tellThree bo_X10_tellThree_71_76 71 = true ∧ zpc bo_X10_tellThree_71_76 71 = 76 := ⟨by decide +kernel, rfl⟩
abbrev bo_X10_tellThree_82_83 : ZB := [(.iload_n 3, .null)]
theorem ko_X10_tellThree_82_83 : zchk cX10_tellThree bo_X10_tellThree_82_83 82 = true ∧ zpc bo_X10_tellThree_82_83 82 = 83 := ⟨by decide +kernel, rfl⟩
abbrev bo_X10_tellThree_84_85 : ZB := [(.aload_n 0, .null)]
theorem ko_X10_tellThree_84_85 : zchk cX10_tellThree bo_X10_tellThree_84_85 84 = true ∧ zpc bo_X10_tellThree_84_85 84 = 85 := ⟨by decide +kernel, rfl⟩
abbrev bo_X10_tellThree_91_92 : ZB := [(.iload_n 1, .null)]
theorem ko_X10_tellThree_91_92 : zchk cX10_tellThree bo_X10_tellThree_91_92 91 = true ∧ zpc bo_X10_tellThree_91_92 91 = 92 := ⟨by decide +kernel, rfl⟩
abbrev bo_X10_tellThree_93_136 : ZB := [(.isub, .null), (.i2l, .null), (.lstore 18, .null), (.lload 6, .null), (.lload 4, .null), (.lsub, .null), (.lload 18, .null), (.lmul, .null), (.lload 8, .null), (.lload 4, .null), (.lsub, .null), (.lload 16, .null), (.lmul, .null), (.lsub, .null), (.lstore 20, .null), (.lload 12, .null), (.lload 8, .null), (.lload 4, .null), (.lsub, .null), (.lmul, .null), (.lload 14, .null), (.lload 6, .null), (.lload 4, .null), (.lsub, .null), (.lmul, .null), (.lsub, .null), (.lstore 22, .null), (.aload_n 0, .null)]
theorem ko_X10_tellThree_93_136 : zchk cX10_tellThree bo_X10_tellThree_93_136 93 = true ∧ zpc bo_X10_tellThree_93_136 93 = 136 := ⟨by decide +kernel, rfl⟩
abbrev bo_X10_tellThree_139_143 : ZB := [(.lload 20, .null), (.lload 10, .null)]
theorem ko_X10_tellThree_139_143 : zchk cX10_tellThree bo_X10_tellThree_139_143 139 = true ∧ zpc bo_X10_tellThree_139_143 139 = 143 := ⟨by decide +kernel, rfl⟩
abbrev bo_X10_tellThree_146_147 : ZB := [(.aload_n 0, .null)]
theorem ko_X10_tellThree_146_147 : zchk cX10_tellThree bo_X10_tellThree_146_147 146 = true ∧ zpc bo_X10_tellThree_146_147 146 = 147 := ⟨by decide +kernel, rfl⟩
abbrev bo_X10_tellThree_150_154 : ZB := [(.lload 22, .null), (.lload 10, .null)]
theorem ko_X10_tellThree_150_154 : zchk cX10_tellThree bo_X10_tellThree_150_154 150 = true ∧ zpc bo_X10_tellThree_150_154 150 = 154 := ⟨by decide +kernel, rfl⟩
abbrev bo_X10_tellThree_157_158 : ZB := [(.aload_n 0, .null)]
theorem ko_X10_tellThree_157_158 : zchk cX10_tellThree bo_X10_tellThree_157_158 157 = true ∧ zpc bo_X10_tellThree_157_158 157 = 158 := ⟨by decide +kernel, rfl⟩
abbrev bo_X10_tellThree_161_167 : ZB := [(.lload 4, .null), (.lload 10, .null), (.lmul, .null), (.aload_n 0, .null)]
theorem ko_X10_tellThree_161_167 : zchk cX10_tellThree bo_X10_tellThree_161_167 161 = true ∧ zpc bo_X10_tellThree_161_167 161 = 167 := ⟨by decide +kernel, rfl⟩
abbrev bo_X10_tellThree_173_174 : ZB := [(.iload_n 1, .null)]
theorem ko_X10_tellThree_173_174 : zchk cX10_tellThree bo_X10_tellThree_173_174 173 = true ∧ zpc bo_X10_tellThree_173_174 173 = 174 := ⟨by decide +kernel, rfl⟩
abbrev bo_X10_tellThree_175_181 : ZB := [(.i2l, .null), (.lload 20, .null), (.lmul, .null), (.lsub, .null), (.aload_n 0, .null)]
theorem ko_X10_tellThree_175_181 : zchk cX10_tellThree bo_X10_tellThree_175_181 175 = true ∧ zpc bo_X10_tellThree_175_181 175 = 181 := ⟨by decide +kernel, rfl⟩
abbrev bo_X10_tellThree_187_188 : ZB := [(.iload_n 1, .null)]
theorem ko_X10_tellThree_187_188 : zchk cX10_tellThree bo_X10_tellThree_187_188 187 = true ∧ zpc bo_X10_tellThree_187_188 187 = 188 := ⟨by decide +kernel, rfl⟩
abbrev bo_X10_tellThree_189_196 : ZB := [(.i2l, .null), (.lload 22, .null), (.lmul, .null), (.lsub, .null), (.lload 10, .null)]
theorem ko_X10_tellThree_189_196 : zchk cX10_tellThree bo_X10_tellThree_189_196 189 = true ∧ zpc bo_X10_tellThree_189_196 189 = 196 := ⟨by decide +kernel, rfl⟩
set_option maxHeartbeats 4000000 in
set_option maxRecDepth 100000 in
theorem co_X10_tellThree (l : Launch) (G : KG) (x : Nat) (told : Nat) (x_reader : Value) (x_ring : Value) (speeds : Nat) (x_wheel : Value) (x_trials : Value) (x_span : Value) (x_search : Value) (x_kept : Value) (x_crosses : Value) (x_trueMasses : Value) (x_thought : Value) (x_up : Value) (x_low : Value) (x_fits : Value) (x_pulls : Value) (tn : Nat) (tl : Int32) (fn : Nat → Int64) (sc : Int32) (sf : Nat) (so : Nat) (sX2 : Value) (sX3 : Value) (sX4 : Value) (ff : Nat → Int32) (fo : Nat → Int32) (uq : Int32) (vq : Int32) (wq : Int32) (j1 : Int64) (j2 : Int64) (j3 : Int64) (tli : Int) (ui : Int) (vi : Int) (wi : Int) (htl : tl.toInt = tli) (huq : uq.toInt = ui) (hvq : vq.toInt = vi) (hwq : wq.toInt = wi) (ht16 : 0 ≤ tli ∧ tli ≤ 16) (hi0 : 0 ≤ ui ∧ ui < 6 ∧ 0 ≤ vi ∧ vi < 6 ∧ 0 ≤ wi ∧ wi < 6) : Ct l G yX10_tellThree cX10_tellThree 24 none { frames := 2, cells := 0, slots := 0, locals := 58 } [.ref x, .int uq, .int vq, .int wq, .long j1, .long j2, .long j3] [(x, ob 10 [.ref told, x_reader, x_ring, .ref speeds, x_wheel, x_trials, x_span, x_search, x_kept, x_crosses, x_trueMasses, x_thought, x_up, x_low, x_fits, x_pulls]), (told, ob 8 [.ref tn, .int tl]), (tn, aJ G 16 fn), (speeds, ob 7 [.int sc, .ref sf, .ref so, sX2, sX3, sX4]), (sf, aI G 6 ff), (so, aI G 6 fo)] (fun r w1 => ∃ (tl2 : Int32), ∃ (fn2 : Nat → Int64), (0 ≤ tl2.toInt ∧ tl2.toInt ≤ 16) ∧ r = none ∧ w1 = [(x, ob 10 [.ref told, x_reader, x_ring, .ref speeds, x_wheel, x_trials, x_span, x_search, x_kept, x_crosses, x_trueMasses, x_thought, x_up, x_low, x_fits, x_pulls]), (told, ob 8 [.ref tn, .int tl2]), (tn, aJ G 16 fn2), (speeds, ob 7 [.int sc, .ref sf, .ref so, sX2, sX3, sX4]), (sf, aI G 6 ff), (so, aI G 6 fo)]) := by
  refine ct_of [(0, .ref x), (1, .int uq), (2, .int vq), (3, .int wq), (4, .long j1), (6, .long j2), (8, .long j3)] (by decide) (Nat.le_of_ble_eq_true rfl) rfl ?_
  intro p0 e0 s0 m0 args0 below0 meth0 c0 A X
  refine z_run X bo_X10_tellThree_0_4 ko_X10_tellThree_0_4 (lv' := [(0, .ref x), (1, .int uq), (2, .int vq), (3, .int wq), (4, .long j1), (6, .long j2), (8, .long j3)]) (st' := [.int wq, .int vq, .int uq, .ref x]) rfl ?_
  refine z_callV X k_10_435 (co_X10_partingOfSpeeds l G x told x_reader x_ring speeds x_wheel x_trials x_span x_search x_kept x_crosses x_trueMasses x_thought x_up x_low x_fits x_pulls sc sf so sX2 sX3 sX4 ff fo uq vq wq ui vi wi huq hvq hwq (by omega)) do_X10_tellThree_4 0 rfl rfl rfl ⟨Nat.le_of_ble_eq_true rfl, Nat.le_of_ble_eq_true rfl⟩ ⟨Nat.le_of_ble_eq_true rfl, Nat.le_of_ble_eq_true rfl⟩ rfl (rest := []) (As := [.int uq, .int vq, .int wq]) rfl (Nat.le_of_ble_eq_true rfl) [0, 3, 4, 5] [1, 2] rfl (by decide) (wr := [(told, ob 8 [.ref tn, .int tl]), (tn, aJ G 16 fn)]) rfl (by decide) (by decide) ?_
  rintro _ _ ⟨rz_1, f4_2, rfl, rfl⟩
  refine Z.at (pc' := 7) (st' := [.long rz_1]) (ws' := [(told, ob 8 [.ref tn, .int tl]), (tn, aJ G 16 fn), (x, ob 10 [.ref told, x_reader, x_ring, .ref speeds, x_wheel, x_trials, x_span, x_search, x_kept, x_crosses, x_trueMasses, x_thought, x_up, x_low, x_fits, x_pulls]), (speeds, ob 7 [.int sc, .ref sf, .ref so, sX2, sX3, sX4]), (sf, aI G 6 ff), (so, aI G 6 fo)]) (kc' := 0) (ks' := 0) rfl rfl rfl rfl rfl ?_
  refine z_run X bo_X10_tellThree_7_10 ko_X10_tellThree_7_10 (lv' := [(10, .long rz_1), (0, .ref x), (1, .int uq), (2, .int vq), (3, .int wq), (4, .long j1), (6, .long j2), (8, .long j3)]) (st' := [.ref x]) rfl ?_
  refine z_get X fl_10_33 do_X10_tellThree_10 2 rfl (v := .ref speeds) rfl ?_
  refine z_getN X fl_10_195 do_X10_tellThree_13 3 rfl (v := .ref sf) rfl ?_
  refine z_run X bo_X10_tellThree_16_17 ko_X10_tellThree_16_17 (lv' := [(10, .long rz_1), (0, .ref x), (1, .int uq), (2, .int vq), (3, .int wq), (4, .long j1), (6, .long j2), (8, .long j3)]) (st' := [.int vq, .ref sf]) rfl ?_
  refine z_iald X do_X10_tellThree_17 4 rfl (vin hvq (by omega) (by omega)) (v := (ff vq.toNatClampNeg)) rfl ?_
  refine z_run X bo_X10_tellThree_18_19 ko_X10_tellThree_18_19 (lv' := [(10, .long rz_1), (0, .ref x), (1, .int uq), (2, .int vq), (3, .int wq), (4, .long j1), (6, .long j2), (8, .long j3)]) (st' := [.ref x, .int (ff vq.toNatClampNeg)]) rfl ?_
  refine z_get X fl_10_33 do_X10_tellThree_19 2 rfl (v := .ref speeds) rfl ?_
  refine z_getN X fl_10_195 do_X10_tellThree_22 3 rfl (v := .ref sf) rfl ?_
  refine z_run X bo_X10_tellThree_25_26 ko_X10_tellThree_25_26 (lv' := [(10, .long rz_1), (0, .ref x), (1, .int uq), (2, .int vq), (3, .int wq), (4, .long j1), (6, .long j2), (8, .long j3)]) (st' := [.int uq, .ref sf, .int (ff vq.toNatClampNeg)]) rfl ?_
  refine z_iald X do_X10_tellThree_26 4 rfl (vin huq (by omega) (by omega)) (v := (ff uq.toNatClampNeg)) rfl ?_
  refine z_run X bo_X10_tellThree_27_32 ko_X10_tellThree_27_32 (lv' := [(12, .long ((ff vq.toNatClampNeg) - (ff uq.toNatClampNeg)).toInt64), (10, .long rz_1), (0, .ref x), (1, .int uq), (2, .int vq), (3, .int wq), (4, .long j1), (6, .long j2), (8, .long j3)]) (st' := [.ref x]) rfl ?_
  refine z_get X fl_10_33 do_X10_tellThree_32 2 rfl (v := .ref speeds) rfl ?_
  refine z_getN X fl_10_195 do_X10_tellThree_35 3 rfl (v := .ref sf) rfl ?_
  refine z_run X bo_X10_tellThree_38_39 ko_X10_tellThree_38_39 (lv' := [(12, .long ((ff vq.toNatClampNeg) - (ff uq.toNatClampNeg)).toInt64), (10, .long rz_1), (0, .ref x), (1, .int uq), (2, .int vq), (3, .int wq), (4, .long j1), (6, .long j2), (8, .long j3)]) (st' := [.int wq, .ref sf]) rfl ?_
  refine z_iald X do_X10_tellThree_39 4 rfl (vin hwq (by omega) (by omega)) (v := (ff wq.toNatClampNeg)) rfl ?_
  refine z_run X bo_X10_tellThree_40_41 ko_X10_tellThree_40_41 (lv' := [(12, .long ((ff vq.toNatClampNeg) - (ff uq.toNatClampNeg)).toInt64), (10, .long rz_1), (0, .ref x), (1, .int uq), (2, .int vq), (3, .int wq), (4, .long j1), (6, .long j2), (8, .long j3)]) (st' := [.ref x, .int (ff wq.toNatClampNeg)]) rfl ?_
  refine z_get X fl_10_33 do_X10_tellThree_41 2 rfl (v := .ref speeds) rfl ?_
  refine z_getN X fl_10_195 do_X10_tellThree_44 3 rfl (v := .ref sf) rfl ?_
  refine z_run X bo_X10_tellThree_47_48 ko_X10_tellThree_47_48 (lv' := [(12, .long ((ff vq.toNatClampNeg) - (ff uq.toNatClampNeg)).toInt64), (10, .long rz_1), (0, .ref x), (1, .int uq), (2, .int vq), (3, .int wq), (4, .long j1), (6, .long j2), (8, .long j3)]) (st' := [.int uq, .ref sf, .int (ff wq.toNatClampNeg)]) rfl ?_
  refine z_iald X do_X10_tellThree_48 4 rfl (vin huq (by omega) (by omega)) (v := (ff uq.toNatClampNeg)) rfl ?_
  refine z_run X bo_X10_tellThree_49_54 ko_X10_tellThree_49_54 (lv' := [(14, .long ((ff wq.toNatClampNeg) - (ff uq.toNatClampNeg)).toInt64), (12, .long ((ff vq.toNatClampNeg) - (ff uq.toNatClampNeg)).toInt64), (10, .long rz_1), (0, .ref x), (1, .int uq), (2, .int vq), (3, .int wq), (4, .long j1), (6, .long j2), (8, .long j3)]) (st' := [.ref x]) rfl ?_
  refine z_get X fl_10_33 do_X10_tellThree_54 2 rfl (v := .ref speeds) rfl ?_
  refine z_getN X fl_10_202 do_X10_tellThree_57 3 rfl (v := .ref so) rfl ?_
  refine z_run X bo_X10_tellThree_60_61 ko_X10_tellThree_60_61 (lv' := [(14, .long ((ff wq.toNatClampNeg) - (ff uq.toNatClampNeg)).toInt64), (12, .long ((ff vq.toNatClampNeg) - (ff uq.toNatClampNeg)).toInt64), (10, .long rz_1), (0, .ref x), (1, .int uq), (2, .int vq), (3, .int wq), (4, .long j1), (6, .long j2), (8, .long j3)]) (st' := [.int vq, .ref so]) rfl ?_
  refine z_iald X do_X10_tellThree_61 5 rfl (vin hvq (by omega) (by omega)) (v := (fo vq.toNatClampNeg)) rfl ?_
  refine z_run X bo_X10_tellThree_62_63 ko_X10_tellThree_62_63 (lv' := [(14, .long ((ff wq.toNatClampNeg) - (ff uq.toNatClampNeg)).toInt64), (12, .long ((ff vq.toNatClampNeg) - (ff uq.toNatClampNeg)).toInt64), (10, .long rz_1), (0, .ref x), (1, .int uq), (2, .int vq), (3, .int wq), (4, .long j1), (6, .long j2), (8, .long j3)]) (st' := [.ref x, .int (fo vq.toNatClampNeg)]) rfl ?_
  refine z_get X fl_10_33 do_X10_tellThree_63 2 rfl (v := .ref speeds) rfl ?_
  refine z_getN X fl_10_202 do_X10_tellThree_66 3 rfl (v := .ref so) rfl ?_
  refine z_run X bo_X10_tellThree_69_70 ko_X10_tellThree_69_70 (lv' := [(14, .long ((ff wq.toNatClampNeg) - (ff uq.toNatClampNeg)).toInt64), (12, .long ((ff vq.toNatClampNeg) - (ff uq.toNatClampNeg)).toInt64), (10, .long rz_1), (0, .ref x), (1, .int uq), (2, .int vq), (3, .int wq), (4, .long j1), (6, .long j2), (8, .long j3)]) (st' := [.int uq, .ref so, .int (fo vq.toNatClampNeg)]) rfl ?_
  refine z_iald X do_X10_tellThree_70 5 rfl (vin huq (by omega) (by omega)) (v := (fo uq.toNatClampNeg)) rfl ?_
  refine z_run X bo_X10_tellThree_71_76 ko_X10_tellThree_71_76 (lv' := [(16, .long ((fo vq.toNatClampNeg) - (fo uq.toNatClampNeg)).toInt64), (14, .long ((ff wq.toNatClampNeg) - (ff uq.toNatClampNeg)).toInt64), (12, .long ((ff vq.toNatClampNeg) - (ff uq.toNatClampNeg)).toInt64), (10, .long rz_1), (0, .ref x), (1, .int uq), (2, .int vq), (3, .int wq), (4, .long j1), (6, .long j2), (8, .long j3)]) (st' := [.ref x]) rfl ?_
  refine z_get X fl_10_33 do_X10_tellThree_76 2 rfl (v := .ref speeds) rfl ?_
  refine z_getN X fl_10_202 do_X10_tellThree_79 3 rfl (v := .ref so) rfl ?_
  refine z_run X bo_X10_tellThree_82_83 ko_X10_tellThree_82_83 (lv' := [(16, .long ((fo vq.toNatClampNeg) - (fo uq.toNatClampNeg)).toInt64), (14, .long ((ff wq.toNatClampNeg) - (ff uq.toNatClampNeg)).toInt64), (12, .long ((ff vq.toNatClampNeg) - (ff uq.toNatClampNeg)).toInt64), (10, .long rz_1), (0, .ref x), (1, .int uq), (2, .int vq), (3, .int wq), (4, .long j1), (6, .long j2), (8, .long j3)]) (st' := [.int wq, .ref so]) rfl ?_
  refine z_iald X do_X10_tellThree_83 5 rfl (vin hwq (by omega) (by omega)) (v := (fo wq.toNatClampNeg)) rfl ?_
  refine z_run X bo_X10_tellThree_84_85 ko_X10_tellThree_84_85 (lv' := [(16, .long ((fo vq.toNatClampNeg) - (fo uq.toNatClampNeg)).toInt64), (14, .long ((ff wq.toNatClampNeg) - (ff uq.toNatClampNeg)).toInt64), (12, .long ((ff vq.toNatClampNeg) - (ff uq.toNatClampNeg)).toInt64), (10, .long rz_1), (0, .ref x), (1, .int uq), (2, .int vq), (3, .int wq), (4, .long j1), (6, .long j2), (8, .long j3)]) (st' := [.ref x, .int (fo wq.toNatClampNeg)]) rfl ?_
  refine z_get X fl_10_33 do_X10_tellThree_85 2 rfl (v := .ref speeds) rfl ?_
  refine z_getN X fl_10_202 do_X10_tellThree_88 3 rfl (v := .ref so) rfl ?_
  refine z_run X bo_X10_tellThree_91_92 ko_X10_tellThree_91_92 (lv' := [(16, .long ((fo vq.toNatClampNeg) - (fo uq.toNatClampNeg)).toInt64), (14, .long ((ff wq.toNatClampNeg) - (ff uq.toNatClampNeg)).toInt64), (12, .long ((ff vq.toNatClampNeg) - (ff uq.toNatClampNeg)).toInt64), (10, .long rz_1), (0, .ref x), (1, .int uq), (2, .int vq), (3, .int wq), (4, .long j1), (6, .long j2), (8, .long j3)]) (st' := [.int uq, .ref so, .int (fo wq.toNatClampNeg)]) rfl ?_
  refine z_iald X do_X10_tellThree_92 5 rfl (vin huq (by omega) (by omega)) (v := (fo uq.toNatClampNeg)) rfl ?_
  refine z_run X bo_X10_tellThree_93_136 ko_X10_tellThree_93_136 (lv' := [(22, .long ((((ff vq.toNatClampNeg) - (ff uq.toNatClampNeg)).toInt64 * (j3 - j1)) - (((ff wq.toNatClampNeg) - (ff uq.toNatClampNeg)).toInt64 * (j2 - j1)))), (20, .long (((j2 - j1) * ((fo wq.toNatClampNeg) - (fo uq.toNatClampNeg)).toInt64) - ((j3 - j1) * ((fo vq.toNatClampNeg) - (fo uq.toNatClampNeg)).toInt64))), (18, .long ((fo wq.toNatClampNeg) - (fo uq.toNatClampNeg)).toInt64), (16, .long ((fo vq.toNatClampNeg) - (fo uq.toNatClampNeg)).toInt64), (14, .long ((ff wq.toNatClampNeg) - (ff uq.toNatClampNeg)).toInt64), (12, .long ((ff vq.toNatClampNeg) - (ff uq.toNatClampNeg)).toInt64), (10, .long rz_1), (0, .ref x), (1, .int uq), (2, .int vq), (3, .int wq), (4, .long j1), (6, .long j2), (8, .long j3)]) (st' := [.ref x]) rfl ?_
  refine z_get X fl_10_12 do_X10_tellThree_136 2 rfl (v := .ref told) rfl ?_
  refine z_run X bo_X10_tellThree_139_143 ko_X10_tellThree_139_143 (lv' := [(22, .long ((((ff vq.toNatClampNeg) - (ff uq.toNatClampNeg)).toInt64 * (j3 - j1)) - (((ff wq.toNatClampNeg) - (ff uq.toNatClampNeg)).toInt64 * (j2 - j1)))), (20, .long (((j2 - j1) * ((fo wq.toNatClampNeg) - (fo uq.toNatClampNeg)).toInt64) - ((j3 - j1) * ((fo vq.toNatClampNeg) - (fo uq.toNatClampNeg)).toInt64))), (18, .long ((fo wq.toNatClampNeg) - (fo uq.toNatClampNeg)).toInt64), (16, .long ((fo vq.toNatClampNeg) - (fo uq.toNatClampNeg)).toInt64), (14, .long ((ff wq.toNatClampNeg) - (ff uq.toNatClampNeg)).toInt64), (12, .long ((ff vq.toNatClampNeg) - (ff uq.toNatClampNeg)).toInt64), (10, .long rz_1), (0, .ref x), (1, .int uq), (2, .int vq), (3, .int wq), (4, .long j1), (6, .long j2), (8, .long j3)]) (st' := [.long rz_1, .long (((j2 - j1) * ((fo wq.toNatClampNeg) - (fo uq.toNatClampNeg)).toInt64) - ((j3 - j1) * ((fo vq.toNatClampNeg) - (fo uq.toNatClampNeg)).toInt64)), .ref told]) rfl ?_
  refine z_callV X k_10_408 (co_X8_addFraction l G told tn tl fn (((j2 - j1) * ((fo wq.toNatClampNeg) - (fo uq.toNatClampNeg)).toInt64) - ((j3 - j1) * ((fo vq.toNatClampNeg) - (fo uq.toNatClampNeg)).toInt64)) rz_1 tli htl (by omega)) do_X10_tellThree_143 0 rfl rfl rfl ⟨Nat.le_of_ble_eq_true rfl, Nat.le_of_ble_eq_true rfl⟩ ⟨Nat.le_of_ble_eq_true rfl, Nat.le_of_ble_eq_true rfl⟩ rfl (rest := []) (As := [.long (((j2 - j1) * ((fo wq.toNatClampNeg) - (fo uq.toNatClampNeg)).toInt64) - ((j3 - j1) * ((fo vq.toNatClampNeg) - (fo uq.toNatClampNeg)).toInt64)), .long rz_1]) rfl (Nat.le_of_ble_eq_true rfl) [0, 1] [2, 3, 4, 5] rfl (by decide) (wr := [(x, ob 10 [.ref told, x_reader, x_ring, .ref speeds, x_wheel, x_trials, x_span, x_search, x_kept, x_crosses, x_trueMasses, x_thought, x_up, x_low, x_fits, x_pulls]), (speeds, ob 7 [.int sc, .ref sf, .ref so, sX2, sX3, sX4]), (sf, aI G 6 ff), (so, aI G 6 fo)]) rfl (by decide) (by decide) ?_
  rintro _ _ ⟨tl2_3, fn2_4, f143_5, rfl, rfl⟩
  refine Z.at (pc' := 146) (st' := []) (ws' := [(x, ob 10 [.ref told, x_reader, x_ring, .ref speeds, x_wheel, x_trials, x_span, x_search, x_kept, x_crosses, x_trueMasses, x_thought, x_up, x_low, x_fits, x_pulls]), (speeds, ob 7 [.int sc, .ref sf, .ref so, sX2, sX3, sX4]), (sf, aI G 6 ff), (so, aI G 6 fo), (told, ob 8 [.ref tn, .int tl2_3]), (tn, aJ G 16 fn2_4)]) (kc' := 0) (ks' := 0) rfl rfl rfl rfl rfl ?_
  refine z_run X bo_X10_tellThree_146_147 ko_X10_tellThree_146_147 (lv' := [(22, .long ((((ff vq.toNatClampNeg) - (ff uq.toNatClampNeg)).toInt64 * (j3 - j1)) - (((ff wq.toNatClampNeg) - (ff uq.toNatClampNeg)).toInt64 * (j2 - j1)))), (20, .long (((j2 - j1) * ((fo wq.toNatClampNeg) - (fo uq.toNatClampNeg)).toInt64) - ((j3 - j1) * ((fo vq.toNatClampNeg) - (fo uq.toNatClampNeg)).toInt64))), (18, .long ((fo wq.toNatClampNeg) - (fo uq.toNatClampNeg)).toInt64), (16, .long ((fo vq.toNatClampNeg) - (fo uq.toNatClampNeg)).toInt64), (14, .long ((ff wq.toNatClampNeg) - (ff uq.toNatClampNeg)).toInt64), (12, .long ((ff vq.toNatClampNeg) - (ff uq.toNatClampNeg)).toInt64), (10, .long rz_1), (0, .ref x), (1, .int uq), (2, .int vq), (3, .int wq), (4, .long j1), (6, .long j2), (8, .long j3)]) (st' := [.ref x]) rfl ?_
  refine z_get X fl_10_12 do_X10_tellThree_147 0 rfl (v := .ref told) rfl ?_
  refine z_run X bo_X10_tellThree_150_154 ko_X10_tellThree_150_154 (lv' := [(22, .long ((((ff vq.toNatClampNeg) - (ff uq.toNatClampNeg)).toInt64 * (j3 - j1)) - (((ff wq.toNatClampNeg) - (ff uq.toNatClampNeg)).toInt64 * (j2 - j1)))), (20, .long (((j2 - j1) * ((fo wq.toNatClampNeg) - (fo uq.toNatClampNeg)).toInt64) - ((j3 - j1) * ((fo vq.toNatClampNeg) - (fo uq.toNatClampNeg)).toInt64))), (18, .long ((fo wq.toNatClampNeg) - (fo uq.toNatClampNeg)).toInt64), (16, .long ((fo vq.toNatClampNeg) - (fo uq.toNatClampNeg)).toInt64), (14, .long ((ff wq.toNatClampNeg) - (ff uq.toNatClampNeg)).toInt64), (12, .long ((ff vq.toNatClampNeg) - (ff uq.toNatClampNeg)).toInt64), (10, .long rz_1), (0, .ref x), (1, .int uq), (2, .int vq), (3, .int wq), (4, .long j1), (6, .long j2), (8, .long j3)]) (st' := [.long rz_1, .long ((((ff vq.toNatClampNeg) - (ff uq.toNatClampNeg)).toInt64 * (j3 - j1)) - (((ff wq.toNatClampNeg) - (ff uq.toNatClampNeg)).toInt64 * (j2 - j1))), .ref told]) rfl ?_
  refine z_callV X k_10_408 (co_X8_addFraction l G told tn tl2_3 fn2_4 ((((ff vq.toNatClampNeg) - (ff uq.toNatClampNeg)).toInt64 * (j3 - j1)) - (((ff wq.toNatClampNeg) - (ff uq.toNatClampNeg)).toInt64 * (j2 - j1))) rz_1 tl2_3.toInt rfl (by omega)) do_X10_tellThree_154 4 rfl rfl rfl ⟨Nat.le_of_ble_eq_true rfl, Nat.le_of_ble_eq_true rfl⟩ ⟨Nat.le_of_ble_eq_true rfl, Nat.le_of_ble_eq_true rfl⟩ rfl (rest := []) (As := [.long ((((ff vq.toNatClampNeg) - (ff uq.toNatClampNeg)).toInt64 * (j3 - j1)) - (((ff wq.toNatClampNeg) - (ff uq.toNatClampNeg)).toInt64 * (j2 - j1))), .long rz_1]) rfl (Nat.le_of_ble_eq_true rfl) [4, 5] [0, 1, 2, 3] rfl (by decide) (wr := [(x, ob 10 [.ref told, x_reader, x_ring, .ref speeds, x_wheel, x_trials, x_span, x_search, x_kept, x_crosses, x_trueMasses, x_thought, x_up, x_low, x_fits, x_pulls]), (speeds, ob 7 [.int sc, .ref sf, .ref so, sX2, sX3, sX4]), (sf, aI G 6 ff), (so, aI G 6 fo)]) rfl (by decide) (by decide) ?_
  rintro _ _ ⟨tl2_6, fn2_7, f154_8, rfl, rfl⟩
  refine Z.at (pc' := 157) (st' := []) (ws' := [(x, ob 10 [.ref told, x_reader, x_ring, .ref speeds, x_wheel, x_trials, x_span, x_search, x_kept, x_crosses, x_trueMasses, x_thought, x_up, x_low, x_fits, x_pulls]), (speeds, ob 7 [.int sc, .ref sf, .ref so, sX2, sX3, sX4]), (sf, aI G 6 ff), (so, aI G 6 fo), (told, ob 8 [.ref tn, .int tl2_6]), (tn, aJ G 16 fn2_7)]) (kc' := 0) (ks' := 0) rfl rfl rfl rfl rfl ?_
  refine z_run X bo_X10_tellThree_157_158 ko_X10_tellThree_157_158 (lv' := [(22, .long ((((ff vq.toNatClampNeg) - (ff uq.toNatClampNeg)).toInt64 * (j3 - j1)) - (((ff wq.toNatClampNeg) - (ff uq.toNatClampNeg)).toInt64 * (j2 - j1)))), (20, .long (((j2 - j1) * ((fo wq.toNatClampNeg) - (fo uq.toNatClampNeg)).toInt64) - ((j3 - j1) * ((fo vq.toNatClampNeg) - (fo uq.toNatClampNeg)).toInt64))), (18, .long ((fo wq.toNatClampNeg) - (fo uq.toNatClampNeg)).toInt64), (16, .long ((fo vq.toNatClampNeg) - (fo uq.toNatClampNeg)).toInt64), (14, .long ((ff wq.toNatClampNeg) - (ff uq.toNatClampNeg)).toInt64), (12, .long ((ff vq.toNatClampNeg) - (ff uq.toNatClampNeg)).toInt64), (10, .long rz_1), (0, .ref x), (1, .int uq), (2, .int vq), (3, .int wq), (4, .long j1), (6, .long j2), (8, .long j3)]) (st' := [.ref x]) rfl ?_
  refine z_get X fl_10_12 do_X10_tellThree_158 0 rfl (v := .ref told) rfl ?_
  refine z_run X bo_X10_tellThree_161_167 ko_X10_tellThree_161_167 (lv' := [(22, .long ((((ff vq.toNatClampNeg) - (ff uq.toNatClampNeg)).toInt64 * (j3 - j1)) - (((ff wq.toNatClampNeg) - (ff uq.toNatClampNeg)).toInt64 * (j2 - j1)))), (20, .long (((j2 - j1) * ((fo wq.toNatClampNeg) - (fo uq.toNatClampNeg)).toInt64) - ((j3 - j1) * ((fo vq.toNatClampNeg) - (fo uq.toNatClampNeg)).toInt64))), (18, .long ((fo wq.toNatClampNeg) - (fo uq.toNatClampNeg)).toInt64), (16, .long ((fo vq.toNatClampNeg) - (fo uq.toNatClampNeg)).toInt64), (14, .long ((ff wq.toNatClampNeg) - (ff uq.toNatClampNeg)).toInt64), (12, .long ((ff vq.toNatClampNeg) - (ff uq.toNatClampNeg)).toInt64), (10, .long rz_1), (0, .ref x), (1, .int uq), (2, .int vq), (3, .int wq), (4, .long j1), (6, .long j2), (8, .long j3)]) (st' := [.ref x, .long (j1 * rz_1), .ref told]) rfl ?_
  refine z_get X fl_10_33 do_X10_tellThree_167 0 rfl (v := .ref speeds) rfl ?_
  refine z_getN X fl_10_195 do_X10_tellThree_170 1 rfl (v := .ref sf) rfl ?_
  refine z_run X bo_X10_tellThree_173_174 ko_X10_tellThree_173_174 (lv' := [(22, .long ((((ff vq.toNatClampNeg) - (ff uq.toNatClampNeg)).toInt64 * (j3 - j1)) - (((ff wq.toNatClampNeg) - (ff uq.toNatClampNeg)).toInt64 * (j2 - j1)))), (20, .long (((j2 - j1) * ((fo wq.toNatClampNeg) - (fo uq.toNatClampNeg)).toInt64) - ((j3 - j1) * ((fo vq.toNatClampNeg) - (fo uq.toNatClampNeg)).toInt64))), (18, .long ((fo wq.toNatClampNeg) - (fo uq.toNatClampNeg)).toInt64), (16, .long ((fo vq.toNatClampNeg) - (fo uq.toNatClampNeg)).toInt64), (14, .long ((ff wq.toNatClampNeg) - (ff uq.toNatClampNeg)).toInt64), (12, .long ((ff vq.toNatClampNeg) - (ff uq.toNatClampNeg)).toInt64), (10, .long rz_1), (0, .ref x), (1, .int uq), (2, .int vq), (3, .int wq), (4, .long j1), (6, .long j2), (8, .long j3)]) (st' := [.int uq, .ref sf, .long (j1 * rz_1), .ref told]) rfl ?_
  refine z_iald X do_X10_tellThree_174 2 rfl (vin huq (by omega) (by omega)) (v := (ff uq.toNatClampNeg)) rfl ?_
  refine z_run X bo_X10_tellThree_175_181 ko_X10_tellThree_175_181 (lv' := [(22, .long ((((ff vq.toNatClampNeg) - (ff uq.toNatClampNeg)).toInt64 * (j3 - j1)) - (((ff wq.toNatClampNeg) - (ff uq.toNatClampNeg)).toInt64 * (j2 - j1)))), (20, .long (((j2 - j1) * ((fo wq.toNatClampNeg) - (fo uq.toNatClampNeg)).toInt64) - ((j3 - j1) * ((fo vq.toNatClampNeg) - (fo uq.toNatClampNeg)).toInt64))), (18, .long ((fo wq.toNatClampNeg) - (fo uq.toNatClampNeg)).toInt64), (16, .long ((fo vq.toNatClampNeg) - (fo uq.toNatClampNeg)).toInt64), (14, .long ((ff wq.toNatClampNeg) - (ff uq.toNatClampNeg)).toInt64), (12, .long ((ff vq.toNatClampNeg) - (ff uq.toNatClampNeg)).toInt64), (10, .long rz_1), (0, .ref x), (1, .int uq), (2, .int vq), (3, .int wq), (4, .long j1), (6, .long j2), (8, .long j3)]) (st' := [.ref x, .long ((j1 * rz_1) - ((ff uq.toNatClampNeg).toInt64 * (((j2 - j1) * ((fo wq.toNatClampNeg) - (fo uq.toNatClampNeg)).toInt64) - ((j3 - j1) * ((fo vq.toNatClampNeg) - (fo uq.toNatClampNeg)).toInt64)))), .ref told]) rfl ?_
  refine z_get X fl_10_33 do_X10_tellThree_181 0 rfl (v := .ref speeds) rfl ?_
  refine z_getN X fl_10_202 do_X10_tellThree_184 1 rfl (v := .ref so) rfl ?_
  refine z_run X bo_X10_tellThree_187_188 ko_X10_tellThree_187_188 (lv' := [(22, .long ((((ff vq.toNatClampNeg) - (ff uq.toNatClampNeg)).toInt64 * (j3 - j1)) - (((ff wq.toNatClampNeg) - (ff uq.toNatClampNeg)).toInt64 * (j2 - j1)))), (20, .long (((j2 - j1) * ((fo wq.toNatClampNeg) - (fo uq.toNatClampNeg)).toInt64) - ((j3 - j1) * ((fo vq.toNatClampNeg) - (fo uq.toNatClampNeg)).toInt64))), (18, .long ((fo wq.toNatClampNeg) - (fo uq.toNatClampNeg)).toInt64), (16, .long ((fo vq.toNatClampNeg) - (fo uq.toNatClampNeg)).toInt64), (14, .long ((ff wq.toNatClampNeg) - (ff uq.toNatClampNeg)).toInt64), (12, .long ((ff vq.toNatClampNeg) - (ff uq.toNatClampNeg)).toInt64), (10, .long rz_1), (0, .ref x), (1, .int uq), (2, .int vq), (3, .int wq), (4, .long j1), (6, .long j2), (8, .long j3)]) (st' := [.int uq, .ref so, .long ((j1 * rz_1) - ((ff uq.toNatClampNeg).toInt64 * (((j2 - j1) * ((fo wq.toNatClampNeg) - (fo uq.toNatClampNeg)).toInt64) - ((j3 - j1) * ((fo vq.toNatClampNeg) - (fo uq.toNatClampNeg)).toInt64)))), .ref told]) rfl ?_
  refine z_iald X do_X10_tellThree_188 3 rfl (vin huq (by omega) (by omega)) (v := (fo uq.toNatClampNeg)) rfl ?_
  refine z_run X bo_X10_tellThree_189_196 ko_X10_tellThree_189_196 (lv' := [(22, .long ((((ff vq.toNatClampNeg) - (ff uq.toNatClampNeg)).toInt64 * (j3 - j1)) - (((ff wq.toNatClampNeg) - (ff uq.toNatClampNeg)).toInt64 * (j2 - j1)))), (20, .long (((j2 - j1) * ((fo wq.toNatClampNeg) - (fo uq.toNatClampNeg)).toInt64) - ((j3 - j1) * ((fo vq.toNatClampNeg) - (fo uq.toNatClampNeg)).toInt64))), (18, .long ((fo wq.toNatClampNeg) - (fo uq.toNatClampNeg)).toInt64), (16, .long ((fo vq.toNatClampNeg) - (fo uq.toNatClampNeg)).toInt64), (14, .long ((ff wq.toNatClampNeg) - (ff uq.toNatClampNeg)).toInt64), (12, .long ((ff vq.toNatClampNeg) - (ff uq.toNatClampNeg)).toInt64), (10, .long rz_1), (0, .ref x), (1, .int uq), (2, .int vq), (3, .int wq), (4, .long j1), (6, .long j2), (8, .long j3)]) (st' := [.long rz_1, .long (((j1 * rz_1) - ((ff uq.toNatClampNeg).toInt64 * (((j2 - j1) * ((fo wq.toNatClampNeg) - (fo uq.toNatClampNeg)).toInt64) - ((j3 - j1) * ((fo vq.toNatClampNeg) - (fo uq.toNatClampNeg)).toInt64)))) - ((fo uq.toNatClampNeg).toInt64 * ((((ff vq.toNatClampNeg) - (ff uq.toNatClampNeg)).toInt64 * (j3 - j1)) - (((ff wq.toNatClampNeg) - (ff uq.toNatClampNeg)).toInt64 * (j2 - j1))))), .ref told]) rfl ?_
  refine z_callV X k_10_408 (co_X8_addFraction l G told tn tl2_6 fn2_7 (((j1 * rz_1) - ((ff uq.toNatClampNeg).toInt64 * (((j2 - j1) * ((fo wq.toNatClampNeg) - (fo uq.toNatClampNeg)).toInt64) - ((j3 - j1) * ((fo vq.toNatClampNeg) - (fo uq.toNatClampNeg)).toInt64)))) - ((fo uq.toNatClampNeg).toInt64 * ((((ff vq.toNatClampNeg) - (ff uq.toNatClampNeg)).toInt64 * (j3 - j1)) - (((ff wq.toNatClampNeg) - (ff uq.toNatClampNeg)).toInt64 * (j2 - j1))))) rz_1 tl2_6.toInt rfl (by omega)) do_X10_tellThree_196 4 rfl rfl rfl ⟨Nat.le_of_ble_eq_true rfl, Nat.le_of_ble_eq_true rfl⟩ ⟨Nat.le_of_ble_eq_true rfl, Nat.le_of_ble_eq_true rfl⟩ rfl (rest := []) (As := [.long (((j1 * rz_1) - ((ff uq.toNatClampNeg).toInt64 * (((j2 - j1) * ((fo wq.toNatClampNeg) - (fo uq.toNatClampNeg)).toInt64) - ((j3 - j1) * ((fo vq.toNatClampNeg) - (fo uq.toNatClampNeg)).toInt64)))) - ((fo uq.toNatClampNeg).toInt64 * ((((ff vq.toNatClampNeg) - (ff uq.toNatClampNeg)).toInt64 * (j3 - j1)) - (((ff wq.toNatClampNeg) - (ff uq.toNatClampNeg)).toInt64 * (j2 - j1))))), .long rz_1]) rfl (Nat.le_of_ble_eq_true rfl) [4, 5] [0, 1, 2, 3] rfl (by decide) (wr := [(x, ob 10 [.ref told, x_reader, x_ring, .ref speeds, x_wheel, x_trials, x_span, x_search, x_kept, x_crosses, x_trueMasses, x_thought, x_up, x_low, x_fits, x_pulls]), (speeds, ob 7 [.int sc, .ref sf, .ref so, sX2, sX3, sX4]), (sf, aI G 6 ff), (so, aI G 6 fo)]) rfl (by decide) (by decide) ?_
  rintro _ _ ⟨tl2_9, fn2_10, f196_11, rfl, rfl⟩
  refine Z.at (pc' := 199) (st' := []) (ws' := [(x, ob 10 [.ref told, x_reader, x_ring, .ref speeds, x_wheel, x_trials, x_span, x_search, x_kept, x_crosses, x_trueMasses, x_thought, x_up, x_low, x_fits, x_pulls]), (speeds, ob 7 [.int sc, .ref sf, .ref so, sX2, sX3, sX4]), (sf, aI G 6 ff), (so, aI G 6 fo), (told, ob 8 [.ref tn, .int tl2_9]), (tn, aJ G 16 fn2_10)]) (kc' := 0) (ks' := 0) rfl rfl rfl rfl rfl ?_
  refine Z.sub (lv' := []) [] rfl [0, 4, 5, 1, 2, 3] (ws' := [(x, ob 10 [.ref told, x_reader, x_ring, .ref speeds, x_wheel, x_trials, x_span, x_search, x_kept, x_crosses, x_trueMasses, x_thought, x_up, x_low, x_fits, x_pulls]), (told, ob 8 [.ref tn, .int tl2_9]), (tn, aJ G 16 fn2_10), (speeds, ob 7 [.int sc, .ref sf, .ref so, sX2, sX3, sX4]), (sf, aI G 6 ff), (so, aI G 6 fo)]) rfl (by decide) ?_
  exact z_vret X rfl do_X10_tellThree_199 (Nat.le_of_ble_eq_true rfl) (Nat.le_of_ble_eq_true rfl) ⟨tl2_9, fn2_10, (by omega), rfl, rfl⟩

theorem do_X10_whose_1 : decode cX10_whose 1 = .ok (.getfield 33, 3) := by decide +kernel
theorem do_X10_whose_5 : decode cX10_whose 5 = .ok (.invokevirtual 173, 3) := by decide +kernel
theorem do_X10_whose_8 : decode cX10_whose 8 = .ok (.ifCond .eq 64, 3) := by decide +kernel
theorem do_X10_whose_73 : decode cX10_whose 73 = .ok (.ireturn, 1) := by decide +kernel
theorem do_X10_whose_12 : decode cX10_whose 12 = .ok (.getfield 33, 3) := by decide +kernel
theorem do_X10_whose_16 : decode cX10_whose 16 = .ok (.invokevirtual 173, 3) := by decide +kernel
theorem do_X10_whose_19 : decode cX10_whose 19 = .ok (.ifCond .eq 53, 3) := by decide +kernel
theorem do_X10_whose_23 : decode cX10_whose 23 = .ok (.getfield 33, 3) := by decide +kernel
theorem do_X10_whose_27 : decode cX10_whose 27 = .ok (.invokevirtual 173, 3) := by decide +kernel
theorem do_X10_whose_30 : decode cX10_whose 30 = .ok (.ifCond .eq 42, 3) := by decide +kernel
theorem do_X10_whose_35 : decode cX10_whose 35 = .ok (.if_icmp .eq 37, 3) := by decide +kernel
theorem do_X10_whose_40 : decode cX10_whose 40 = .ok (.if_icmp .eq 32, 3) := by decide +kernel
theorem do_X10_whose_45 : decode cX10_whose 45 = .ok (.if_icmp .eq 27, 3) := by decide +kernel
theorem do_X10_whose_50 : decode cX10_whose 50 = .ok (.invokestatic 427, 3) := by decide +kernel
theorem do_X10_whose_53 : decode cX10_whose 53 = .ok (.ifCond .eq 19, 3) := by decide +kernel
theorem do_X10_whose_58 : decode cX10_whose 58 = .ok (.invokestatic 427, 3) := by decide +kernel
theorem do_X10_whose_61 : decode cX10_whose 61 = .ok (.ifCond .eq 11, 3) := by decide +kernel
theorem do_X10_whose_66 : decode cX10_whose 66 = .ok (.invokestatic 427, 3) := by decide +kernel
theorem do_X10_whose_69 : decode cX10_whose 69 = .ok (.ifCond .ne 5, 3) := by decide +kernel
theorem do_X10_whose_78 : decode cX10_whose 78 = .ok (.invokevirtual 435, 3) := by decide +kernel
theorem do_X10_whose_82 : decode cX10_whose 82 = .ok (.lcmp, 1) := by decide +kernel
theorem do_X10_whose_83 : decode cX10_whose 83 = .ok (.ifCond .ne 6, 3) := by decide +kernel
theorem do_X10_whose_90 : decode cX10_whose 90 = .ok (.getfield 12, 3) := by decide +kernel
theorem do_X10_whose_93 : decode cX10_whose 93 = .ok (.invokevirtual 180, 3) := by decide +kernel
theorem do_X10_whose_103 : decode cX10_whose 103 = .ok (.invokestatic 431, 3) := by decide +kernel
theorem do_X10_whose_109 : decode cX10_whose 109 = .ok (.invokestatic 431, 3) := by decide +kernel
theorem do_X10_whose_115 : decode cX10_whose 115 = .ok (.invokestatic 431, 3) := by decide +kernel
theorem do_X10_whose_118 : decode cX10_whose 118 = .ok (.invokevirtual 439, 3) := by decide +kernel
theorem do_X10_whose_128 : decode cX10_whose 128 = .ok (.invokestatic 431, 3) := by decide +kernel
theorem do_X10_whose_134 : decode cX10_whose 134 = .ok (.invokestatic 431, 3) := by decide +kernel
theorem do_X10_whose_140 : decode cX10_whose 140 = .ok (.invokestatic 431, 3) := by decide +kernel
theorem do_X10_whose_143 : decode cX10_whose 143 = .ok (.invokevirtual 439, 3) := by decide +kernel
theorem do_X10_whose_147 : decode cX10_whose 147 = .ok (.ireturn, 1) := by decide +kernel
theorem do_X10_whose_88 : decode cX10_whose 88 = .ok (.ireturn, 1) := by decide +kernel
abbrev bo_X10_whose_0_1 : ZB := [(.aload_n 0, .null)]
theorem ko_X10_whose_0_1 : zchk cX10_whose bo_X10_whose_0_1 0 = true ∧ zpc bo_X10_whose_0_1 0 = 1 := ⟨by decide +kernel, rfl⟩
abbrev bo_X10_whose_4_5 : ZB := [(.iload_n 1, .null)]
theorem ko_X10_whose_4_5 : zchk cX10_whose bo_X10_whose_4_5 4 = true ∧ zpc bo_X10_whose_4_5 4 = 5 := ⟨by decide +kernel, rfl⟩
abbrev bo_X10_whose_72_73 : ZB := [(.iconst (-1), .int (-1))]
theorem ko_X10_whose_72_73 : zchk cX10_whose bo_X10_whose_72_73 72 = true ∧ zpc bo_X10_whose_72_73 72 = 73 := ⟨by decide +kernel, rfl⟩
abbrev bo_X10_whose_11_12 : ZB := [(.aload_n 0, .null)]
theorem ko_X10_whose_11_12 : zchk cX10_whose bo_X10_whose_11_12 11 = true ∧ zpc bo_X10_whose_11_12 11 = 12 := ⟨by decide +kernel, rfl⟩
abbrev bo_X10_whose_15_16 : ZB := [(.iload_n 2, .null)]
theorem ko_X10_whose_15_16 : zchk cX10_whose bo_X10_whose_15_16 15 = true ∧ zpc bo_X10_whose_15_16 15 = 16 := ⟨by decide +kernel, rfl⟩
abbrev bo_X10_whose_22_23 : ZB := [(.aload_n 0, .null)]
theorem ko_X10_whose_22_23 : zchk cX10_whose bo_X10_whose_22_23 22 = true ∧ zpc bo_X10_whose_22_23 22 = 23 := ⟨by decide +kernel, rfl⟩
abbrev bo_X10_whose_26_27 : ZB := [(.iload_n 3, .null)]
theorem ko_X10_whose_26_27 : zchk cX10_whose bo_X10_whose_26_27 26 = true ∧ zpc bo_X10_whose_26_27 26 = 27 := ⟨by decide +kernel, rfl⟩
abbrev bo_X10_whose_33_35 : ZB := [(.iload_n 1, .null), (.iload_n 2, .null)]
theorem ko_X10_whose_33_35 : zchk cX10_whose bo_X10_whose_33_35 33 = true ∧ zpc bo_X10_whose_33_35 33 = 35 := ⟨by decide +kernel, rfl⟩
abbrev bo_X10_whose_38_40 : ZB := [(.iload_n 2, .null), (.iload_n 3, .null)]
theorem ko_X10_whose_38_40 : zchk cX10_whose bo_X10_whose_38_40 38 = true ∧ zpc bo_X10_whose_38_40 38 = 40 := ⟨by decide +kernel, rfl⟩
abbrev bo_X10_whose_43_45 : ZB := [(.iload_n 1, .null), (.iload_n 3, .null)]
theorem ko_X10_whose_43_45 : zchk cX10_whose bo_X10_whose_43_45 43 = true ∧ zpc bo_X10_whose_43_45 43 = 45 := ⟨by decide +kernel, rfl⟩
abbrev bo_X10_whose_48_50 : ZB := [(.lload 4, .null)]
theorem ko_X10_whose_48_50 : zchk cX10_whose bo_X10_whose_48_50 48 = true ∧ zpc bo_X10_whose_48_50 48 = 50 := ⟨by decide +kernel, rfl⟩
abbrev bo_X10_whose_56_58 : ZB := [(.lload 6, .null)]
theorem ko_X10_whose_56_58 : zchk cX10_whose bo_X10_whose_56_58 56 = true ∧ zpc bo_X10_whose_56_58 56 = 58 := ⟨by decide +kernel, rfl⟩
abbrev bo_X10_whose_64_66 : ZB := [(.lload 8, .null)]
theorem ko_X10_whose_64_66 : zchk cX10_whose bo_X10_whose_64_66 64 = true ∧ zpc bo_X10_whose_64_66 64 = 66 := ⟨by decide +kernel, rfl⟩
abbrev bo_X10_whose_74_78 : ZB := [(.aload_n 0, .null), (.iload_n 1, .null), (.iload_n 2, .null), (.iload_n 3, .null)]
theorem ko_X10_whose_74_78 : zchk cX10_whose bo_X10_whose_74_78 74 = true ∧ zpc bo_X10_whose_74_78 74 = 78 := ⟨by decide +kernel, rfl⟩
abbrev bo_X10_whose_81_82 : ZB := [(.lconst 0, .long 0)]
theorem ko_X10_whose_81_82 : zchk cX10_whose bo_X10_whose_81_82 81 = true ∧ zpc bo_X10_whose_81_82 81 = 82 := ⟨by decide +kernel, rfl⟩
abbrev bo_X10_whose_89_90 : ZB := [(.aload_n 0, .null)]
theorem ko_X10_whose_89_90 : zchk cX10_whose bo_X10_whose_89_90 89 = true ∧ zpc bo_X10_whose_89_90 89 = 90 := ⟨by decide +kernel, rfl⟩
abbrev bo_X10_whose_96_103 : ZB := [(.aload_n 0, .null), (.iload_n 1, .null), (.iload_n 2, .null), (.iload_n 3, .null), (.lload 4, .null), (.iconst 0, .int 0)]
theorem ko_X10_whose_96_103 : zchk cX10_whose bo_X10_whose_96_103 96 = true ∧ zpc bo_X10_whose_96_103 96 = 103 := ⟨by decide +kernel, rfl⟩
abbrev bo_X10_whose_106_109 : ZB := [(.lload 6, .null), (.iconst 0, .int 0)]
theorem ko_X10_whose_106_109 : zchk cX10_whose bo_X10_whose_106_109 106 = true ∧ zpc bo_X10_whose_106_109 106 = 109 := ⟨by decide +kernel, rfl⟩
abbrev bo_X10_whose_112_115 : ZB := [(.lload 8, .null), (.iconst 0, .int 0)]
theorem ko_X10_whose_112_115 : zchk cX10_whose bo_X10_whose_112_115 112 = true ∧ zpc bo_X10_whose_112_115 112 = 115 := ⟨by decide +kernel, rfl⟩
abbrev bo_X10_whose_121_128 : ZB := [(.aload_n 0, .null), (.iload_n 1, .null), (.iload_n 2, .null), (.iload_n 3, .null), (.lload 4, .null), (.iconst 1, .int 1)]
theorem ko_X10_whose_121_128 : zchk cX10_whose bo_X10_whose_121_128 121 = true ∧ zpc bo_X10_whose_121_128 121 = 128 := ⟨by decide +kernel, rfl⟩
abbrev bo_X10_whose_131_134 : ZB := [(.lload 6, .null), (.iconst 1, .int 1)]
theorem ko_X10_whose_131_134 : zchk cX10_whose bo_X10_whose_131_134 131 = true ∧ zpc bo_X10_whose_131_134 131 = 134 := ⟨by decide +kernel, rfl⟩
abbrev bo_X10_whose_137_140 : ZB := [(.lload 8, .null), (.iconst 1, .int 1)]
theorem ko_X10_whose_137_140 : zchk cX10_whose bo_X10_whose_137_140 137 = true ∧ zpc bo_X10_whose_137_140 137 = 140 := ⟨by decide +kernel, rfl⟩
abbrev bo_X10_whose_146_147 : ZB := [(.iconst 0, .int 0)]
theorem ko_X10_whose_146_147 : zchk cX10_whose bo_X10_whose_146_147 146 = true ∧ zpc bo_X10_whose_146_147 146 = 147 := ⟨by decide +kernel, rfl⟩
abbrev bo_X10_whose_86_88 : ZB := [(.bipush (-2), .int (-2))]
theorem ko_X10_whose_86_88 : zchk cX10_whose bo_X10_whose_86_88 86 = true ∧ zpc bo_X10_whose_86_88 86 = 88 := ⟨by decide +kernel, rfl⟩
set_option maxHeartbeats 4000000 in
set_option maxRecDepth 100000 in
theorem co_X10_whose (l : Launch) (G : KG) (x : Nat) (told : Nat) (x_reader : Value) (x_ring : Value) (speeds : Nat) (x_wheel : Value) (x_trials : Value) (x_span : Value) (x_search : Value) (x_kept : Value) (x_crosses : Value) (x_trueMasses : Value) (x_thought : Value) (x_up : Value) (x_low : Value) (x_fits : Value) (x_pulls : Value) (tn : Nat) (tl : Int32) (fn : Nat → Int64) (sc : Int32) (sf : Nat) (so : Nat) (sX2 : Value) (sX3 : Value) (sX4 : Value) (ff : Nat → Int32) (fo : Nat → Int32) (uq : Int32) (vq : Int32) (wq : Int32) (pq : Int64) (qq : Int64) (oq : Int64) (tli : Int) (sci : Int) (ui : Int) (vi : Int) (wi : Int) (pi : Int) (qi : Int) (oi : Int) (htl : tl.toInt = tli) (hsc : sc.toInt = sci) (huq : uq.toInt = ui) (hvq : vq.toInt = vi) (hwq : wq.toInt = wi) (hpq : pq.toInt = pi) (hqq : qq.toInt = qi) (hoq : oq.toInt = oi) (ht16 : 0 ≤ tli ∧ tli ≤ 16) (hs0 : 0 ≤ sci ∧ sci ≤ 6) : Ct l G yX10_whose cX10_whose 10 (some .int) { frames := 3, cells := 0, slots := 0, locals := 101 } [.ref x, .int uq, .int vq, .int wq, .long pq, .long qq, .long oq] [(x, ob 10 [.ref told, x_reader, x_ring, .ref speeds, x_wheel, x_trials, x_span, x_search, x_kept, x_crosses, x_trueMasses, x_thought, x_up, x_low, x_fits, x_pulls]), (told, ob 8 [.ref tn, .int tl]), (tn, aJ G 16 fn), (speeds, ob 7 [.int sc, .ref sf, .ref so, sX2, sX3, sX4]), (sf, aI G 6 ff), (so, aI G 6 fo)] (fun r w1 => ∃ (rz : Int32), ∃ (tl2 : Int32), ∃ (fn2 : Nat → Int64), (rz = (mTwo (okWh sci ui vi wi pi qi oi) (((ff vq.toNatClampNeg) - (ff uq.toNatClampNeg)).toInt64 * ((fo wq.toNatClampNeg) - (fo uq.toNatClampNeg)).toInt64 - ((ff wq.toNatClampNeg) - (ff uq.toNatClampNeg)).toInt64 * ((fo vq.toNatClampNeg) - (fo uq.toNatClampNeg)).toInt64).toInt)) ∧ r = some (.int rz) ∧ w1 = [(x, ob 10 [.ref told, x_reader, x_ring, .ref speeds, x_wheel, x_trials, x_span, x_search, x_kept, x_crosses, x_trueMasses, x_thought, x_up, x_low, x_fits, x_pulls]), (told, ob 8 [.ref tn, .int tl2]), (tn, aJ G 16 fn2), (speeds, ob 7 [.int sc, .ref sf, .ref so, sX2, sX3, sX4]), (sf, aI G 6 ff), (so, aI G 6 fo)]) := by
  refine ct_of [(0, .ref x), (1, .int uq), (2, .int vq), (3, .int wq), (4, .long pq), (6, .long qq), (8, .long oq)] (by decide) (Nat.le_of_ble_eq_true rfl) rfl ?_
  intro p0 e0 s0 m0 args0 below0 meth0 c0 A X
  refine z_run X bo_X10_whose_0_1 ko_X10_whose_0_1 (lv' := [(0, .ref x), (1, .int uq), (2, .int vq), (3, .int wq), (4, .long pq), (6, .long qq), (8, .long oq)]) (st' := [.ref x]) rfl ?_
  refine z_get X fl_10_33 do_X10_whose_1 0 rfl (v := .ref speeds) rfl ?_
  refine z_run X bo_X10_whose_4_5 ko_X10_whose_4_5 (lv' := [(0, .ref x), (1, .int uq), (2, .int vq), (3, .int wq), (4, .long pq), (6, .long qq), (8, .long oq)]) (st' := [.int uq, .ref speeds]) rfl ?_
  refine z_callV X k_10_173 (co_X7_isSpeedF l G speeds sc sf so sX2 sX3 sX4 uq sci ui hsc huq) do_X10_whose_5 3 rfl rfl rfl ⟨Nat.le_of_ble_eq_true rfl, Nat.le_of_ble_eq_true rfl⟩ ⟨Nat.le_of_ble_eq_true rfl, Nat.le_of_ble_eq_true rfl⟩ rfl (rest := []) (As := [.int uq]) rfl (Nat.le_of_ble_eq_true rfl) [3] [0, 1, 2, 4, 5] rfl (by decide) (wr := [(x, ob 10 [.ref told, x_reader, x_ring, .ref speeds, x_wheel, x_trials, x_span, x_search, x_kept, x_crosses, x_trueMasses, x_thought, x_up, x_low, x_fits, x_pulls]), (told, ob 8 [.ref tn, .int tl]), (tn, aJ G 16 fn), (sf, aI G 6 ff), (so, aI G 6 fo)]) rfl (by decide) (by decide) ?_
  rintro _ _ ⟨rfl, rfl⟩
  refine Z.at (pc' := 8) (st' := [.int (zb (decide (0 ≤ ui ∧ ui < sci)))]) (ws' := [(x, ob 10 [.ref told, x_reader, x_ring, .ref speeds, x_wheel, x_trials, x_span, x_search, x_kept, x_crosses, x_trueMasses, x_thought, x_up, x_low, x_fits, x_pulls]), (told, ob 8 [.ref tn, .int tl]), (tn, aJ G 16 fn), (sf, aI G 6 ff), (so, aI G 6 fo), (speeds, ob 7 [.int sc, .ref sf, .ref so, sX2, sX3, sX4])]) (kc' := 0) (ks' := 0) rfl rfl rfl rfl rfl ?_
  refine zi_eq_zb X do_X10_whose_8 (tgt := 72) (by decide) (fun c8_1 => ?_) (fun c8_1 => ?_)
  ·
    refine z_run X bo_X10_whose_72_73 ko_X10_whose_72_73 (lv' := [(0, .ref x), (1, .int uq), (2, .int vq), (3, .int wq), (4, .long pq), (6, .long qq), (8, .long oq)]) (st' := [.int (-1)]) rfl ?_
    refine Z.sub (lv' := []) [] rfl [0, 1, 2, 5, 3, 4] (ws' := [(x, ob 10 [.ref told, x_reader, x_ring, .ref speeds, x_wheel, x_trials, x_span, x_search, x_kept, x_crosses, x_trueMasses, x_thought, x_up, x_low, x_fits, x_pulls]), (told, ob 8 [.ref tn, .int tl]), (tn, aJ G 16 fn), (speeds, ob 7 [.int sc, .ref sf, .ref so, sX2, sX3, sX4]), (sf, aI G 6 ff), (so, aI G 6 fo)]) rfl (by decide) ?_
    exact z_iret X rfl do_X10_whose_73 (Nat.le_of_ble_eq_true rfl) (Nat.le_of_ble_eq_true rfl) ⟨((-1) : Int32), tl, fn, (mTwo_no (by unfold okWh okPt; omega)).symm, rfl, rfl⟩
  ·
    refine z_run X bo_X10_whose_11_12 ko_X10_whose_11_12 (lv' := [(0, .ref x), (1, .int uq), (2, .int vq), (3, .int wq), (4, .long pq), (6, .long qq), (8, .long oq)]) (st' := [.ref x]) rfl ?_
    refine z_get X fl_10_33 do_X10_whose_12 0 rfl (v := .ref speeds) rfl ?_
    refine z_run X bo_X10_whose_15_16 ko_X10_whose_15_16 (lv' := [(0, .ref x), (1, .int uq), (2, .int vq), (3, .int wq), (4, .long pq), (6, .long qq), (8, .long oq)]) (st' := [.int vq, .ref speeds]) rfl ?_
    refine z_callV X k_10_173 (co_X7_isSpeedF l G speeds sc sf so sX2 sX3 sX4 vq sci vi hsc hvq) do_X10_whose_16 5 rfl rfl rfl ⟨Nat.le_of_ble_eq_true rfl, Nat.le_of_ble_eq_true rfl⟩ ⟨Nat.le_of_ble_eq_true rfl, Nat.le_of_ble_eq_true rfl⟩ rfl (rest := []) (As := [.int vq]) rfl (Nat.le_of_ble_eq_true rfl) [5] [0, 1, 2, 3, 4] rfl (by decide) (wr := [(x, ob 10 [.ref told, x_reader, x_ring, .ref speeds, x_wheel, x_trials, x_span, x_search, x_kept, x_crosses, x_trueMasses, x_thought, x_up, x_low, x_fits, x_pulls]), (told, ob 8 [.ref tn, .int tl]), (tn, aJ G 16 fn), (sf, aI G 6 ff), (so, aI G 6 fo)]) rfl (by decide) (by decide) ?_
    rintro _ _ ⟨rfl, rfl⟩
    refine Z.at (pc' := 19) (st' := [.int (zb (decide (0 ≤ vi ∧ vi < sci)))]) (ws' := [(x, ob 10 [.ref told, x_reader, x_ring, .ref speeds, x_wheel, x_trials, x_span, x_search, x_kept, x_crosses, x_trueMasses, x_thought, x_up, x_low, x_fits, x_pulls]), (told, ob 8 [.ref tn, .int tl]), (tn, aJ G 16 fn), (sf, aI G 6 ff), (so, aI G 6 fo), (speeds, ob 7 [.int sc, .ref sf, .ref so, sX2, sX3, sX4])]) (kc' := 0) (ks' := 0) rfl rfl rfl rfl rfl ?_
    refine zi_eq_zb X do_X10_whose_19 (tgt := 72) (by decide) (fun c19_2 => ?_) (fun c19_2 => ?_)
    ·
      refine z_run X bo_X10_whose_72_73 ko_X10_whose_72_73 (lv' := [(0, .ref x), (1, .int uq), (2, .int vq), (3, .int wq), (4, .long pq), (6, .long qq), (8, .long oq)]) (st' := [.int (-1)]) rfl ?_
      refine Z.sub (lv' := []) [] rfl [0, 1, 2, 5, 3, 4] (ws' := [(x, ob 10 [.ref told, x_reader, x_ring, .ref speeds, x_wheel, x_trials, x_span, x_search, x_kept, x_crosses, x_trueMasses, x_thought, x_up, x_low, x_fits, x_pulls]), (told, ob 8 [.ref tn, .int tl]), (tn, aJ G 16 fn), (speeds, ob 7 [.int sc, .ref sf, .ref so, sX2, sX3, sX4]), (sf, aI G 6 ff), (so, aI G 6 fo)]) rfl (by decide) ?_
      exact z_iret X rfl do_X10_whose_73 (Nat.le_of_ble_eq_true rfl) (Nat.le_of_ble_eq_true rfl) ⟨((-1) : Int32), tl, fn, (mTwo_no (by unfold okWh okPt; omega)).symm, rfl, rfl⟩
    ·
      refine z_run X bo_X10_whose_22_23 ko_X10_whose_22_23 (lv' := [(0, .ref x), (1, .int uq), (2, .int vq), (3, .int wq), (4, .long pq), (6, .long qq), (8, .long oq)]) (st' := [.ref x]) rfl ?_
      refine z_get X fl_10_33 do_X10_whose_23 0 rfl (v := .ref speeds) rfl ?_
      refine z_run X bo_X10_whose_26_27 ko_X10_whose_26_27 (lv' := [(0, .ref x), (1, .int uq), (2, .int vq), (3, .int wq), (4, .long pq), (6, .long qq), (8, .long oq)]) (st' := [.int wq, .ref speeds]) rfl ?_
      refine z_callV X k_10_173 (co_X7_isSpeedF l G speeds sc sf so sX2 sX3 sX4 wq sci wi hsc hwq) do_X10_whose_27 5 rfl rfl rfl ⟨Nat.le_of_ble_eq_true rfl, Nat.le_of_ble_eq_true rfl⟩ ⟨Nat.le_of_ble_eq_true rfl, Nat.le_of_ble_eq_true rfl⟩ rfl (rest := []) (As := [.int wq]) rfl (Nat.le_of_ble_eq_true rfl) [5] [0, 1, 2, 3, 4] rfl (by decide) (wr := [(x, ob 10 [.ref told, x_reader, x_ring, .ref speeds, x_wheel, x_trials, x_span, x_search, x_kept, x_crosses, x_trueMasses, x_thought, x_up, x_low, x_fits, x_pulls]), (told, ob 8 [.ref tn, .int tl]), (tn, aJ G 16 fn), (sf, aI G 6 ff), (so, aI G 6 fo)]) rfl (by decide) (by decide) ?_
      rintro _ _ ⟨rfl, rfl⟩
      refine Z.at (pc' := 30) (st' := [.int (zb (decide (0 ≤ wi ∧ wi < sci)))]) (ws' := [(x, ob 10 [.ref told, x_reader, x_ring, .ref speeds, x_wheel, x_trials, x_span, x_search, x_kept, x_crosses, x_trueMasses, x_thought, x_up, x_low, x_fits, x_pulls]), (told, ob 8 [.ref tn, .int tl]), (tn, aJ G 16 fn), (sf, aI G 6 ff), (so, aI G 6 fo), (speeds, ob 7 [.int sc, .ref sf, .ref so, sX2, sX3, sX4])]) (kc' := 0) (ks' := 0) rfl rfl rfl rfl rfl ?_
      refine zi_eq_zb X do_X10_whose_30 (tgt := 72) (by decide) (fun c30_3 => ?_) (fun c30_3 => ?_)
      ·
        refine z_run X bo_X10_whose_72_73 ko_X10_whose_72_73 (lv' := [(0, .ref x), (1, .int uq), (2, .int vq), (3, .int wq), (4, .long pq), (6, .long qq), (8, .long oq)]) (st' := [.int (-1)]) rfl ?_
        refine Z.sub (lv' := []) [] rfl [0, 1, 2, 5, 3, 4] (ws' := [(x, ob 10 [.ref told, x_reader, x_ring, .ref speeds, x_wheel, x_trials, x_span, x_search, x_kept, x_crosses, x_trueMasses, x_thought, x_up, x_low, x_fits, x_pulls]), (told, ob 8 [.ref tn, .int tl]), (tn, aJ G 16 fn), (speeds, ob 7 [.int sc, .ref sf, .ref so, sX2, sX3, sX4]), (sf, aI G 6 ff), (so, aI G 6 fo)]) rfl (by decide) ?_
        exact z_iret X rfl do_X10_whose_73 (Nat.le_of_ble_eq_true rfl) (Nat.le_of_ble_eq_true rfl) ⟨((-1) : Int32), tl, fn, (mTwo_no (by unfold okWh okPt; omega)).symm, rfl, rfl⟩
      ·
        refine z_run X bo_X10_whose_33_35 ko_X10_whose_33_35 (lv' := [(0, .ref x), (1, .int uq), (2, .int vq), (3, .int wq), (4, .long pq), (6, .long qq), (8, .long oq)]) (st' := [.int vq, .int uq]) rfl ?_
        refine zc_eq X do_X10_whose_35 (tgt := 72) (by decide) (a := ui) (b := vi) huq hvq (fun c35_4 => ?_) (fun c35_4 => ?_)
        ·
          refine z_run X bo_X10_whose_72_73 ko_X10_whose_72_73 (lv' := [(0, .ref x), (1, .int uq), (2, .int vq), (3, .int wq), (4, .long pq), (6, .long qq), (8, .long oq)]) (st' := [.int (-1)]) rfl ?_
          refine Z.sub (lv' := []) [] rfl [0, 1, 2, 5, 3, 4] (ws' := [(x, ob 10 [.ref told, x_reader, x_ring, .ref speeds, x_wheel, x_trials, x_span, x_search, x_kept, x_crosses, x_trueMasses, x_thought, x_up, x_low, x_fits, x_pulls]), (told, ob 8 [.ref tn, .int tl]), (tn, aJ G 16 fn), (speeds, ob 7 [.int sc, .ref sf, .ref so, sX2, sX3, sX4]), (sf, aI G 6 ff), (so, aI G 6 fo)]) rfl (by decide) ?_
          exact z_iret X rfl do_X10_whose_73 (Nat.le_of_ble_eq_true rfl) (Nat.le_of_ble_eq_true rfl) ⟨((-1) : Int32), tl, fn, (mTwo_no (by unfold okWh okPt; omega)).symm, rfl, rfl⟩
        ·
          refine z_run X bo_X10_whose_38_40 ko_X10_whose_38_40 (lv' := [(0, .ref x), (1, .int uq), (2, .int vq), (3, .int wq), (4, .long pq), (6, .long qq), (8, .long oq)]) (st' := [.int wq, .int vq]) rfl ?_
          refine zc_eq X do_X10_whose_40 (tgt := 72) (by decide) (a := vi) (b := wi) hvq hwq (fun c40_5 => ?_) (fun c40_5 => ?_)
          ·
            refine z_run X bo_X10_whose_72_73 ko_X10_whose_72_73 (lv' := [(0, .ref x), (1, .int uq), (2, .int vq), (3, .int wq), (4, .long pq), (6, .long qq), (8, .long oq)]) (st' := [.int (-1)]) rfl ?_
            refine Z.sub (lv' := []) [] rfl [0, 1, 2, 5, 3, 4] (ws' := [(x, ob 10 [.ref told, x_reader, x_ring, .ref speeds, x_wheel, x_trials, x_span, x_search, x_kept, x_crosses, x_trueMasses, x_thought, x_up, x_low, x_fits, x_pulls]), (told, ob 8 [.ref tn, .int tl]), (tn, aJ G 16 fn), (speeds, ob 7 [.int sc, .ref sf, .ref so, sX2, sX3, sX4]), (sf, aI G 6 ff), (so, aI G 6 fo)]) rfl (by decide) ?_
            exact z_iret X rfl do_X10_whose_73 (Nat.le_of_ble_eq_true rfl) (Nat.le_of_ble_eq_true rfl) ⟨((-1) : Int32), tl, fn, (mTwo_no (by unfold okWh okPt; omega)).symm, rfl, rfl⟩
          ·
            refine z_run X bo_X10_whose_43_45 ko_X10_whose_43_45 (lv' := [(0, .ref x), (1, .int uq), (2, .int vq), (3, .int wq), (4, .long pq), (6, .long qq), (8, .long oq)]) (st' := [.int wq, .int uq]) rfl ?_
            refine zc_eq X do_X10_whose_45 (tgt := 72) (by decide) (a := ui) (b := wi) huq hwq (fun c45_6 => ?_) (fun c45_6 => ?_)
            ·
              refine z_run X bo_X10_whose_72_73 ko_X10_whose_72_73 (lv' := [(0, .ref x), (1, .int uq), (2, .int vq), (3, .int wq), (4, .long pq), (6, .long qq), (8, .long oq)]) (st' := [.int (-1)]) rfl ?_
              refine Z.sub (lv' := []) [] rfl [0, 1, 2, 5, 3, 4] (ws' := [(x, ob 10 [.ref told, x_reader, x_ring, .ref speeds, x_wheel, x_trials, x_span, x_search, x_kept, x_crosses, x_trueMasses, x_thought, x_up, x_low, x_fits, x_pulls]), (told, ob 8 [.ref tn, .int tl]), (tn, aJ G 16 fn), (speeds, ob 7 [.int sc, .ref sf, .ref so, sX2, sX3, sX4]), (sf, aI G 6 ff), (so, aI G 6 fo)]) rfl (by decide) ?_
              exact z_iret X rfl do_X10_whose_73 (Nat.le_of_ble_eq_true rfl) (Nat.le_of_ble_eq_true rfl) ⟨((-1) : Int32), tl, fn, (mTwo_no (by unfold okWh okPt; omega)).symm, rfl, rfl⟩
            ·
              refine z_run X bo_X10_whose_48_50 ko_X10_whose_48_50 (lv' := [(0, .ref x), (1, .int uq), (2, .int vq), (3, .int wq), (4, .long pq), (6, .long qq), (8, .long oq)]) (st' := [.long pq]) rfl ?_
              refine z_callS X k_10_427 (co_X10_isCode l G pq pi hpq) do_X10_whose_50 ⟨Nat.le_of_ble_eq_true rfl, Nat.le_of_ble_eq_true rfl⟩ ⟨Nat.le_of_ble_eq_true rfl, Nat.le_of_ble_eq_true rfl⟩ rfl (rest := []) (As := [.long pq]) rfl (Nat.le_of_ble_eq_true rfl) [] [0, 1, 2, 3, 4, 5] rfl (by decide) (wr := [(x, ob 10 [.ref told, x_reader, x_ring, .ref speeds, x_wheel, x_trials, x_span, x_search, x_kept, x_crosses, x_trueMasses, x_thought, x_up, x_low, x_fits, x_pulls]), (told, ob 8 [.ref tn, .int tl]), (tn, aJ G 16 fn), (sf, aI G 6 ff), (so, aI G 6 fo), (speeds, ob 7 [.int sc, .ref sf, .ref so, sX2, sX3, sX4])]) rfl (by decide) (by decide) ?_
              rintro _ _ ⟨rfl, rfl⟩
              refine Z.at (pc' := 53) (st' := [.int (zb (decide (0 ≤ pi ∧ pi < 40000000000 ∧ 0 < pi / 200000 ∧ 0 < pi % 200000)))]) (ws' := [(x, ob 10 [.ref told, x_reader, x_ring, .ref speeds, x_wheel, x_trials, x_span, x_search, x_kept, x_crosses, x_trueMasses, x_thought, x_up, x_low, x_fits, x_pulls]), (told, ob 8 [.ref tn, .int tl]), (tn, aJ G 16 fn), (sf, aI G 6 ff), (so, aI G 6 fo), (speeds, ob 7 [.int sc, .ref sf, .ref so, sX2, sX3, sX4])]) (kc' := 0) (ks' := 0) rfl rfl rfl rfl rfl ?_
              refine zi_eq_zb X do_X10_whose_53 (tgt := 72) (by decide) (fun c53_7 => ?_) (fun c53_7 => ?_)
              ·
                refine z_run X bo_X10_whose_72_73 ko_X10_whose_72_73 (lv' := [(0, .ref x), (1, .int uq), (2, .int vq), (3, .int wq), (4, .long pq), (6, .long qq), (8, .long oq)]) (st' := [.int (-1)]) rfl ?_
                refine Z.sub (lv' := []) [] rfl [0, 1, 2, 5, 3, 4] (ws' := [(x, ob 10 [.ref told, x_reader, x_ring, .ref speeds, x_wheel, x_trials, x_span, x_search, x_kept, x_crosses, x_trueMasses, x_thought, x_up, x_low, x_fits, x_pulls]), (told, ob 8 [.ref tn, .int tl]), (tn, aJ G 16 fn), (speeds, ob 7 [.int sc, .ref sf, .ref so, sX2, sX3, sX4]), (sf, aI G 6 ff), (so, aI G 6 fo)]) rfl (by decide) ?_
                exact z_iret X rfl do_X10_whose_73 (Nat.le_of_ble_eq_true rfl) (Nat.le_of_ble_eq_true rfl) ⟨((-1) : Int32), tl, fn, (mTwo_no (by unfold okWh okPt; omega)).symm, rfl, rfl⟩
              ·
                refine z_run X bo_X10_whose_56_58 ko_X10_whose_56_58 (lv' := [(0, .ref x), (1, .int uq), (2, .int vq), (3, .int wq), (4, .long pq), (6, .long qq), (8, .long oq)]) (st' := [.long qq]) rfl ?_
                refine z_callS X k_10_427 (co_X10_isCode l G qq qi hqq) do_X10_whose_58 ⟨Nat.le_of_ble_eq_true rfl, Nat.le_of_ble_eq_true rfl⟩ ⟨Nat.le_of_ble_eq_true rfl, Nat.le_of_ble_eq_true rfl⟩ rfl (rest := []) (As := [.long qq]) rfl (Nat.le_of_ble_eq_true rfl) [] [0, 1, 2, 3, 4, 5] rfl (by decide) (wr := [(x, ob 10 [.ref told, x_reader, x_ring, .ref speeds, x_wheel, x_trials, x_span, x_search, x_kept, x_crosses, x_trueMasses, x_thought, x_up, x_low, x_fits, x_pulls]), (told, ob 8 [.ref tn, .int tl]), (tn, aJ G 16 fn), (sf, aI G 6 ff), (so, aI G 6 fo), (speeds, ob 7 [.int sc, .ref sf, .ref so, sX2, sX3, sX4])]) rfl (by decide) (by decide) ?_
                rintro _ _ ⟨rfl, rfl⟩
                refine Z.at (pc' := 61) (st' := [.int (zb (decide (0 ≤ qi ∧ qi < 40000000000 ∧ 0 < qi / 200000 ∧ 0 < qi % 200000)))]) (ws' := [(x, ob 10 [.ref told, x_reader, x_ring, .ref speeds, x_wheel, x_trials, x_span, x_search, x_kept, x_crosses, x_trueMasses, x_thought, x_up, x_low, x_fits, x_pulls]), (told, ob 8 [.ref tn, .int tl]), (tn, aJ G 16 fn), (sf, aI G 6 ff), (so, aI G 6 fo), (speeds, ob 7 [.int sc, .ref sf, .ref so, sX2, sX3, sX4])]) (kc' := 0) (ks' := 0) rfl rfl rfl rfl rfl ?_
                refine zi_eq_zb X do_X10_whose_61 (tgt := 72) (by decide) (fun c61_8 => ?_) (fun c61_8 => ?_)
                ·
                  refine z_run X bo_X10_whose_72_73 ko_X10_whose_72_73 (lv' := [(0, .ref x), (1, .int uq), (2, .int vq), (3, .int wq), (4, .long pq), (6, .long qq), (8, .long oq)]) (st' := [.int (-1)]) rfl ?_
                  refine Z.sub (lv' := []) [] rfl [0, 1, 2, 5, 3, 4] (ws' := [(x, ob 10 [.ref told, x_reader, x_ring, .ref speeds, x_wheel, x_trials, x_span, x_search, x_kept, x_crosses, x_trueMasses, x_thought, x_up, x_low, x_fits, x_pulls]), (told, ob 8 [.ref tn, .int tl]), (tn, aJ G 16 fn), (speeds, ob 7 [.int sc, .ref sf, .ref so, sX2, sX3, sX4]), (sf, aI G 6 ff), (so, aI G 6 fo)]) rfl (by decide) ?_
                  exact z_iret X rfl do_X10_whose_73 (Nat.le_of_ble_eq_true rfl) (Nat.le_of_ble_eq_true rfl) ⟨((-1) : Int32), tl, fn, (mTwo_no (by unfold okWh okPt; omega)).symm, rfl, rfl⟩
                ·
                  refine z_run X bo_X10_whose_64_66 ko_X10_whose_64_66 (lv' := [(0, .ref x), (1, .int uq), (2, .int vq), (3, .int wq), (4, .long pq), (6, .long qq), (8, .long oq)]) (st' := [.long oq]) rfl ?_
                  refine z_callS X k_10_427 (co_X10_isCode l G oq oi hoq) do_X10_whose_66 ⟨Nat.le_of_ble_eq_true rfl, Nat.le_of_ble_eq_true rfl⟩ ⟨Nat.le_of_ble_eq_true rfl, Nat.le_of_ble_eq_true rfl⟩ rfl (rest := []) (As := [.long oq]) rfl (Nat.le_of_ble_eq_true rfl) [] [0, 1, 2, 3, 4, 5] rfl (by decide) (wr := [(x, ob 10 [.ref told, x_reader, x_ring, .ref speeds, x_wheel, x_trials, x_span, x_search, x_kept, x_crosses, x_trueMasses, x_thought, x_up, x_low, x_fits, x_pulls]), (told, ob 8 [.ref tn, .int tl]), (tn, aJ G 16 fn), (sf, aI G 6 ff), (so, aI G 6 fo), (speeds, ob 7 [.int sc, .ref sf, .ref so, sX2, sX3, sX4])]) rfl (by decide) (by decide) ?_
                  rintro _ _ ⟨rfl, rfl⟩
                  refine Z.at (pc' := 69) (st' := [.int (zb (decide (0 ≤ oi ∧ oi < 40000000000 ∧ 0 < oi / 200000 ∧ 0 < oi % 200000)))]) (ws' := [(x, ob 10 [.ref told, x_reader, x_ring, .ref speeds, x_wheel, x_trials, x_span, x_search, x_kept, x_crosses, x_trueMasses, x_thought, x_up, x_low, x_fits, x_pulls]), (told, ob 8 [.ref tn, .int tl]), (tn, aJ G 16 fn), (sf, aI G 6 ff), (so, aI G 6 fo), (speeds, ob 7 [.int sc, .ref sf, .ref so, sX2, sX3, sX4])]) (kc' := 0) (ks' := 0) rfl rfl rfl rfl rfl ?_
                  refine zi_ne_zb X do_X10_whose_69 (tgt := 74) (by decide) (fun c69_9 => ?_) (fun c69_9 => ?_)
                  ·
                    refine z_run X bo_X10_whose_74_78 ko_X10_whose_74_78 (lv' := [(0, .ref x), (1, .int uq), (2, .int vq), (3, .int wq), (4, .long pq), (6, .long qq), (8, .long oq)]) (st' := [.int wq, .int vq, .int uq, .ref x]) rfl ?_
                    refine z_callV X k_10_435 (co_X10_partingOfSpeeds l G x told x_reader x_ring speeds x_wheel x_trials x_span x_search x_kept x_crosses x_trueMasses x_thought x_up x_low x_fits x_pulls sc sf so sX2 sX3 sX4 ff fo uq vq wq ui vi wi huq hvq hwq (by omega)) do_X10_whose_78 0 rfl rfl rfl ⟨Nat.le_of_ble_eq_true rfl, Nat.le_of_ble_eq_true rfl⟩ ⟨Nat.le_of_ble_eq_true rfl, Nat.le_of_ble_eq_true rfl⟩ rfl (rest := []) (As := [.int uq, .int vq, .int wq]) rfl (Nat.le_of_ble_eq_true rfl) [0, 5, 3, 4] [1, 2] rfl (by decide) (wr := [(told, ob 8 [.ref tn, .int tl]), (tn, aJ G 16 fn)]) rfl (by decide) (by decide) ?_
                    rintro _ _ ⟨rz_10, f78_11, rfl, rfl⟩
                    refine Z.at (pc' := 81) (st' := [.long rz_10]) (ws' := [(told, ob 8 [.ref tn, .int tl]), (tn, aJ G 16 fn), (x, ob 10 [.ref told, x_reader, x_ring, .ref speeds, x_wheel, x_trials, x_span, x_search, x_kept, x_crosses, x_trueMasses, x_thought, x_up, x_low, x_fits, x_pulls]), (speeds, ob 7 [.int sc, .ref sf, .ref so, sX2, sX3, sX4]), (sf, aI G 6 ff), (so, aI G 6 fo)]) (kc' := 0) (ks' := 0) rfl rfl rfl rfl rfl ?_
                    refine z_run X bo_X10_whose_81_82 ko_X10_whose_81_82 (lv' := [(0, .ref x), (1, .int uq), (2, .int vq), (3, .int wq), (4, .long pq), (6, .long qq), (8, .long oq)]) (st' := [.long 0, .long rz_10]) rfl ?_
                    refine zl_ne X do_X10_whose_82 do_X10_whose_83 (tgt := 89) (by decide) (a := rz_10.toInt) (b := 0) rfl (show (0 : Int64).toInt = 0 from by decide) (fun c82_12 => ?_) (fun c82_12 => ?_)
                    ·
                      refine z_run X bo_X10_whose_89_90 ko_X10_whose_89_90 (lv' := [(0, .ref x), (1, .int uq), (2, .int vq), (3, .int wq), (4, .long pq), (6, .long qq), (8, .long oq)]) (st' := [.ref x]) rfl ?_
                      refine z_get X fl_10_12 do_X10_whose_90 2 rfl (v := .ref told) rfl ?_
                      refine z_callV X k_10_180 (co_X8_start l G told tn tl fn) do_X10_whose_93 0 rfl rfl rfl ⟨Nat.le_of_ble_eq_true rfl, Nat.le_of_ble_eq_true rfl⟩ ⟨Nat.le_of_ble_eq_true rfl, Nat.le_of_ble_eq_true rfl⟩ rfl (rest := []) (As := []) rfl (Nat.le_of_ble_eq_true rfl) [0, 1] [2, 3, 4, 5] rfl (by decide) (wr := [(x, ob 10 [.ref told, x_reader, x_ring, .ref speeds, x_wheel, x_trials, x_span, x_search, x_kept, x_crosses, x_trueMasses, x_thought, x_up, x_low, x_fits, x_pulls]), (speeds, ob 7 [.int sc, .ref sf, .ref so, sX2, sX3, sX4]), (sf, aI G 6 ff), (so, aI G 6 fo)]) rfl (by decide) (by decide) ?_
                      rintro _ _ ⟨rfl, rfl⟩
                      refine Z.at (pc' := 96) (st' := []) (ws' := [(x, ob 10 [.ref told, x_reader, x_ring, .ref speeds, x_wheel, x_trials, x_span, x_search, x_kept, x_crosses, x_trueMasses, x_thought, x_up, x_low, x_fits, x_pulls]), (speeds, ob 7 [.int sc, .ref sf, .ref so, sX2, sX3, sX4]), (sf, aI G 6 ff), (so, aI G 6 fo), (told, ob 8 [.ref tn, .int 0]), (tn, aJ G 16 fn)]) (kc' := 0) (ks' := 0) rfl rfl rfl rfl rfl ?_
                      refine z_run X bo_X10_whose_96_103 ko_X10_whose_96_103 (lv' := [(0, .ref x), (1, .int uq), (2, .int vq), (3, .int wq), (4, .long pq), (6, .long qq), (8, .long oq)]) (st' := [.int 0, .long pq, .int wq, .int vq, .int uq, .ref x]) rfl ?_
                      refine z_callS X k_10_431 (co_X10_decoded l G pq 0 0 (show (0 : Int32).toInt = 0 from by decide)) do_X10_whose_103 ⟨Nat.le_of_ble_eq_true rfl, Nat.le_of_ble_eq_true rfl⟩ ⟨Nat.le_of_ble_eq_true rfl, Nat.le_of_ble_eq_true rfl⟩ rfl (rest := [.int wq, .int vq, .int uq, .ref x]) (As := [.long pq, .int 0]) rfl (Nat.le_of_ble_eq_true rfl) [] [0, 1, 2, 3, 4, 5] rfl (by decide) (wr := [(x, ob 10 [.ref told, x_reader, x_ring, .ref speeds, x_wheel, x_trials, x_span, x_search, x_kept, x_crosses, x_trueMasses, x_thought, x_up, x_low, x_fits, x_pulls]), (speeds, ob 7 [.int sc, .ref sf, .ref so, sX2, sX3, sX4]), (sf, aI G 6 ff), (so, aI G 6 fo), (told, ob 8 [.ref tn, .int 0]), (tn, aJ G 16 fn)]) rfl (by decide) (by decide) ?_
                      rintro _ _ ⟨rz_13, rfl, rfl⟩
                      refine Z.at (pc' := 106) (st' := [.long rz_13, .int wq, .int vq, .int uq, .ref x]) (ws' := [(x, ob 10 [.ref told, x_reader, x_ring, .ref speeds, x_wheel, x_trials, x_span, x_search, x_kept, x_crosses, x_trueMasses, x_thought, x_up, x_low, x_fits, x_pulls]), (speeds, ob 7 [.int sc, .ref sf, .ref so, sX2, sX3, sX4]), (sf, aI G 6 ff), (so, aI G 6 fo), (told, ob 8 [.ref tn, .int 0]), (tn, aJ G 16 fn)]) (kc' := 0) (ks' := 0) rfl rfl rfl rfl rfl ?_
                      refine z_run X bo_X10_whose_106_109 ko_X10_whose_106_109 (lv' := [(0, .ref x), (1, .int uq), (2, .int vq), (3, .int wq), (4, .long pq), (6, .long qq), (8, .long oq)]) (st' := [.int 0, .long qq, .long rz_13, .int wq, .int vq, .int uq, .ref x]) rfl ?_
                      refine z_callS X k_10_431 (co_X10_decoded l G qq 0 0 (show (0 : Int32).toInt = 0 from by decide)) do_X10_whose_109 ⟨Nat.le_of_ble_eq_true rfl, Nat.le_of_ble_eq_true rfl⟩ ⟨Nat.le_of_ble_eq_true rfl, Nat.le_of_ble_eq_true rfl⟩ rfl (rest := [.long rz_13, .int wq, .int vq, .int uq, .ref x]) (As := [.long qq, .int 0]) rfl (Nat.le_of_ble_eq_true rfl) [] [0, 1, 2, 3, 4, 5] rfl (by decide) (wr := [(x, ob 10 [.ref told, x_reader, x_ring, .ref speeds, x_wheel, x_trials, x_span, x_search, x_kept, x_crosses, x_trueMasses, x_thought, x_up, x_low, x_fits, x_pulls]), (speeds, ob 7 [.int sc, .ref sf, .ref so, sX2, sX3, sX4]), (sf, aI G 6 ff), (so, aI G 6 fo), (told, ob 8 [.ref tn, .int 0]), (tn, aJ G 16 fn)]) rfl (by decide) (by decide) ?_
                      rintro _ _ ⟨rz_14, rfl, rfl⟩
                      refine Z.at (pc' := 112) (st' := [.long rz_14, .long rz_13, .int wq, .int vq, .int uq, .ref x]) (ws' := [(x, ob 10 [.ref told, x_reader, x_ring, .ref speeds, x_wheel, x_trials, x_span, x_search, x_kept, x_crosses, x_trueMasses, x_thought, x_up, x_low, x_fits, x_pulls]), (speeds, ob 7 [.int sc, .ref sf, .ref so, sX2, sX3, sX4]), (sf, aI G 6 ff), (so, aI G 6 fo), (told, ob 8 [.ref tn, .int 0]), (tn, aJ G 16 fn)]) (kc' := 0) (ks' := 0) rfl rfl rfl rfl rfl ?_
                      refine z_run X bo_X10_whose_112_115 ko_X10_whose_112_115 (lv' := [(0, .ref x), (1, .int uq), (2, .int vq), (3, .int wq), (4, .long pq), (6, .long qq), (8, .long oq)]) (st' := [.int 0, .long oq, .long rz_14, .long rz_13, .int wq, .int vq, .int uq, .ref x]) rfl ?_
                      refine z_callS X k_10_431 (co_X10_decoded l G oq 0 0 (show (0 : Int32).toInt = 0 from by decide)) do_X10_whose_115 ⟨Nat.le_of_ble_eq_true rfl, Nat.le_of_ble_eq_true rfl⟩ ⟨Nat.le_of_ble_eq_true rfl, Nat.le_of_ble_eq_true rfl⟩ rfl (rest := [.long rz_14, .long rz_13, .int wq, .int vq, .int uq, .ref x]) (As := [.long oq, .int 0]) rfl (Nat.le_of_ble_eq_true rfl) [] [0, 1, 2, 3, 4, 5] rfl (by decide) (wr := [(x, ob 10 [.ref told, x_reader, x_ring, .ref speeds, x_wheel, x_trials, x_span, x_search, x_kept, x_crosses, x_trueMasses, x_thought, x_up, x_low, x_fits, x_pulls]), (speeds, ob 7 [.int sc, .ref sf, .ref so, sX2, sX3, sX4]), (sf, aI G 6 ff), (so, aI G 6 fo), (told, ob 8 [.ref tn, .int 0]), (tn, aJ G 16 fn)]) rfl (by decide) (by decide) ?_
                      rintro _ _ ⟨rz_15, rfl, rfl⟩
                      refine Z.at (pc' := 118) (st' := [.long rz_15, .long rz_14, .long rz_13, .int wq, .int vq, .int uq, .ref x]) (ws' := [(x, ob 10 [.ref told, x_reader, x_ring, .ref speeds, x_wheel, x_trials, x_span, x_search, x_kept, x_crosses, x_trueMasses, x_thought, x_up, x_low, x_fits, x_pulls]), (speeds, ob 7 [.int sc, .ref sf, .ref so, sX2, sX3, sX4]), (sf, aI G 6 ff), (so, aI G 6 fo), (told, ob 8 [.ref tn, .int 0]), (tn, aJ G 16 fn)]) (kc' := 0) (ks' := 0) rfl rfl rfl rfl rfl ?_
                      refine z_callV X k_10_439 (co_X10_tellThree l G x told x_reader x_ring speeds x_wheel x_trials x_span x_search x_kept x_crosses x_trueMasses x_thought x_up x_low x_fits x_pulls tn 0 fn sc sf so sX2 sX3 sX4 ff fo uq vq wq rz_13 rz_14 rz_15 0 ui vi wi (show (0 : Int32).toInt = 0 from by decide) huq hvq hwq (by omega) (by omega)) do_X10_whose_118 0 rfl rfl rfl ⟨Nat.le_of_ble_eq_true rfl, Nat.le_of_ble_eq_true rfl⟩ ⟨Nat.le_of_ble_eq_true rfl, Nat.le_of_ble_eq_true rfl⟩ rfl (rest := []) (As := [.int uq, .int vq, .int wq, .long rz_13, .long rz_14, .long rz_15]) rfl (Nat.le_of_ble_eq_true rfl) [0, 4, 5, 1, 2, 3] [] rfl (by decide) (wr := []) rfl (by decide) (by decide) ?_
                      rintro _ _ ⟨tl2_16, fn2_17, f118_18, rfl, rfl⟩
                      refine Z.at (pc' := 121) (st' := []) (ws' := [(x, ob 10 [.ref told, x_reader, x_ring, .ref speeds, x_wheel, x_trials, x_span, x_search, x_kept, x_crosses, x_trueMasses, x_thought, x_up, x_low, x_fits, x_pulls]), (told, ob 8 [.ref tn, .int tl2_16]), (tn, aJ G 16 fn2_17), (speeds, ob 7 [.int sc, .ref sf, .ref so, sX2, sX3, sX4]), (sf, aI G 6 ff), (so, aI G 6 fo)]) (kc' := 0) (ks' := 0) rfl rfl rfl rfl rfl ?_
                      refine z_run X bo_X10_whose_121_128 ko_X10_whose_121_128 (lv' := [(0, .ref x), (1, .int uq), (2, .int vq), (3, .int wq), (4, .long pq), (6, .long qq), (8, .long oq)]) (st' := [.int 1, .long pq, .int wq, .int vq, .int uq, .ref x]) rfl ?_
                      refine z_callS X k_10_431 (co_X10_decoded l G pq 1 1 (show (1 : Int32).toInt = 1 from by decide)) do_X10_whose_128 ⟨Nat.le_of_ble_eq_true rfl, Nat.le_of_ble_eq_true rfl⟩ ⟨Nat.le_of_ble_eq_true rfl, Nat.le_of_ble_eq_true rfl⟩ rfl (rest := [.int wq, .int vq, .int uq, .ref x]) (As := [.long pq, .int 1]) rfl (Nat.le_of_ble_eq_true rfl) [] [0, 1, 2, 3, 4, 5] rfl (by decide) (wr := [(x, ob 10 [.ref told, x_reader, x_ring, .ref speeds, x_wheel, x_trials, x_span, x_search, x_kept, x_crosses, x_trueMasses, x_thought, x_up, x_low, x_fits, x_pulls]), (told, ob 8 [.ref tn, .int tl2_16]), (tn, aJ G 16 fn2_17), (speeds, ob 7 [.int sc, .ref sf, .ref so, sX2, sX3, sX4]), (sf, aI G 6 ff), (so, aI G 6 fo)]) rfl (by decide) (by decide) ?_
                      rintro _ _ ⟨rz_19, rfl, rfl⟩
                      refine Z.at (pc' := 131) (st' := [.long rz_19, .int wq, .int vq, .int uq, .ref x]) (ws' := [(x, ob 10 [.ref told, x_reader, x_ring, .ref speeds, x_wheel, x_trials, x_span, x_search, x_kept, x_crosses, x_trueMasses, x_thought, x_up, x_low, x_fits, x_pulls]), (told, ob 8 [.ref tn, .int tl2_16]), (tn, aJ G 16 fn2_17), (speeds, ob 7 [.int sc, .ref sf, .ref so, sX2, sX3, sX4]), (sf, aI G 6 ff), (so, aI G 6 fo)]) (kc' := 0) (ks' := 0) rfl rfl rfl rfl rfl ?_
                      refine z_run X bo_X10_whose_131_134 ko_X10_whose_131_134 (lv' := [(0, .ref x), (1, .int uq), (2, .int vq), (3, .int wq), (4, .long pq), (6, .long qq), (8, .long oq)]) (st' := [.int 1, .long qq, .long rz_19, .int wq, .int vq, .int uq, .ref x]) rfl ?_
                      refine z_callS X k_10_431 (co_X10_decoded l G qq 1 1 (show (1 : Int32).toInt = 1 from by decide)) do_X10_whose_134 ⟨Nat.le_of_ble_eq_true rfl, Nat.le_of_ble_eq_true rfl⟩ ⟨Nat.le_of_ble_eq_true rfl, Nat.le_of_ble_eq_true rfl⟩ rfl (rest := [.long rz_19, .int wq, .int vq, .int uq, .ref x]) (As := [.long qq, .int 1]) rfl (Nat.le_of_ble_eq_true rfl) [] [0, 1, 2, 3, 4, 5] rfl (by decide) (wr := [(x, ob 10 [.ref told, x_reader, x_ring, .ref speeds, x_wheel, x_trials, x_span, x_search, x_kept, x_crosses, x_trueMasses, x_thought, x_up, x_low, x_fits, x_pulls]), (told, ob 8 [.ref tn, .int tl2_16]), (tn, aJ G 16 fn2_17), (speeds, ob 7 [.int sc, .ref sf, .ref so, sX2, sX3, sX4]), (sf, aI G 6 ff), (so, aI G 6 fo)]) rfl (by decide) (by decide) ?_
                      rintro _ _ ⟨rz_20, rfl, rfl⟩
                      refine Z.at (pc' := 137) (st' := [.long rz_20, .long rz_19, .int wq, .int vq, .int uq, .ref x]) (ws' := [(x, ob 10 [.ref told, x_reader, x_ring, .ref speeds, x_wheel, x_trials, x_span, x_search, x_kept, x_crosses, x_trueMasses, x_thought, x_up, x_low, x_fits, x_pulls]), (told, ob 8 [.ref tn, .int tl2_16]), (tn, aJ G 16 fn2_17), (speeds, ob 7 [.int sc, .ref sf, .ref so, sX2, sX3, sX4]), (sf, aI G 6 ff), (so, aI G 6 fo)]) (kc' := 0) (ks' := 0) rfl rfl rfl rfl rfl ?_
                      refine z_run X bo_X10_whose_137_140 ko_X10_whose_137_140 (lv' := [(0, .ref x), (1, .int uq), (2, .int vq), (3, .int wq), (4, .long pq), (6, .long qq), (8, .long oq)]) (st' := [.int 1, .long oq, .long rz_20, .long rz_19, .int wq, .int vq, .int uq, .ref x]) rfl ?_
                      refine z_callS X k_10_431 (co_X10_decoded l G oq 1 1 (show (1 : Int32).toInt = 1 from by decide)) do_X10_whose_140 ⟨Nat.le_of_ble_eq_true rfl, Nat.le_of_ble_eq_true rfl⟩ ⟨Nat.le_of_ble_eq_true rfl, Nat.le_of_ble_eq_true rfl⟩ rfl (rest := [.long rz_20, .long rz_19, .int wq, .int vq, .int uq, .ref x]) (As := [.long oq, .int 1]) rfl (Nat.le_of_ble_eq_true rfl) [] [0, 1, 2, 3, 4, 5] rfl (by decide) (wr := [(x, ob 10 [.ref told, x_reader, x_ring, .ref speeds, x_wheel, x_trials, x_span, x_search, x_kept, x_crosses, x_trueMasses, x_thought, x_up, x_low, x_fits, x_pulls]), (told, ob 8 [.ref tn, .int tl2_16]), (tn, aJ G 16 fn2_17), (speeds, ob 7 [.int sc, .ref sf, .ref so, sX2, sX3, sX4]), (sf, aI G 6 ff), (so, aI G 6 fo)]) rfl (by decide) (by decide) ?_
                      rintro _ _ ⟨rz_21, rfl, rfl⟩
                      refine Z.at (pc' := 143) (st' := [.long rz_21, .long rz_20, .long rz_19, .int wq, .int vq, .int uq, .ref x]) (ws' := [(x, ob 10 [.ref told, x_reader, x_ring, .ref speeds, x_wheel, x_trials, x_span, x_search, x_kept, x_crosses, x_trueMasses, x_thought, x_up, x_low, x_fits, x_pulls]), (told, ob 8 [.ref tn, .int tl2_16]), (tn, aJ G 16 fn2_17), (speeds, ob 7 [.int sc, .ref sf, .ref so, sX2, sX3, sX4]), (sf, aI G 6 ff), (so, aI G 6 fo)]) (kc' := 0) (ks' := 0) rfl rfl rfl rfl rfl ?_
                      refine z_callV X k_10_439 (co_X10_tellThree l G x told x_reader x_ring speeds x_wheel x_trials x_span x_search x_kept x_crosses x_trueMasses x_thought x_up x_low x_fits x_pulls tn tl2_16 fn2_17 sc sf so sX2 sX3 sX4 ff fo uq vq wq rz_19 rz_20 rz_21 tl2_16.toInt ui vi wi rfl huq hvq hwq (by omega) (by omega)) do_X10_whose_143 0 rfl rfl rfl ⟨Nat.le_of_ble_eq_true rfl, Nat.le_of_ble_eq_true rfl⟩ ⟨Nat.le_of_ble_eq_true rfl, Nat.le_of_ble_eq_true rfl⟩ rfl (rest := []) (As := [.int uq, .int vq, .int wq, .long rz_19, .long rz_20, .long rz_21]) rfl (Nat.le_of_ble_eq_true rfl) [0, 1, 2, 3, 4, 5] [] rfl (by decide) (wr := []) rfl (by decide) (by decide) ?_
                      rintro _ _ ⟨tl2_22, fn2_23, f143_24, rfl, rfl⟩
                      refine Z.at (pc' := 146) (st' := []) (ws' := [(x, ob 10 [.ref told, x_reader, x_ring, .ref speeds, x_wheel, x_trials, x_span, x_search, x_kept, x_crosses, x_trueMasses, x_thought, x_up, x_low, x_fits, x_pulls]), (told, ob 8 [.ref tn, .int tl2_22]), (tn, aJ G 16 fn2_23), (speeds, ob 7 [.int sc, .ref sf, .ref so, sX2, sX3, sX4]), (sf, aI G 6 ff), (so, aI G 6 fo)]) (kc' := 0) (ks' := 0) rfl rfl rfl rfl rfl ?_
                      refine z_run X bo_X10_whose_146_147 ko_X10_whose_146_147 (lv' := [(0, .ref x), (1, .int uq), (2, .int vq), (3, .int wq), (4, .long pq), (6, .long qq), (8, .long oq)]) (st' := [.int 0]) rfl ?_
                      exact z_iret X rfl do_X10_whose_147 (Nat.le_of_ble_eq_true rfl) (Nat.le_of_ble_eq_true rfl) ⟨(0 : Int32), tl2_22, fn2_23, (mTwo_1 (by unfold okWh okPt; omega) (show (((ff vq.toNatClampNeg) - (ff uq.toNatClampNeg)).toInt64 * ((fo wq.toNatClampNeg) - (fo uq.toNatClampNeg)).toInt64 - ((ff wq.toNatClampNeg) - (ff uq.toNatClampNeg)).toInt64 * ((fo vq.toNatClampNeg) - (fo uq.toNatClampNeg)).toInt64).toInt ≠ 0 from (by rw [← f78_11]; exact c82_12))).symm, rfl, rfl⟩
                    ·
                      refine z_run X bo_X10_whose_86_88 ko_X10_whose_86_88 (lv' := [(0, .ref x), (1, .int uq), (2, .int vq), (3, .int wq), (4, .long pq), (6, .long qq), (8, .long oq)]) (st' := [.int (-2)]) rfl ?_
                      refine Z.sub (lv' := []) [] rfl [2, 0, 1, 3, 4, 5] (ws' := [(x, ob 10 [.ref told, x_reader, x_ring, .ref speeds, x_wheel, x_trials, x_span, x_search, x_kept, x_crosses, x_trueMasses, x_thought, x_up, x_low, x_fits, x_pulls]), (told, ob 8 [.ref tn, .int tl]), (tn, aJ G 16 fn), (speeds, ob 7 [.int sc, .ref sf, .ref so, sX2, sX3, sX4]), (sf, aI G 6 ff), (so, aI G 6 fo)]) rfl (by decide) ?_
                      exact z_iret X rfl do_X10_whose_88 (Nat.le_of_ble_eq_true rfl) (Nat.le_of_ble_eq_true rfl) ⟨((-2) : Int32), tl, fn, (mTwo_0 (by unfold okWh okPt; omega) (show (((ff vq.toNatClampNeg) - (ff uq.toNatClampNeg)).toInt64 * ((fo wq.toNatClampNeg) - (fo uq.toNatClampNeg)).toInt64 - ((ff wq.toNatClampNeg) - (ff uq.toNatClampNeg)).toInt64 * ((fo vq.toNatClampNeg) - (fo uq.toNatClampNeg)).toInt64).toInt = 0 from (by rw [← f78_11]; exact c82_12))).symm, rfl, rfl⟩
                  ·
                    refine z_run X bo_X10_whose_72_73 ko_X10_whose_72_73 (lv' := [(0, .ref x), (1, .int uq), (2, .int vq), (3, .int wq), (4, .long pq), (6, .long qq), (8, .long oq)]) (st' := [.int (-1)]) rfl ?_
                    refine Z.sub (lv' := []) [] rfl [0, 1, 2, 5, 3, 4] (ws' := [(x, ob 10 [.ref told, x_reader, x_ring, .ref speeds, x_wheel, x_trials, x_span, x_search, x_kept, x_crosses, x_trueMasses, x_thought, x_up, x_low, x_fits, x_pulls]), (told, ob 8 [.ref tn, .int tl]), (tn, aJ G 16 fn), (speeds, ob 7 [.int sc, .ref sf, .ref so, sX2, sX3, sX4]), (sf, aI G 6 ff), (so, aI G 6 fo)]) rfl (by decide) ?_
                    exact z_iret X rfl do_X10_whose_73 (Nat.le_of_ble_eq_true rfl) (Nat.le_of_ble_eq_true rfl) ⟨((-1) : Int32), tl, fn, (mTwo_no (by unfold okWh okPt; omega)).symm, rfl, rfl⟩

