abbrev okPt (p : Int) : Prop := 0 ≤ p ∧ p < 40000000000 ∧ 0 < p / 200000 ∧ 0 < p % 200000
abbrev okFl (s a b p q : Int) : Prop := (0 ≤ a ∧ a < s) ∧ (0 ≤ b ∧ b < s) ∧ okPt p ∧ okPt q
abbrev okWh (s a b c p q r : Int) : Prop := ((0 ≤ a ∧ a < s) ∧ (0 ≤ b ∧ b < s) ∧ (0 ≤ c ∧ c < s)) ∧ (a ≠ b ∧ b ≠ c ∧ a ≠ c) ∧ okPt p ∧ okPt q ∧ okPt r
theorem sub0 {x y : Int32} : (x - y).toInt = 0 ↔ (x.toInt64 - y.toInt64).toInt = 0 := by
  have e : (x.toInt64 - y.toInt64).toInt = x.toInt - y.toInt := by
    have a := i32_lo x
    have b := i32_hi x
    have c := i32_lo y
    have d := i32_hi y
    unfold iMin at a c
    unfold iMax at b d
    exact tJ_sub (Int32.toInt_toInt64 x) (Int32.toInt_toInt64 y) (by omega)
  constructor
  · intro h
    have h0 : x - y = 0 := Int32.toInt_inj.mp (h.trans (by decide))
    have h1 : x = y := by grind
    rw [e, h1]
    omega
  · intro h
    rw [e] at h
    have h1 : x = y := Int32.toInt_inj.mp (by omega)
    rw [h1]
    have h2 : y - y = (0 : Int32) := by grind
    rw [h2]
    decide
theorem do_X10_isCode_2 : decode cX10_isCode 2 = .ok (.lcmp, 1) := by decide +kernel
theorem do_X10_isCode_3 : decode cX10_isCode 3 = .ok (.ifCond .lt 35, 3) := by decide +kernel
theorem do_X10_isCode_39 : decode cX10_isCode 39 = .ok (.ireturn, 1) := by decide +kernel
theorem do_X10_isCode_7 : decode cX10_isCode 7 = .ok (.ldc2_w 443, 3) := by decide +kernel
theorem do_X10_isCode_10 : decode cX10_isCode 10 = .ok (.lcmp, 1) := by decide +kernel
theorem do_X10_isCode_11 : decode cX10_isCode 11 = .ok (.ifCond .ge 27, 3) := by decide +kernel
theorem do_X10_isCode_15 : decode cX10_isCode 15 = .ok (.ldc2_w 445, 3) := by decide +kernel
theorem do_X10_isCode_18 : decode cX10_isCode 18 = .ok (.ldiv, 1) := by decide +kernel
theorem do_X10_isCode_20 : decode cX10_isCode 20 = .ok (.lcmp, 1) := by decide +kernel
theorem do_X10_isCode_21 : decode cX10_isCode 21 = .ok (.ifCond .le 17, 3) := by decide +kernel
theorem do_X10_isCode_25 : decode cX10_isCode 25 = .ok (.ldc2_w 445, 3) := by decide +kernel
theorem do_X10_isCode_28 : decode cX10_isCode 28 = .ok (.lrem, 1) := by decide +kernel
theorem do_X10_isCode_30 : decode cX10_isCode 30 = .ok (.lcmp, 1) := by decide +kernel
theorem do_X10_isCode_31 : decode cX10_isCode 31 = .ok (.ifCond .le 7, 3) := by decide +kernel
theorem do_X10_isCode_35 : decode cX10_isCode 35 = .ok (.goto 4, 3) := by decide +kernel
abbrev bo_X10_isCode_0_2 : ZB := [(.lload_n 0, .null), (.lconst 0, .long 0)]
theorem ko_X10_isCode_0_2 : zchk cX10_isCode bo_X10_isCode_0_2 0 = true ∧ zpc bo_X10_isCode_0_2 0 = 2 := ⟨by decide +kernel, rfl⟩
abbrev bo_X10_isCode_38_39 : ZB := [(.iconst 0, .int 0)]
theorem ko_X10_isCode_38_39 : zchk cX10_isCode bo_X10_isCode_38_39 38 = true ∧ zpc bo_X10_isCode_38_39 38 = 39 := ⟨by decide +kernel, rfl⟩
abbrev bo_X10_isCode_6_7 : ZB := [(.lload_n 0, .null)]
theorem ko_X10_isCode_6_7 : zchk cX10_isCode bo_X10_isCode_6_7 6 = true ∧ zpc bo_X10_isCode_6_7 6 = 7 := ⟨by decide +kernel, rfl⟩
abbrev bo_X10_isCode_14_15 : ZB := [(.lload_n 0, .null)]
theorem ko_X10_isCode_14_15 : zchk cX10_isCode bo_X10_isCode_14_15 14 = true ∧ zpc bo_X10_isCode_14_15 14 = 15 := ⟨by decide +kernel, rfl⟩
abbrev bo_X10_isCode_19_20 : ZB := [(.lconst 0, .long 0)]
theorem ko_X10_isCode_19_20 : zchk cX10_isCode bo_X10_isCode_19_20 19 = true ∧ zpc bo_X10_isCode_19_20 19 = 20 := ⟨by decide +kernel, rfl⟩
abbrev bo_X10_isCode_24_25 : ZB := [(.lload_n 0, .null)]
theorem ko_X10_isCode_24_25 : zchk cX10_isCode bo_X10_isCode_24_25 24 = true ∧ zpc bo_X10_isCode_24_25 24 = 25 := ⟨by decide +kernel, rfl⟩
abbrev bo_X10_isCode_29_30 : ZB := [(.lconst 0, .long 0)]
theorem ko_X10_isCode_29_30 : zchk cX10_isCode bo_X10_isCode_29_30 29 = true ∧ zpc bo_X10_isCode_29_30 29 = 30 := ⟨by decide +kernel, rfl⟩
abbrev bo_X10_isCode_34_35 : ZB := [(.iconst 1, .int 1)]
theorem ko_X10_isCode_34_35 : zchk cX10_isCode bo_X10_isCode_34_35 34 = true ∧ zpc bo_X10_isCode_34_35 34 = 35 := ⟨by decide +kernel, rfl⟩
set_option maxHeartbeats 4000000 in
set_option maxRecDepth 100000 in
theorem co_X10_isCode (l : Launch) (G : KG) (pq : Int64) (pi : Int) (hpq : pq.toInt = pi) : Ct l G yX10_isCode cX10_isCode 2 (some .boolean) { frames := 0, cells := 0, slots := 0, locals := 0 } [.long pq] [] (fun r w1 => r = some (.int (zb (decide (0 ≤ pi ∧ pi < 40000000000 ∧ 0 < pi / 200000 ∧ 0 < pi % 200000)))) ∧ w1 = []) := by
  refine ct_of [(0, .long pq)] (by decide) (Nat.le_of_ble_eq_true rfl) rfl ?_
  intro p0 e0 s0 m0 args0 below0 meth0 c0 A X
  refine z_run X bo_X10_isCode_0_2 ko_X10_isCode_0_2 (lv' := [(0, .long pq)]) (st' := [.long 0, .long pq]) rfl ?_
  refine zl_lt X do_X10_isCode_2 do_X10_isCode_3 (tgt := 38) (by decide) (a := pi) (b := 0) hpq (show (0 : Int64).toInt = 0 from by decide) (fun c2_1 => ?_) (fun c2_1 => ?_)
  ·
    refine z_run X bo_X10_isCode_38_39 ko_X10_isCode_38_39 (lv' := [(0, .long pq)]) (st' := [.int 0]) rfl ?_
    exact z_zret X rfl rfl do_X10_isCode_39 (Nat.le_of_ble_eq_true rfl) (Nat.le_of_ble_eq_true rfl) ⟨(congrArg (fun z => some (Value.int z)) (zb_f (by omega)).symm), rfl⟩
  ·
    have hd := ptd (x := pq) (by omega)
    refine z_run X bo_X10_isCode_6_7 ko_X10_isCode_6_7 (lv' := [(0, .long pq)]) (st' := [.long pq]) rfl ?_
    refine z_ldc2 X do_X10_isCode_7 cn_10_443 ?_
    refine zl_ge X do_X10_isCode_10 do_X10_isCode_11 (tgt := 38) (by decide) (a := pi) (b := 40000000000) hpq (show (40000000000 : Int64).toInt = 40000000000 from by decide) (fun c10_2 => ?_) (fun c10_2 => ?_)
    ·
      refine z_run X bo_X10_isCode_38_39 ko_X10_isCode_38_39 (lv' := [(0, .long pq)]) (st' := [.int 0]) rfl ?_
      exact z_zret X rfl rfl do_X10_isCode_39 (Nat.le_of_ble_eq_true rfl) (Nat.le_of_ble_eq_true rfl) ⟨(congrArg (fun z => some (Value.int z)) (zb_f (by omega)).symm), rfl⟩
    ·
      refine z_run X bo_X10_isCode_14_15 ko_X10_isCode_14_15 (lv' := [(0, .long pq)]) (st' := [.long pq]) rfl ?_
      refine z_ldc2 X do_X10_isCode_15 cn_10_445 ?_
      refine z_ldiv X do_X10_isCode_18 (by decide) ?_
      refine z_run X bo_X10_isCode_19_20 ko_X10_isCode_19_20 (lv' := [(0, .long pq)]) (st' := [.long 0, .long (pq / 200000)]) rfl ?_
      refine zl_le X do_X10_isCode_20 do_X10_isCode_21 (tgt := 38) (by decide) (a := (pq / 200000).toInt) (b := 0) rfl (show (0 : Int64).toInt = 0 from by decide) (fun c20_3 => ?_) (fun c20_3 => ?_)
      ·
        refine z_run X bo_X10_isCode_38_39 ko_X10_isCode_38_39 (lv' := [(0, .long pq)]) (st' := [.int 0]) rfl ?_
        exact z_zret X rfl rfl do_X10_isCode_39 (Nat.le_of_ble_eq_true rfl) (Nat.le_of_ble_eq_true rfl) ⟨(congrArg (fun z => some (Value.int z)) (zb_f (by omega)).symm), rfl⟩
      ·
        refine z_run X bo_X10_isCode_24_25 ko_X10_isCode_24_25 (lv' := [(0, .long pq)]) (st' := [.long pq]) rfl ?_
        refine z_ldc2 X do_X10_isCode_25 cn_10_445 ?_
        refine z_lrem X do_X10_isCode_28 (by decide) ?_
        refine z_run X bo_X10_isCode_29_30 ko_X10_isCode_29_30 (lv' := [(0, .long pq)]) (st' := [.long 0, .long (pq - pq / 200000 * 200000)]) rfl ?_
        refine zl_le X do_X10_isCode_30 do_X10_isCode_31 (tgt := 38) (by decide) (a := (pq - pq / 200000 * 200000).toInt) (b := 0) rfl (show (0 : Int64).toInt = 0 from by decide) (fun c30_4 => ?_) (fun c30_4 => ?_)
        ·
          refine z_run X bo_X10_isCode_38_39 ko_X10_isCode_38_39 (lv' := [(0, .long pq)]) (st' := [.int 0]) rfl ?_
          exact z_zret X rfl rfl do_X10_isCode_39 (Nat.le_of_ble_eq_true rfl) (Nat.le_of_ble_eq_true rfl) ⟨(congrArg (fun z => some (Value.int z)) (zb_f (by omega)).symm), rfl⟩
        ·
          refine z_run X bo_X10_isCode_34_35 ko_X10_isCode_34_35 (lv' := [(0, .long pq)]) (st' := [.int 1]) rfl ?_
          refine z_goto X do_X10_isCode_35 (tgt := 39) (by decide) ?_
          exact z_zret X rfl rfl do_X10_isCode_39 (Nat.le_of_ble_eq_true rfl) (Nat.le_of_ble_eq_true rfl) ⟨(congrArg (fun z => some (Value.int z)) (zb_t (by omega)).symm), rfl⟩

theorem do_X10_decoded_1 : decode cX10_decoded 1 = .ok (.ifCond .ne 11, 3) := by decide +kernel
theorem do_X10_decoded_13 : decode cX10_decoded 13 = .ok (.ldc2_w 445, 3) := by decide +kernel
theorem do_X10_decoded_16 : decode cX10_decoded 16 = .ok (.lrem, 1) := by decide +kernel
theorem do_X10_decoded_17 : decode cX10_decoded 17 = .ok (.ldc2_w 447, 3) := by decide +kernel
theorem do_X10_decoded_21 : decode cX10_decoded 21 = .ok (.lreturn, 1) := by decide +kernel
theorem do_X10_decoded_5 : decode cX10_decoded 5 = .ok (.ldc2_w 445, 3) := by decide +kernel
theorem do_X10_decoded_8 : decode cX10_decoded 8 = .ok (.ldiv, 1) := by decide +kernel
theorem do_X10_decoded_9 : decode cX10_decoded 9 = .ok (.goto 8, 3) := by decide +kernel
abbrev bo_X10_decoded_0_1 : ZB := [(.iload_n 2, .null)]
theorem ko_X10_decoded_0_1 : zchk cX10_decoded bo_X10_decoded_0_1 0 = true ∧ zpc bo_X10_decoded_0_1 0 = 1 := ⟨by decide +kernel, rfl⟩
abbrev bo_X10_decoded_12_13 : ZB := [(.lload_n 0, .null)]
theorem ko_X10_decoded_12_13 : zchk cX10_decoded bo_X10_decoded_12_13 12 = true ∧ zpc bo_X10_decoded_12_13 12 = 13 := ⟨by decide +kernel, rfl⟩
abbrev bo_X10_decoded_20_21 : ZB := [(.lsub, .null)]
theorem ko_X10_decoded_20_21 : zchk cX10_decoded bo_X10_decoded_20_21 20 = true ∧ zpc bo_X10_decoded_20_21 20 = 21 := ⟨by decide +kernel, rfl⟩
abbrev bo_X10_decoded_4_5 : ZB := [(.lload_n 0, .null)]
theorem ko_X10_decoded_4_5 : zchk cX10_decoded bo_X10_decoded_4_5 4 = true ∧ zpc bo_X10_decoded_4_5 4 = 5 := ⟨by decide +kernel, rfl⟩
set_option maxHeartbeats 4000000 in
set_option maxRecDepth 100000 in
theorem co_X10_decoded (l : Launch) (G : KG) (pq : Int64) (aq : Int32) (ai : Int) (haq : aq.toInt = ai) : Ct l G yX10_decoded cX10_decoded 3 (some .long) { frames := 0, cells := 0, slots := 0, locals := 0 } [.long pq, .int aq] [] (fun r w1 => ∃ (rz : Int64), r = some (.long rz) ∧ w1 = []) := by
  refine ct_of [(0, .long pq), (2, .int aq)] (by decide) (Nat.le_of_ble_eq_true rfl) rfl ?_
  intro p0 e0 s0 m0 args0 below0 meth0 c0 A X
  refine z_run X bo_X10_decoded_0_1 ko_X10_decoded_0_1 (lv' := [(0, .long pq), (2, .int aq)]) (st' := [.int aq]) rfl ?_
  refine zi_ne X do_X10_decoded_1 (tgt := 12) (by decide) (a := ai) haq (fun c1_1 => ?_) (fun c1_1 => ?_)
  ·
    refine z_run X bo_X10_decoded_12_13 ko_X10_decoded_12_13 (lv' := [(0, .long pq), (2, .int aq)]) (st' := [.long pq]) rfl ?_
    refine z_ldc2 X do_X10_decoded_13 cn_10_445 ?_
    refine z_lrem X do_X10_decoded_16 (by decide) ?_
    refine z_ldc2 X do_X10_decoded_17 cn_10_447 ?_
    refine z_run X bo_X10_decoded_20_21 ko_X10_decoded_20_21 (lv' := [(0, .long pq), (2, .int aq)]) (st' := [.long ((pq - pq / 200000 * 200000) - 100000)]) rfl ?_
    exact z_lret X rfl do_X10_decoded_21 (Nat.le_of_ble_eq_true rfl) (Nat.le_of_ble_eq_true rfl) ⟨((pq - pq / 200000 * 200000) - 100000), rfl, rfl⟩
  ·
    refine z_run X bo_X10_decoded_4_5 ko_X10_decoded_4_5 (lv' := [(0, .long pq), (2, .int aq)]) (st' := [.long pq]) rfl ?_
    refine z_ldc2 X do_X10_decoded_5 cn_10_445 ?_
    refine z_ldiv X do_X10_decoded_8 (by decide) ?_
    refine z_goto X do_X10_decoded_9 (tgt := 17) (by decide) ?_
    refine z_ldc2 X do_X10_decoded_17 cn_10_447 ?_
    refine z_run X bo_X10_decoded_20_21 ko_X10_decoded_20_21 (lv' := [(0, .long pq), (2, .int aq)]) (st' := [.long ((pq / 200000) - 100000)]) rfl ?_
    exact z_lret X rfl do_X10_decoded_21 (Nat.le_of_ble_eq_true rfl) (Nat.le_of_ble_eq_true rfl) ⟨((pq / 200000) - 100000), rfl, rfl⟩

set_option maxHeartbeats 4000000 in
set_option maxRecDepth 100000 in
theorem co_X7_isSpeedG (l : Launch) (G : KG) (speeds : Nat) (sc : Int32) (sf : Nat) (so : Nat) (sX2 : Value) (sX3 : Value) (sX4 : Value) (a : Int32) (sci : Int) (ai : Int) (hsc : sc.toInt = sci) (ha : a.toInt = ai) : Ct l G yX7_isSpeed cX7_isSpeed 2 (some .boolean) { frames := 0, cells := 0, slots := 0, locals := 0 } [.ref speeds, .int a] [(speeds, ob 7 [.int sc, .ref sf, .ref so, sX2, sX3, sX4])] (fun r w1 => r = some (.int (zb (decide (0 ≤ ai ∧ ai < sci)))) ∧ w1 = [(speeds, ob 7 [.int sc, .ref sf, .ref so, sX2, sX3, sX4])]) := by
  refine ct_of [(0, .ref speeds), (1, .int a)] (by decide) (Nat.le_of_ble_eq_true rfl) rfl ?_
  intro p0 e0 s0 m0 args0 below0 meth0 c0 A X
  refine z_run X bo_X7_isSpeed_0_1 ko_X7_isSpeed_0_1 (lv' := [(0, .ref speeds), (1, .int a)]) (st' := [.int a]) rfl ?_
  refine zi_lt X do_X7_isSpeed_1 (tgt := 16) (by decide) (a := ai) ha (fun c1_1 => ?_) (fun c1_1 => ?_)
  ·
    refine z_run X bo_X7_isSpeed_16_17 ko_X7_isSpeed_16_17 (lv' := [(0, .ref speeds), (1, .int a)]) (st' := [.int 0]) rfl ?_
    exact z_zret X rfl rfl do_X7_isSpeed_17 (Nat.le_of_ble_eq_true rfl) (Nat.le_of_ble_eq_true rfl) ⟨(congrArg (fun z => some (Value.int z)) (zb_f (by omega)).symm), rfl⟩
  ·
    refine z_run X bo_X7_isSpeed_4_6 ko_X7_isSpeed_4_6 (lv' := [(0, .ref speeds), (1, .int a)]) (st' := [.ref speeds, .int a]) rfl ?_
    refine z_get X fl_7_28 do_X7_isSpeed_6 0 rfl (v := .int sc) rfl ?_
    refine zc_ge X do_X7_isSpeed_9 (tgt := 16) (by decide) (a := ai) (b := sci) ha hsc (fun c9_2 => ?_) (fun c9_2 => ?_)
    ·
      refine z_run X bo_X7_isSpeed_16_17 ko_X7_isSpeed_16_17 (lv' := [(0, .ref speeds), (1, .int a)]) (st' := [.int 0]) rfl ?_
      exact z_zret X rfl rfl do_X7_isSpeed_17 (Nat.le_of_ble_eq_true rfl) (Nat.le_of_ble_eq_true rfl) ⟨(congrArg (fun z => some (Value.int z)) (zb_f (by omega)).symm), rfl⟩
    ·
      refine z_run X bo_X7_isSpeed_12_13 ko_X7_isSpeed_12_13 (lv' := [(0, .ref speeds), (1, .int a)]) (st' := [.int 1]) rfl ?_
      refine z_goto X do_X7_isSpeed_13 (tgt := 17) (by decide) ?_
      exact z_zret X rfl rfl do_X7_isSpeed_17 (Nat.le_of_ble_eq_true rfl) (Nat.le_of_ble_eq_true rfl) ⟨(congrArg (fun z => some (Value.int z)) (zb_t (by omega)).symm), rfl⟩

theorem do_X10_floor_1 : decode cX10_floor 1 = .ok (.getfield 33, 3) := by decide +kernel
theorem do_X10_floor_5 : decode cX10_floor 5 = .ok (.invokevirtual 173, 3) := by decide +kernel
theorem do_X10_floor_8 : decode cX10_floor 8 = .ok (.ifCond .eq 30, 3) := by decide +kernel
theorem do_X10_floor_39 : decode cX10_floor 39 = .ok (.ireturn, 1) := by decide +kernel
theorem do_X10_floor_12 : decode cX10_floor 12 = .ok (.getfield 33, 3) := by decide +kernel
theorem do_X10_floor_17 : decode cX10_floor 17 = .ok (.invokevirtual 173, 3) := by decide +kernel
theorem do_X10_floor_20 : decode cX10_floor 20 = .ok (.ifCond .eq 18, 3) := by decide +kernel
theorem do_X10_floor_24 : decode cX10_floor 24 = .ok (.invokestatic 427, 3) := by decide +kernel
theorem do_X10_floor_27 : decode cX10_floor 27 = .ok (.ifCond .eq 11, 3) := by decide +kernel
theorem do_X10_floor_32 : decode cX10_floor 32 = .ok (.invokestatic 427, 3) := by decide +kernel
theorem do_X10_floor_35 : decode cX10_floor 35 = .ok (.ifCond .ne 5, 3) := by decide +kernel
theorem do_X10_floor_41 : decode cX10_floor 41 = .ok (.getfield 33, 3) := by decide +kernel
theorem do_X10_floor_44 : decode cX10_floor 44 = .ok (.getfield 195, 3) := by decide +kernel
theorem do_X10_floor_48 : decode cX10_floor 48 = .ok (.iaload, 1) := by decide +kernel
theorem do_X10_floor_53 : decode cX10_floor 53 = .ok (.getfield 33, 3) := by decide +kernel
theorem do_X10_floor_56 : decode cX10_floor 56 = .ok (.getfield 195, 3) := by decide +kernel
theorem do_X10_floor_61 : decode cX10_floor 61 = .ok (.iaload, 1) := by decide +kernel
theorem do_X10_floor_75 : decode cX10_floor 75 = .ok (.lcmp, 1) := by decide +kernel
theorem do_X10_floor_76 : decode cX10_floor 76 = .ok (.ifCond .ne 6, 3) := by decide +kernel
theorem do_X10_floor_83 : decode cX10_floor 83 = .ok (.getfield 12, 3) := by decide +kernel
theorem do_X10_floor_86 : decode cX10_floor 86 = .ok (.invokevirtual 180, 3) := by decide +kernel
theorem do_X10_floor_90 : decode cX10_floor 90 = .ok (.getfield 12, 3) := by decide +kernel
theorem do_X10_floor_95 : decode cX10_floor 95 = .ok (.invokestatic 431, 3) := by decide +kernel
theorem do_X10_floor_101 : decode cX10_floor 101 = .ok (.invokestatic 431, 3) := by decide +kernel
theorem do_X10_floor_107 : decode cX10_floor 107 = .ok (.invokevirtual 408, 3) := by decide +kernel
theorem do_X10_floor_111 : decode cX10_floor 111 = .ok (.getfield 12, 3) := by decide +kernel
theorem do_X10_floor_116 : decode cX10_floor 116 = .ok (.invokestatic 431, 3) := by decide +kernel
theorem do_X10_floor_122 : decode cX10_floor 122 = .ok (.invokestatic 431, 3) := by decide +kernel
theorem do_X10_floor_128 : decode cX10_floor 128 = .ok (.invokevirtual 408, 3) := by decide +kernel
theorem do_X10_floor_132 : decode cX10_floor 132 = .ok (.getfield 12, 3) := by decide +kernel
theorem do_X10_floor_140 : decode cX10_floor 140 = .ok (.invokestatic 431, 3) := by decide +kernel
theorem do_X10_floor_148 : decode cX10_floor 148 = .ok (.invokestatic 431, 3) := by decide +kernel
theorem do_X10_floor_155 : decode cX10_floor 155 = .ok (.invokevirtual 408, 3) := by decide +kernel
theorem do_X10_floor_159 : decode cX10_floor 159 = .ok (.getfield 12, 3) := by decide +kernel
theorem do_X10_floor_167 : decode cX10_floor 167 = .ok (.invokestatic 431, 3) := by decide +kernel
theorem do_X10_floor_175 : decode cX10_floor 175 = .ok (.invokestatic 431, 3) := by decide +kernel
theorem do_X10_floor_182 : decode cX10_floor 182 = .ok (.invokevirtual 408, 3) := by decide +kernel
theorem do_X10_floor_186 : decode cX10_floor 186 = .ok (.ireturn, 1) := by decide +kernel
theorem do_X10_floor_81 : decode cX10_floor 81 = .ok (.ireturn, 1) := by decide +kernel
abbrev bo_X10_floor_0_1 : ZB := [(.aload_n 0, .null)]
theorem ko_X10_floor_0_1 : zchk cX10_floor bo_X10_floor_0_1 0 = true ∧ zpc bo_X10_floor_0_1 0 = 1 := ⟨by decide +kernel, rfl⟩
abbrev bo_X10_floor_4_5 : ZB := [(.iload_n 1, .null)]
theorem ko_X10_floor_4_5 : zchk cX10_floor bo_X10_floor_4_5 4 = true ∧ zpc bo_X10_floor_4_5 4 = 5 := ⟨by decide +kernel, rfl⟩
abbrev bo_X10_floor_38_39 : ZB := [(.iconst (-1), .int (-1))]
theorem ko_X10_floor_38_39 : zchk cX10_floor bo_X10_floor_38_39 38 = true ∧ zpc bo_X10_floor_38_39 38 = 39 := ⟨by decide +kernel, rfl⟩
abbrev bo_X10_floor_11_12 : ZB := [(.aload_n 0, .null)]
theorem ko_X10_floor_11_12 : zchk cX10_floor bo_X10_floor_11_12 11 = true ∧ zpc bo_X10_floor_11_12 11 = 12 := ⟨by decide +kernel, rfl⟩
abbrev bo_X10_floor_15_17 : ZB := [(.iload 4, .null)]
theorem ko_X10_floor_15_17 : zchk cX10_floor bo_X10_floor_15_17 15 = true ∧ zpc bo_X10_floor_15_17 15 = 17 := ⟨by decide +kernel, rfl⟩
abbrev bo_X10_floor_23_24 : ZB := [(.lload_n 2, .null)]
theorem ko_X10_floor_23_24 : zchk cX10_floor bo_X10_floor_23_24 23 = true ∧ zpc bo_X10_floor_23_24 23 = 24 := ⟨by decide +kernel, rfl⟩
abbrev bo_X10_floor_30_32 : ZB := [(.lload 5, .null)]
theorem ko_X10_floor_30_32 : zchk cX10_floor bo_X10_floor_30_32 30 = true ∧ zpc bo_X10_floor_30_32 30 = 32 := ⟨by decide +kernel, rfl⟩
abbrev bo_X10_floor_40_41 : ZB := [(.aload_n 0, .null)]
theorem ko_X10_floor_40_41 : zchk cX10_floor bo_X10_floor_40_41 40 = true ∧ zpc bo_X10_floor_40_41 40 = 41 := ⟨by decide +kernel, rfl⟩
abbrev bo_X10_floor_47_48 : ZB := [(.iload_n 1, .null)]
theorem ko_X10_floor_47_48 : zchk cX10_floor bo_X10_floor_47_48 47 = true ∧ zpc bo_X10_floor_47_48 47 = 48 := ⟨by decide +kernel, rfl⟩
abbrev bo_X10_floor_49_53 : ZB := [(.i2l, .null), (.lstore 7, .null), (.aload_n 0, .null)]
theorem ko_X10_floor_49_53 : zchk cX10_floor bo_X10_floor_49_53 49 = true ∧ zpc bo_X10_floor_49_53 49 = 53 := ⟨by decide +kernel, rfl⟩
abbrev bo_X10_floor_59_61 : ZB := [(.iload 4, .null)]
theorem ko_X10_floor_59_61 : zchk cX10_floor bo_X10_floor_59_61 59 = true ∧ zpc bo_X10_floor_59_61 59 = 61 := ⟨by decide +kernel, rfl⟩
abbrev bo_X10_floor_62_75 : ZB := [(.i2l, .null), (.lstore 9, .null), (.lload 7, .null), (.lload 9, .null), (.lsub, .null), (.lstore 11, .null), (.lload 11, .null), (.lconst 0, .long 0)]
theorem ko_X10_floor_62_75 : zchk cX10_floor bo_X10_floor_62_75 62 = true ∧ zpc bo_X10_floor_62_75 62 = 75 := ⟨by decide +kernel, rfl⟩
abbrev bo_X10_floor_82_83 : ZB := [(.aload_n 0, .null)]
theorem ko_X10_floor_82_83 : zchk cX10_floor bo_X10_floor_82_83 82 = true ∧ zpc bo_X10_floor_82_83 82 = 83 := ⟨by decide +kernel, rfl⟩
abbrev bo_X10_floor_89_90 : ZB := [(.aload_n 0, .null)]
theorem ko_X10_floor_89_90 : zchk cX10_floor bo_X10_floor_89_90 89 = true ∧ zpc bo_X10_floor_89_90 89 = 90 := ⟨by decide +kernel, rfl⟩
abbrev bo_X10_floor_93_95 : ZB := [(.lload_n 2, .null), (.iconst 0, .int 0)]
theorem ko_X10_floor_93_95 : zchk cX10_floor bo_X10_floor_93_95 93 = true ∧ zpc bo_X10_floor_93_95 93 = 95 := ⟨by decide +kernel, rfl⟩
abbrev bo_X10_floor_98_101 : ZB := [(.lload 5, .null), (.iconst 0, .int 0)]
theorem ko_X10_floor_98_101 : zchk cX10_floor bo_X10_floor_98_101 98 = true ∧ zpc bo_X10_floor_98_101 98 = 101 := ⟨by decide +kernel, rfl⟩
abbrev bo_X10_floor_104_107 : ZB := [(.lsub, .null), (.lload 11, .null)]
theorem ko_X10_floor_104_107 : zchk cX10_floor bo_X10_floor_104_107 104 = true ∧ zpc bo_X10_floor_104_107 104 = 107 := ⟨by decide +kernel, rfl⟩
abbrev bo_X10_floor_110_111 : ZB := [(.aload_n 0, .null)]
theorem ko_X10_floor_110_111 : zchk cX10_floor bo_X10_floor_110_111 110 = true ∧ zpc bo_X10_floor_110_111 110 = 111 := ⟨by decide +kernel, rfl⟩
abbrev bo_X10_floor_114_116 : ZB := [(.lload_n 2, .null), (.iconst 1, .int 1)]
theorem ko_X10_floor_114_116 : zchk cX10_floor bo_X10_floor_114_116 114 = true ∧ zpc bo_X10_floor_114_116 114 = 116 := ⟨by decide +kernel, rfl⟩
abbrev bo_X10_floor_119_122 : ZB := [(.lload 5, .null), (.iconst 1, .int 1)]
theorem ko_X10_floor_119_122 : zchk cX10_floor bo_X10_floor_119_122 119 = true ∧ zpc bo_X10_floor_119_122 119 = 122 := ⟨by decide +kernel, rfl⟩
abbrev bo_X10_floor_125_128 : ZB := [(.lsub, .null), (.lload 11, .null)]
theorem ko_X10_floor_125_128 : zchk cX10_floor bo_X10_floor_125_128 125 = true ∧ zpc bo_X10_floor_125_128 125 = 128 := ⟨by decide +kernel, rfl⟩
abbrev bo_X10_floor_131_132 : ZB := [(.aload_n 0, .null)]
theorem ko_X10_floor_131_132 : zchk cX10_floor bo_X10_floor_131_132 131 = true ∧ zpc bo_X10_floor_131_132 131 = 132 := ⟨by decide +kernel, rfl⟩
abbrev bo_X10_floor_135_140 : ZB := [(.lload 7, .null), (.lload 5, .null), (.iconst 0, .int 0)]
theorem ko_X10_floor_135_140 : zchk cX10_floor bo_X10_floor_135_140 135 = true ∧ zpc bo_X10_floor_135_140 135 = 140 := ⟨by decide +kernel, rfl⟩
abbrev bo_X10_floor_143_148 : ZB := [(.lmul, .null), (.lload 9, .null), (.lload_n 2, .null), (.iconst 0, .int 0)]
theorem ko_X10_floor_143_148 : zchk cX10_floor bo_X10_floor_143_148 143 = true ∧ zpc bo_X10_floor_143_148 143 = 148 := ⟨by decide +kernel, rfl⟩
abbrev bo_X10_floor_151_155 : ZB := [(.lmul, .null), (.lsub, .null), (.lload 11, .null)]
theorem ko_X10_floor_151_155 : zchk cX10_floor bo_X10_floor_151_155 151 = true ∧ zpc bo_X10_floor_151_155 151 = 155 := ⟨by decide +kernel, rfl⟩
abbrev bo_X10_floor_158_159 : ZB := [(.aload_n 0, .null)]
theorem ko_X10_floor_158_159 : zchk cX10_floor bo_X10_floor_158_159 158 = true ∧ zpc bo_X10_floor_158_159 158 = 159 := ⟨by decide +kernel, rfl⟩
abbrev bo_X10_floor_162_167 : ZB := [(.lload 7, .null), (.lload 5, .null), (.iconst 1, .int 1)]
theorem ko_X10_floor_162_167 : zchk cX10_floor bo_X10_floor_162_167 162 = true ∧ zpc bo_X10_floor_162_167 162 = 167 := ⟨by decide +kernel, rfl⟩
abbrev bo_X10_floor_170_175 : ZB := [(.lmul, .null), (.lload 9, .null), (.lload_n 2, .null), (.iconst 1, .int 1)]
theorem ko_X10_floor_170_175 : zchk cX10_floor bo_X10_floor_170_175 170 = true ∧ zpc bo_X10_floor_170_175 170 = 175 := ⟨by decide +kernel, rfl⟩
abbrev bo_X10_floor_178_182 : ZB := [(.lmul, .null), (.lsub, .null), (.lload 11, .null)]
theorem ko_X10_floor_178_182 : zchk cX10_floor bo_X10_floor_178_182 178 = true ∧ zpc bo_X10_floor_178_182 178 = 182 := ⟨by decide +kernel, rfl⟩
abbrev bo_X10_floor_185_186 : ZB := [(.iconst 0, .int 0)]
theorem ko_X10_floor_185_186 : zchk cX10_floor bo_X10_floor_185_186 185 = true ∧ zpc bo_X10_floor_185_186 185 = 186 := ⟨by decide +kernel, rfl⟩
abbrev bo_X10_floor_79_81 : ZB := [(.bipush (-2), .int (-2))]
theorem ko_X10_floor_79_81 : zchk cX10_floor bo_X10_floor_79_81 79 = true ∧ zpc bo_X10_floor_79_81 79 = 81 := ⟨by decide +kernel, rfl⟩
set_option maxHeartbeats 4000000 in
set_option maxRecDepth 100000 in
theorem co_X10_floor (l : Launch) (G : KG) (x : Nat) (told : Nat) (x_reader : Value) (x_ring : Value) (speeds : Nat) (x_wheel : Value) (x_trials : Value) (x_span : Value) (x_search : Value) (x_kept : Value) (x_crosses : Value) (x_trueMasses : Value) (x_thought : Value) (x_up : Value) (x_low : Value) (x_fits : Value) (x_pulls : Value) (tn : Nat) (tl : Int32) (fn : Nat → Int64) (sc : Int32) (sf : Nat) (so : Nat) (sX2 : Value) (sX3 : Value) (sX4 : Value) (ff : Nat → Int32) (fo : Nat → Int32) (uq : Int32) (pq : Int64) (vq : Int32) (qq : Int64) (tli : Int) (sci : Int) (ui : Int) (pi : Int) (vi : Int) (qi : Int) (htl : tl.toInt = tli) (hsc : sc.toInt = sci) (huq : uq.toInt = ui) (hpq : pq.toInt = pi) (hvq : vq.toInt = vi) (hqq : qq.toInt = qi) (ht16 : 0 ≤ tli ∧ tli ≤ 16) (hs0 : 0 ≤ sci ∧ sci ≤ 6) : Ct l G yX10_floor cX10_floor 13 (some .int) { frames := 2, cells := 0, slots := 0, locals := 58 } [.ref x, .int uq, .long pq, .int vq, .long qq] [(x, ob 10 [.ref told, x_reader, x_ring, .ref speeds, x_wheel, x_trials, x_span, x_search, x_kept, x_crosses, x_trueMasses, x_thought, x_up, x_low, x_fits, x_pulls]), (told, ob 8 [.ref tn, .int tl]), (tn, aJ G 16 fn), (speeds, ob 7 [.int sc, .ref sf, .ref so, sX2, sX3, sX4]), (sf, aI G 6 ff), (so, aI G 6 fo)] (fun r w1 => ∃ (rz : Int32), ∃ (tl2 : Int32), ∃ (fn2 : Nat → Int64), (rz = (mTwo (okFl sci ui vi pi qi) ((ff uq.toNatClampNeg).toInt64 - (ff vq.toNatClampNeg).toInt64).toInt)) ∧ r = some (.int rz) ∧ w1 = [(x, ob 10 [.ref told, x_reader, x_ring, .ref speeds, x_wheel, x_trials, x_span, x_search, x_kept, x_crosses, x_trueMasses, x_thought, x_up, x_low, x_fits, x_pulls]), (told, ob 8 [.ref tn, .int tl2]), (tn, aJ G 16 fn2), (speeds, ob 7 [.int sc, .ref sf, .ref so, sX2, sX3, sX4]), (sf, aI G 6 ff), (so, aI G 6 fo)]) := by
  refine ct_of [(0, .ref x), (1, .int uq), (2, .long pq), (4, .int vq), (5, .long qq)] (by decide) (Nat.le_of_ble_eq_true rfl) rfl ?_
  intro p0 e0 s0 m0 args0 below0 meth0 c0 A X
  refine z_run X bo_X10_floor_0_1 ko_X10_floor_0_1 (lv' := [(0, .ref x), (1, .int uq), (2, .long pq), (4, .int vq), (5, .long qq)]) (st' := [.ref x]) rfl ?_
  refine z_get X fl_10_33 do_X10_floor_1 0 rfl (v := .ref speeds) rfl ?_
  refine z_run X bo_X10_floor_4_5 ko_X10_floor_4_5 (lv' := [(0, .ref x), (1, .int uq), (2, .long pq), (4, .int vq), (5, .long qq)]) (st' := [.int uq, .ref speeds]) rfl ?_
  refine z_callV X k_10_173 (co_X7_isSpeedF l G speeds sc sf so sX2 sX3 sX4 uq sci ui hsc huq) do_X10_floor_5 3 rfl rfl rfl ⟨Nat.le_of_ble_eq_true rfl, Nat.le_of_ble_eq_true rfl⟩ ⟨Nat.le_of_ble_eq_true rfl, Nat.le_of_ble_eq_true rfl⟩ rfl (rest := []) (As := [.int uq]) rfl (Nat.le_of_ble_eq_true rfl) [3] [0, 1, 2, 4, 5] rfl (by decide) (wr := [(x, ob 10 [.ref told, x_reader, x_ring, .ref speeds, x_wheel, x_trials, x_span, x_search, x_kept, x_crosses, x_trueMasses, x_thought, x_up, x_low, x_fits, x_pulls]), (told, ob 8 [.ref tn, .int tl]), (tn, aJ G 16 fn), (sf, aI G 6 ff), (so, aI G 6 fo)]) rfl (by decide) (by decide) ?_
  rintro _ _ ⟨rfl, rfl⟩
  refine Z.at (pc' := 8) (st' := [.int (zb (decide (0 ≤ ui ∧ ui < sci)))]) (ws' := [(x, ob 10 [.ref told, x_reader, x_ring, .ref speeds, x_wheel, x_trials, x_span, x_search, x_kept, x_crosses, x_trueMasses, x_thought, x_up, x_low, x_fits, x_pulls]), (told, ob 8 [.ref tn, .int tl]), (tn, aJ G 16 fn), (sf, aI G 6 ff), (so, aI G 6 fo), (speeds, ob 7 [.int sc, .ref sf, .ref so, sX2, sX3, sX4])]) (kc' := 0) (ks' := 0) rfl rfl rfl rfl rfl ?_
  refine zi_eq_zb X do_X10_floor_8 (tgt := 38) (by decide) (fun c8_1 => ?_) (fun c8_1 => ?_)
  ·
    refine z_run X bo_X10_floor_38_39 ko_X10_floor_38_39 (lv' := [(0, .ref x), (1, .int uq), (2, .long pq), (4, .int vq), (5, .long qq)]) (st' := [.int (-1)]) rfl ?_
    refine Z.sub (lv' := []) [] rfl [0, 1, 2, 5, 3, 4] (ws' := [(x, ob 10 [.ref told, x_reader, x_ring, .ref speeds, x_wheel, x_trials, x_span, x_search, x_kept, x_crosses, x_trueMasses, x_thought, x_up, x_low, x_fits, x_pulls]), (told, ob 8 [.ref tn, .int tl]), (tn, aJ G 16 fn), (speeds, ob 7 [.int sc, .ref sf, .ref so, sX2, sX3, sX4]), (sf, aI G 6 ff), (so, aI G 6 fo)]) rfl (by decide) ?_
    exact z_iret X rfl do_X10_floor_39 (Nat.le_of_ble_eq_true rfl) (Nat.le_of_ble_eq_true rfl) ⟨((-1) : Int32), tl, fn, (mTwo_no (by unfold okFl okPt; omega)).symm, rfl, rfl⟩
  ·
    refine z_run X bo_X10_floor_11_12 ko_X10_floor_11_12 (lv' := [(0, .ref x), (1, .int uq), (2, .long pq), (4, .int vq), (5, .long qq)]) (st' := [.ref x]) rfl ?_
    refine z_get X fl_10_33 do_X10_floor_12 0 rfl (v := .ref speeds) rfl ?_
    refine z_run X bo_X10_floor_15_17 ko_X10_floor_15_17 (lv' := [(0, .ref x), (1, .int uq), (2, .long pq), (4, .int vq), (5, .long qq)]) (st' := [.int vq, .ref speeds]) rfl ?_
    refine z_callV X k_10_173 (co_X7_isSpeedF l G speeds sc sf so sX2 sX3 sX4 vq sci vi hsc hvq) do_X10_floor_17 5 rfl rfl rfl ⟨Nat.le_of_ble_eq_true rfl, Nat.le_of_ble_eq_true rfl⟩ ⟨Nat.le_of_ble_eq_true rfl, Nat.le_of_ble_eq_true rfl⟩ rfl (rest := []) (As := [.int vq]) rfl (Nat.le_of_ble_eq_true rfl) [5] [0, 1, 2, 3, 4] rfl (by decide) (wr := [(x, ob 10 [.ref told, x_reader, x_ring, .ref speeds, x_wheel, x_trials, x_span, x_search, x_kept, x_crosses, x_trueMasses, x_thought, x_up, x_low, x_fits, x_pulls]), (told, ob 8 [.ref tn, .int tl]), (tn, aJ G 16 fn), (sf, aI G 6 ff), (so, aI G 6 fo)]) rfl (by decide) (by decide) ?_
    rintro _ _ ⟨rfl, rfl⟩
    refine Z.at (pc' := 20) (st' := [.int (zb (decide (0 ≤ vi ∧ vi < sci)))]) (ws' := [(x, ob 10 [.ref told, x_reader, x_ring, .ref speeds, x_wheel, x_trials, x_span, x_search, x_kept, x_crosses, x_trueMasses, x_thought, x_up, x_low, x_fits, x_pulls]), (told, ob 8 [.ref tn, .int tl]), (tn, aJ G 16 fn), (sf, aI G 6 ff), (so, aI G 6 fo), (speeds, ob 7 [.int sc, .ref sf, .ref so, sX2, sX3, sX4])]) (kc' := 0) (ks' := 0) rfl rfl rfl rfl rfl ?_
    refine zi_eq_zb X do_X10_floor_20 (tgt := 38) (by decide) (fun c20_2 => ?_) (fun c20_2 => ?_)
    ·
      refine z_run X bo_X10_floor_38_39 ko_X10_floor_38_39 (lv' := [(0, .ref x), (1, .int uq), (2, .long pq), (4, .int vq), (5, .long qq)]) (st' := [.int (-1)]) rfl ?_
      refine Z.sub (lv' := []) [] rfl [0, 1, 2, 5, 3, 4] (ws' := [(x, ob 10 [.ref told, x_reader, x_ring, .ref speeds, x_wheel, x_trials, x_span, x_search, x_kept, x_crosses, x_trueMasses, x_thought, x_up, x_low, x_fits, x_pulls]), (told, ob 8 [.ref tn, .int tl]), (tn, aJ G 16 fn), (speeds, ob 7 [.int sc, .ref sf, .ref so, sX2, sX3, sX4]), (sf, aI G 6 ff), (so, aI G 6 fo)]) rfl (by decide) ?_
      exact z_iret X rfl do_X10_floor_39 (Nat.le_of_ble_eq_true rfl) (Nat.le_of_ble_eq_true rfl) ⟨((-1) : Int32), tl, fn, (mTwo_no (by unfold okFl okPt; omega)).symm, rfl, rfl⟩
    ·
      refine z_run X bo_X10_floor_23_24 ko_X10_floor_23_24 (lv' := [(0, .ref x), (1, .int uq), (2, .long pq), (4, .int vq), (5, .long qq)]) (st' := [.long pq]) rfl ?_
      refine z_callS X k_10_427 (co_X10_isCode l G pq pi hpq) do_X10_floor_24 ⟨Nat.le_of_ble_eq_true rfl, Nat.le_of_ble_eq_true rfl⟩ ⟨Nat.le_of_ble_eq_true rfl, Nat.le_of_ble_eq_true rfl⟩ rfl (rest := []) (As := [.long pq]) rfl (Nat.le_of_ble_eq_true rfl) [] [0, 1, 2, 3, 4, 5] rfl (by decide) (wr := [(x, ob 10 [.ref told, x_reader, x_ring, .ref speeds, x_wheel, x_trials, x_span, x_search, x_kept, x_crosses, x_trueMasses, x_thought, x_up, x_low, x_fits, x_pulls]), (told, ob 8 [.ref tn, .int tl]), (tn, aJ G 16 fn), (sf, aI G 6 ff), (so, aI G 6 fo), (speeds, ob 7 [.int sc, .ref sf, .ref so, sX2, sX3, sX4])]) rfl (by decide) (by decide) ?_
      rintro _ _ ⟨rfl, rfl⟩
      refine Z.at (pc' := 27) (st' := [.int (zb (decide (0 ≤ pi ∧ pi < 40000000000 ∧ 0 < pi / 200000 ∧ 0 < pi % 200000)))]) (ws' := [(x, ob 10 [.ref told, x_reader, x_ring, .ref speeds, x_wheel, x_trials, x_span, x_search, x_kept, x_crosses, x_trueMasses, x_thought, x_up, x_low, x_fits, x_pulls]), (told, ob 8 [.ref tn, .int tl]), (tn, aJ G 16 fn), (sf, aI G 6 ff), (so, aI G 6 fo), (speeds, ob 7 [.int sc, .ref sf, .ref so, sX2, sX3, sX4])]) (kc' := 0) (ks' := 0) rfl rfl rfl rfl rfl ?_
      refine zi_eq_zb X do_X10_floor_27 (tgt := 38) (by decide) (fun c27_3 => ?_) (fun c27_3 => ?_)
      ·
        refine z_run X bo_X10_floor_38_39 ko_X10_floor_38_39 (lv' := [(0, .ref x), (1, .int uq), (2, .long pq), (4, .int vq), (5, .long qq)]) (st' := [.int (-1)]) rfl ?_
        refine Z.sub (lv' := []) [] rfl [0, 1, 2, 5, 3, 4] (ws' := [(x, ob 10 [.ref told, x_reader, x_ring, .ref speeds, x_wheel, x_trials, x_span, x_search, x_kept, x_crosses, x_trueMasses, x_thought, x_up, x_low, x_fits, x_pulls]), (told, ob 8 [.ref tn, .int tl]), (tn, aJ G 16 fn), (speeds, ob 7 [.int sc, .ref sf, .ref so, sX2, sX3, sX4]), (sf, aI G 6 ff), (so, aI G 6 fo)]) rfl (by decide) ?_
        exact z_iret X rfl do_X10_floor_39 (Nat.le_of_ble_eq_true rfl) (Nat.le_of_ble_eq_true rfl) ⟨((-1) : Int32), tl, fn, (mTwo_no (by unfold okFl okPt; omega)).symm, rfl, rfl⟩
      ·
        refine z_run X bo_X10_floor_30_32 ko_X10_floor_30_32 (lv' := [(0, .ref x), (1, .int uq), (2, .long pq), (4, .int vq), (5, .long qq)]) (st' := [.long qq]) rfl ?_
        refine z_callS X k_10_427 (co_X10_isCode l G qq qi hqq) do_X10_floor_32 ⟨Nat.le_of_ble_eq_true rfl, Nat.le_of_ble_eq_true rfl⟩ ⟨Nat.le_of_ble_eq_true rfl, Nat.le_of_ble_eq_true rfl⟩ rfl (rest := []) (As := [.long qq]) rfl (Nat.le_of_ble_eq_true rfl) [] [0, 1, 2, 3, 4, 5] rfl (by decide) (wr := [(x, ob 10 [.ref told, x_reader, x_ring, .ref speeds, x_wheel, x_trials, x_span, x_search, x_kept, x_crosses, x_trueMasses, x_thought, x_up, x_low, x_fits, x_pulls]), (told, ob 8 [.ref tn, .int tl]), (tn, aJ G 16 fn), (sf, aI G 6 ff), (so, aI G 6 fo), (speeds, ob 7 [.int sc, .ref sf, .ref so, sX2, sX3, sX4])]) rfl (by decide) (by decide) ?_
        rintro _ _ ⟨rfl, rfl⟩
        refine Z.at (pc' := 35) (st' := [.int (zb (decide (0 ≤ qi ∧ qi < 40000000000 ∧ 0 < qi / 200000 ∧ 0 < qi % 200000)))]) (ws' := [(x, ob 10 [.ref told, x_reader, x_ring, .ref speeds, x_wheel, x_trials, x_span, x_search, x_kept, x_crosses, x_trueMasses, x_thought, x_up, x_low, x_fits, x_pulls]), (told, ob 8 [.ref tn, .int tl]), (tn, aJ G 16 fn), (sf, aI G 6 ff), (so, aI G 6 fo), (speeds, ob 7 [.int sc, .ref sf, .ref so, sX2, sX3, sX4])]) (kc' := 0) (ks' := 0) rfl rfl rfl rfl rfl ?_
        refine zi_ne_zb X do_X10_floor_35 (tgt := 40) (by decide) (fun c35_4 => ?_) (fun c35_4 => ?_)
        ·
          refine z_run X bo_X10_floor_40_41 ko_X10_floor_40_41 (lv' := [(0, .ref x), (1, .int uq), (2, .long pq), (4, .int vq), (5, .long qq)]) (st' := [.ref x]) rfl ?_
          refine z_get X fl_10_33 do_X10_floor_41 0 rfl (v := .ref speeds) rfl ?_
          refine z_getN X fl_10_195 do_X10_floor_44 5 rfl (v := .ref sf) rfl ?_
          refine z_run X bo_X10_floor_47_48 ko_X10_floor_47_48 (lv' := [(0, .ref x), (1, .int uq), (2, .long pq), (4, .int vq), (5, .long qq)]) (st' := [.int uq, .ref sf]) rfl ?_
          refine z_iald X do_X10_floor_48 3 rfl (vin huq (by omega) (by omega)) (v := (ff uq.toNatClampNeg)) rfl ?_
          refine z_run X bo_X10_floor_49_53 ko_X10_floor_49_53 (lv' := [(7, .long (ff uq.toNatClampNeg).toInt64), (0, .ref x), (1, .int uq), (2, .long pq), (4, .int vq), (5, .long qq)]) (st' := [.ref x]) rfl ?_
          refine z_get X fl_10_33 do_X10_floor_53 0 rfl (v := .ref speeds) rfl ?_
          refine z_getN X fl_10_195 do_X10_floor_56 5 rfl (v := .ref sf) rfl ?_
          refine z_run X bo_X10_floor_59_61 ko_X10_floor_59_61 (lv' := [(7, .long (ff uq.toNatClampNeg).toInt64), (0, .ref x), (1, .int uq), (2, .long pq), (4, .int vq), (5, .long qq)]) (st' := [.int vq, .ref sf]) rfl ?_
          refine z_iald X do_X10_floor_61 3 rfl (vin hvq (by omega) (by omega)) (v := (ff vq.toNatClampNeg)) rfl ?_
          refine z_run X bo_X10_floor_62_75 ko_X10_floor_62_75 (lv' := [(11, .long ((ff uq.toNatClampNeg).toInt64 - (ff vq.toNatClampNeg).toInt64)), (9, .long (ff vq.toNatClampNeg).toInt64), (7, .long (ff uq.toNatClampNeg).toInt64), (0, .ref x), (1, .int uq), (2, .long pq), (4, .int vq), (5, .long qq)]) (st' := [.long 0, .long ((ff uq.toNatClampNeg).toInt64 - (ff vq.toNatClampNeg).toInt64)]) rfl ?_
          refine zl_ne X do_X10_floor_75 do_X10_floor_76 (tgt := 82) (by decide) (a := ((ff uq.toNatClampNeg).toInt64 - (ff vq.toNatClampNeg).toInt64).toInt) (b := 0) rfl (show (0 : Int64).toInt = 0 from by decide) (fun c75_5 => ?_) (fun c75_5 => ?_)
          ·
            refine z_run X bo_X10_floor_82_83 ko_X10_floor_82_83 (lv' := [(11, .long ((ff uq.toNatClampNeg).toInt64 - (ff vq.toNatClampNeg).toInt64)), (9, .long (ff vq.toNatClampNeg).toInt64), (7, .long (ff uq.toNatClampNeg).toInt64), (0, .ref x), (1, .int uq), (2, .long pq), (4, .int vq), (5, .long qq)]) (st' := [.ref x]) rfl ?_
            refine z_get X fl_10_12 do_X10_floor_83 0 rfl (v := .ref told) rfl ?_
            refine z_callV X k_10_180 (co_X8_start l G told tn tl fn) do_X10_floor_86 1 rfl rfl rfl ⟨Nat.le_of_ble_eq_true rfl, Nat.le_of_ble_eq_true rfl⟩ ⟨Nat.le_of_ble_eq_true rfl, Nat.le_of_ble_eq_true rfl⟩ rfl (rest := []) (As := []) rfl (Nat.le_of_ble_eq_true rfl) [1, 2] [0, 3, 4, 5] rfl (by decide) (wr := [(x, ob 10 [.ref told, x_reader, x_ring, .ref speeds, x_wheel, x_trials, x_span, x_search, x_kept, x_crosses, x_trueMasses, x_thought, x_up, x_low, x_fits, x_pulls]), (sf, aI G 6 ff), (so, aI G 6 fo), (speeds, ob 7 [.int sc, .ref sf, .ref so, sX2, sX3, sX4])]) rfl (by decide) (by decide) ?_
            rintro _ _ ⟨rfl, rfl⟩
            refine Z.at (pc' := 89) (st' := []) (ws' := [(x, ob 10 [.ref told, x_reader, x_ring, .ref speeds, x_wheel, x_trials, x_span, x_search, x_kept, x_crosses, x_trueMasses, x_thought, x_up, x_low, x_fits, x_pulls]), (sf, aI G 6 ff), (so, aI G 6 fo), (speeds, ob 7 [.int sc, .ref sf, .ref so, sX2, sX3, sX4]), (told, ob 8 [.ref tn, .int 0]), (tn, aJ G 16 fn)]) (kc' := 0) (ks' := 0) rfl rfl rfl rfl rfl ?_
            refine z_run X bo_X10_floor_89_90 ko_X10_floor_89_90 (lv' := [(11, .long ((ff uq.toNatClampNeg).toInt64 - (ff vq.toNatClampNeg).toInt64)), (9, .long (ff vq.toNatClampNeg).toInt64), (7, .long (ff uq.toNatClampNeg).toInt64), (0, .ref x), (1, .int uq), (2, .long pq), (4, .int vq), (5, .long qq)]) (st' := [.ref x]) rfl ?_
            refine z_get X fl_10_12 do_X10_floor_90 0 rfl (v := .ref told) rfl ?_
            refine z_run X bo_X10_floor_93_95 ko_X10_floor_93_95 (lv' := [(11, .long ((ff uq.toNatClampNeg).toInt64 - (ff vq.toNatClampNeg).toInt64)), (9, .long (ff vq.toNatClampNeg).toInt64), (7, .long (ff uq.toNatClampNeg).toInt64), (0, .ref x), (1, .int uq), (2, .long pq), (4, .int vq), (5, .long qq)]) (st' := [.int 0, .long pq, .ref told]) rfl ?_
            refine z_callS X k_10_431 (co_X10_decoded l G pq 0 0 (show (0 : Int32).toInt = 0 from by decide)) do_X10_floor_95 ⟨Nat.le_of_ble_eq_true rfl, Nat.le_of_ble_eq_true rfl⟩ ⟨Nat.le_of_ble_eq_true rfl, Nat.le_of_ble_eq_true rfl⟩ rfl (rest := [.ref told]) (As := [.long pq, .int 0]) rfl (Nat.le_of_ble_eq_true rfl) [] [0, 1, 2, 3, 4, 5] rfl (by decide) (wr := [(x, ob 10 [.ref told, x_reader, x_ring, .ref speeds, x_wheel, x_trials, x_span, x_search, x_kept, x_crosses, x_trueMasses, x_thought, x_up, x_low, x_fits, x_pulls]), (sf, aI G 6 ff), (so, aI G 6 fo), (speeds, ob 7 [.int sc, .ref sf, .ref so, sX2, sX3, sX4]), (told, ob 8 [.ref tn, .int 0]), (tn, aJ G 16 fn)]) rfl (by decide) (by decide) ?_
            rintro _ _ ⟨rz_6, rfl, rfl⟩
            refine Z.at (pc' := 98) (st' := [.long rz_6, .ref told]) (ws' := [(x, ob 10 [.ref told, x_reader, x_ring, .ref speeds, x_wheel, x_trials, x_span, x_search, x_kept, x_crosses, x_trueMasses, x_thought, x_up, x_low, x_fits, x_pulls]), (sf, aI G 6 ff), (so, aI G 6 fo), (speeds, ob 7 [.int sc, .ref sf, .ref so, sX2, sX3, sX4]), (told, ob 8 [.ref tn, .int 0]), (tn, aJ G 16 fn)]) (kc' := 0) (ks' := 0) rfl rfl rfl rfl rfl ?_
            refine z_run X bo_X10_floor_98_101 ko_X10_floor_98_101 (lv' := [(11, .long ((ff uq.toNatClampNeg).toInt64 - (ff vq.toNatClampNeg).toInt64)), (9, .long (ff vq.toNatClampNeg).toInt64), (7, .long (ff uq.toNatClampNeg).toInt64), (0, .ref x), (1, .int uq), (2, .long pq), (4, .int vq), (5, .long qq)]) (st' := [.int 0, .long qq, .long rz_6, .ref told]) rfl ?_
            refine z_callS X k_10_431 (co_X10_decoded l G qq 0 0 (show (0 : Int32).toInt = 0 from by decide)) do_X10_floor_101 ⟨Nat.le_of_ble_eq_true rfl, Nat.le_of_ble_eq_true rfl⟩ ⟨Nat.le_of_ble_eq_true rfl, Nat.le_of_ble_eq_true rfl⟩ rfl (rest := [.long rz_6, .ref told]) (As := [.long qq, .int 0]) rfl (Nat.le_of_ble_eq_true rfl) [] [0, 1, 2, 3, 4, 5] rfl (by decide) (wr := [(x, ob 10 [.ref told, x_reader, x_ring, .ref speeds, x_wheel, x_trials, x_span, x_search, x_kept, x_crosses, x_trueMasses, x_thought, x_up, x_low, x_fits, x_pulls]), (sf, aI G 6 ff), (so, aI G 6 fo), (speeds, ob 7 [.int sc, .ref sf, .ref so, sX2, sX3, sX4]), (told, ob 8 [.ref tn, .int 0]), (tn, aJ G 16 fn)]) rfl (by decide) (by decide) ?_
            rintro _ _ ⟨rz_7, rfl, rfl⟩
            refine Z.at (pc' := 104) (st' := [.long rz_7, .long rz_6, .ref told]) (ws' := [(x, ob 10 [.ref told, x_reader, x_ring, .ref speeds, x_wheel, x_trials, x_span, x_search, x_kept, x_crosses, x_trueMasses, x_thought, x_up, x_low, x_fits, x_pulls]), (sf, aI G 6 ff), (so, aI G 6 fo), (speeds, ob 7 [.int sc, .ref sf, .ref so, sX2, sX3, sX4]), (told, ob 8 [.ref tn, .int 0]), (tn, aJ G 16 fn)]) (kc' := 0) (ks' := 0) rfl rfl rfl rfl rfl ?_
            refine z_run X bo_X10_floor_104_107 ko_X10_floor_104_107 (lv' := [(11, .long ((ff uq.toNatClampNeg).toInt64 - (ff vq.toNatClampNeg).toInt64)), (9, .long (ff vq.toNatClampNeg).toInt64), (7, .long (ff uq.toNatClampNeg).toInt64), (0, .ref x), (1, .int uq), (2, .long pq), (4, .int vq), (5, .long qq)]) (st' := [.long ((ff uq.toNatClampNeg).toInt64 - (ff vq.toNatClampNeg).toInt64), .long (rz_6 - rz_7), .ref told]) rfl ?_
            refine z_callV X k_10_408 (co_X8_addFraction l G told tn 0 fn (rz_6 - rz_7) ((ff uq.toNatClampNeg).toInt64 - (ff vq.toNatClampNeg).toInt64) 0 (show (0 : Int32).toInt = 0 from by decide) (by omega)) do_X10_floor_107 4 rfl rfl rfl ⟨Nat.le_of_ble_eq_true rfl, Nat.le_of_ble_eq_true rfl⟩ ⟨Nat.le_of_ble_eq_true rfl, Nat.le_of_ble_eq_true rfl⟩ rfl (rest := []) (As := [.long (rz_6 - rz_7), .long ((ff uq.toNatClampNeg).toInt64 - (ff vq.toNatClampNeg).toInt64)]) rfl (Nat.le_of_ble_eq_true rfl) [4, 5] [0, 1, 2, 3] rfl (by decide) (wr := [(x, ob 10 [.ref told, x_reader, x_ring, .ref speeds, x_wheel, x_trials, x_span, x_search, x_kept, x_crosses, x_trueMasses, x_thought, x_up, x_low, x_fits, x_pulls]), (sf, aI G 6 ff), (so, aI G 6 fo), (speeds, ob 7 [.int sc, .ref sf, .ref so, sX2, sX3, sX4])]) rfl (by decide) (by decide) ?_
            rintro _ _ ⟨tl2_8, fn2_9, f107_10, rfl, rfl⟩
            refine Z.at (pc' := 110) (st' := []) (ws' := [(x, ob 10 [.ref told, x_reader, x_ring, .ref speeds, x_wheel, x_trials, x_span, x_search, x_kept, x_crosses, x_trueMasses, x_thought, x_up, x_low, x_fits, x_pulls]), (sf, aI G 6 ff), (so, aI G 6 fo), (speeds, ob 7 [.int sc, .ref sf, .ref so, sX2, sX3, sX4]), (told, ob 8 [.ref tn, .int tl2_8]), (tn, aJ G 16 fn2_9)]) (kc' := 0) (ks' := 0) rfl rfl rfl rfl rfl ?_
            refine z_run X bo_X10_floor_110_111 ko_X10_floor_110_111 (lv' := [(11, .long ((ff uq.toNatClampNeg).toInt64 - (ff vq.toNatClampNeg).toInt64)), (9, .long (ff vq.toNatClampNeg).toInt64), (7, .long (ff uq.toNatClampNeg).toInt64), (0, .ref x), (1, .int uq), (2, .long pq), (4, .int vq), (5, .long qq)]) (st' := [.ref x]) rfl ?_
            refine z_get X fl_10_12 do_X10_floor_111 0 rfl (v := .ref told) rfl ?_
            refine z_run X bo_X10_floor_114_116 ko_X10_floor_114_116 (lv' := [(11, .long ((ff uq.toNatClampNeg).toInt64 - (ff vq.toNatClampNeg).toInt64)), (9, .long (ff vq.toNatClampNeg).toInt64), (7, .long (ff uq.toNatClampNeg).toInt64), (0, .ref x), (1, .int uq), (2, .long pq), (4, .int vq), (5, .long qq)]) (st' := [.int 1, .long pq, .ref told]) rfl ?_
            refine z_callS X k_10_431 (co_X10_decoded l G pq 1 1 (show (1 : Int32).toInt = 1 from by decide)) do_X10_floor_116 ⟨Nat.le_of_ble_eq_true rfl, Nat.le_of_ble_eq_true rfl⟩ ⟨Nat.le_of_ble_eq_true rfl, Nat.le_of_ble_eq_true rfl⟩ rfl (rest := [.ref told]) (As := [.long pq, .int 1]) rfl (Nat.le_of_ble_eq_true rfl) [] [0, 1, 2, 3, 4, 5] rfl (by decide) (wr := [(x, ob 10 [.ref told, x_reader, x_ring, .ref speeds, x_wheel, x_trials, x_span, x_search, x_kept, x_crosses, x_trueMasses, x_thought, x_up, x_low, x_fits, x_pulls]), (sf, aI G 6 ff), (so, aI G 6 fo), (speeds, ob 7 [.int sc, .ref sf, .ref so, sX2, sX3, sX4]), (told, ob 8 [.ref tn, .int tl2_8]), (tn, aJ G 16 fn2_9)]) rfl (by decide) (by decide) ?_
            rintro _ _ ⟨rz_11, rfl, rfl⟩
            refine Z.at (pc' := 119) (st' := [.long rz_11, .ref told]) (ws' := [(x, ob 10 [.ref told, x_reader, x_ring, .ref speeds, x_wheel, x_trials, x_span, x_search, x_kept, x_crosses, x_trueMasses, x_thought, x_up, x_low, x_fits, x_pulls]), (sf, aI G 6 ff), (so, aI G 6 fo), (speeds, ob 7 [.int sc, .ref sf, .ref so, sX2, sX3, sX4]), (told, ob 8 [.ref tn, .int tl2_8]), (tn, aJ G 16 fn2_9)]) (kc' := 0) (ks' := 0) rfl rfl rfl rfl rfl ?_
            refine z_run X bo_X10_floor_119_122 ko_X10_floor_119_122 (lv' := [(11, .long ((ff uq.toNatClampNeg).toInt64 - (ff vq.toNatClampNeg).toInt64)), (9, .long (ff vq.toNatClampNeg).toInt64), (7, .long (ff uq.toNatClampNeg).toInt64), (0, .ref x), (1, .int uq), (2, .long pq), (4, .int vq), (5, .long qq)]) (st' := [.int 1, .long qq, .long rz_11, .ref told]) rfl ?_
            refine z_callS X k_10_431 (co_X10_decoded l G qq 1 1 (show (1 : Int32).toInt = 1 from by decide)) do_X10_floor_122 ⟨Nat.le_of_ble_eq_true rfl, Nat.le_of_ble_eq_true rfl⟩ ⟨Nat.le_of_ble_eq_true rfl, Nat.le_of_ble_eq_true rfl⟩ rfl (rest := [.long rz_11, .ref told]) (As := [.long qq, .int 1]) rfl (Nat.le_of_ble_eq_true rfl) [] [0, 1, 2, 3, 4, 5] rfl (by decide) (wr := [(x, ob 10 [.ref told, x_reader, x_ring, .ref speeds, x_wheel, x_trials, x_span, x_search, x_kept, x_crosses, x_trueMasses, x_thought, x_up, x_low, x_fits, x_pulls]), (sf, aI G 6 ff), (so, aI G 6 fo), (speeds, ob 7 [.int sc, .ref sf, .ref so, sX2, sX3, sX4]), (told, ob 8 [.ref tn, .int tl2_8]), (tn, aJ G 16 fn2_9)]) rfl (by decide) (by decide) ?_
            rintro _ _ ⟨rz_12, rfl, rfl⟩
            refine Z.at (pc' := 125) (st' := [.long rz_12, .long rz_11, .ref told]) (ws' := [(x, ob 10 [.ref told, x_reader, x_ring, .ref speeds, x_wheel, x_trials, x_span, x_search, x_kept, x_crosses, x_trueMasses, x_thought, x_up, x_low, x_fits, x_pulls]), (sf, aI G 6 ff), (so, aI G 6 fo), (speeds, ob 7 [.int sc, .ref sf, .ref so, sX2, sX3, sX4]), (told, ob 8 [.ref tn, .int tl2_8]), (tn, aJ G 16 fn2_9)]) (kc' := 0) (ks' := 0) rfl rfl rfl rfl rfl ?_
            refine z_run X bo_X10_floor_125_128 ko_X10_floor_125_128 (lv' := [(11, .long ((ff uq.toNatClampNeg).toInt64 - (ff vq.toNatClampNeg).toInt64)), (9, .long (ff vq.toNatClampNeg).toInt64), (7, .long (ff uq.toNatClampNeg).toInt64), (0, .ref x), (1, .int uq), (2, .long pq), (4, .int vq), (5, .long qq)]) (st' := [.long ((ff uq.toNatClampNeg).toInt64 - (ff vq.toNatClampNeg).toInt64), .long (rz_11 - rz_12), .ref told]) rfl ?_
            refine z_callV X k_10_408 (co_X8_addFraction l G told tn tl2_8 fn2_9 (rz_11 - rz_12) ((ff uq.toNatClampNeg).toInt64 - (ff vq.toNatClampNeg).toInt64) tl2_8.toInt rfl (by omega)) do_X10_floor_128 4 rfl rfl rfl ⟨Nat.le_of_ble_eq_true rfl, Nat.le_of_ble_eq_true rfl⟩ ⟨Nat.le_of_ble_eq_true rfl, Nat.le_of_ble_eq_true rfl⟩ rfl (rest := []) (As := [.long (rz_11 - rz_12), .long ((ff uq.toNatClampNeg).toInt64 - (ff vq.toNatClampNeg).toInt64)]) rfl (Nat.le_of_ble_eq_true rfl) [4, 5] [0, 1, 2, 3] rfl (by decide) (wr := [(x, ob 10 [.ref told, x_reader, x_ring, .ref speeds, x_wheel, x_trials, x_span, x_search, x_kept, x_crosses, x_trueMasses, x_thought, x_up, x_low, x_fits, x_pulls]), (sf, aI G 6 ff), (so, aI G 6 fo), (speeds, ob 7 [.int sc, .ref sf, .ref so, sX2, sX3, sX4])]) rfl (by decide) (by decide) ?_
            rintro _ _ ⟨tl2_13, fn2_14, f128_15, rfl, rfl⟩
            refine Z.at (pc' := 131) (st' := []) (ws' := [(x, ob 10 [.ref told, x_reader, x_ring, .ref speeds, x_wheel, x_trials, x_span, x_search, x_kept, x_crosses, x_trueMasses, x_thought, x_up, x_low, x_fits, x_pulls]), (sf, aI G 6 ff), (so, aI G 6 fo), (speeds, ob 7 [.int sc, .ref sf, .ref so, sX2, sX3, sX4]), (told, ob 8 [.ref tn, .int tl2_13]), (tn, aJ G 16 fn2_14)]) (kc' := 0) (ks' := 0) rfl rfl rfl rfl rfl ?_
            refine z_run X bo_X10_floor_131_132 ko_X10_floor_131_132 (lv' := [(11, .long ((ff uq.toNatClampNeg).toInt64 - (ff vq.toNatClampNeg).toInt64)), (9, .long (ff vq.toNatClampNeg).toInt64), (7, .long (ff uq.toNatClampNeg).toInt64), (0, .ref x), (1, .int uq), (2, .long pq), (4, .int vq), (5, .long qq)]) (st' := [.ref x]) rfl ?_
            refine z_get X fl_10_12 do_X10_floor_132 0 rfl (v := .ref told) rfl ?_
            refine z_run X bo_X10_floor_135_140 ko_X10_floor_135_140 (lv' := [(11, .long ((ff uq.toNatClampNeg).toInt64 - (ff vq.toNatClampNeg).toInt64)), (9, .long (ff vq.toNatClampNeg).toInt64), (7, .long (ff uq.toNatClampNeg).toInt64), (0, .ref x), (1, .int uq), (2, .long pq), (4, .int vq), (5, .long qq)]) (st' := [.int 0, .long qq, .long (ff uq.toNatClampNeg).toInt64, .ref told]) rfl ?_
            refine z_callS X k_10_431 (co_X10_decoded l G qq 0 0 (show (0 : Int32).toInt = 0 from by decide)) do_X10_floor_140 ⟨Nat.le_of_ble_eq_true rfl, Nat.le_of_ble_eq_true rfl⟩ ⟨Nat.le_of_ble_eq_true rfl, Nat.le_of_ble_eq_true rfl⟩ rfl (rest := [.long (ff uq.toNatClampNeg).toInt64, .ref told]) (As := [.long qq, .int 0]) rfl (Nat.le_of_ble_eq_true rfl) [] [0, 1, 2, 3, 4, 5] rfl (by decide) (wr := [(x, ob 10 [.ref told, x_reader, x_ring, .ref speeds, x_wheel, x_trials, x_span, x_search, x_kept, x_crosses, x_trueMasses, x_thought, x_up, x_low, x_fits, x_pulls]), (sf, aI G 6 ff), (so, aI G 6 fo), (speeds, ob 7 [.int sc, .ref sf, .ref so, sX2, sX3, sX4]), (told, ob 8 [.ref tn, .int tl2_13]), (tn, aJ G 16 fn2_14)]) rfl (by decide) (by decide) ?_
            rintro _ _ ⟨rz_16, rfl, rfl⟩
            refine Z.at (pc' := 143) (st' := [.long rz_16, .long (ff uq.toNatClampNeg).toInt64, .ref told]) (ws' := [(x, ob 10 [.ref told, x_reader, x_ring, .ref speeds, x_wheel, x_trials, x_span, x_search, x_kept, x_crosses, x_trueMasses, x_thought, x_up, x_low, x_fits, x_pulls]), (sf, aI G 6 ff), (so, aI G 6 fo), (speeds, ob 7 [.int sc, .ref sf, .ref so, sX2, sX3, sX4]), (told, ob 8 [.ref tn, .int tl2_13]), (tn, aJ G 16 fn2_14)]) (kc' := 0) (ks' := 0) rfl rfl rfl rfl rfl ?_
            refine z_run X bo_X10_floor_143_148 ko_X10_floor_143_148 (lv' := [(11, .long ((ff uq.toNatClampNeg).toInt64 - (ff vq.toNatClampNeg).toInt64)), (9, .long (ff vq.toNatClampNeg).toInt64), (7, .long (ff uq.toNatClampNeg).toInt64), (0, .ref x), (1, .int uq), (2, .long pq), (4, .int vq), (5, .long qq)]) (st' := [.int 0, .long pq, .long (ff vq.toNatClampNeg).toInt64, .long ((ff uq.toNatClampNeg).toInt64 * rz_16), .ref told]) rfl ?_
            refine z_callS X k_10_431 (co_X10_decoded l G pq 0 0 (show (0 : Int32).toInt = 0 from by decide)) do_X10_floor_148 ⟨Nat.le_of_ble_eq_true rfl, Nat.le_of_ble_eq_true rfl⟩ ⟨Nat.le_of_ble_eq_true rfl, Nat.le_of_ble_eq_true rfl⟩ rfl (rest := [.long (ff vq.toNatClampNeg).toInt64, .long ((ff uq.toNatClampNeg).toInt64 * rz_16), .ref told]) (As := [.long pq, .int 0]) rfl (Nat.le_of_ble_eq_true rfl) [] [0, 1, 2, 3, 4, 5] rfl (by decide) (wr := [(x, ob 10 [.ref told, x_reader, x_ring, .ref speeds, x_wheel, x_trials, x_span, x_search, x_kept, x_crosses, x_trueMasses, x_thought, x_up, x_low, x_fits, x_pulls]), (sf, aI G 6 ff), (so, aI G 6 fo), (speeds, ob 7 [.int sc, .ref sf, .ref so, sX2, sX3, sX4]), (told, ob 8 [.ref tn, .int tl2_13]), (tn, aJ G 16 fn2_14)]) rfl (by decide) (by decide) ?_
            rintro _ _ ⟨rz_17, rfl, rfl⟩
            refine Z.at (pc' := 151) (st' := [.long rz_17, .long (ff vq.toNatClampNeg).toInt64, .long ((ff uq.toNatClampNeg).toInt64 * rz_16), .ref told]) (ws' := [(x, ob 10 [.ref told, x_reader, x_ring, .ref speeds, x_wheel, x_trials, x_span, x_search, x_kept, x_crosses, x_trueMasses, x_thought, x_up, x_low, x_fits, x_pulls]), (sf, aI G 6 ff), (so, aI G 6 fo), (speeds, ob 7 [.int sc, .ref sf, .ref so, sX2, sX3, sX4]), (told, ob 8 [.ref tn, .int tl2_13]), (tn, aJ G 16 fn2_14)]) (kc' := 0) (ks' := 0) rfl rfl rfl rfl rfl ?_
            refine z_run X bo_X10_floor_151_155 ko_X10_floor_151_155 (lv' := [(11, .long ((ff uq.toNatClampNeg).toInt64 - (ff vq.toNatClampNeg).toInt64)), (9, .long (ff vq.toNatClampNeg).toInt64), (7, .long (ff uq.toNatClampNeg).toInt64), (0, .ref x), (1, .int uq), (2, .long pq), (4, .int vq), (5, .long qq)]) (st' := [.long ((ff uq.toNatClampNeg).toInt64 - (ff vq.toNatClampNeg).toInt64), .long (((ff uq.toNatClampNeg).toInt64 * rz_16) - ((ff vq.toNatClampNeg).toInt64 * rz_17)), .ref told]) rfl ?_
            refine z_callV X k_10_408 (co_X8_addFraction l G told tn tl2_13 fn2_14 (((ff uq.toNatClampNeg).toInt64 * rz_16) - ((ff vq.toNatClampNeg).toInt64 * rz_17)) ((ff uq.toNatClampNeg).toInt64 - (ff vq.toNatClampNeg).toInt64) tl2_13.toInt rfl (by omega)) do_X10_floor_155 4 rfl rfl rfl ⟨Nat.le_of_ble_eq_true rfl, Nat.le_of_ble_eq_true rfl⟩ ⟨Nat.le_of_ble_eq_true rfl, Nat.le_of_ble_eq_true rfl⟩ rfl (rest := []) (As := [.long (((ff uq.toNatClampNeg).toInt64 * rz_16) - ((ff vq.toNatClampNeg).toInt64 * rz_17)), .long ((ff uq.toNatClampNeg).toInt64 - (ff vq.toNatClampNeg).toInt64)]) rfl (Nat.le_of_ble_eq_true rfl) [4, 5] [0, 1, 2, 3] rfl (by decide) (wr := [(x, ob 10 [.ref told, x_reader, x_ring, .ref speeds, x_wheel, x_trials, x_span, x_search, x_kept, x_crosses, x_trueMasses, x_thought, x_up, x_low, x_fits, x_pulls]), (sf, aI G 6 ff), (so, aI G 6 fo), (speeds, ob 7 [.int sc, .ref sf, .ref so, sX2, sX3, sX4])]) rfl (by decide) (by decide) ?_
            rintro _ _ ⟨tl2_18, fn2_19, f155_20, rfl, rfl⟩
            refine Z.at (pc' := 158) (st' := []) (ws' := [(x, ob 10 [.ref told, x_reader, x_ring, .ref speeds, x_wheel, x_trials, x_span, x_search, x_kept, x_crosses, x_trueMasses, x_thought, x_up, x_low, x_fits, x_pulls]), (sf, aI G 6 ff), (so, aI G 6 fo), (speeds, ob 7 [.int sc, .ref sf, .ref so, sX2, sX3, sX4]), (told, ob 8 [.ref tn, .int tl2_18]), (tn, aJ G 16 fn2_19)]) (kc' := 0) (ks' := 0) rfl rfl rfl rfl rfl ?_
            refine z_run X bo_X10_floor_158_159 ko_X10_floor_158_159 (lv' := [(11, .long ((ff uq.toNatClampNeg).toInt64 - (ff vq.toNatClampNeg).toInt64)), (9, .long (ff vq.toNatClampNeg).toInt64), (7, .long (ff uq.toNatClampNeg).toInt64), (0, .ref x), (1, .int uq), (2, .long pq), (4, .int vq), (5, .long qq)]) (st' := [.ref x]) rfl ?_
            refine z_get X fl_10_12 do_X10_floor_159 0 rfl (v := .ref told) rfl ?_
            refine z_run X bo_X10_floor_162_167 ko_X10_floor_162_167 (lv' := [(11, .long ((ff uq.toNatClampNeg).toInt64 - (ff vq.toNatClampNeg).toInt64)), (9, .long (ff vq.toNatClampNeg).toInt64), (7, .long (ff uq.toNatClampNeg).toInt64), (0, .ref x), (1, .int uq), (2, .long pq), (4, .int vq), (5, .long qq)]) (st' := [.int 1, .long qq, .long (ff uq.toNatClampNeg).toInt64, .ref told]) rfl ?_
            refine z_callS X k_10_431 (co_X10_decoded l G qq 1 1 (show (1 : Int32).toInt = 1 from by decide)) do_X10_floor_167 ⟨Nat.le_of_ble_eq_true rfl, Nat.le_of_ble_eq_true rfl⟩ ⟨Nat.le_of_ble_eq_true rfl, Nat.le_of_ble_eq_true rfl⟩ rfl (rest := [.long (ff uq.toNatClampNeg).toInt64, .ref told]) (As := [.long qq, .int 1]) rfl (Nat.le_of_ble_eq_true rfl) [] [0, 1, 2, 3, 4, 5] rfl (by decide) (wr := [(x, ob 10 [.ref told, x_reader, x_ring, .ref speeds, x_wheel, x_trials, x_span, x_search, x_kept, x_crosses, x_trueMasses, x_thought, x_up, x_low, x_fits, x_pulls]), (sf, aI G 6 ff), (so, aI G 6 fo), (speeds, ob 7 [.int sc, .ref sf, .ref so, sX2, sX3, sX4]), (told, ob 8 [.ref tn, .int tl2_18]), (tn, aJ G 16 fn2_19)]) rfl (by decide) (by decide) ?_
            rintro _ _ ⟨rz_21, rfl, rfl⟩
            refine Z.at (pc' := 170) (st' := [.long rz_21, .long (ff uq.toNatClampNeg).toInt64, .ref told]) (ws' := [(x, ob 10 [.ref told, x_reader, x_ring, .ref speeds, x_wheel, x_trials, x_span, x_search, x_kept, x_crosses, x_trueMasses, x_thought, x_up, x_low, x_fits, x_pulls]), (sf, aI G 6 ff), (so, aI G 6 fo), (speeds, ob 7 [.int sc, .ref sf, .ref so, sX2, sX3, sX4]), (told, ob 8 [.ref tn, .int tl2_18]), (tn, aJ G 16 fn2_19)]) (kc' := 0) (ks' := 0) rfl rfl rfl rfl rfl ?_
            refine z_run X bo_X10_floor_170_175 ko_X10_floor_170_175 (lv' := [(11, .long ((ff uq.toNatClampNeg).toInt64 - (ff vq.toNatClampNeg).toInt64)), (9, .long (ff vq.toNatClampNeg).toInt64), (7, .long (ff uq.toNatClampNeg).toInt64), (0, .ref x), (1, .int uq), (2, .long pq), (4, .int vq), (5, .long qq)]) (st' := [.int 1, .long pq, .long (ff vq.toNatClampNeg).toInt64, .long ((ff uq.toNatClampNeg).toInt64 * rz_21), .ref told]) rfl ?_
            refine z_callS X k_10_431 (co_X10_decoded l G pq 1 1 (show (1 : Int32).toInt = 1 from by decide)) do_X10_floor_175 ⟨Nat.le_of_ble_eq_true rfl, Nat.le_of_ble_eq_true rfl⟩ ⟨Nat.le_of_ble_eq_true rfl, Nat.le_of_ble_eq_true rfl⟩ rfl (rest := [.long (ff vq.toNatClampNeg).toInt64, .long ((ff uq.toNatClampNeg).toInt64 * rz_21), .ref told]) (As := [.long pq, .int 1]) rfl (Nat.le_of_ble_eq_true rfl) [] [0, 1, 2, 3, 4, 5] rfl (by decide) (wr := [(x, ob 10 [.ref told, x_reader, x_ring, .ref speeds, x_wheel, x_trials, x_span, x_search, x_kept, x_crosses, x_trueMasses, x_thought, x_up, x_low, x_fits, x_pulls]), (sf, aI G 6 ff), (so, aI G 6 fo), (speeds, ob 7 [.int sc, .ref sf, .ref so, sX2, sX3, sX4]), (told, ob 8 [.ref tn, .int tl2_18]), (tn, aJ G 16 fn2_19)]) rfl (by decide) (by decide) ?_
            rintro _ _ ⟨rz_22, rfl, rfl⟩
            refine Z.at (pc' := 178) (st' := [.long rz_22, .long (ff vq.toNatClampNeg).toInt64, .long ((ff uq.toNatClampNeg).toInt64 * rz_21), .ref told]) (ws' := [(x, ob 10 [.ref told, x_reader, x_ring, .ref speeds, x_wheel, x_trials, x_span, x_search, x_kept, x_crosses, x_trueMasses, x_thought, x_up, x_low, x_fits, x_pulls]), (sf, aI G 6 ff), (so, aI G 6 fo), (speeds, ob 7 [.int sc, .ref sf, .ref so, sX2, sX3, sX4]), (told, ob 8 [.ref tn, .int tl2_18]), (tn, aJ G 16 fn2_19)]) (kc' := 0) (ks' := 0) rfl rfl rfl rfl rfl ?_
            refine z_run X bo_X10_floor_178_182 ko_X10_floor_178_182 (lv' := [(11, .long ((ff uq.toNatClampNeg).toInt64 - (ff vq.toNatClampNeg).toInt64)), (9, .long (ff vq.toNatClampNeg).toInt64), (7, .long (ff uq.toNatClampNeg).toInt64), (0, .ref x), (1, .int uq), (2, .long pq), (4, .int vq), (5, .long qq)]) (st' := [.long ((ff uq.toNatClampNeg).toInt64 - (ff vq.toNatClampNeg).toInt64), .long (((ff uq.toNatClampNeg).toInt64 * rz_21) - ((ff vq.toNatClampNeg).toInt64 * rz_22)), .ref told]) rfl ?_
            refine z_callV X k_10_408 (co_X8_addFraction l G told tn tl2_18 fn2_19 (((ff uq.toNatClampNeg).toInt64 * rz_21) - ((ff vq.toNatClampNeg).toInt64 * rz_22)) ((ff uq.toNatClampNeg).toInt64 - (ff vq.toNatClampNeg).toInt64) tl2_18.toInt rfl (by omega)) do_X10_floor_182 4 rfl rfl rfl ⟨Nat.le_of_ble_eq_true rfl, Nat.le_of_ble_eq_true rfl⟩ ⟨Nat.le_of_ble_eq_true rfl, Nat.le_of_ble_eq_true rfl⟩ rfl (rest := []) (As := [.long (((ff uq.toNatClampNeg).toInt64 * rz_21) - ((ff vq.toNatClampNeg).toInt64 * rz_22)), .long ((ff uq.toNatClampNeg).toInt64 - (ff vq.toNatClampNeg).toInt64)]) rfl (Nat.le_of_ble_eq_true rfl) [4, 5] [0, 1, 2, 3] rfl (by decide) (wr := [(x, ob 10 [.ref told, x_reader, x_ring, .ref speeds, x_wheel, x_trials, x_span, x_search, x_kept, x_crosses, x_trueMasses, x_thought, x_up, x_low, x_fits, x_pulls]), (sf, aI G 6 ff), (so, aI G 6 fo), (speeds, ob 7 [.int sc, .ref sf, .ref so, sX2, sX3, sX4])]) rfl (by decide) (by decide) ?_
            rintro _ _ ⟨tl2_23, fn2_24, f182_25, rfl, rfl⟩
            refine Z.at (pc' := 185) (st' := []) (ws' := [(x, ob 10 [.ref told, x_reader, x_ring, .ref speeds, x_wheel, x_trials, x_span, x_search, x_kept, x_crosses, x_trueMasses, x_thought, x_up, x_low, x_fits, x_pulls]), (sf, aI G 6 ff), (so, aI G 6 fo), (speeds, ob 7 [.int sc, .ref sf, .ref so, sX2, sX3, sX4]), (told, ob 8 [.ref tn, .int tl2_23]), (tn, aJ G 16 fn2_24)]) (kc' := 0) (ks' := 0) rfl rfl rfl rfl rfl ?_
            refine z_run X bo_X10_floor_185_186 ko_X10_floor_185_186 (lv' := [(11, .long ((ff uq.toNatClampNeg).toInt64 - (ff vq.toNatClampNeg).toInt64)), (9, .long (ff vq.toNatClampNeg).toInt64), (7, .long (ff uq.toNatClampNeg).toInt64), (0, .ref x), (1, .int uq), (2, .long pq), (4, .int vq), (5, .long qq)]) (st' := [.int 0]) rfl ?_
            refine Z.sub (lv' := []) [] rfl [0, 4, 5, 3, 1, 2] (ws' := [(x, ob 10 [.ref told, x_reader, x_ring, .ref speeds, x_wheel, x_trials, x_span, x_search, x_kept, x_crosses, x_trueMasses, x_thought, x_up, x_low, x_fits, x_pulls]), (told, ob 8 [.ref tn, .int tl2_23]), (tn, aJ G 16 fn2_24), (speeds, ob 7 [.int sc, .ref sf, .ref so, sX2, sX3, sX4]), (sf, aI G 6 ff), (so, aI G 6 fo)]) rfl (by decide) ?_
            exact z_iret X rfl do_X10_floor_186 (Nat.le_of_ble_eq_true rfl) (Nat.le_of_ble_eq_true rfl) ⟨(0 : Int32), tl2_23, fn2_24, (mTwo_1 (by unfold okFl okPt; omega) (show ((ff uq.toNatClampNeg).toInt64 - (ff vq.toNatClampNeg).toInt64).toInt ≠ 0 from c75_5)).symm, rfl, rfl⟩
          ·
            refine z_run X bo_X10_floor_79_81 ko_X10_floor_79_81 (lv' := [(11, .long ((ff uq.toNatClampNeg).toInt64 - (ff vq.toNatClampNeg).toInt64)), (9, .long (ff vq.toNatClampNeg).toInt64), (7, .long (ff uq.toNatClampNeg).toInt64), (0, .ref x), (1, .int uq), (2, .long pq), (4, .int vq), (5, .long qq)]) (st' := [.int (-2)]) rfl ?_
            refine Z.sub (lv' := []) [] rfl [0, 1, 2, 5, 3, 4] (ws' := [(x, ob 10 [.ref told, x_reader, x_ring, .ref speeds, x_wheel, x_trials, x_span, x_search, x_kept, x_crosses, x_trueMasses, x_thought, x_up, x_low, x_fits, x_pulls]), (told, ob 8 [.ref tn, .int tl]), (tn, aJ G 16 fn), (speeds, ob 7 [.int sc, .ref sf, .ref so, sX2, sX3, sX4]), (sf, aI G 6 ff), (so, aI G 6 fo)]) rfl (by decide) ?_
            exact z_iret X rfl do_X10_floor_81 (Nat.le_of_ble_eq_true rfl) (Nat.le_of_ble_eq_true rfl) ⟨((-2) : Int32), tl, fn, (mTwo_0 (by unfold okFl okPt; omega) (show ((ff uq.toNatClampNeg).toInt64 - (ff vq.toNatClampNeg).toInt64).toInt = 0 from c75_5)).symm, rfl, rfl⟩
        ·
          refine z_run X bo_X10_floor_38_39 ko_X10_floor_38_39 (lv' := [(0, .ref x), (1, .int uq), (2, .long pq), (4, .int vq), (5, .long qq)]) (st' := [.int (-1)]) rfl ?_
          refine Z.sub (lv' := []) [] rfl [0, 1, 2, 5, 3, 4] (ws' := [(x, ob 10 [.ref told, x_reader, x_ring, .ref speeds, x_wheel, x_trials, x_span, x_search, x_kept, x_crosses, x_trueMasses, x_thought, x_up, x_low, x_fits, x_pulls]), (told, ob 8 [.ref tn, .int tl]), (tn, aJ G 16 fn), (speeds, ob 7 [.int sc, .ref sf, .ref so, sX2, sX3, sX4]), (sf, aI G 6 ff), (so, aI G 6 fo)]) rfl (by decide) ?_
          exact z_iret X rfl do_X10_floor_39 (Nat.le_of_ble_eq_true rfl) (Nat.le_of_ble_eq_true rfl) ⟨((-1) : Int32), tl, fn, (mTwo_no (by unfold okFl okPt; omega)).symm, rfl, rfl⟩

