theorem d_X10_isOneOfTwo_1 : decode cX10_isOneOfTwo 1 = .ok (.ifCond .eq 8, 3) := by decide +kernel
theorem d_X10_isOneOfTwo_10 : decode cX10_isOneOfTwo 10 = .ok (.goto 4, 3) := by decide +kernel
theorem d_X10_isOneOfTwo_14 : decode cX10_isOneOfTwo 14 = .ok (.ireturn, 1) := by decide +kernel
theorem d_X10_isOneOfTwo_6 : decode cX10_isOneOfTwo 6 = .ok (.if_icmp .ne 7, 3) := by decide +kernel
abbrev bb_X10_isOneOfTwo_0_1 : ZB := [(.iload_n 0, .null)]
theorem bk_X10_isOneOfTwo_0_1 : zchk cX10_isOneOfTwo bb_X10_isOneOfTwo_0_1 0 = true ∧ zpc bb_X10_isOneOfTwo_0_1 0 = 1 := ⟨by decide +kernel, rfl⟩
abbrev bb_X10_isOneOfTwo_9_10 : ZB := [(.iconst 1, .int 1)]
theorem bk_X10_isOneOfTwo_9_10 : zchk cX10_isOneOfTwo bb_X10_isOneOfTwo_9_10 9 = true ∧ zpc bb_X10_isOneOfTwo_9_10 9 = 10 := ⟨by decide +kernel, rfl⟩
abbrev bb_X10_isOneOfTwo_4_6 : ZB := [(.iload_n 0, .null), (.iconst 1, .int 1)]
theorem bk_X10_isOneOfTwo_4_6 : zchk cX10_isOneOfTwo bb_X10_isOneOfTwo_4_6 4 = true ∧ zpc bb_X10_isOneOfTwo_4_6 4 = 6 := ⟨by decide +kernel, rfl⟩
abbrev bb_X10_isOneOfTwo_13_14 : ZB := [(.iconst 0, .int 0)]
theorem bk_X10_isOneOfTwo_13_14 : zchk cX10_isOneOfTwo bb_X10_isOneOfTwo_13_14 13 = true ∧ zpc bb_X10_isOneOfTwo_13_14 13 = 14 := ⟨by decide +kernel, rfl⟩
set_option maxHeartbeats 4000000 in
set_option maxRecDepth 100000 in
theorem c_X10_isOneOfTwo (l : Launch) (G : KG) (v : Int32) (a : Int) (hv : v.toInt = a) : Ct l G yX10_isOneOfTwo cX10_isOneOfTwo 1 (some .boolean) { frames := 0, cells := 0, slots := 0, locals := 0 } [.int v] [] (fun r w1 => r = some (.int (zb (decide (a = 0 ∨ a = 1)))) ∧ w1 = []) := by
  refine ct_of [(0, .int v)] (by decide) (Nat.le_of_ble_eq_true rfl) rfl ?_
  intro p e s m args below meth c A X
  refine z_run X bb_X10_isOneOfTwo_0_1 bk_X10_isOneOfTwo_0_1 (lv' := [(0, .int v)]) (st' := [.int v]) rfl ?_
  refine zi_eq X d_X10_isOneOfTwo_1 (tgt := 9) (by decide) (a := a) hv (fun c1_1 => ?_) (fun c1_1 => ?_)
  ·
    refine z_run X bb_X10_isOneOfTwo_9_10 bk_X10_isOneOfTwo_9_10 (lv' := [(0, .int v)]) (st' := [.int 1]) rfl ?_
    refine z_goto X d_X10_isOneOfTwo_10 (tgt := 14) (by decide) ?_
    exact z_zret X rfl rfl d_X10_isOneOfTwo_14 (Nat.le_of_ble_eq_true rfl) (Nat.le_of_ble_eq_true rfl) ⟨(congrArg (fun z => some (Value.int z)) (zb_t (by omega)).symm), rfl⟩
  ·
    refine z_run X bb_X10_isOneOfTwo_4_6 bk_X10_isOneOfTwo_4_6 (lv' := [(0, .int v)]) (st' := [.int 1, .int v]) rfl ?_
    refine zc_ne X d_X10_isOneOfTwo_6 (tgt := 13) (by decide) (a := a) (b := 1) hv (by decide) (fun c6_2 => ?_) (fun c6_2 => ?_)
    ·
      refine z_run X bb_X10_isOneOfTwo_13_14 bk_X10_isOneOfTwo_13_14 (lv' := [(0, .int v)]) (st' := [.int 0]) rfl ?_
      exact z_zret X rfl rfl d_X10_isOneOfTwo_14 (Nat.le_of_ble_eq_true rfl) (Nat.le_of_ble_eq_true rfl) ⟨(congrArg (fun z => some (Value.int z)) (zb_f (by omega)).symm), rfl⟩
    ·
      refine z_run X bb_X10_isOneOfTwo_9_10 bk_X10_isOneOfTwo_9_10 (lv' := [(0, .int v)]) (st' := [.int 1]) rfl ?_
      refine z_goto X d_X10_isOneOfTwo_10 (tgt := 14) (by decide) ?_
      exact z_zret X rfl rfl d_X10_isOneOfTwo_14 (Nat.le_of_ble_eq_true rfl) (Nat.le_of_ble_eq_true rfl) ⟨(congrArg (fun z => some (Value.int z)) (zb_t (by omega)).symm), rfl⟩

theorem d_X10_isWithin_3 : decode cX10_isWithin 3 = .ok (.if_icmp .lt 12, 3) := by decide +kernel
theorem d_X10_isWithin_16 : decode cX10_isWithin 16 = .ok (.ireturn, 1) := by decide +kernel
theorem d_X10_isWithin_8 : decode cX10_isWithin 8 = .ok (.if_icmp .gt 7, 3) := by decide +kernel
theorem d_X10_isWithin_12 : decode cX10_isWithin 12 = .ok (.goto 4, 3) := by decide +kernel
abbrev bb_X10_isWithin_0_3 : ZB := [(.iload_n 0, .null), (.iload_n 1, .null), (.ineg, .null)]
theorem bk_X10_isWithin_0_3 : zchk cX10_isWithin bb_X10_isWithin_0_3 0 = true ∧ zpc bb_X10_isWithin_0_3 0 = 3 := ⟨by decide +kernel, rfl⟩
abbrev bb_X10_isWithin_15_16 : ZB := [(.iconst 0, .int 0)]
theorem bk_X10_isWithin_15_16 : zchk cX10_isWithin bb_X10_isWithin_15_16 15 = true ∧ zpc bb_X10_isWithin_15_16 15 = 16 := ⟨by decide +kernel, rfl⟩
abbrev bb_X10_isWithin_6_8 : ZB := [(.iload_n 0, .null), (.iload_n 1, .null)]
theorem bk_X10_isWithin_6_8 : zchk cX10_isWithin bb_X10_isWithin_6_8 6 = true ∧ zpc bb_X10_isWithin_6_8 6 = 8 := ⟨by decide +kernel, rfl⟩
abbrev bb_X10_isWithin_11_12 : ZB := [(.iconst 1, .int 1)]
theorem bk_X10_isWithin_11_12 : zchk cX10_isWithin bb_X10_isWithin_11_12 11 = true ∧ zpc bb_X10_isWithin_11_12 11 = 12 := ⟨by decide +kernel, rfl⟩
set_option maxHeartbeats 4000000 in
set_option maxRecDepth 100000 in
theorem c_X10_isWithin (l : Launch) (G : KG) (v : Int32) (edge : Int32) (a : Int) (b : Int) (hv : v.toInt = a) (hb : (-edge).toInt = -b) (hc : edge.toInt = b) : Ct l G yX10_isWithin cX10_isWithin 2 (some .boolean) { frames := 0, cells := 0, slots := 0, locals := 0 } [.int v, .int edge] [] (fun r w1 => r = some (.int (zb (decide (-b ≤ a ∧ a ≤ b)))) ∧ w1 = []) := by
  refine ct_of [(0, .int v), (1, .int edge)] (by decide) (Nat.le_of_ble_eq_true rfl) rfl ?_
  intro p e s m args below meth c A X
  refine z_run X bb_X10_isWithin_0_3 bk_X10_isWithin_0_3 (lv' := [(0, .int v), (1, .int edge)]) (st' := [.int (-edge), .int v]) rfl ?_
  refine zc_lt X d_X10_isWithin_3 (tgt := 15) (by decide) (a := a) (b := (-edge).toInt) hv rfl (fun c3_1 => ?_) (fun c3_1 => ?_)
  ·
    refine z_run X bb_X10_isWithin_15_16 bk_X10_isWithin_15_16 (lv' := [(0, .int v), (1, .int edge)]) (st' := [.int 0]) rfl ?_
    exact z_zret X rfl rfl d_X10_isWithin_16 (Nat.le_of_ble_eq_true rfl) (Nat.le_of_ble_eq_true rfl) ⟨(congrArg (fun z => some (Value.int z)) (zb_f (by omega)).symm), rfl⟩
  ·
    refine z_run X bb_X10_isWithin_6_8 bk_X10_isWithin_6_8 (lv' := [(0, .int v), (1, .int edge)]) (st' := [.int edge, .int v]) rfl ?_
    refine zc_gt X d_X10_isWithin_8 (tgt := 15) (by decide) (a := a) (b := edge.toInt) hv rfl (fun c8_2 => ?_) (fun c8_2 => ?_)
    ·
      refine z_run X bb_X10_isWithin_15_16 bk_X10_isWithin_15_16 (lv' := [(0, .int v), (1, .int edge)]) (st' := [.int 0]) rfl ?_
      exact z_zret X rfl rfl d_X10_isWithin_16 (Nat.le_of_ble_eq_true rfl) (Nat.le_of_ble_eq_true rfl) ⟨(congrArg (fun z => some (Value.int z)) (zb_f (by omega)).symm), rfl⟩
    ·
      refine z_run X bb_X10_isWithin_11_12 bk_X10_isWithin_11_12 (lv' := [(0, .int v), (1, .int edge)]) (st' := [.int 1]) rfl ?_
      refine z_goto X d_X10_isWithin_12 (tgt := 16) (by decide) ?_
      exact z_zret X rfl rfl d_X10_isWithin_16 (Nat.le_of_ble_eq_true rfl) (Nat.le_of_ble_eq_true rfl) ⟨(congrArg (fun z => some (Value.int z)) (zb_t (by omega)).symm), rfl⟩

theorem d_X10_isMan_1 : decode cX10_isMan 1 = .ok (.ifCond .lt 12, 3) := by decide +kernel
theorem d_X10_isMan_14 : decode cX10_isMan 14 = .ok (.ireturn, 1) := by decide +kernel
theorem d_X10_isMan_6 : decode cX10_isMan 6 = .ok (.if_icmp .ge 7, 3) := by decide +kernel
theorem d_X10_isMan_10 : decode cX10_isMan 10 = .ok (.goto 4, 3) := by decide +kernel
abbrev bb_X10_isMan_0_1 : ZB := [(.iload_n 0, .null)]
theorem bk_X10_isMan_0_1 : zchk cX10_isMan bb_X10_isMan_0_1 0 = true ∧ zpc bb_X10_isMan_0_1 0 = 1 := ⟨by decide +kernel, rfl⟩
abbrev bb_X10_isMan_13_14 : ZB := [(.iconst 0, .int 0)]
theorem bk_X10_isMan_13_14 : zchk cX10_isMan bb_X10_isMan_13_14 13 = true ∧ zpc bb_X10_isMan_13_14 13 = 14 := ⟨by decide +kernel, rfl⟩
abbrev bb_X10_isMan_4_6 : ZB := [(.iload_n 0, .null), (.iconst 3, .int 3)]
theorem bk_X10_isMan_4_6 : zchk cX10_isMan bb_X10_isMan_4_6 4 = true ∧ zpc bb_X10_isMan_4_6 4 = 6 := ⟨by decide +kernel, rfl⟩
abbrev bb_X10_isMan_9_10 : ZB := [(.iconst 1, .int 1)]
theorem bk_X10_isMan_9_10 : zchk cX10_isMan bb_X10_isMan_9_10 9 = true ∧ zpc bb_X10_isMan_9_10 9 = 10 := ⟨by decide +kernel, rfl⟩
set_option maxHeartbeats 4000000 in
set_option maxRecDepth 100000 in
theorem c_X10_isMan (l : Launch) (G : KG) (v : Int32) (a : Int) (hv : v.toInt = a) : Ct l G yX10_isMan cX10_isMan 1 (some .boolean) { frames := 0, cells := 0, slots := 0, locals := 0 } [.int v] [] (fun r w1 => r = some (.int (zb (decide (0 ≤ a ∧ a < 3)))) ∧ w1 = []) := by
  refine ct_of [(0, .int v)] (by decide) (Nat.le_of_ble_eq_true rfl) rfl ?_
  intro p e s m args below meth c A X
  refine z_run X bb_X10_isMan_0_1 bk_X10_isMan_0_1 (lv' := [(0, .int v)]) (st' := [.int v]) rfl ?_
  refine zi_lt X d_X10_isMan_1 (tgt := 13) (by decide) (a := a) hv (fun c1_1 => ?_) (fun c1_1 => ?_)
  ·
    refine z_run X bb_X10_isMan_13_14 bk_X10_isMan_13_14 (lv' := [(0, .int v)]) (st' := [.int 0]) rfl ?_
    exact z_zret X rfl rfl d_X10_isMan_14 (Nat.le_of_ble_eq_true rfl) (Nat.le_of_ble_eq_true rfl) ⟨(congrArg (fun z => some (Value.int z)) (zb_f (by omega)).symm), rfl⟩
  ·
    refine z_run X bb_X10_isMan_4_6 bk_X10_isMan_4_6 (lv' := [(0, .int v)]) (st' := [.int 3, .int v]) rfl ?_
    refine zc_ge X d_X10_isMan_6 (tgt := 13) (by decide) (a := a) (b := 3) hv (by decide) (fun c6_2 => ?_) (fun c6_2 => ?_)
    ·
      refine z_run X bb_X10_isMan_13_14 bk_X10_isMan_13_14 (lv' := [(0, .int v)]) (st' := [.int 0]) rfl ?_
      exact z_zret X rfl rfl d_X10_isMan_14 (Nat.le_of_ble_eq_true rfl) (Nat.le_of_ble_eq_true rfl) ⟨(congrArg (fun z => some (Value.int z)) (zb_f (by omega)).symm), rfl⟩
    ·
      refine z_run X bb_X10_isMan_9_10 bk_X10_isMan_9_10 (lv' := [(0, .int v)]) (st' := [.int 1]) rfl ?_
      refine z_goto X d_X10_isMan_10 (tgt := 14) (by decide) ?_
      exact z_zret X rfl rfl d_X10_isMan_14 (Nat.le_of_ble_eq_true rfl) (Nat.le_of_ble_eq_true rfl) ⟨(congrArg (fun z => some (Value.int z)) (zb_t (by omega)).symm), rfl⟩
