/-! what a new object answers, by whole numbers -/
def an_sheet (k n : Int) : Int32 := if k < 0 ∨ 3 < k ∨ 16 < n then -1 else if k < 3 ∧ n < 0 then -2 else if k = 3 then -3 else 0
def an_cross (a b c : Int) : Int32 := if (a = 0 ∨ a = 1) ∧ (b = 0 ∨ b = 1) ∧ -9 ≤ c ∧ c ≤ 9 then (if a = b then 1 else 0) else -1
def an_two (a b : Int) : Int32 := if (a = 0 ∨ a = 1) ∧ (b = 0 ∨ b = 1) then -2 else -1
def an_judge (a b : Int) : Int32 := if -60 ≤ a ∧ a ≤ 60 ∧ -60 ≤ b ∧ b ≤ 60 then -2 else -1
def an_plane (a : Int) : Int64 := if a = 0 ∨ a = 1 then 0 else -1
def an_planeI (a : Int) : Int32 := if a = 0 ∨ a = 1 then 0 else -1
def an_pk (a k hi : Int) : Int64 := if (a = 0 ∨ a = 1) ∧ 1 ≤ k ∧ k ≤ hi then 0 else -1
def an_few (a b : Int) : Int32 := if (a = 0 ∨ a = 1) ∧ 0 ≤ b then 0 else -1
def an_buck (a b : Int) : Int32 := if (a = 0 ∨ a = 1) ∧ 0 ≤ b then -2 else -1
def an_count (a : Int) : Int32 := if a = 5 then -1 else if 0 ≤ a ∧ a ≤ 8 then 0 else -1

theorem d_X10_isOneOfTwo_1 : decode cX10_isOneOfTwo 1 = .ok (.ifCond .eq 8, 3) := by decide +kernel
theorem d_X10_isOneOfTwo_10 : decode cX10_isOneOfTwo 10 = .ok (.goto 4, 3) := by decide +kernel
theorem d_X10_isOneOfTwo_14 : decode cX10_isOneOfTwo 14 = .ok (.ireturn, 1) := by decide +kernel
theorem d_X10_isOneOfTwo_6 : decode cX10_isOneOfTwo 6 = .ok (.if_icmp .ne 7, 3) := by decide +kernel
abbrev bb_X10_isOneOfTwo_0_1 : ZB := [(.iload_n 0, .null)]
theorem bk_X10_isOneOfTwo_0_1 : zchk cX10_isOneOfTwo bb_X10_isOneOfTwo_0_1 0 = true ∧ zpc bb_X10_isOneOfTwo_0_1 0 = 1 := ⟨by decide +kernel, rfl⟩
abbrev bb_X10_isOneOfTwo_9_10 : ZB := [(.iconst 1, .int 1)]
theorem bk_X10_isOneOfTwo_9_10 : zchk cX10_isOneOfTwo bb_X10_isOneOfTwo_9_10 9 = true ∧ zpc bb_X10_isOneOfTwo_9_10 9 = 10 := ⟨by decide +kernel, rfl⟩
abbrev bb_X10_isOneOfTwo_4_6 : ZB := [(.iload_n 0, .null), (.iconst 1, .int 1)]
theorem bk_X10_isOneOfTwo_4_6 : zchk cX10_isOneOfTwo bb_X10_isOneOfTwo_4_6 4 = true ∧ zpc bb_X10_isOneOfTwo_4_6 4 = 6 := ⟨by decide +kernel, rfl⟩
abbrev bb_X10_isOneOfTwo_13_14 : ZB := [(.iconst 0, .int 0)]
theorem bk_X10_isOneOfTwo_13_14 : zchk cX10_isOneOfTwo bb_X10_isOneOfTwo_13_14 13 = true ∧ zpc bb_X10_isOneOfTwo_13_14 13 = 14 := ⟨by decide +kernel, rfl⟩
set_option maxHeartbeats 4000000 in
set_option maxRecDepth 100000 in
theorem c_X10_isOneOfTwo (l : Launch) (G : KG) (v : Int32) (a : Int) (hv : v.toInt = a) : Ct l G yX10_isOneOfTwo cX10_isOneOfTwo 1 (some .boolean) { frames := 0, cells := 0, slots := 0, locals := 0 } [.int v] [] (fun r w1 => r = some (.int (zb (decide (a = 0 ∨ a = 1)))) ∧ w1 = []) := by
  refine ct_of [(0, .int v)] (by decide) (Nat.le_of_ble_eq_true rfl) rfl ?_
  intro p0 e0 s0 m0 args0 below0 meth0 c0 A X
  refine z_run X bb_X10_isOneOfTwo_0_1 bk_X10_isOneOfTwo_0_1 (lv' := [(0, .int v)]) (st' := [.int v]) rfl ?_
  refine zi_eq X d_X10_isOneOfTwo_1 (tgt := 9) (by decide) (a := a) hv (fun c1_1 => ?_) (fun c1_1 => ?_)
  ·
    refine z_run X bb_X10_isOneOfTwo_9_10 bk_X10_isOneOfTwo_9_10 (lv' := [(0, .int v)]) (st' := [.int 1]) rfl ?_
    refine z_goto X d_X10_isOneOfTwo_10 (tgt := 14) (by decide) ?_
    exact z_zret X rfl rfl d_X10_isOneOfTwo_14 (Nat.le_of_ble_eq_true rfl) (Nat.le_of_ble_eq_true rfl) ⟨(congrArg (fun z => some (Value.int z)) (zb_t (by omega)).symm), rfl⟩
  ·
    refine z_run X bb_X10_isOneOfTwo_4_6 bk_X10_isOneOfTwo_4_6 (lv' := [(0, .int v)]) (st' := [.int 1, .int v]) rfl ?_
    refine zc_ne X d_X10_isOneOfTwo_6 (tgt := 13) (by decide) (a := a) (b := 1) hv (show (1 : Int32).toInt = 1 from by decide) (fun c6_2 => ?_) (fun c6_2 => ?_)
    ·
      refine z_run X bb_X10_isOneOfTwo_13_14 bk_X10_isOneOfTwo_13_14 (lv' := [(0, .int v)]) (st' := [.int 0]) rfl ?_
      exact z_zret X rfl rfl d_X10_isOneOfTwo_14 (Nat.le_of_ble_eq_true rfl) (Nat.le_of_ble_eq_true rfl) ⟨(congrArg (fun z => some (Value.int z)) (zb_f (by omega)).symm), rfl⟩
    ·
      refine z_run X bb_X10_isOneOfTwo_9_10 bk_X10_isOneOfTwo_9_10 (lv' := [(0, .int v)]) (st' := [.int 1]) rfl ?_
      refine z_goto X d_X10_isOneOfTwo_10 (tgt := 14) (by decide) ?_
      exact z_zret X rfl rfl d_X10_isOneOfTwo_14 (Nat.le_of_ble_eq_true rfl) (Nat.le_of_ble_eq_true rfl) ⟨(congrArg (fun z => some (Value.int z)) (zb_t (by omega)).symm), rfl⟩

theorem d_X10_isWithin_3 : decode cX10_isWithin 3 = .ok (.if_icmp .lt 12, 3) := by decide +kernel
theorem d_X10_isWithin_16 : decode cX10_isWithin 16 = .ok (.ireturn, 1) := by decide +kernel
theorem d_X10_isWithin_8 : decode cX10_isWithin 8 = .ok (.if_icmp .gt 7, 3) := by decide +kernel
theorem d_X10_isWithin_12 : decode cX10_isWithin 12 = .ok (.goto 4, 3) := by decide +kernel
abbrev bb_X10_isWithin_0_3 : ZB := [(.iload_n 0, .null), (.iload_n 1, .null), (.ineg, .null)]
theorem bk_X10_isWithin_0_3 : zchk cX10_isWithin bb_X10_isWithin_0_3 0 = true ∧ zpc bb_X10_isWithin_0_3 0 = 3 := ⟨by decide +kernel, rfl⟩
abbrev bb_X10_isWithin_15_16 : ZB := [(.iconst 0, .int 0)]
theorem bk_X10_isWithin_15_16 : zchk cX10_isWithin bb_X10_isWithin_15_16 15 = true ∧ zpc bb_X10_isWithin_15_16 15 = 16 := ⟨by decide +kernel, rfl⟩
abbrev bb_X10_isWithin_6_8 : ZB := [(.iload_n 0, .null), (.iload_n 1, .null)]
theorem bk_X10_isWithin_6_8 : zchk cX10_isWithin bb_X10_isWithin_6_8 6 = true ∧ zpc bb_X10_isWithin_6_8 6 = 8 := ⟨by decide +kernel, rfl⟩
abbrev bb_X10_isWithin_11_12 : ZB := [(.iconst 1, .int 1)]
theorem bk_X10_isWithin_11_12 : zchk cX10_isWithin bb_X10_isWithin_11_12 11 = true ∧ zpc bb_X10_isWithin_11_12 11 = 12 := ⟨by decide +kernel, rfl⟩
set_option maxHeartbeats 4000000 in
set_option maxRecDepth 100000 in
theorem c_X10_isWithin (l : Launch) (G : KG) (v : Int32) (edge : Int32) (a : Int) (b : Int) (hv : v.toInt = a) (hedge : edge.toInt = b) (hc : 0 ≤ b ∧ b < 2147483648) : Ct l G yX10_isWithin cX10_isWithin 2 (some .boolean) { frames := 0, cells := 0, slots := 0, locals := 0 } [.int v, .int edge] [] (fun r w1 => r = some (.int (zb (decide (-b ≤ a ∧ a ≤ b)))) ∧ w1 = []) := by
  refine ct_of [(0, .int v), (1, .int edge)] (by decide) (Nat.le_of_ble_eq_true rfl) rfl ?_
  intro p0 e0 s0 m0 args0 below0 meth0 c0 A X
  refine z_run X bb_X10_isWithin_0_3 bk_X10_isWithin_0_3 (lv' := [(0, .int v), (1, .int edge)]) (st' := [.int (-edge), .int v]) rfl ?_
  refine zc_lt X d_X10_isWithin_3 (tgt := 15) (by decide) (a := a) (b := (-b)) hv (tI_neg hedge (by omega)) (fun c3_1 => ?_) (fun c3_1 => ?_)
  ·
    refine z_run X bb_X10_isWithin_15_16 bk_X10_isWithin_15_16 (lv' := [(0, .int v), (1, .int edge)]) (st' := [.int 0]) rfl ?_
    exact z_zret X rfl rfl d_X10_isWithin_16 (Nat.le_of_ble_eq_true rfl) (Nat.le_of_ble_eq_true rfl) ⟨(congrArg (fun z => some (Value.int z)) (zb_f (by omega)).symm), rfl⟩
  ·
    refine z_run X bb_X10_isWithin_6_8 bk_X10_isWithin_6_8 (lv' := [(0, .int v), (1, .int edge)]) (st' := [.int edge, .int v]) rfl ?_
    refine zc_gt X d_X10_isWithin_8 (tgt := 15) (by decide) (a := a) (b := b) hv hedge (fun c8_2 => ?_) (fun c8_2 => ?_)
    ·
      refine z_run X bb_X10_isWithin_15_16 bk_X10_isWithin_15_16 (lv' := [(0, .int v), (1, .int edge)]) (st' := [.int 0]) rfl ?_
      exact z_zret X rfl rfl d_X10_isWithin_16 (Nat.le_of_ble_eq_true rfl) (Nat.le_of_ble_eq_true rfl) ⟨(congrArg (fun z => some (Value.int z)) (zb_f (by omega)).symm), rfl⟩
    ·
      refine z_run X bb_X10_isWithin_11_12 bk_X10_isWithin_11_12 (lv' := [(0, .int v), (1, .int edge)]) (st' := [.int 1]) rfl ?_
      refine z_goto X d_X10_isWithin_12 (tgt := 16) (by decide) ?_
      exact z_zret X rfl rfl d_X10_isWithin_16 (Nat.le_of_ble_eq_true rfl) (Nat.le_of_ble_eq_true rfl) ⟨(congrArg (fun z => some (Value.int z)) (zb_t (by omega)).symm), rfl⟩

theorem d_X10_isMan_1 : decode cX10_isMan 1 = .ok (.ifCond .lt 12, 3) := by decide +kernel
theorem d_X10_isMan_14 : decode cX10_isMan 14 = .ok (.ireturn, 1) := by decide +kernel
theorem d_X10_isMan_6 : decode cX10_isMan 6 = .ok (.if_icmp .ge 7, 3) := by decide +kernel
theorem d_X10_isMan_10 : decode cX10_isMan 10 = .ok (.goto 4, 3) := by decide +kernel
abbrev bb_X10_isMan_0_1 : ZB := [(.iload_n 0, .null)]
theorem bk_X10_isMan_0_1 : zchk cX10_isMan bb_X10_isMan_0_1 0 = true ∧ zpc bb_X10_isMan_0_1 0 = 1 := ⟨by decide +kernel, rfl⟩
abbrev bb_X10_isMan_13_14 : ZB := [(.iconst 0, .int 0)]
theorem bk_X10_isMan_13_14 : zchk cX10_isMan bb_X10_isMan_13_14 13 = true ∧ zpc bb_X10_isMan_13_14 13 = 14 := ⟨by decide +kernel, rfl⟩
abbrev bb_X10_isMan_4_6 : ZB := [(.iload_n 0, .null), (.iconst 3, .int 3)]
theorem bk_X10_isMan_4_6 : zchk cX10_isMan bb_X10_isMan_4_6 4 = true ∧ zpc bb_X10_isMan_4_6 4 = 6 := ⟨by decide +kernel, rfl⟩
abbrev bb_X10_isMan_9_10 : ZB := [(.iconst 1, .int 1)]
theorem bk_X10_isMan_9_10 : zchk cX10_isMan bb_X10_isMan_9_10 9 = true ∧ zpc bb_X10_isMan_9_10 9 = 10 := ⟨by decide +kernel, rfl⟩
set_option maxHeartbeats 4000000 in
set_option maxRecDepth 100000 in
theorem c_X10_isMan (l : Launch) (G : KG) (v : Int32) (a : Int) (hv : v.toInt = a) : Ct l G yX10_isMan cX10_isMan 1 (some .boolean) { frames := 0, cells := 0, slots := 0, locals := 0 } [.int v] [] (fun r w1 => r = some (.int (zb (decide (0 ≤ a ∧ a < 3)))) ∧ w1 = []) := by
  refine ct_of [(0, .int v)] (by decide) (Nat.le_of_ble_eq_true rfl) rfl ?_
  intro p0 e0 s0 m0 args0 below0 meth0 c0 A X
  refine z_run X bb_X10_isMan_0_1 bk_X10_isMan_0_1 (lv' := [(0, .int v)]) (st' := [.int v]) rfl ?_
  refine zi_lt X d_X10_isMan_1 (tgt := 13) (by decide) (a := a) hv (fun c1_1 => ?_) (fun c1_1 => ?_)
  ·
    refine z_run X bb_X10_isMan_13_14 bk_X10_isMan_13_14 (lv' := [(0, .int v)]) (st' := [.int 0]) rfl ?_
    exact z_zret X rfl rfl d_X10_isMan_14 (Nat.le_of_ble_eq_true rfl) (Nat.le_of_ble_eq_true rfl) ⟨(congrArg (fun z => some (Value.int z)) (zb_f (by omega)).symm), rfl⟩
  ·
    refine z_run X bb_X10_isMan_4_6 bk_X10_isMan_4_6 (lv' := [(0, .int v)]) (st' := [.int 3, .int v]) rfl ?_
    refine zc_ge X d_X10_isMan_6 (tgt := 13) (by decide) (a := a) (b := 3) hv (show (3 : Int32).toInt = 3 from by decide) (fun c6_2 => ?_) (fun c6_2 => ?_)
    ·
      refine z_run X bb_X10_isMan_13_14 bk_X10_isMan_13_14 (lv' := [(0, .int v)]) (st' := [.int 0]) rfl ?_
      exact z_zret X rfl rfl d_X10_isMan_14 (Nat.le_of_ble_eq_true rfl) (Nat.le_of_ble_eq_true rfl) ⟨(congrArg (fun z => some (Value.int z)) (zb_f (by omega)).symm), rfl⟩
    ·
      refine z_run X bb_X10_isMan_9_10 bk_X10_isMan_9_10 (lv' := [(0, .int v)]) (st' := [.int 1]) rfl ?_
      refine z_goto X d_X10_isMan_10 (tgt := 14) (by decide) ?_
      exact z_zret X rfl rfl d_X10_isMan_14 (Nat.le_of_ble_eq_true rfl) (Nat.le_of_ble_eq_true rfl) ⟨(congrArg (fun z => some (Value.int z)) (zb_t (by omega)).symm), rfl⟩

theorem d_X10_sizeOf_7 : decode cX10_sizeOf 7 = .ok (.lreturn, 1) := by decide +kernel
abbrev bb_X10_sizeOf_0_7 : ZB := [(.lload_n 0, .null), (.lload_n 0, .null), (.lmul, .null), (.lload_n 2, .null), (.lload_n 2, .null), (.lmul, .null), (.ladd, .null)]
theorem bk_X10_sizeOf_0_7 : zchk cX10_sizeOf bb_X10_sizeOf_0_7 0 = true ∧ zpc bb_X10_sizeOf_0_7 0 = 7 := ⟨by decide +kernel, rfl⟩
set_option maxHeartbeats 4000000 in
set_option maxRecDepth 100000 in
theorem c_X10_sizeOf0 (l : Launch) (G : KG) : Ct l G yX10_sizeOf cX10_sizeOf 4 (some .long) { frames := 0, cells := 0, slots := 0, locals := 0 } [.long 0, .long 0] [] (fun r w1 => r = some (.long 0) ∧ w1 = []) := by
  refine ct_of [(0, .long 0), (2, .long 0)] (by decide) (Nat.le_of_ble_eq_true rfl) rfl ?_
  intro p0 e0 s0 m0 args0 below0 meth0 c0 A X
  refine z_run X bb_X10_sizeOf_0_7 bk_X10_sizeOf_0_7 (lv' := [(0, .long 0), (2, .long 0)]) (st' := [.long 0]) rfl ?_
  exact z_lret X rfl d_X10_sizeOf_7 (Nat.le_of_ble_eq_true rfl) (Nat.le_of_ble_eq_true rfl) ⟨rfl, rfl⟩

theorem d_X4_append_1 : decode cX4_append 1 = .ok (.getfield 15, 3) := by decide +kernel
theorem d_X4_append_8 : decode cX4_append 8 = .ok (.if_icmp .le 5, 3) := by decide +kernel
theorem d_X4_append_17 : decode cX4_append 17 = .ok (.ifCond .lt 35, 3) := by decide +kernel
theorem d_X4_append_21 : decode cX4_append 21 = .ok (.getfield 9, 3) := by decide +kernel
theorem d_X4_append_25 : decode cX4_append 25 = .ok (.getfield 15, 3) := by decide +kernel
theorem d_X4_append_35 : decode cX4_append 35 = .ok (.iastore, 1) := by decide +kernel
theorem d_X4_append_38 : decode cX4_append 38 = .ok (.getfield 15, 3) := by decide +kernel
theorem d_X4_append_43 : decode cX4_append 43 = .ok (.putfield 15, 3) := by decide +kernel
theorem d_X4_append_49 : decode cX4_append 49 = .ok (.goto (-33), 3) := by decide +kernel
theorem d_X4_append_53 : decode cX4_append 53 = .ok (.getfield 15, 3) := by decide +kernel
theorem d_X4_append_56 : decode cX4_append 56 = .ok (.ireturn, 1) := by decide +kernel
abbrev bb_X4_append_0_1 : ZB := [(.aload_n 0, .null)]
theorem bk_X4_append_0_1 : zchk cX4_append bb_X4_append_0_1 0 = true ∧ zpc bb_X4_append_0_1 0 = 1 := ⟨by decide +kernel, rfl⟩
abbrev bb_X4_append_4_8 : ZB := [(.iconst 4, .int 4), (.iadd, .null), (.bipush 80, .int 80)]
theorem bk_X4_append_4_8 : zchk cX4_append bb_X4_append_4_8 4 = true ∧ zpc bb_X4_append_4_8 4 = 8 := ⟨by decide +kernel, rfl⟩
abbrev bb_X4_append_13_17 : ZB := [(.bipush 24, .int 24), (.istore_n 2, .null), (.iload_n 2, .null)]
theorem bk_X4_append_13_17 : zchk cX4_append bb_X4_append_13_17 13 = true ∧ zpc bb_X4_append_13_17 13 = 17 := ⟨by decide +kernel, rfl⟩
abbrev bb_X4_append_20_21 : ZB := [(.aload_n 0, .null)]
theorem bk_X4_append_20_21 : zchk cX4_append bb_X4_append_20_21 20 = true ∧ zpc bb_X4_append_20_21 20 = 21 := ⟨by decide +kernel, rfl⟩
abbrev bb_X4_append_24_25 : ZB := [(.aload_n 0, .null)]
theorem bk_X4_append_24_25 : zchk cX4_append bb_X4_append_24_25 24 = true ∧ zpc bb_X4_append_24_25 24 = 25 := ⟨by decide +kernel, rfl⟩
abbrev bb_X4_append_28_35 : ZB := [(.iload_n 1, .null), (.iload_n 2, .null), (.ishr, .null), (.sipush 255, .int 255), (.iand, .null)]
theorem bk_X4_append_28_35 : zchk cX4_append bb_X4_append_28_35 28 = true ∧ zpc bb_X4_append_28_35 28 = 35 := ⟨by decide +kernel, rfl⟩
abbrev bb_X4_append_36_38 : ZB := [(.aload_n 0, .null), (.dup, .null)]
theorem bk_X4_append_36_38 : zchk cX4_append bb_X4_append_36_38 36 = true ∧ zpc bb_X4_append_36_38 36 = 38 := ⟨by decide +kernel, rfl⟩
abbrev bb_X4_append_41_43 : ZB := [(.iconst 1, .int 1), (.iadd, .null)]
theorem bk_X4_append_41_43 : zchk cX4_append bb_X4_append_41_43 41 = true ∧ zpc bb_X4_append_41_43 41 = 43 := ⟨by decide +kernel, rfl⟩
abbrev bb_X4_append_46_49 : ZB := [(.iinc 2 (-8), .int (-8))]
theorem bk_X4_append_46_49 : zchk cX4_append bb_X4_append_46_49 46 = true ∧ zpc bb_X4_append_46_49 46 = 49 := ⟨by decide +kernel, rfl⟩
abbrev bb_X4_append_16_17 : ZB := [(.iload_n 2, .null)]
theorem bk_X4_append_16_17 : zchk cX4_append bb_X4_append_16_17 16 = true ∧ zpc bb_X4_append_16_17 16 = 17 := ⟨by decide +kernel, rfl⟩
abbrev bb_X4_append_52_53 : ZB := [(.aload_n 0, .null)]
theorem bk_X4_append_52_53 : zchk cX4_append bb_X4_append_52_53 52 = true ∧ zpc bb_X4_append_52_53 52 = 53 := ⟨by decide +kernel, rfl⟩
set_option maxHeartbeats 4000000 in
set_option maxRecDepth 100000 in
theorem c_X4_append (l : Launch) (G : KG) (reader : Nat) (rs : Nat) (v : Int32) : Ct l G yX4_append cX4_append 3 (some .int) { frames := 0, cells := 0, slots := 0, locals := 0 } [.ref reader, .int v] [(reader, ob 4 [.ref rs, .int 0, .int 0, .int 0, .int 0, .int 0, .int 0, .int 0]), (rs, aI G 80 (fun _ => 0))] (fun r _ => r = some (.int 4)) := by
  refine ct_of [(0, .ref reader), (1, .int v)] (by decide) (Nat.le_of_ble_eq_true rfl) rfl ?_
  intro p0 e0 s0 m0 args0 below0 meth0 c0 A X
  refine z_run X bb_X4_append_0_1 bk_X4_append_0_1 (lv' := [(0, .ref reader), (1, .int v)]) (st' := [.ref reader]) rfl ?_
  refine z_get X fl_4_15 d_X4_append_1 0 rfl (v := .int 0) rfl ?_
  refine z_run X bb_X4_append_4_8 bk_X4_append_4_8 (lv' := [(0, .ref reader), (1, .int v)]) (st' := [.int 80, .int 4]) rfl ?_
  refine zc_le X d_X4_append_8 (tgt := 13) (by decide) (a := 4) (b := 80) (show (4 : Int32).toInt = 4 from by decide) (show (80 : Int32).toInt = 80 from by decide) (fun _ => ?_) (fun c8_1 => absurd c8_1 (by decide))
  refine z_run X bb_X4_append_13_17 bk_X4_append_13_17 (lv' := [(2, .int 24), (0, .ref reader), (1, .int v)]) (st' := [.int 24]) rfl ?_
  refine zi_lt X d_X4_append_17 (tgt := 52) (by decide) (a := 24) (show (24 : Int32).toInt = 24 from by decide) (fun c17_2 => absurd c17_2 (by decide)) (fun _ => ?_)
  refine z_run X bb_X4_append_20_21 bk_X4_append_20_21 (lv' := [(2, .int 24), (0, .ref reader), (1, .int v)]) (st' := [.ref reader]) rfl ?_
  refine z_get X fl_4_9 d_X4_append_21 0 rfl (v := .ref rs) rfl ?_
  refine z_run X bb_X4_append_24_25 bk_X4_append_24_25 (lv' := [(2, .int 24), (0, .ref reader), (1, .int v)]) (st' := [.ref reader, .ref rs]) rfl ?_
  refine z_get X fl_4_15 d_X4_append_25 0 rfl (v := .int 0) rfl ?_
  refine z_run X bb_X4_append_28_35 bk_X4_append_28_35 (lv' := [(2, .int 24), (0, .ref reader), (1, .int v)]) (st' := [.int ((v >>> (24 &&& 31)) &&& 255), .int 0, .ref rs]) rfl ?_
  refine z_iast X d_X4_append_35 1 rfl (show vp_in _ _ from by unfold vp_in; decide) (ws' := [(reader, ob 4 [.ref rs, .int 0, .int 0, .int 0, .int 0, .int 0, .int 0, .int 0]), (rs, aI G 80 (upd (fun _ => 0) 0 ((v >>> (24 &&& 31)) &&& 255)))]) rfl ?_
  refine z_run X bb_X4_append_36_38 bk_X4_append_36_38 (lv' := [(2, .int 24), (0, .ref reader), (1, .int v)]) (st' := [.ref reader, .ref reader]) rfl ?_
  refine z_get X fl_4_15 d_X4_append_38 0 rfl (v := .int 0) rfl ?_
  refine z_run X bb_X4_append_41_43 bk_X4_append_41_43 (lv' := [(2, .int 24), (0, .ref reader), (1, .int v)]) (st' := [.int 1, .ref reader]) rfl ?_
  refine z_put X fl_4_15 d_X4_append_43 0 rfl (ty := .int) (T := TX4) (N := 8) rfl (Or.inl rfl) (by decide +kernel) rfl (by rfl) (Nat.le_of_ble_eq_true rfl) (ws' := [(reader, ob 4 [.ref rs, .int 1, .int 0, .int 0, .int 0, .int 0, .int 0, .int 0]), (rs, aI G 80 (upd (fun _ => 0) 0 ((v >>> (24 &&& 31)) &&& 255)))]) rfl ?_
  refine z_run X bb_X4_append_46_49 bk_X4_append_46_49 (lv' := [(2, .int 16), (0, .ref reader), (1, .int v)]) (st' := []) rfl ?_
  refine z_goto X d_X4_append_49 (tgt := 16) (by decide) ?_
  refine z_run X bb_X4_append_16_17 bk_X4_append_16_17 (lv' := [(2, .int 16), (0, .ref reader), (1, .int v)]) (st' := [.int 16]) rfl ?_
  refine zi_lt X d_X4_append_17 (tgt := 52) (by decide) (a := 16) (show (16 : Int32).toInt = 16 from by decide) (fun c17_3 => absurd c17_3 (by decide)) (fun _ => ?_)
  refine z_run X bb_X4_append_20_21 bk_X4_append_20_21 (lv' := [(2, .int 16), (0, .ref reader), (1, .int v)]) (st' := [.ref reader]) rfl ?_
  refine z_get X fl_4_9 d_X4_append_21 0 rfl (v := .ref rs) rfl ?_
  refine z_run X bb_X4_append_24_25 bk_X4_append_24_25 (lv' := [(2, .int 16), (0, .ref reader), (1, .int v)]) (st' := [.ref reader, .ref rs]) rfl ?_
  refine z_get X fl_4_15 d_X4_append_25 0 rfl (v := .int 1) rfl ?_
  refine z_run X bb_X4_append_28_35 bk_X4_append_28_35 (lv' := [(2, .int 16), (0, .ref reader), (1, .int v)]) (st' := [.int ((v >>> (16 &&& 31)) &&& 255), .int 1, .ref rs]) rfl ?_
  refine z_iast X d_X4_append_35 1 rfl (show vp_in _ _ from by unfold vp_in; decide) (ws' := [(reader, ob 4 [.ref rs, .int 1, .int 0, .int 0, .int 0, .int 0, .int 0, .int 0]), (rs, aI G 80 (upd (upd (fun _ => 0) 0 ((v >>> (24 &&& 31)) &&& 255)) 1 ((v >>> (16 &&& 31)) &&& 255)))]) rfl ?_
  refine z_run X bb_X4_append_36_38 bk_X4_append_36_38 (lv' := [(2, .int 16), (0, .ref reader), (1, .int v)]) (st' := [.ref reader, .ref reader]) rfl ?_
  refine z_get X fl_4_15 d_X4_append_38 0 rfl (v := .int 1) rfl ?_
  refine z_run X bb_X4_append_41_43 bk_X4_append_41_43 (lv' := [(2, .int 16), (0, .ref reader), (1, .int v)]) (st' := [.int 2, .ref reader]) rfl ?_
  refine z_put X fl_4_15 d_X4_append_43 0 rfl (ty := .int) (T := TX4) (N := 8) rfl (Or.inl rfl) (by decide +kernel) rfl (by rfl) (Nat.le_of_ble_eq_true rfl) (ws' := [(reader, ob 4 [.ref rs, .int 2, .int 0, .int 0, .int 0, .int 0, .int 0, .int 0]), (rs, aI G 80 (upd (upd (fun _ => 0) 0 ((v >>> (24 &&& 31)) &&& 255)) 1 ((v >>> (16 &&& 31)) &&& 255)))]) rfl ?_
  refine z_run X bb_X4_append_46_49 bk_X4_append_46_49 (lv' := [(2, .int 8), (0, .ref reader), (1, .int v)]) (st' := []) rfl ?_
  refine z_goto X d_X4_append_49 (tgt := 16) (by decide) ?_
  refine z_run X bb_X4_append_16_17 bk_X4_append_16_17 (lv' := [(2, .int 8), (0, .ref reader), (1, .int v)]) (st' := [.int 8]) rfl ?_
  refine zi_lt X d_X4_append_17 (tgt := 52) (by decide) (a := 8) (show (8 : Int32).toInt = 8 from by decide) (fun c17_4 => absurd c17_4 (by decide)) (fun _ => ?_)
  refine z_run X bb_X4_append_20_21 bk_X4_append_20_21 (lv' := [(2, .int 8), (0, .ref reader), (1, .int v)]) (st' := [.ref reader]) rfl ?_
  refine z_get X fl_4_9 d_X4_append_21 0 rfl (v := .ref rs) rfl ?_
  refine z_run X bb_X4_append_24_25 bk_X4_append_24_25 (lv' := [(2, .int 8), (0, .ref reader), (1, .int v)]) (st' := [.ref reader, .ref rs]) rfl ?_
  refine z_get X fl_4_15 d_X4_append_25 0 rfl (v := .int 2) rfl ?_
  refine z_run X bb_X4_append_28_35 bk_X4_append_28_35 (lv' := [(2, .int 8), (0, .ref reader), (1, .int v)]) (st' := [.int ((v >>> (8 &&& 31)) &&& 255), .int 2, .ref rs]) rfl ?_
  refine z_iast X d_X4_append_35 1 rfl (show vp_in _ _ from by unfold vp_in; decide) (ws' := [(reader, ob 4 [.ref rs, .int 2, .int 0, .int 0, .int 0, .int 0, .int 0, .int 0]), (rs, aI G 80 (upd (upd (upd (fun _ => 0) 0 ((v >>> (24 &&& 31)) &&& 255)) 1 ((v >>> (16 &&& 31)) &&& 255)) 2 ((v >>> (8 &&& 31)) &&& 255)))]) rfl ?_
  refine z_run X bb_X4_append_36_38 bk_X4_append_36_38 (lv' := [(2, .int 8), (0, .ref reader), (1, .int v)]) (st' := [.ref reader, .ref reader]) rfl ?_
  refine z_get X fl_4_15 d_X4_append_38 0 rfl (v := .int 2) rfl ?_
  refine z_run X bb_X4_append_41_43 bk_X4_append_41_43 (lv' := [(2, .int 8), (0, .ref reader), (1, .int v)]) (st' := [.int 3, .ref reader]) rfl ?_
  refine z_put X fl_4_15 d_X4_append_43 0 rfl (ty := .int) (T := TX4) (N := 8) rfl (Or.inl rfl) (by decide +kernel) rfl (by rfl) (Nat.le_of_ble_eq_true rfl) (ws' := [(reader, ob 4 [.ref rs, .int 3, .int 0, .int 0, .int 0, .int 0, .int 0, .int 0]), (rs, aI G 80 (upd (upd (upd (fun _ => 0) 0 ((v >>> (24 &&& 31)) &&& 255)) 1 ((v >>> (16 &&& 31)) &&& 255)) 2 ((v >>> (8 &&& 31)) &&& 255)))]) rfl ?_
  refine z_run X bb_X4_append_46_49 bk_X4_append_46_49 (lv' := [(2, .int 0), (0, .ref reader), (1, .int v)]) (st' := []) rfl ?_
  refine z_goto X d_X4_append_49 (tgt := 16) (by decide) ?_
  refine z_run X bb_X4_append_16_17 bk_X4_append_16_17 (lv' := [(2, .int 0), (0, .ref reader), (1, .int v)]) (st' := [.int 0]) rfl ?_
  refine zi_lt X d_X4_append_17 (tgt := 52) (by decide) (a := 0) (show (0 : Int32).toInt = 0 from by decide) (fun c17_5 => absurd c17_5 (by decide)) (fun _ => ?_)
  refine z_run X bb_X4_append_20_21 bk_X4_append_20_21 (lv' := [(2, .int 0), (0, .ref reader), (1, .int v)]) (st' := [.ref reader]) rfl ?_
  refine z_get X fl_4_9 d_X4_append_21 0 rfl (v := .ref rs) rfl ?_
  refine z_run X bb_X4_append_24_25 bk_X4_append_24_25 (lv' := [(2, .int 0), (0, .ref reader), (1, .int v)]) (st' := [.ref reader, .ref rs]) rfl ?_
  refine z_get X fl_4_15 d_X4_append_25 0 rfl (v := .int 3) rfl ?_
  refine z_run X bb_X4_append_28_35 bk_X4_append_28_35 (lv' := [(2, .int 0), (0, .ref reader), (1, .int v)]) (st' := [.int ((v >>> (0 &&& 31)) &&& 255), .int 3, .ref rs]) rfl ?_
  refine z_iast X d_X4_append_35 1 rfl (show vp_in _ _ from by unfold vp_in; decide) (ws' := [(reader, ob 4 [.ref rs, .int 3, .int 0, .int 0, .int 0, .int 0, .int 0, .int 0]), (rs, aI G 80 (upd (upd (upd (upd (fun _ => 0) 0 ((v >>> (24 &&& 31)) &&& 255)) 1 ((v >>> (16 &&& 31)) &&& 255)) 2 ((v >>> (8 &&& 31)) &&& 255)) 3 ((v >>> (0 &&& 31)) &&& 255)))]) rfl ?_
  refine z_run X bb_X4_append_36_38 bk_X4_append_36_38 (lv' := [(2, .int 0), (0, .ref reader), (1, .int v)]) (st' := [.ref reader, .ref reader]) rfl ?_
  refine z_get X fl_4_15 d_X4_append_38 0 rfl (v := .int 3) rfl ?_
  refine z_run X bb_X4_append_41_43 bk_X4_append_41_43 (lv' := [(2, .int 0), (0, .ref reader), (1, .int v)]) (st' := [.int 4, .ref reader]) rfl ?_
  refine z_put X fl_4_15 d_X4_append_43 0 rfl (ty := .int) (T := TX4) (N := 8) rfl (Or.inl rfl) (by decide +kernel) rfl (by rfl) (Nat.le_of_ble_eq_true rfl) (ws' := [(reader, ob 4 [.ref rs, .int 4, .int 0, .int 0, .int 0, .int 0, .int 0, .int 0]), (rs, aI G 80 (upd (upd (upd (upd (fun _ => 0) 0 ((v >>> (24 &&& 31)) &&& 255)) 1 ((v >>> (16 &&& 31)) &&& 255)) 2 ((v >>> (8 &&& 31)) &&& 255)) 3 ((v >>> (0 &&& 31)) &&& 255)))]) rfl ?_
  refine z_run X bb_X4_append_46_49 bk_X4_append_46_49 (lv' := [(2, .int (-8)), (0, .ref reader), (1, .int v)]) (st' := []) rfl ?_
  refine z_goto X d_X4_append_49 (tgt := 16) (by decide) ?_
  refine z_run X bb_X4_append_16_17 bk_X4_append_16_17 (lv' := [(2, .int (-8)), (0, .ref reader), (1, .int v)]) (st' := [.int (-8)]) rfl ?_
  refine zi_lt X d_X4_append_17 (tgt := 52) (by decide) (a := (-8)) (show ((-8) : Int32).toInt = (-8) from by decide) (fun _ => ?_) (fun c17_6 => absurd c17_6 (by decide))
  refine z_run X bb_X4_append_52_53 bk_X4_append_52_53 (lv' := [(2, .int (-8)), (0, .ref reader), (1, .int v)]) (st' := [.ref reader]) rfl ?_
  refine z_get X fl_4_15 d_X4_append_53 0 rfl (v := .int 4) rfl ?_
  exact z_iret X rfl d_X4_append_56 (Nat.le_of_ble_eq_true rfl) (Nat.le_of_ble_eq_true rfl) rfl

theorem d_X10_sign_1 : decode cX10_sign 1 = .ok (.getfield 19, 3) := by decide +kernel
theorem d_X10_sign_5 : decode cX10_sign 5 = .ok (.invokevirtual 91, 3) := by decide +kernel
theorem d_X10_sign_8 : decode cX10_sign 8 = .ok (.ireturn, 1) := by decide +kernel
abbrev bb_X10_sign_0_1 : ZB := [(.aload_n 0, .null)]
theorem bk_X10_sign_0_1 : zchk cX10_sign bb_X10_sign_0_1 0 = true ∧ zpc bb_X10_sign_0_1 0 = 1 := ⟨by decide +kernel, rfl⟩
abbrev bb_X10_sign_4_5 : ZB := [(.iload_n 1, .null)]
theorem bk_X10_sign_4_5 : zchk cX10_sign bb_X10_sign_4_5 4 = true ∧ zpc bb_X10_sign_4_5 4 = 5 := ⟨by decide +kernel, rfl⟩
set_option maxHeartbeats 4000000 in
set_option maxRecDepth 100000 in
theorem c_X10_sign (l : Launch) (G : KG) (x : Nat) (told : Nat) (reader : Nat) (ring : Nat) (speeds : Nat) (wheel : Nat) (trials : Nat) (span : Nat) (search : Nat) (kept : Nat) (crosses : Nat) (trueM : Nat) (thought : Nat) (up : Nat) (low : Nat) (fits : Nat) (rs : Nat) (v : Int32) : Ct l G yX10_sign cX10_sign 2 (some .int) { frames := 1, cells := 0, slots := 0, locals := 22 } [.ref x, .int v] [(x, ob 10 [.ref told, .ref reader, .ref ring, .ref speeds, .ref wheel, .ref trials, .ref span, .ref search, .ref kept, .ref crosses, .ref trueM, .ref thought, .ref up, .ref low, .ref fits, .null]), (reader, ob 4 [.ref rs, .int 0, .int 0, .int 0, .int 0, .int 0, .int 0, .int 0]), (rs, aI G 80 (fun _ => 0))] (fun r _ => r = some (.int 4)) := by
  refine ct_of [(0, .ref x), (1, .int v)] (by decide) (Nat.le_of_ble_eq_true rfl) rfl ?_
  intro p0 e0 s0 m0 args0 below0 meth0 c0 A X
  refine z_run X bb_X10_sign_0_1 bk_X10_sign_0_1 (lv' := [(0, .ref x), (1, .int v)]) (st' := [.ref x]) rfl ?_
  refine z_get X fl_10_19 d_X10_sign_1 0 rfl (v := .ref reader) rfl ?_
  refine z_run X bb_X10_sign_4_5 bk_X10_sign_4_5 (lv' := [(0, .ref x), (1, .int v)]) (st' := [.int v, .ref reader]) rfl ?_
  refine z_callV X k_10_91 (c_X4_append l G reader rs v) d_X10_sign_5 1 rfl rfl rfl ⟨Nat.le_of_ble_eq_true rfl, Nat.le_of_ble_eq_true rfl⟩ ⟨Nat.le_of_ble_eq_true rfl, Nat.le_of_ble_eq_true rfl⟩ rfl (rest := []) (As := [.int v]) rfl (Nat.le_of_ble_eq_true rfl) [1, 2] [0] rfl (by decide) (wr := [(x, ob 10 [.ref told, .ref reader, .ref ring, .ref speeds, .ref wheel, .ref trials, .ref span, .ref search, .ref kept, .ref crosses, .ref trueM, .ref thought, .ref up, .ref low, .ref fits, .null])]) rfl (by decide) (by decide) ?_
  rintro _ _ rfl
  refine Z.sub (lv' := [(0, .ref x), (1, .int v)]) [0, 1] rfl [0] (ws' := [(x, ob 10 [.ref told, .ref reader, .ref ring, .ref speeds, .ref wheel, .ref trials, .ref span, .ref search, .ref kept, .ref crosses, .ref trueM, .ref thought, .ref up, .ref low, .ref fits, .null])]) rfl (by decide) ?_
  refine Z.at (pc' := 8) (st' := [.int 4]) (ws' := [(x, ob 10 [.ref told, .ref reader, .ref ring, .ref speeds, .ref wheel, .ref trials, .ref span, .ref search, .ref kept, .ref crosses, .ref trueM, .ref thought, .ref up, .ref low, .ref fits, .null])]) (kc' := 0) (ks' := 0) rfl rfl rfl rfl rfl ?_
  exact z_iret X rfl d_X10_sign_8 (Nat.le_of_ble_eq_true rfl) (Nat.le_of_ble_eq_true rfl) rfl

theorem d_X4_cutTo_1 : decode cX4_cutTo 1 = .ok (.ifCond .lt 11, 3) := by decide +kernel
theorem d_X4_cutTo_13 : decode cX4_cutTo 13 = .ok (.ireturn, 1) := by decide +kernel
theorem d_X4_cutTo_6 : decode cX4_cutTo 6 = .ok (.getfield 15, 3) := by decide +kernel
theorem d_X4_cutTo_9 : decode cX4_cutTo 9 = .ok (.if_icmp .le 5, 3) := by decide +kernel
theorem d_X4_cutTo_16 : decode cX4_cutTo 16 = .ok (.putfield 15, 3) := by decide +kernel
theorem d_X4_cutTo_20 : decode cX4_cutTo 20 = .ok (.ireturn, 1) := by decide +kernel
abbrev bb_X4_cutTo_0_1 : ZB := [(.iload_n 1, .null)]
theorem bk_X4_cutTo_0_1 : zchk cX4_cutTo bb_X4_cutTo_0_1 0 = true ∧ zpc bb_X4_cutTo_0_1 0 = 1 := ⟨by decide +kernel, rfl⟩
abbrev bb_X4_cutTo_12_13 : ZB := [(.iconst 0, .int 0)]
theorem bk_X4_cutTo_12_13 : zchk cX4_cutTo bb_X4_cutTo_12_13 12 = true ∧ zpc bb_X4_cutTo_12_13 12 = 13 := ⟨by decide +kernel, rfl⟩
abbrev bb_X4_cutTo_4_6 : ZB := [(.iload_n 1, .null), (.aload_n 0, .null)]
theorem bk_X4_cutTo_4_6 : zchk cX4_cutTo bb_X4_cutTo_4_6 4 = true ∧ zpc bb_X4_cutTo_4_6 4 = 6 := ⟨by decide +kernel, rfl⟩
abbrev bb_X4_cutTo_14_16 : ZB := [(.aload_n 0, .null), (.iload_n 1, .null)]
theorem bk_X4_cutTo_14_16 : zchk cX4_cutTo bb_X4_cutTo_14_16 14 = true ∧ zpc bb_X4_cutTo_14_16 14 = 16 := ⟨by decide +kernel, rfl⟩
abbrev bb_X4_cutTo_19_20 : ZB := [(.iconst 1, .int 1)]
theorem bk_X4_cutTo_19_20 : zchk cX4_cutTo bb_X4_cutTo_19_20 19 = true ∧ zpc bb_X4_cutTo_19_20 19 = 20 := ⟨by decide +kernel, rfl⟩
set_option maxHeartbeats 4000000 in
set_option maxRecDepth 100000 in
theorem c_X4_cutTo (l : Launch) (G : KG) (reader : Nat) (rs : Nat) (n : Int32) (ni : Int) (hn : n.toInt = ni) : Ct l G yX4_cutTo cX4_cutTo 2 (some .boolean) { frames := 0, cells := 0, slots := 0, locals := 0 } [.ref reader, .int n] [(reader, ob 4 [.ref rs, .int 0, .int 0, .int 0, .int 0, .int 0, .int 0, .int 0])] (fun r _ => r = some (.int (zb (decide (ni = 0))))) := by
  refine ct_of [(0, .ref reader), (1, .int n)] (by decide) (Nat.le_of_ble_eq_true rfl) rfl ?_
  intro p0 e0 s0 m0 args0 below0 meth0 c0 A X
  refine z_run X bb_X4_cutTo_0_1 bk_X4_cutTo_0_1 (lv' := [(0, .ref reader), (1, .int n)]) (st' := [.int n]) rfl ?_
  refine zi_lt X d_X4_cutTo_1 (tgt := 12) (by decide) (a := ni) hn (fun c1_1 => ?_) (fun c1_1 => ?_)
  ·
    refine z_run X bb_X4_cutTo_12_13 bk_X4_cutTo_12_13 (lv' := [(0, .ref reader), (1, .int n)]) (st' := [.int 0]) rfl ?_
    exact z_zret X rfl rfl d_X4_cutTo_13 (Nat.le_of_ble_eq_true rfl) (Nat.le_of_ble_eq_true rfl) (congrArg (fun z => some (Value.int z)) (zb_f (by omega)).symm)
  ·
    refine z_run X bb_X4_cutTo_4_6 bk_X4_cutTo_4_6 (lv' := [(0, .ref reader), (1, .int n)]) (st' := [.ref reader, .int n]) rfl ?_
    refine z_get X fl_4_15 d_X4_cutTo_6 0 rfl (v := .int 0) rfl ?_
    refine zc_le X d_X4_cutTo_9 (tgt := 14) (by decide) (a := ni) (b := 0) hn (show (0 : Int32).toInt = 0 from by decide) (fun c9_2 => ?_) (fun c9_2 => ?_)
    ·
      refine z_run X bb_X4_cutTo_14_16 bk_X4_cutTo_14_16 (lv' := [(0, .ref reader), (1, .int n)]) (st' := [.int n, .ref reader]) rfl ?_
      refine z_put X fl_4_15 d_X4_cutTo_16 0 rfl (ty := .int) (T := TX4) (N := 8) rfl (Or.inl rfl) (by decide +kernel) rfl (by rfl) (Nat.le_of_ble_eq_true rfl) (ws' := [(reader, ob 4 [.ref rs, .int n, .int 0, .int 0, .int 0, .int 0, .int 0, .int 0])]) rfl ?_
      refine z_run X bb_X4_cutTo_19_20 bk_X4_cutTo_19_20 (lv' := [(0, .ref reader), (1, .int n)]) (st' := [.int 1]) rfl ?_
      exact z_zret X rfl rfl d_X4_cutTo_20 (Nat.le_of_ble_eq_true rfl) (Nat.le_of_ble_eq_true rfl) (congrArg (fun z => some (Value.int z)) (zb_t (by omega)).symm)
    ·
      refine z_run X bb_X4_cutTo_12_13 bk_X4_cutTo_12_13 (lv' := [(0, .ref reader), (1, .int n)]) (st' := [.int 0]) rfl ?_
      exact z_zret X rfl rfl d_X4_cutTo_13 (Nat.le_of_ble_eq_true rfl) (Nat.le_of_ble_eq_true rfl) (congrArg (fun z => some (Value.int z)) (zb_f (by omega)).symm)

theorem d_X10_end_1 : decode cX10_end 1 = .ok (.getfield 19, 3) := by decide +kernel
theorem d_X10_end_5 : decode cX10_end 5 = .ok (.invokevirtual 95, 3) := by decide +kernel
theorem d_X10_end_8 : decode cX10_end 8 = .ok (.ireturn, 1) := by decide +kernel
abbrev bb_X10_end_0_1 : ZB := [(.aload_n 0, .null)]
theorem bk_X10_end_0_1 : zchk cX10_end bb_X10_end_0_1 0 = true ∧ zpc bb_X10_end_0_1 0 = 1 := ⟨by decide +kernel, rfl⟩
abbrev bb_X10_end_4_5 : ZB := [(.iload_n 1, .null)]
theorem bk_X10_end_4_5 : zchk cX10_end bb_X10_end_4_5 4 = true ∧ zpc bb_X10_end_4_5 4 = 5 := ⟨by decide +kernel, rfl⟩
set_option maxHeartbeats 4000000 in
set_option maxRecDepth 100000 in
theorem c_X10_end (l : Launch) (G : KG) (x : Nat) (told : Nat) (reader : Nat) (ring : Nat) (speeds : Nat) (wheel : Nat) (trials : Nat) (span : Nat) (search : Nat) (kept : Nat) (crosses : Nat) (trueM : Nat) (thought : Nat) (up : Nat) (low : Nat) (fits : Nat) (rs : Nat) (n : Int32) (ni : Int) (hn : n.toInt = ni) : Ct l G yX10_end cX10_end 2 (some .boolean) { frames := 1, cells := 0, slots := 0, locals := 21 } [.ref x, .int n] [(x, ob 10 [.ref told, .ref reader, .ref ring, .ref speeds, .ref wheel, .ref trials, .ref span, .ref search, .ref kept, .ref crosses, .ref trueM, .ref thought, .ref up, .ref low, .ref fits, .null]), (reader, ob 4 [.ref rs, .int 0, .int 0, .int 0, .int 0, .int 0, .int 0, .int 0])] (fun r _ => r = some (.int (zb (decide (ni = 0))))) := by
  refine ct_of [(0, .ref x), (1, .int n)] (by decide) (Nat.le_of_ble_eq_true rfl) rfl ?_
  intro p0 e0 s0 m0 args0 below0 meth0 c0 A X
  refine z_run X bb_X10_end_0_1 bk_X10_end_0_1 (lv' := [(0, .ref x), (1, .int n)]) (st' := [.ref x]) rfl ?_
  refine z_get X fl_10_19 d_X10_end_1 0 rfl (v := .ref reader) rfl ?_
  refine z_run X bb_X10_end_4_5 bk_X10_end_4_5 (lv' := [(0, .ref x), (1, .int n)]) (st' := [.int n, .ref reader]) rfl ?_
  refine z_callV X k_10_95 (c_X4_cutTo l G reader rs n ni hn) d_X10_end_5 1 rfl rfl rfl ⟨Nat.le_of_ble_eq_true rfl, Nat.le_of_ble_eq_true rfl⟩ ⟨Nat.le_of_ble_eq_true rfl, Nat.le_of_ble_eq_true rfl⟩ rfl (rest := []) (As := [.int n]) rfl (Nat.le_of_ble_eq_true rfl) [1] [0] rfl (by decide) (wr := [(x, ob 10 [.ref told, .ref reader, .ref ring, .ref speeds, .ref wheel, .ref trials, .ref span, .ref search, .ref kept, .ref crosses, .ref trueM, .ref thought, .ref up, .ref low, .ref fits, .null])]) rfl (by decide) (by decide) ?_
  rintro _ _ rfl
  refine Z.sub (lv' := [(0, .ref x), (1, .int n)]) [0, 1] rfl [0] (ws' := [(x, ob 10 [.ref told, .ref reader, .ref ring, .ref speeds, .ref wheel, .ref trials, .ref span, .ref search, .ref kept, .ref crosses, .ref trueM, .ref thought, .ref up, .ref low, .ref fits, .null])]) rfl (by decide) ?_
  refine Z.at (pc' := 8) (st' := [.int (zb (decide (ni = 0)))]) (ws' := [(x, ob 10 [.ref told, .ref reader, .ref ring, .ref speeds, .ref wheel, .ref trials, .ref span, .ref search, .ref kept, .ref crosses, .ref trueM, .ref thought, .ref up, .ref low, .ref fits, .null])]) (kc' := 0) (ks' := 0) rfl rfl rfl rfl rfl ?_
  exact z_zret X rfl (zb_n _) d_X10_end_8 (Nat.le_of_ble_eq_true rfl) (Nat.le_of_ble_eq_true rfl) rfl

theorem d_X4_readLines_1 : decode cX4_readLines 1 = .ok (.getfield 15, 3) := by decide +kernel
theorem d_X4_readLines_4 : decode cX4_readLines 4 = .ok (.ifCond .ne 5, 3) := by decide +kernel
theorem d_X4_readLines_8 : decode cX4_readLines 8 = .ok (.ireturn, 1) := by decide +kernel
abbrev bb_X4_readLines_0_1 : ZB := [(.aload_n 0, .null)]
theorem bk_X4_readLines_0_1 : zchk cX4_readLines bb_X4_readLines_0_1 0 = true ∧ zpc bb_X4_readLines_0_1 0 = 1 := ⟨by decide +kernel, rfl⟩
abbrev bb_X4_readLines_7_8 : ZB := [(.iconst 0, .int 0)]
theorem bk_X4_readLines_7_8 : zchk cX4_readLines bb_X4_readLines_7_8 7 = true ∧ zpc bb_X4_readLines_7_8 7 = 8 := ⟨by decide +kernel, rfl⟩
set_option maxHeartbeats 4000000 in
set_option maxRecDepth 100000 in
theorem c_X4_readLines (l : Launch) (G : KG) (reader : Nat) (rs : Nat) (a : Nat) (b : Nat) (c : Nat) : Ct l G yX4_readLines cX4_readLines 5 (some .int) { frames := 0, cells := 0, slots := 0, locals := 0 } [.ref reader, .ref a, .ref b, .ref c] [(reader, ob 4 [.ref rs, .int 0, .int 0, .int 0, .int 0, .int 0, .int 0, .int 0])] (fun r w1 => r = some (.int 0) ∧ w1 = [(reader, ob 4 [.ref rs, .int 0, .int 0, .int 0, .int 0, .int 0, .int 0, .int 0])]) := by
  refine ct_of [(0, .ref reader), (1, .ref a), (2, .ref b), (3, .ref c)] (by decide) (Nat.le_of_ble_eq_true rfl) rfl ?_
  intro p0 e0 s0 m0 args0 below0 meth0 c0 A X
  refine z_run X bb_X4_readLines_0_1 bk_X4_readLines_0_1 (lv' := [(0, .ref reader), (1, .ref a), (2, .ref b), (3, .ref c)]) (st' := [.ref reader]) rfl ?_
  refine z_get X fl_4_15 d_X4_readLines_1 0 rfl (v := .int 0) rfl ?_
  refine zi_ne X d_X4_readLines_4 (tgt := 9) (by decide) (a := 0) (show (0 : Int32).toInt = 0 from by decide) (fun c4_1 => absurd c4_1 (by decide)) (fun _ => ?_)
  refine z_run X bb_X4_readLines_7_8 bk_X4_readLines_7_8 (lv' := [(0, .ref reader), (1, .ref a), (2, .ref b), (3, .ref c)]) (st' := [.int 0]) rfl ?_
  exact z_iret X rfl d_X4_readLines_8 (Nat.le_of_ble_eq_true rfl) (Nat.le_of_ble_eq_true rfl) ⟨rfl, rfl⟩

theorem d_X4_empty_2 : decode cX4_empty 2 = .ok (.putfield 15, 3) := by decide +kernel
theorem d_X4_empty_5 : decode cX4_empty 5 = .ok (.return_, 1) := by decide +kernel
abbrev bb_X4_empty_0_2 : ZB := [(.aload_n 0, .null), (.iconst 0, .int 0)]
theorem bk_X4_empty_0_2 : zchk cX4_empty bb_X4_empty_0_2 0 = true ∧ zpc bb_X4_empty_0_2 0 = 2 := ⟨by decide +kernel, rfl⟩
set_option maxHeartbeats 4000000 in
set_option maxRecDepth 100000 in
theorem c_X4_empty (l : Launch) (G : KG) (reader : Nat) (rs : Nat) : Ct l G yX4_empty cX4_empty 1 none { frames := 0, cells := 0, slots := 0, locals := 0 } [.ref reader] [(reader, ob 4 [.ref rs, .int 0, .int 0, .int 0, .int 0, .int 0, .int 0, .int 0])] (fun r w1 => r = none ∧ w1 = [(reader, ob 4 [.ref rs, .int 0, .int 0, .int 0, .int 0, .int 0, .int 0, .int 0])]) := by
  refine ct_of [(0, .ref reader)] (by decide) (Nat.le_of_ble_eq_true rfl) rfl ?_
  intro p0 e0 s0 m0 args0 below0 meth0 c0 A X
  refine z_run X bb_X4_empty_0_2 bk_X4_empty_0_2 (lv' := [(0, .ref reader)]) (st' := [.int 0, .ref reader]) rfl ?_
  refine z_put X fl_4_15 d_X4_empty_2 0 rfl (ty := .int) (T := TX4) (N := 8) rfl (Or.inl rfl) (by decide +kernel) rfl (by rfl) (Nat.le_of_ble_eq_true rfl) (ws' := [(reader, ob 4 [.ref rs, .int 0, .int 0, .int 0, .int 0, .int 0, .int 0, .int 0])]) rfl ?_
  exact z_vret X rfl d_X4_empty_5 (Nat.le_of_ble_eq_true rfl) (Nat.le_of_ble_eq_true rfl) ⟨rfl, rfl⟩

theorem d_X10_mill_1 : decode cX10_mill 1 = .ok (.getfield 19, 3) := by decide +kernel
theorem d_X10_mill_5 : decode cX10_mill 5 = .ok (.getfield 26, 3) := by decide +kernel
theorem d_X10_mill_9 : decode cX10_mill 9 = .ok (.getfield 33, 3) := by decide +kernel
theorem d_X10_mill_13 : decode cX10_mill 13 = .ok (.getfield 40, 3) := by decide +kernel
theorem d_X10_mill_16 : decode cX10_mill 16 = .ok (.invokevirtual 99, 3) := by decide +kernel
theorem d_X10_mill_21 : decode cX10_mill 21 = .ok (.getfield 19, 3) := by decide +kernel
theorem d_X10_mill_24 : decode cX10_mill 24 = .ok (.invokevirtual 103, 3) := by decide +kernel
theorem d_X10_mill_28 : decode cX10_mill 28 = .ok (.ireturn, 1) := by decide +kernel
abbrev bb_X10_mill_0_1 : ZB := [(.aload_n 0, .null)]
theorem bk_X10_mill_0_1 : zchk cX10_mill bb_X10_mill_0_1 0 = true ∧ zpc bb_X10_mill_0_1 0 = 1 := ⟨by decide +kernel, rfl⟩
abbrev bb_X10_mill_4_5 : ZB := [(.aload_n 0, .null)]
theorem bk_X10_mill_4_5 : zchk cX10_mill bb_X10_mill_4_5 4 = true ∧ zpc bb_X10_mill_4_5 4 = 5 := ⟨by decide +kernel, rfl⟩
abbrev bb_X10_mill_8_9 : ZB := [(.aload_n 0, .null)]
theorem bk_X10_mill_8_9 : zchk cX10_mill bb_X10_mill_8_9 8 = true ∧ zpc bb_X10_mill_8_9 8 = 9 := ⟨by decide +kernel, rfl⟩
abbrev bb_X10_mill_12_13 : ZB := [(.aload_n 0, .null)]
theorem bk_X10_mill_12_13 : zchk cX10_mill bb_X10_mill_12_13 12 = true ∧ zpc bb_X10_mill_12_13 12 = 13 := ⟨by decide +kernel, rfl⟩
abbrev bb_X10_mill_19_21 : ZB := [(.istore_n 1, .null), (.aload_n 0, .null)]
theorem bk_X10_mill_19_21 : zchk cX10_mill bb_X10_mill_19_21 19 = true ∧ zpc bb_X10_mill_19_21 19 = 21 := ⟨by decide +kernel, rfl⟩
abbrev bb_X10_mill_27_28 : ZB := [(.iload_n 1, .null)]
theorem bk_X10_mill_27_28 : zchk cX10_mill bb_X10_mill_27_28 27 = true ∧ zpc bb_X10_mill_27_28 27 = 28 := ⟨by decide +kernel, rfl⟩
set_option maxHeartbeats 4000000 in
set_option maxRecDepth 100000 in
theorem c_X10_mill (l : Launch) (G : KG) (x : Nat) (told : Nat) (reader : Nat) (ring : Nat) (speeds : Nat) (wheel : Nat) (trials : Nat) (span : Nat) (search : Nat) (kept : Nat) (crosses : Nat) (trueM : Nat) (thought : Nat) (up : Nat) (low : Nat) (fits : Nat) (rs : Nat) : Ct l G yX10_mill cX10_mill 2 (some .int) { frames := 1, cells := 0, slots := 0, locals := 24 } [.ref x] [(x, ob 10 [.ref told, .ref reader, .ref ring, .ref speeds, .ref wheel, .ref trials, .ref span, .ref search, .ref kept, .ref crosses, .ref trueM, .ref thought, .ref up, .ref low, .ref fits, .null]), (reader, ob 4 [.ref rs, .int 0, .int 0, .int 0, .int 0, .int 0, .int 0, .int 0])] (fun r _ => r = some (.int 0)) := by
  refine ct_of [(0, .ref x)] (by decide) (Nat.le_of_ble_eq_true rfl) rfl ?_
  intro p0 e0 s0 m0 args0 below0 meth0 c0 A X
  refine z_run X bb_X10_mill_0_1 bk_X10_mill_0_1 (lv' := [(0, .ref x)]) (st' := [.ref x]) rfl ?_
  refine z_get X fl_10_19 d_X10_mill_1 0 rfl (v := .ref reader) rfl ?_
  refine z_run X bb_X10_mill_4_5 bk_X10_mill_4_5 (lv' := [(0, .ref x)]) (st' := [.ref x, .ref reader]) rfl ?_
  refine z_get X fl_10_26 d_X10_mill_5 0 rfl (v := .ref ring) rfl ?_
  refine z_run X bb_X10_mill_8_9 bk_X10_mill_8_9 (lv' := [(0, .ref x)]) (st' := [.ref x, .ref ring, .ref reader]) rfl ?_
  refine z_get X fl_10_33 d_X10_mill_9 0 rfl (v := .ref speeds) rfl ?_
  refine z_run X bb_X10_mill_12_13 bk_X10_mill_12_13 (lv' := [(0, .ref x)]) (st' := [.ref x, .ref speeds, .ref ring, .ref reader]) rfl ?_
  refine z_get X fl_10_40 d_X10_mill_13 0 rfl (v := .ref wheel) rfl ?_
  refine z_callV X k_10_99 (c_X4_readLines l G reader rs ring speeds wheel) d_X10_mill_16 1 rfl rfl rfl ⟨Nat.le_of_ble_eq_true rfl, Nat.le_of_ble_eq_true rfl⟩ ⟨Nat.le_of_ble_eq_true rfl, Nat.le_of_ble_eq_true rfl⟩ rfl (rest := []) (As := [.ref ring, .ref speeds, .ref wheel]) rfl (Nat.le_of_ble_eq_true rfl) [1] [0] rfl (by decide) (wr := [(x, ob 10 [.ref told, .ref reader, .ref ring, .ref speeds, .ref wheel, .ref trials, .ref span, .ref search, .ref kept, .ref crosses, .ref trueM, .ref thought, .ref up, .ref low, .ref fits, .null])]) rfl (by decide) (by decide) ?_
  rintro _ _ ⟨rfl, rfl⟩
  refine Z.at (pc' := 19) (st' := [.int 0]) (ws' := [(x, ob 10 [.ref told, .ref reader, .ref ring, .ref speeds, .ref wheel, .ref trials, .ref span, .ref search, .ref kept, .ref crosses, .ref trueM, .ref thought, .ref up, .ref low, .ref fits, .null]), (reader, ob 4 [.ref rs, .int 0, .int 0, .int 0, .int 0, .int 0, .int 0, .int 0])]) (kc' := 0) (ks' := 0) rfl rfl rfl rfl rfl ?_
  refine z_run X bb_X10_mill_19_21 bk_X10_mill_19_21 (lv' := [(1, .int 0), (0, .ref x)]) (st' := [.ref x]) rfl ?_
  refine z_get X fl_10_19 d_X10_mill_21 0 rfl (v := .ref reader) rfl ?_
  refine z_callV X k_10_103 (c_X4_empty l G reader rs) d_X10_mill_24 1 rfl rfl rfl ⟨Nat.le_of_ble_eq_true rfl, Nat.le_of_ble_eq_true rfl⟩ ⟨Nat.le_of_ble_eq_true rfl, Nat.le_of_ble_eq_true rfl⟩ rfl (rest := []) (As := []) rfl (Nat.le_of_ble_eq_true rfl) [1] [0] rfl (by decide) (wr := [(x, ob 10 [.ref told, .ref reader, .ref ring, .ref speeds, .ref wheel, .ref trials, .ref span, .ref search, .ref kept, .ref crosses, .ref trueM, .ref thought, .ref up, .ref low, .ref fits, .null])]) rfl (by decide) (by decide) ?_
  rintro _ _ ⟨rfl, rfl⟩
  refine Z.at (pc' := 27) (st' := []) (ws' := [(x, ob 10 [.ref told, .ref reader, .ref ring, .ref speeds, .ref wheel, .ref trials, .ref span, .ref search, .ref kept, .ref crosses, .ref trueM, .ref thought, .ref up, .ref low, .ref fits, .null]), (reader, ob 4 [.ref rs, .int 0, .int 0, .int 0, .int 0, .int 0, .int 0, .int 0])]) (kc' := 0) (ks' := 0) rfl rfl rfl rfl rfl ?_
  refine z_run X bb_X10_mill_27_28 bk_X10_mill_27_28 (lv' := [(1, .int 0), (0, .ref x)]) (st' := [.int 0]) rfl ?_
  exact z_iret X rfl d_X10_mill_28 (Nat.le_of_ble_eq_true rfl) (Nat.le_of_ble_eq_true rfl) rfl

theorem d_X5_isHole_1 : decode cX5_isHole 1 = .ok (.ifCond .lt 15, 3) := by decide +kernel
theorem d_X5_isHole_17 : decode cX5_isHole 17 = .ok (.ireturn, 1) := by decide +kernel
theorem d_X5_isHole_6 : decode cX5_isHole 6 = .ok (.getfield 34, 3) := by decide +kernel
theorem d_X5_isHole_9 : decode cX5_isHole 9 = .ok (.if_icmp .ge 7, 3) := by decide +kernel
abbrev bb_X5_isHole_0_1 : ZB := [(.iload_n 1, .null)]
theorem bk_X5_isHole_0_1 : zchk cX5_isHole bb_X5_isHole_0_1 0 = true ∧ zpc bb_X5_isHole_0_1 0 = 1 := ⟨by decide +kernel, rfl⟩
abbrev bb_X5_isHole_16_17 : ZB := [(.iconst 0, .int 0)]
theorem bk_X5_isHole_16_17 : zchk cX5_isHole bb_X5_isHole_16_17 16 = true ∧ zpc bb_X5_isHole_16_17 16 = 17 := ⟨by decide +kernel, rfl⟩
abbrev bb_X5_isHole_4_6 : ZB := [(.iload_n 1, .null), (.aload_n 0, .null)]
theorem bk_X5_isHole_4_6 : zchk cX5_isHole bb_X5_isHole_4_6 4 = true ∧ zpc bb_X5_isHole_4_6 4 = 6 := ⟨by decide +kernel, rfl⟩
set_option maxHeartbeats 4000000 in
set_option maxRecDepth 100000 in
theorem c_X5_isHole (l : Launch) (G : KG) (ring : Nat) (rp : Nat) (rx : Nat) (ry : Nat) (rr : Nat) (rh : Nat) (rd : Nat) (hole : Int32) (holei : Int) (hhole : hole.toInt = holei) : Ct l G yX5_isHole cX5_isHole 2 (some .boolean) { frames := 0, cells := 0, slots := 0, locals := 0 } [.ref ring, .int hole] [(ring, ob 5 [.int 0, .ref rp, .ref rx, .ref ry, .ref rr, .ref rh, .ref rd, .int (-1), .int 0])] (fun r w1 => r = some (.int 0) ∧ w1 = [(ring, ob 5 [.int 0, .ref rp, .ref rx, .ref ry, .ref rr, .ref rh, .ref rd, .int (-1), .int 0])]) := by
  refine ct_of [(0, .ref ring), (1, .int hole)] (by decide) (Nat.le_of_ble_eq_true rfl) rfl ?_
  intro p0 e0 s0 m0 args0 below0 meth0 c0 A X
  refine z_run X bb_X5_isHole_0_1 bk_X5_isHole_0_1 (lv' := [(0, .ref ring), (1, .int hole)]) (st' := [.int hole]) rfl ?_
  refine zi_lt X d_X5_isHole_1 (tgt := 16) (by decide) (a := holei) hhole (fun c1_1 => ?_) (fun c1_1 => ?_)
  ·
    refine z_run X bb_X5_isHole_16_17 bk_X5_isHole_16_17 (lv' := [(0, .ref ring), (1, .int hole)]) (st' := [.int 0]) rfl ?_
    exact z_zret X rfl rfl d_X5_isHole_17 (Nat.le_of_ble_eq_true rfl) (Nat.le_of_ble_eq_true rfl) ⟨rfl, rfl⟩
  ·
    refine z_run X bb_X5_isHole_4_6 bk_X5_isHole_4_6 (lv' := [(0, .ref ring), (1, .int hole)]) (st' := [.ref ring, .int hole]) rfl ?_
    refine z_get X fl_5_34 d_X5_isHole_6 0 rfl (v := .int 0) rfl ?_
    refine zc_ge X d_X5_isHole_9 (tgt := 16) (by decide) (a := holei) (b := 0) hhole (show (0 : Int32).toInt = 0 from by decide) (fun c9_2 => ?_) (fun c9_2n => absurd c9_2n (by omega))
    refine z_run X bb_X5_isHole_16_17 bk_X5_isHole_16_17 (lv' := [(0, .ref ring), (1, .int hole)]) (st' := [.int 0]) rfl ?_
    exact z_zret X rfl rfl d_X5_isHole_17 (Nat.le_of_ble_eq_true rfl) (Nat.le_of_ble_eq_true rfl) ⟨rfl, rfl⟩

theorem d_X7_isSpeed_1 : decode cX7_isSpeed 1 = .ok (.ifCond .lt 15, 3) := by decide +kernel
theorem d_X7_isSpeed_17 : decode cX7_isSpeed 17 = .ok (.ireturn, 1) := by decide +kernel
theorem d_X7_isSpeed_6 : decode cX7_isSpeed 6 = .ok (.getfield 28, 3) := by decide +kernel
theorem d_X7_isSpeed_9 : decode cX7_isSpeed 9 = .ok (.if_icmp .ge 7, 3) := by decide +kernel
abbrev bb_X7_isSpeed_0_1 : ZB := [(.iload_n 1, .null)]
theorem bk_X7_isSpeed_0_1 : zchk cX7_isSpeed bb_X7_isSpeed_0_1 0 = true ∧ zpc bb_X7_isSpeed_0_1 0 = 1 := ⟨by decide +kernel, rfl⟩
abbrev bb_X7_isSpeed_16_17 : ZB := [(.iconst 0, .int 0)]
theorem bk_X7_isSpeed_16_17 : zchk cX7_isSpeed bb_X7_isSpeed_16_17 16 = true ∧ zpc bb_X7_isSpeed_16_17 16 = 17 := ⟨by decide +kernel, rfl⟩
abbrev bb_X7_isSpeed_4_6 : ZB := [(.iload_n 1, .null), (.aload_n 0, .null)]
theorem bk_X7_isSpeed_4_6 : zchk cX7_isSpeed bb_X7_isSpeed_4_6 4 = true ∧ zpc bb_X7_isSpeed_4_6 4 = 6 := ⟨by decide +kernel, rfl⟩
set_option maxHeartbeats 4000000 in
set_option maxRecDepth 100000 in
theorem c_X7_isSpeed (l : Launch) (G : KG) (speeds : Nat) (sf : Nat) (so : Nat) (sa : Nat) (sx : Nat) (sy : Nat) (speed : Int32) (speedi : Int) (hspeed : speed.toInt = speedi) : Ct l G yX7_isSpeed cX7_isSpeed 2 (some .boolean) { frames := 0, cells := 0, slots := 0, locals := 0 } [.ref speeds, .int speed] [(speeds, ob 7 [.int 0, .ref sf, .ref so, .ref sa, .ref sx, .ref sy])] (fun r w1 => r = some (.int 0) ∧ w1 = [(speeds, ob 7 [.int 0, .ref sf, .ref so, .ref sa, .ref sx, .ref sy])]) := by
  refine ct_of [(0, .ref speeds), (1, .int speed)] (by decide) (Nat.le_of_ble_eq_true rfl) rfl ?_
  intro p0 e0 s0 m0 args0 below0 meth0 c0 A X
  refine z_run X bb_X7_isSpeed_0_1 bk_X7_isSpeed_0_1 (lv' := [(0, .ref speeds), (1, .int speed)]) (st' := [.int speed]) rfl ?_
  refine zi_lt X d_X7_isSpeed_1 (tgt := 16) (by decide) (a := speedi) hspeed (fun c1_1 => ?_) (fun c1_1 => ?_)
  ·
    refine z_run X bb_X7_isSpeed_16_17 bk_X7_isSpeed_16_17 (lv' := [(0, .ref speeds), (1, .int speed)]) (st' := [.int 0]) rfl ?_
    exact z_zret X rfl rfl d_X7_isSpeed_17 (Nat.le_of_ble_eq_true rfl) (Nat.le_of_ble_eq_true rfl) ⟨rfl, rfl⟩
  ·
    refine z_run X bb_X7_isSpeed_4_6 bk_X7_isSpeed_4_6 (lv' := [(0, .ref speeds), (1, .int speed)]) (st' := [.ref speeds, .int speed]) rfl ?_
    refine z_get X fl_7_28 d_X7_isSpeed_6 0 rfl (v := .int 0) rfl ?_
    refine zc_ge X d_X7_isSpeed_9 (tgt := 16) (by decide) (a := speedi) (b := 0) hspeed (show (0 : Int32).toInt = 0 from by decide) (fun c9_2 => ?_) (fun c9_2n => absurd c9_2n (by omega))
    refine z_run X bb_X7_isSpeed_16_17 bk_X7_isSpeed_16_17 (lv' := [(0, .ref speeds), (1, .int speed)]) (st' := [.int 0]) rfl ?_
    exact z_zret X rfl rfl d_X7_isSpeed_17 (Nat.le_of_ble_eq_true rfl) (Nat.le_of_ble_eq_true rfl) ⟨rfl, rfl⟩

theorem d_X5_ouncesInAll_6 : decode cX5_ouncesInAll 6 = .ok (.getfield 34, 3) := by decide +kernel
theorem d_X5_ouncesInAll_9 : decode cX5_ouncesInAll 9 = .ok (.if_icmp .ge 18, 3) := by decide +kernel
theorem d_X5_ouncesInAll_28 : decode cX5_ouncesInAll 28 = .ok (.ireturn, 1) := by decide +kernel
abbrev bb_X5_ouncesInAll_0_6 : ZB := [(.iconst 0, .int 0), (.istore_n 1, .null), (.iconst 0, .int 0), (.istore_n 2, .null), (.iload_n 2, .null), (.aload_n 0, .null)]
theorem bk_X5_ouncesInAll_0_6 : zchk cX5_ouncesInAll bb_X5_ouncesInAll_0_6 0 = true ∧ zpc bb_X5_ouncesInAll_0_6 0 = 6 := ⟨by decide +kernel, rfl⟩
abbrev bb_X5_ouncesInAll_27_28 : ZB := [(.iload_n 1, .null)]
theorem bk_X5_ouncesInAll_27_28 : zchk cX5_ouncesInAll bb_X5_ouncesInAll_27_28 27 = true ∧ zpc bb_X5_ouncesInAll_27_28 27 = 28 := ⟨by decide +kernel, rfl⟩
set_option maxHeartbeats 4000000 in
set_option maxRecDepth 100000 in
theorem c_X5_ouncesInAll (l : Launch) (G : KG) (ring : Nat) (rp : Nat) (rx : Nat) (ry : Nat) (rr : Nat) (rh : Nat) (rd : Nat) : Ct l G yX5_ouncesInAll cX5_ouncesInAll 3 (some .int) { frames := 0, cells := 0, slots := 0, locals := 0 } [.ref ring] [(ring, ob 5 [.int 0, .ref rp, .ref rx, .ref ry, .ref rr, .ref rh, .ref rd, .int (-1), .int 0])] (fun r w1 => r = some (.int 0) ∧ w1 = [(ring, ob 5 [.int 0, .ref rp, .ref rx, .ref ry, .ref rr, .ref rh, .ref rd, .int (-1), .int 0])]) := by
  refine ct_of [(0, .ref ring)] (by decide) (Nat.le_of_ble_eq_true rfl) rfl ?_
  intro p0 e0 s0 m0 args0 below0 meth0 c0 A X
  refine z_run X bb_X5_ouncesInAll_0_6 bk_X5_ouncesInAll_0_6 (lv' := [(2, .int 0), (1, .int 0), (0, .ref ring)]) (st' := [.ref ring, .int 0]) rfl ?_
  refine z_get X fl_5_34 d_X5_ouncesInAll_6 0 rfl (v := .int 0) rfl ?_
  refine zc_ge X d_X5_ouncesInAll_9 (tgt := 27) (by decide) (a := 0) (b := 0) (show (0 : Int32).toInt = 0 from by decide) (show (0 : Int32).toInt = 0 from by decide) (fun _ => ?_) (fun c9_1 => absurd c9_1 (by decide))
  refine z_run X bb_X5_ouncesInAll_27_28 bk_X5_ouncesInAll_27_28 (lv' := [(2, .int 0), (1, .int 0), (0, .ref ring)]) (st' := [.int 0]) rfl ?_
  exact z_iret X rfl d_X5_ouncesInAll_28 (Nat.le_of_ble_eq_true rfl) (Nat.le_of_ble_eq_true rfl) ⟨rfl, rfl⟩

theorem d_X10_lead_1 : decode cX10_lead 1 = .ok (.getfield 26, 3) := by decide +kernel
theorem d_X10_lead_5 : decode cX10_lead 5 = .ok (.invokevirtual 106, 3) := by decide +kernel
theorem d_X10_lead_8 : decode cX10_lead 8 = .ok (.ifCond .eq 20, 3) := by decide +kernel
theorem d_X10_lead_29 : decode cX10_lead 29 = .ok (.ireturn, 1) := by decide +kernel
abbrev bb_X10_lead_0_1 : ZB := [(.aload_n 0, .null)]
theorem bk_X10_lead_0_1 : zchk cX10_lead bb_X10_lead_0_1 0 = true ∧ zpc bb_X10_lead_0_1 0 = 1 := ⟨by decide +kernel, rfl⟩
abbrev bb_X10_lead_4_5 : ZB := [(.iload_n 1, .null)]
theorem bk_X10_lead_4_5 : zchk cX10_lead bb_X10_lead_4_5 4 = true ∧ zpc bb_X10_lead_4_5 4 = 5 := ⟨by decide +kernel, rfl⟩
abbrev bb_X10_lead_28_29 : ZB := [(.iconst (-1), .int (-1))]
theorem bk_X10_lead_28_29 : zchk cX10_lead bb_X10_lead_28_29 28 = true ∧ zpc bb_X10_lead_28_29 28 = 29 := ⟨by decide +kernel, rfl⟩
set_option maxHeartbeats 4000000 in
set_option maxRecDepth 100000 in
theorem c_X10_lead (l : Launch) (G : KG) (x : Nat) (told : Nat) (reader : Nat) (ring : Nat) (speeds : Nat) (wheel : Nat) (trials : Nat) (span : Nat) (search : Nat) (kept : Nat) (crosses : Nat) (trueM : Nat) (thought : Nat) (up : Nat) (low : Nat) (fits : Nat) (rp : Nat) (rx : Nat) (ry : Nat) (rr : Nat) (rh : Nat) (rd : Nat) (hole : Int32) (v : Int32) (holei : Int) (vi : Int) (hhole : hole.toInt = holei) (hv : v.toInt = vi) : Ct l G yX10_lead cX10_lead 4 (some .int) { frames := 1, cells := 0, slots := 0, locals := 21 } [.ref x, .int hole, .int v] [(x, ob 10 [.ref told, .ref reader, .ref ring, .ref speeds, .ref wheel, .ref trials, .ref span, .ref search, .ref kept, .ref crosses, .ref trueM, .ref thought, .ref up, .ref low, .ref fits, .null]), (ring, ob 5 [.int 0, .ref rp, .ref rx, .ref ry, .ref rr, .ref rh, .ref rd, .int (-1), .int 0])] (fun r _ => r = some (.int (-1))) := by
  refine ct_of [(0, .ref x), (1, .int hole), (2, .int v)] (by decide) (Nat.le_of_ble_eq_true rfl) rfl ?_
  intro p0 e0 s0 m0 args0 below0 meth0 c0 A X
  refine z_run X bb_X10_lead_0_1 bk_X10_lead_0_1 (lv' := [(0, .ref x), (1, .int hole), (2, .int v)]) (st' := [.ref x]) rfl ?_
  refine z_get X fl_10_26 d_X10_lead_1 0 rfl (v := .ref ring) rfl ?_
  refine z_run X bb_X10_lead_4_5 bk_X10_lead_4_5 (lv' := [(0, .ref x), (1, .int hole), (2, .int v)]) (st' := [.int hole, .ref ring]) rfl ?_
  refine z_callV X k_10_106 (c_X5_isHole l G ring rp rx ry rr rh rd hole holei hhole) d_X10_lead_5 1 rfl rfl rfl ⟨Nat.le_of_ble_eq_true rfl, Nat.le_of_ble_eq_true rfl⟩ ⟨Nat.le_of_ble_eq_true rfl, Nat.le_of_ble_eq_true rfl⟩ rfl (rest := []) (As := [.int hole]) rfl (Nat.le_of_ble_eq_true rfl) [1] [0] rfl (by decide) (wr := [(x, ob 10 [.ref told, .ref reader, .ref ring, .ref speeds, .ref wheel, .ref trials, .ref span, .ref search, .ref kept, .ref crosses, .ref trueM, .ref thought, .ref up, .ref low, .ref fits, .null])]) rfl (by decide) (by decide) ?_
  rintro _ _ ⟨rfl, rfl⟩
  refine Z.at (pc' := 8) (st' := [.int 0]) (ws' := [(x, ob 10 [.ref told, .ref reader, .ref ring, .ref speeds, .ref wheel, .ref trials, .ref span, .ref search, .ref kept, .ref crosses, .ref trueM, .ref thought, .ref up, .ref low, .ref fits, .null]), (ring, ob 5 [.int 0, .ref rp, .ref rx, .ref ry, .ref rr, .ref rh, .ref rd, .int (-1), .int 0])]) (kc' := 0) (ks' := 0) rfl rfl rfl rfl rfl ?_
  refine zi_eq X d_X10_lead_8 (tgt := 28) (by decide) (a := 0) (show (0 : Int32).toInt = 0 from by decide) (fun _ => ?_) (fun c8_1 => absurd c8_1 (by decide))
  refine z_run X bb_X10_lead_28_29 bk_X10_lead_28_29 (lv' := [(0, .ref x), (1, .int hole), (2, .int v)]) (st' := [.int (-1)]) rfl ?_
  exact z_iret X rfl d_X10_lead_29 (Nat.le_of_ble_eq_true rfl) (Nat.le_of_ble_eq_true rfl) rfl

theorem d_X10_deep_1 : decode cX10_deep 1 = .ok (.getfield 26, 3) := by decide +kernel
theorem d_X10_deep_5 : decode cX10_deep 5 = .ok (.invokevirtual 106, 3) := by decide +kernel
theorem d_X10_deep_8 : decode cX10_deep 8 = .ok (.ifCond .eq 13, 3) := by decide +kernel
theorem d_X10_deep_22 : decode cX10_deep 22 = .ok (.ireturn, 1) := by decide +kernel
abbrev bb_X10_deep_0_1 : ZB := [(.aload_n 0, .null)]
theorem bk_X10_deep_0_1 : zchk cX10_deep bb_X10_deep_0_1 0 = true ∧ zpc bb_X10_deep_0_1 0 = 1 := ⟨by decide +kernel, rfl⟩
abbrev bb_X10_deep_4_5 : ZB := [(.iload_n 1, .null)]
theorem bk_X10_deep_4_5 : zchk cX10_deep bb_X10_deep_4_5 4 = true ∧ zpc bb_X10_deep_4_5 4 = 5 := ⟨by decide +kernel, rfl⟩
abbrev bb_X10_deep_21_22 : ZB := [(.iconst (-1), .int (-1))]
theorem bk_X10_deep_21_22 : zchk cX10_deep bb_X10_deep_21_22 21 = true ∧ zpc bb_X10_deep_21_22 21 = 22 := ⟨by decide +kernel, rfl⟩
set_option maxHeartbeats 4000000 in
set_option maxRecDepth 100000 in
theorem c_X10_deep (l : Launch) (G : KG) (x : Nat) (told : Nat) (reader : Nat) (ring : Nat) (speeds : Nat) (wheel : Nat) (trials : Nat) (span : Nat) (search : Nat) (kept : Nat) (crosses : Nat) (trueM : Nat) (thought : Nat) (up : Nat) (low : Nat) (fits : Nat) (rp : Nat) (rx : Nat) (ry : Nat) (rr : Nat) (rh : Nat) (rd : Nat) (hole : Int32) (v : Int32) (holei : Int) (vi : Int) (hhole : hole.toInt = holei) (hv : v.toInt = vi) : Ct l G yX10_deep cX10_deep 4 (some .int) { frames := 1, cells := 0, slots := 0, locals := 21 } [.ref x, .int hole, .int v] [(x, ob 10 [.ref told, .ref reader, .ref ring, .ref speeds, .ref wheel, .ref trials, .ref span, .ref search, .ref kept, .ref crosses, .ref trueM, .ref thought, .ref up, .ref low, .ref fits, .null]), (ring, ob 5 [.int 0, .ref rp, .ref rx, .ref ry, .ref rr, .ref rh, .ref rd, .int (-1), .int 0])] (fun r _ => r = some (.int (-1))) := by
  refine ct_of [(0, .ref x), (1, .int hole), (2, .int v)] (by decide) (Nat.le_of_ble_eq_true rfl) rfl ?_
  intro p0 e0 s0 m0 args0 below0 meth0 c0 A X
  refine z_run X bb_X10_deep_0_1 bk_X10_deep_0_1 (lv' := [(0, .ref x), (1, .int hole), (2, .int v)]) (st' := [.ref x]) rfl ?_
  refine z_get X fl_10_26 d_X10_deep_1 0 rfl (v := .ref ring) rfl ?_
  refine z_run X bb_X10_deep_4_5 bk_X10_deep_4_5 (lv' := [(0, .ref x), (1, .int hole), (2, .int v)]) (st' := [.int hole, .ref ring]) rfl ?_
  refine z_callV X k_10_106 (c_X5_isHole l G ring rp rx ry rr rh rd hole holei hhole) d_X10_deep_5 1 rfl rfl rfl ⟨Nat.le_of_ble_eq_true rfl, Nat.le_of_ble_eq_true rfl⟩ ⟨Nat.le_of_ble_eq_true rfl, Nat.le_of_ble_eq_true rfl⟩ rfl (rest := []) (As := [.int hole]) rfl (Nat.le_of_ble_eq_true rfl) [1] [0] rfl (by decide) (wr := [(x, ob 10 [.ref told, .ref reader, .ref ring, .ref speeds, .ref wheel, .ref trials, .ref span, .ref search, .ref kept, .ref crosses, .ref trueM, .ref thought, .ref up, .ref low, .ref fits, .null])]) rfl (by decide) (by decide) ?_
  rintro _ _ ⟨rfl, rfl⟩
  refine Z.at (pc' := 8) (st' := [.int 0]) (ws' := [(x, ob 10 [.ref told, .ref reader, .ref ring, .ref speeds, .ref wheel, .ref trials, .ref span, .ref search, .ref kept, .ref crosses, .ref trueM, .ref thought, .ref up, .ref low, .ref fits, .null]), (ring, ob 5 [.int 0, .ref rp, .ref rx, .ref ry, .ref rr, .ref rh, .ref rd, .int (-1), .int 0])]) (kc' := 0) (ks' := 0) rfl rfl rfl rfl rfl ?_
  refine zi_eq X d_X10_deep_8 (tgt := 21) (by decide) (a := 0) (show (0 : Int32).toInt = 0 from by decide) (fun _ => ?_) (fun c8_1 => absurd c8_1 (by decide))
  refine z_run X bb_X10_deep_21_22 bk_X10_deep_21_22 (lv' := [(0, .ref x), (1, .int hole), (2, .int v)]) (st' := [.int (-1)]) rfl ?_
  exact z_iret X rfl d_X10_deep_22 (Nat.le_of_ble_eq_true rfl) (Nat.le_of_ble_eq_true rfl) rfl

theorem d_X10_sheet_1 : decode cX10_sheet 1 = .ok (.ifCond .lt 14, 3) := by decide +kernel
theorem d_X10_sheet_16 : decode cX10_sheet 16 = .ok (.ireturn, 1) := by decide +kernel
theorem d_X10_sheet_6 : decode cX10_sheet 6 = .ok (.if_icmp .gt 9, 3) := by decide +kernel
theorem d_X10_sheet_12 : decode cX10_sheet 12 = .ok (.if_icmp .le 5, 3) := by decide +kernel
theorem d_X10_sheet_19 : decode cX10_sheet 19 = .ok (.if_icmp .ge 10, 3) := by decide +kernel
theorem d_X10_sheet_31 : decode cX10_sheet 31 = .ok (.if_icmp .ne 7, 3) := by decide +kernel
theorem d_X10_sheet_47 : decode cX10_sheet 47 = .ok (.getfield 26, 3) := by decide +kernel
theorem d_X10_sheet_50 : decode cX10_sheet 50 = .ok (.getfield 136, 3) := by decide +kernel
theorem d_X10_sheet_53 : decode cX10_sheet 53 = .ok (.if_icmp .ge 62, 3) := by decide +kernel
theorem d_X10_sheet_117 : decode cX10_sheet 117 = .ok (.if_icmp .ne 8, 3) := by decide +kernel
theorem d_X10_sheet_126 : decode cX10_sheet 126 = .ok (.getfield 26, 3) := by decide +kernel
theorem d_X10_sheet_129 : decode cX10_sheet 129 = .ok (.invokevirtual 152, 3) := by decide +kernel
theorem d_X10_sheet_132 : decode cX10_sheet 132 = .ok (.ireturn, 1) := by decide +kernel
theorem d_X10_sheet_122 : decode cX10_sheet 122 = .ok (.goto 10, 3) := by decide +kernel
theorem d_X10_sheet_35 : decode cX10_sheet 35 = .ok (.goto 4, 3) := by decide +kernel
theorem d_X10_sheet_23 : decode cX10_sheet 23 = .ok (.ifCond .ge 6, 3) := by decide +kernel
theorem d_X10_sheet_28 : decode cX10_sheet 28 = .ok (.ireturn, 1) := by decide +kernel
abbrev bb_X10_sheet_0_1 : ZB := [(.iload_n 1, .null)]
theorem bk_X10_sheet_0_1 : zchk cX10_sheet bb_X10_sheet_0_1 0 = true ∧ zpc bb_X10_sheet_0_1 0 = 1 := ⟨by decide +kernel, rfl⟩
abbrev bb_X10_sheet_15_16 : ZB := [(.iconst (-1), .int (-1))]
theorem bk_X10_sheet_15_16 : zchk cX10_sheet bb_X10_sheet_15_16 15 = true ∧ zpc bb_X10_sheet_15_16 15 = 16 := ⟨by decide +kernel, rfl⟩
abbrev bb_X10_sheet_4_6 : ZB := [(.iload_n 1, .null), (.iconst 3, .int 3)]
theorem bk_X10_sheet_4_6 : zchk cX10_sheet bb_X10_sheet_4_6 4 = true ∧ zpc bb_X10_sheet_4_6 4 = 6 := ⟨by decide +kernel, rfl⟩
abbrev bb_X10_sheet_9_12 : ZB := [(.iload_n 2, .null), (.bipush 16, .int 16)]
theorem bk_X10_sheet_9_12 : zchk cX10_sheet bb_X10_sheet_9_12 9 = true ∧ zpc bb_X10_sheet_9_12 9 = 12 := ⟨by decide +kernel, rfl⟩
abbrev bb_X10_sheet_17_19 : ZB := [(.iload_n 1, .null), (.iconst 3, .int 3)]
theorem bk_X10_sheet_17_19 : zchk cX10_sheet bb_X10_sheet_17_19 17 = true ∧ zpc bb_X10_sheet_17_19 17 = 19 := ⟨by decide +kernel, rfl⟩
abbrev bb_X10_sheet_29_31 : ZB := [(.iload_n 1, .null), (.iconst 3, .int 3)]
theorem bk_X10_sheet_29_31 : zchk cX10_sheet bb_X10_sheet_29_31 29 = true ∧ zpc bb_X10_sheet_29_31 29 = 31 := ⟨by decide +kernel, rfl⟩
abbrev bb_X10_sheet_38_47 : ZB := [(.iload_n 2, .null), (.istore 5, .null), (.iconst 0, .int 0), (.istore 6, .null), (.iload 6, .null), (.aload_n 0, .null)]
theorem bk_X10_sheet_38_47 : zchk cX10_sheet bb_X10_sheet_38_47 38 = true ∧ zpc bb_X10_sheet_38_47 38 = 47 := ⟨by decide +kernel, rfl⟩
abbrev bb_X10_sheet_115_117 : ZB := [(.iload_n 1, .null), (.iconst 3, .int 3)]
theorem bk_X10_sheet_115_117 : zchk cX10_sheet bb_X10_sheet_115_117 115 = true ∧ zpc bb_X10_sheet_115_117 115 = 117 := ⟨by decide +kernel, rfl⟩
abbrev bb_X10_sheet_125_126 : ZB := [(.aload_n 0, .null)]
theorem bk_X10_sheet_125_126 : zchk cX10_sheet bb_X10_sheet_125_126 125 = true ∧ zpc bb_X10_sheet_125_126 125 = 126 := ⟨by decide +kernel, rfl⟩
abbrev bb_X10_sheet_120_122 : ZB := [(.bipush (-3), .int (-3))]
theorem bk_X10_sheet_120_122 : zchk cX10_sheet bb_X10_sheet_120_122 120 = true ∧ zpc bb_X10_sheet_120_122 120 = 122 := ⟨by decide +kernel, rfl⟩
abbrev bb_X10_sheet_34_35 : ZB := [(.iconst 0, .int 0)]
theorem bk_X10_sheet_34_35 : zchk cX10_sheet bb_X10_sheet_34_35 34 = true ∧ zpc bb_X10_sheet_34_35 34 = 35 := ⟨by decide +kernel, rfl⟩
abbrev bb_X10_sheet_39_47 : ZB := [(.istore 5, .null), (.iconst 0, .int 0), (.istore 6, .null), (.iload 6, .null), (.aload_n 0, .null)]
theorem bk_X10_sheet_39_47 : zchk cX10_sheet bb_X10_sheet_39_47 39 = true ∧ zpc bb_X10_sheet_39_47 39 = 47 := ⟨by decide +kernel, rfl⟩
abbrev bb_X10_sheet_22_23 : ZB := [(.iload_n 2, .null)]
theorem bk_X10_sheet_22_23 : zchk cX10_sheet bb_X10_sheet_22_23 22 = true ∧ zpc bb_X10_sheet_22_23 22 = 23 := ⟨by decide +kernel, rfl⟩
abbrev bb_X10_sheet_26_28 : ZB := [(.bipush (-2), .int (-2))]
theorem bk_X10_sheet_26_28 : zchk cX10_sheet bb_X10_sheet_26_28 26 = true ∧ zpc bb_X10_sheet_26_28 26 = 28 := ⟨by decide +kernel, rfl⟩
set_option maxHeartbeats 4000000 in
set_option maxRecDepth 100000 in
theorem c_X10_sheet (l : Launch) (G : KG) (x : Nat) (told : Nat) (reader : Nat) (ring : Nat) (speeds : Nat) (wheel : Nat) (trials : Nat) (span : Nat) (search : Nat) (kept : Nat) (crosses : Nat) (trueM : Nat) (thought : Nat) (up : Nat) (low : Nat) (fits : Nat) (rp : Nat) (rx : Nat) (ry : Nat) (rr : Nat) (rh : Nat) (rd : Nat) (kind : Int32) (n : Int32) (f : Int32) (step : Int32) (kindi : Int) (ni : Int) (fi : Int) (stepi : Int) (hkind : kind.toInt = kindi) (hn : n.toInt = ni) (hf : f.toInt = fi) (hstep : step.toInt = stepi) : Ct l G yX10_sheet cX10_sheet 8 (some .int) { frames := 1, cells := 0, slots := 0, locals := 22 } [.ref x, .int kind, .int n, .int f, .int step] [(x, ob 10 [.ref told, .ref reader, .ref ring, .ref speeds, .ref wheel, .ref trials, .ref span, .ref search, .ref kept, .ref crosses, .ref trueM, .ref thought, .ref up, .ref low, .ref fits, .null]), (ring, ob 5 [.int 0, .ref rp, .ref rx, .ref ry, .ref rr, .ref rh, .ref rd, .int (-1), .int 0])] (fun r _ => r = some (.int (an_sheet kindi ni))) := by
  refine ct_of [(0, .ref x), (1, .int kind), (2, .int n), (3, .int f), (4, .int step)] (by decide) (Nat.le_of_ble_eq_true rfl) rfl ?_
  intro p0 e0 s0 m0 args0 below0 meth0 c0 A X
  refine z_run X bb_X10_sheet_0_1 bk_X10_sheet_0_1 (lv' := [(0, .ref x), (1, .int kind), (2, .int n), (3, .int f), (4, .int step)]) (st' := [.int kind]) rfl ?_
  refine zi_lt X d_X10_sheet_1 (tgt := 15) (by decide) (a := kindi) hkind (fun c1_1 => ?_) (fun c1_1 => ?_)
  ·
    refine z_run X bb_X10_sheet_15_16 bk_X10_sheet_15_16 (lv' := [(0, .ref x), (1, .int kind), (2, .int n), (3, .int f), (4, .int step)]) (st' := [.int (-1)]) rfl ?_
    exact z_iret X rfl d_X10_sheet_16 (Nat.le_of_ble_eq_true rfl) (Nat.le_of_ble_eq_true rfl) (congrArg (fun z => some (Value.int z)) (by unfold an_sheet; (repeat' split) <;> first | rfl | (exfalso; omega)))
  ·
    refine z_run X bb_X10_sheet_4_6 bk_X10_sheet_4_6 (lv' := [(0, .ref x), (1, .int kind), (2, .int n), (3, .int f), (4, .int step)]) (st' := [.int 3, .int kind]) rfl ?_
    refine zc_gt X d_X10_sheet_6 (tgt := 15) (by decide) (a := kindi) (b := 3) hkind (show (3 : Int32).toInt = 3 from by decide) (fun c6_2 => ?_) (fun c6_2 => ?_)
    ·
      refine z_run X bb_X10_sheet_15_16 bk_X10_sheet_15_16 (lv' := [(0, .ref x), (1, .int kind), (2, .int n), (3, .int f), (4, .int step)]) (st' := [.int (-1)]) rfl ?_
      exact z_iret X rfl d_X10_sheet_16 (Nat.le_of_ble_eq_true rfl) (Nat.le_of_ble_eq_true rfl) (congrArg (fun z => some (Value.int z)) (by unfold an_sheet; (repeat' split) <;> first | rfl | (exfalso; omega)))
    ·
      refine z_run X bb_X10_sheet_9_12 bk_X10_sheet_9_12 (lv' := [(0, .ref x), (1, .int kind), (2, .int n), (3, .int f), (4, .int step)]) (st' := [.int 16, .int n]) rfl ?_
      refine zc_le X d_X10_sheet_12 (tgt := 17) (by decide) (a := ni) (b := 16) hn (show (16 : Int32).toInt = 16 from by decide) (fun c12_3 => ?_) (fun c12_3 => ?_)
      ·
        refine z_run X bb_X10_sheet_17_19 bk_X10_sheet_17_19 (lv' := [(0, .ref x), (1, .int kind), (2, .int n), (3, .int f), (4, .int step)]) (st' := [.int 3, .int kind]) rfl ?_
        refine zc_ge X d_X10_sheet_19 (tgt := 29) (by decide) (a := kindi) (b := 3) hkind (show (3 : Int32).toInt = 3 from by decide) (fun c19_4 => ?_) (fun c19_4 => ?_)
        ·
          refine z_run X bb_X10_sheet_29_31 bk_X10_sheet_29_31 (lv' := [(0, .ref x), (1, .int kind), (2, .int n), (3, .int f), (4, .int step)]) (st' := [.int 3, .int kind]) rfl ?_
          refine zc_ne X d_X10_sheet_31 (tgt := 38) (by decide) (a := kindi) (b := 3) hkind (show (3 : Int32).toInt = 3 from by decide) (fun c31_5 => ?_) (fun c31_5 => ?_)
          ·
            refine z_run X bb_X10_sheet_38_47 bk_X10_sheet_38_47 (lv' := [(6, .int 0), (5, .int n), (0, .ref x), (1, .int kind), (2, .int n), (3, .int f), (4, .int step)]) (st' := [.ref x, .int 0]) rfl ?_
            refine z_get X fl_10_26 d_X10_sheet_47 0 rfl (v := .ref ring) rfl ?_
            refine z_getN X fl_10_136 d_X10_sheet_50 1 rfl (v := .int 0) rfl ?_
            refine zc_ge X d_X10_sheet_53 (tgt := 115) (by decide) (a := 0) (b := 0) (show (0 : Int32).toInt = 0 from by decide) (show (0 : Int32).toInt = 0 from by decide) (fun _ => ?_) (fun c53_6 => absurd c53_6 (by decide))
            refine z_run X bb_X10_sheet_115_117 bk_X10_sheet_115_117 (lv' := [(6, .int 0), (5, .int n), (0, .ref x), (1, .int kind), (2, .int n), (3, .int f), (4, .int step)]) (st' := [.int 3, .int kind]) rfl ?_
            refine zc_ne X d_X10_sheet_117 (tgt := 125) (by decide) (a := kindi) (b := 3) hkind (show (3 : Int32).toInt = 3 from by decide) (fun c117_7 => ?_) (fun c117_7 => ?_)
            ·
              refine z_run X bb_X10_sheet_125_126 bk_X10_sheet_125_126 (lv' := [(6, .int 0), (5, .int n), (0, .ref x), (1, .int kind), (2, .int n), (3, .int f), (4, .int step)]) (st' := [.ref x]) rfl ?_
              refine z_get X fl_10_26 d_X10_sheet_126 0 rfl (v := .ref ring) rfl ?_
              refine z_callV X k_10_152 (c_X5_ouncesInAll l G ring rp rx ry rr rh rd) d_X10_sheet_129 1 rfl rfl rfl ⟨Nat.le_of_ble_eq_true rfl, Nat.le_of_ble_eq_true rfl⟩ ⟨Nat.le_of_ble_eq_true rfl, Nat.le_of_ble_eq_true rfl⟩ rfl (rest := []) (As := []) rfl (Nat.le_of_ble_eq_true rfl) [1] [0] rfl (by decide) (wr := [(x, ob 10 [.ref told, .ref reader, .ref ring, .ref speeds, .ref wheel, .ref trials, .ref span, .ref search, .ref kept, .ref crosses, .ref trueM, .ref thought, .ref up, .ref low, .ref fits, .null])]) rfl (by decide) (by decide) ?_
              rintro _ _ ⟨rfl, rfl⟩
              refine Z.at (pc' := 132) (st' := [.int 0]) (ws' := [(x, ob 10 [.ref told, .ref reader, .ref ring, .ref speeds, .ref wheel, .ref trials, .ref span, .ref search, .ref kept, .ref crosses, .ref trueM, .ref thought, .ref up, .ref low, .ref fits, .null]), (ring, ob 5 [.int 0, .ref rp, .ref rx, .ref ry, .ref rr, .ref rh, .ref rd, .int (-1), .int 0])]) (kc' := 0) (ks' := 0) rfl rfl rfl rfl rfl ?_
              exact z_iret X rfl d_X10_sheet_132 (Nat.le_of_ble_eq_true rfl) (Nat.le_of_ble_eq_true rfl) (congrArg (fun z => some (Value.int z)) (by unfold an_sheet; (repeat' split) <;> first | rfl | (exfalso; omega)))
            ·
              refine z_run X bb_X10_sheet_120_122 bk_X10_sheet_120_122 (lv' := [(6, .int 0), (5, .int n), (0, .ref x), (1, .int kind), (2, .int n), (3, .int f), (4, .int step)]) (st' := [.int (-3)]) rfl ?_
              refine z_goto X d_X10_sheet_122 (tgt := 132) (by decide) ?_
              exact z_iret X rfl d_X10_sheet_132 (Nat.le_of_ble_eq_true rfl) (Nat.le_of_ble_eq_true rfl) (congrArg (fun z => some (Value.int z)) (by unfold an_sheet; (repeat' split) <;> first | rfl | (exfalso; omega)))
          ·
            refine z_run X bb_X10_sheet_34_35 bk_X10_sheet_34_35 (lv' := [(0, .ref x), (1, .int kind), (2, .int n), (3, .int f), (4, .int step)]) (st' := [.int 0]) rfl ?_
            refine z_goto X d_X10_sheet_35 (tgt := 39) (by decide) ?_
            refine z_run X bb_X10_sheet_39_47 bk_X10_sheet_39_47 (lv' := [(6, .int 0), (5, .int 0), (0, .ref x), (1, .int kind), (2, .int n), (3, .int f), (4, .int step)]) (st' := [.ref x, .int 0]) rfl ?_
            refine z_get X fl_10_26 d_X10_sheet_47 0 rfl (v := .ref ring) rfl ?_
            refine z_getN X fl_10_136 d_X10_sheet_50 1 rfl (v := .int 0) rfl ?_
            refine zc_ge X d_X10_sheet_53 (tgt := 115) (by decide) (a := 0) (b := 0) (show (0 : Int32).toInt = 0 from by decide) (show (0 : Int32).toInt = 0 from by decide) (fun _ => ?_) (fun c53_8 => absurd c53_8 (by decide))
            refine z_run X bb_X10_sheet_115_117 bk_X10_sheet_115_117 (lv' := [(6, .int 0), (5, .int 0), (0, .ref x), (1, .int kind), (2, .int n), (3, .int f), (4, .int step)]) (st' := [.int 3, .int kind]) rfl ?_
            refine zc_ne X d_X10_sheet_117 (tgt := 125) (by decide) (a := kindi) (b := 3) hkind (show (3 : Int32).toInt = 3 from by decide) (fun c117_9 => ?_) (fun c117_9 => ?_)
            ·
              refine z_run X bb_X10_sheet_125_126 bk_X10_sheet_125_126 (lv' := [(6, .int 0), (5, .int 0), (0, .ref x), (1, .int kind), (2, .int n), (3, .int f), (4, .int step)]) (st' := [.ref x]) rfl ?_
              refine z_get X fl_10_26 d_X10_sheet_126 0 rfl (v := .ref ring) rfl ?_
              refine z_callV X k_10_152 (c_X5_ouncesInAll l G ring rp rx ry rr rh rd) d_X10_sheet_129 1 rfl rfl rfl ⟨Nat.le_of_ble_eq_true rfl, Nat.le_of_ble_eq_true rfl⟩ ⟨Nat.le_of_ble_eq_true rfl, Nat.le_of_ble_eq_true rfl⟩ rfl (rest := []) (As := []) rfl (Nat.le_of_ble_eq_true rfl) [1] [0] rfl (by decide) (wr := [(x, ob 10 [.ref told, .ref reader, .ref ring, .ref speeds, .ref wheel, .ref trials, .ref span, .ref search, .ref kept, .ref crosses, .ref trueM, .ref thought, .ref up, .ref low, .ref fits, .null])]) rfl (by decide) (by decide) ?_
              rintro _ _ ⟨rfl, rfl⟩
              refine Z.at (pc' := 132) (st' := [.int 0]) (ws' := [(x, ob 10 [.ref told, .ref reader, .ref ring, .ref speeds, .ref wheel, .ref trials, .ref span, .ref search, .ref kept, .ref crosses, .ref trueM, .ref thought, .ref up, .ref low, .ref fits, .null]), (ring, ob 5 [.int 0, .ref rp, .ref rx, .ref ry, .ref rr, .ref rh, .ref rd, .int (-1), .int 0])]) (kc' := 0) (ks' := 0) rfl rfl rfl rfl rfl ?_
              exact z_iret X rfl d_X10_sheet_132 (Nat.le_of_ble_eq_true rfl) (Nat.le_of_ble_eq_true rfl) (congrArg (fun z => some (Value.int z)) (by unfold an_sheet; (repeat' split) <;> first | rfl | (exfalso; omega)))
            ·
              refine z_run X bb_X10_sheet_120_122 bk_X10_sheet_120_122 (lv' := [(6, .int 0), (5, .int 0), (0, .ref x), (1, .int kind), (2, .int n), (3, .int f), (4, .int step)]) (st' := [.int (-3)]) rfl ?_
              refine z_goto X d_X10_sheet_122 (tgt := 132) (by decide) ?_
              exact z_iret X rfl d_X10_sheet_132 (Nat.le_of_ble_eq_true rfl) (Nat.le_of_ble_eq_true rfl) (congrArg (fun z => some (Value.int z)) (by unfold an_sheet; (repeat' split) <;> first | rfl | (exfalso; omega)))
        ·
          refine z_run X bb_X10_sheet_22_23 bk_X10_sheet_22_23 (lv' := [(0, .ref x), (1, .int kind), (2, .int n), (3, .int f), (4, .int step)]) (st' := [.int n]) rfl ?_
          refine zi_ge X d_X10_sheet_23 (tgt := 29) (by decide) (a := ni) hn (fun c23_10 => ?_) (fun c23_10 => ?_)
          ·
            refine z_run X bb_X10_sheet_29_31 bk_X10_sheet_29_31 (lv' := [(0, .ref x), (1, .int kind), (2, .int n), (3, .int f), (4, .int step)]) (st' := [.int 3, .int kind]) rfl ?_
            refine zc_ne X d_X10_sheet_31 (tgt := 38) (by decide) (a := kindi) (b := 3) hkind (show (3 : Int32).toInt = 3 from by decide) (fun c31_11 => ?_) (fun c31_11 => ?_)
            ·
              refine z_run X bb_X10_sheet_38_47 bk_X10_sheet_38_47 (lv' := [(6, .int 0), (5, .int n), (0, .ref x), (1, .int kind), (2, .int n), (3, .int f), (4, .int step)]) (st' := [.ref x, .int 0]) rfl ?_
              refine z_get X fl_10_26 d_X10_sheet_47 0 rfl (v := .ref ring) rfl ?_
              refine z_getN X fl_10_136 d_X10_sheet_50 1 rfl (v := .int 0) rfl ?_
              refine zc_ge X d_X10_sheet_53 (tgt := 115) (by decide) (a := 0) (b := 0) (show (0 : Int32).toInt = 0 from by decide) (show (0 : Int32).toInt = 0 from by decide) (fun _ => ?_) (fun c53_12 => absurd c53_12 (by decide))
              refine z_run X bb_X10_sheet_115_117 bk_X10_sheet_115_117 (lv' := [(6, .int 0), (5, .int n), (0, .ref x), (1, .int kind), (2, .int n), (3, .int f), (4, .int step)]) (st' := [.int 3, .int kind]) rfl ?_
              refine zc_ne X d_X10_sheet_117 (tgt := 125) (by decide) (a := kindi) (b := 3) hkind (show (3 : Int32).toInt = 3 from by decide) (fun c117_13 => ?_) (fun c117_13 => ?_)
              ·
                refine z_run X bb_X10_sheet_125_126 bk_X10_sheet_125_126 (lv' := [(6, .int 0), (5, .int n), (0, .ref x), (1, .int kind), (2, .int n), (3, .int f), (4, .int step)]) (st' := [.ref x]) rfl ?_
                refine z_get X fl_10_26 d_X10_sheet_126 0 rfl (v := .ref ring) rfl ?_
                refine z_callV X k_10_152 (c_X5_ouncesInAll l G ring rp rx ry rr rh rd) d_X10_sheet_129 1 rfl rfl rfl ⟨Nat.le_of_ble_eq_true rfl, Nat.le_of_ble_eq_true rfl⟩ ⟨Nat.le_of_ble_eq_true rfl, Nat.le_of_ble_eq_true rfl⟩ rfl (rest := []) (As := []) rfl (Nat.le_of_ble_eq_true rfl) [1] [0] rfl (by decide) (wr := [(x, ob 10 [.ref told, .ref reader, .ref ring, .ref speeds, .ref wheel, .ref trials, .ref span, .ref search, .ref kept, .ref crosses, .ref trueM, .ref thought, .ref up, .ref low, .ref fits, .null])]) rfl (by decide) (by decide) ?_
                rintro _ _ ⟨rfl, rfl⟩
                refine Z.at (pc' := 132) (st' := [.int 0]) (ws' := [(x, ob 10 [.ref told, .ref reader, .ref ring, .ref speeds, .ref wheel, .ref trials, .ref span, .ref search, .ref kept, .ref crosses, .ref trueM, .ref thought, .ref up, .ref low, .ref fits, .null]), (ring, ob 5 [.int 0, .ref rp, .ref rx, .ref ry, .ref rr, .ref rh, .ref rd, .int (-1), .int 0])]) (kc' := 0) (ks' := 0) rfl rfl rfl rfl rfl ?_
                exact z_iret X rfl d_X10_sheet_132 (Nat.le_of_ble_eq_true rfl) (Nat.le_of_ble_eq_true rfl) (congrArg (fun z => some (Value.int z)) (by unfold an_sheet; (repeat' split) <;> first | rfl | (exfalso; omega)))
              ·
                refine z_run X bb_X10_sheet_120_122 bk_X10_sheet_120_122 (lv' := [(6, .int 0), (5, .int n), (0, .ref x), (1, .int kind), (2, .int n), (3, .int f), (4, .int step)]) (st' := [.int (-3)]) rfl ?_
                refine z_goto X d_X10_sheet_122 (tgt := 132) (by decide) ?_
                exact z_iret X rfl d_X10_sheet_132 (Nat.le_of_ble_eq_true rfl) (Nat.le_of_ble_eq_true rfl) (congrArg (fun z => some (Value.int z)) (by unfold an_sheet; (repeat' split) <;> first | rfl | (exfalso; omega)))
            ·
              refine z_run X bb_X10_sheet_34_35 bk_X10_sheet_34_35 (lv' := [(0, .ref x), (1, .int kind), (2, .int n), (3, .int f), (4, .int step)]) (st' := [.int 0]) rfl ?_
              refine z_goto X d_X10_sheet_35 (tgt := 39) (by decide) ?_
              refine z_run X bb_X10_sheet_39_47 bk_X10_sheet_39_47 (lv' := [(6, .int 0), (5, .int 0), (0, .ref x), (1, .int kind), (2, .int n), (3, .int f), (4, .int step)]) (st' := [.ref x, .int 0]) rfl ?_
              refine z_get X fl_10_26 d_X10_sheet_47 0 rfl (v := .ref ring) rfl ?_
              refine z_getN X fl_10_136 d_X10_sheet_50 1 rfl (v := .int 0) rfl ?_
              refine zc_ge X d_X10_sheet_53 (tgt := 115) (by decide) (a := 0) (b := 0) (show (0 : Int32).toInt = 0 from by decide) (show (0 : Int32).toInt = 0 from by decide) (fun _ => ?_) (fun c53_14 => absurd c53_14 (by decide))
              refine z_run X bb_X10_sheet_115_117 bk_X10_sheet_115_117 (lv' := [(6, .int 0), (5, .int 0), (0, .ref x), (1, .int kind), (2, .int n), (3, .int f), (4, .int step)]) (st' := [.int 3, .int kind]) rfl ?_
              refine zc_ne X d_X10_sheet_117 (tgt := 125) (by decide) (a := kindi) (b := 3) hkind (show (3 : Int32).toInt = 3 from by decide) (fun c117_15 => ?_) (fun c117_15 => ?_)
              ·
                refine z_run X bb_X10_sheet_125_126 bk_X10_sheet_125_126 (lv' := [(6, .int 0), (5, .int 0), (0, .ref x), (1, .int kind), (2, .int n), (3, .int f), (4, .int step)]) (st' := [.ref x]) rfl ?_
                refine z_get X fl_10_26 d_X10_sheet_126 0 rfl (v := .ref ring) rfl ?_
                refine z_callV X k_10_152 (c_X5_ouncesInAll l G ring rp rx ry rr rh rd) d_X10_sheet_129 1 rfl rfl rfl ⟨Nat.le_of_ble_eq_true rfl, Nat.le_of_ble_eq_true rfl⟩ ⟨Nat.le_of_ble_eq_true rfl, Nat.le_of_ble_eq_true rfl⟩ rfl (rest := []) (As := []) rfl (Nat.le_of_ble_eq_true rfl) [1] [0] rfl (by decide) (wr := [(x, ob 10 [.ref told, .ref reader, .ref ring, .ref speeds, .ref wheel, .ref trials, .ref span, .ref search, .ref kept, .ref crosses, .ref trueM, .ref thought, .ref up, .ref low, .ref fits, .null])]) rfl (by decide) (by decide) ?_
                rintro _ _ ⟨rfl, rfl⟩
                refine Z.at (pc' := 132) (st' := [.int 0]) (ws' := [(x, ob 10 [.ref told, .ref reader, .ref ring, .ref speeds, .ref wheel, .ref trials, .ref span, .ref search, .ref kept, .ref crosses, .ref trueM, .ref thought, .ref up, .ref low, .ref fits, .null]), (ring, ob 5 [.int 0, .ref rp, .ref rx, .ref ry, .ref rr, .ref rh, .ref rd, .int (-1), .int 0])]) (kc' := 0) (ks' := 0) rfl rfl rfl rfl rfl ?_
                exact z_iret X rfl d_X10_sheet_132 (Nat.le_of_ble_eq_true rfl) (Nat.le_of_ble_eq_true rfl) (congrArg (fun z => some (Value.int z)) (by unfold an_sheet; (repeat' split) <;> first | rfl | (exfalso; omega)))
              ·
                refine z_run X bb_X10_sheet_120_122 bk_X10_sheet_120_122 (lv' := [(6, .int 0), (5, .int 0), (0, .ref x), (1, .int kind), (2, .int n), (3, .int f), (4, .int step)]) (st' := [.int (-3)]) rfl ?_
                refine z_goto X d_X10_sheet_122 (tgt := 132) (by decide) ?_
                exact z_iret X rfl d_X10_sheet_132 (Nat.le_of_ble_eq_true rfl) (Nat.le_of_ble_eq_true rfl) (congrArg (fun z => some (Value.int z)) (by unfold an_sheet; (repeat' split) <;> first | rfl | (exfalso; omega)))
          ·
            refine z_run X bb_X10_sheet_26_28 bk_X10_sheet_26_28 (lv' := [(0, .ref x), (1, .int kind), (2, .int n), (3, .int f), (4, .int step)]) (st' := [.int (-2)]) rfl ?_
            exact z_iret X rfl d_X10_sheet_28 (Nat.le_of_ble_eq_true rfl) (Nat.le_of_ble_eq_true rfl) (congrArg (fun z => some (Value.int z)) (by unfold an_sheet; (repeat' split) <;> first | rfl | (exfalso; omega)))
      ·
        refine z_run X bb_X10_sheet_15_16 bk_X10_sheet_15_16 (lv' := [(0, .ref x), (1, .int kind), (2, .int n), (3, .int f), (4, .int step)]) (st' := [.int (-1)]) rfl ?_
        exact z_iret X rfl d_X10_sheet_16 (Nat.le_of_ble_eq_true rfl) (Nat.le_of_ble_eq_true rfl) (congrArg (fun z => some (Value.int z)) (by unfold an_sheet; (repeat' split) <;> first | rfl | (exfalso; omega)))

theorem d_X10_cross_1 : decode cX10_cross 1 = .ok (.invokestatic 156, 3) := by decide +kernel
theorem d_X10_cross_4 : decode cX10_cross 4 = .ok (.ifCond .eq 19, 3) := by decide +kernel
theorem d_X10_cross_24 : decode cX10_cross 24 = .ok (.ireturn, 1) := by decide +kernel
theorem d_X10_cross_8 : decode cX10_cross 8 = .ok (.invokestatic 156, 3) := by decide +kernel
theorem d_X10_cross_11 : decode cX10_cross 11 = .ok (.ifCond .eq 12, 3) := by decide +kernel
theorem d_X10_cross_17 : decode cX10_cross 17 = .ok (.invokestatic 159, 3) := by decide +kernel
theorem d_X10_cross_20 : decode cX10_cross 20 = .ok (.ifCond .ne 5, 3) := by decide +kernel
theorem d_X10_cross_26 : decode cX10_cross 26 = .ok (.getfield 71, 3) := by decide +kernel
theorem d_X10_cross_34 : decode cX10_cross 34 = .ok (.iaload, 1) := by decide +kernel
theorem d_X10_cross_38 : decode cX10_cross 38 = .ok (.getfield 71, 3) := by decide +kernel
theorem d_X10_cross_47 : decode cX10_cross 47 = .ok (.iastore, 1) := by decide +kernel
theorem d_X10_cross_50 : decode cX10_cross 50 = .ok (.ireturn, 1) := by decide +kernel
abbrev bb_X10_cross_0_1 : ZB := [(.iload_n 1, .null)]
theorem bk_X10_cross_0_1 : zchk cX10_cross bb_X10_cross_0_1 0 = true ∧ zpc bb_X10_cross_0_1 0 = 1 := ⟨by decide +kernel, rfl⟩
abbrev bb_X10_cross_23_24 : ZB := [(.iconst (-1), .int (-1))]
theorem bk_X10_cross_23_24 : zchk cX10_cross bb_X10_cross_23_24 23 = true ∧ zpc bb_X10_cross_23_24 23 = 24 := ⟨by decide +kernel, rfl⟩
abbrev bb_X10_cross_7_8 : ZB := [(.iload_n 2, .null)]
theorem bk_X10_cross_7_8 : zchk cX10_cross bb_X10_cross_7_8 7 = true ∧ zpc bb_X10_cross_7_8 7 = 8 := ⟨by decide +kernel, rfl⟩
abbrev bb_X10_cross_14_17 : ZB := [(.iload_n 3, .null), (.bipush 9, .int 9)]
theorem bk_X10_cross_14_17 : zchk cX10_cross bb_X10_cross_14_17 14 = true ∧ zpc bb_X10_cross_14_17 14 = 17 := ⟨by decide +kernel, rfl⟩
abbrev bb_X10_cross_25_26 : ZB := [(.aload_n 0, .null)]
theorem bk_X10_cross_25_26 : zchk cX10_cross bb_X10_cross_25_26 25 = true ∧ zpc bb_X10_cross_25_26 25 = 26 := ⟨by decide +kernel, rfl⟩
abbrev bb_X10_cross_29_34 : ZB := [(.iconst 2, .int 2), (.iload_n 1, .null), (.imul, .null), (.iload_n 2, .null), (.iadd, .null)]
theorem bk_X10_cross_29_34 : zchk cX10_cross bb_X10_cross_29_34 29 = true ∧ zpc bb_X10_cross_29_34 29 = 34 := ⟨by decide +kernel, rfl⟩
abbrev bb_X10_cross_35_38 : ZB := [(.istore 4, .null), (.aload_n 0, .null)]
theorem bk_X10_cross_35_38 : zchk cX10_cross bb_X10_cross_35_38 35 = true ∧ zpc bb_X10_cross_35_38 35 = 38 := ⟨by decide +kernel, rfl⟩
abbrev bb_X10_cross_41_47 : ZB := [(.iconst 2, .int 2), (.iload_n 1, .null), (.imul, .null), (.iload_n 2, .null), (.iadd, .null), (.iload_n 3, .null)]
theorem bk_X10_cross_41_47 : zchk cX10_cross bb_X10_cross_41_47 41 = true ∧ zpc bb_X10_cross_41_47 41 = 47 := ⟨by decide +kernel, rfl⟩
abbrev bb_X10_cross_48_50 : ZB := [(.iload 4, .null)]
theorem bk_X10_cross_48_50 : zchk cX10_cross bb_X10_cross_48_50 48 = true ∧ zpc bb_X10_cross_48_50 48 = 50 := ⟨by decide +kernel, rfl⟩
set_option maxHeartbeats 4000000 in
set_option maxRecDepth 100000 in
theorem c_X10_cross (l : Launch) (G : KG) (x : Nat) (told : Nat) (reader : Nat) (ring : Nat) (speeds : Nat) (wheel : Nat) (trials : Nat) (span : Nat) (search : Nat) (kept : Nat) (crosses : Nat) (trueM : Nat) (thought : Nat) (up : Nat) (low : Nat) (fits : Nat) (bearing : Int32) (plane : Int32) (v : Int32) (bearingi : Int) (planei : Int) (vi : Int) (hbearing : bearing.toInt = bearingi) (hplane : plane.toInt = planei) (hv : v.toInt = vi) : Ct l G yX10_cross cX10_cross 5 (some .int) { frames := 1, cells := 0, slots := 0, locals := 21 } [.ref x, .int bearing, .int plane, .int v] [(x, ob 10 [.ref told, .ref reader, .ref ring, .ref speeds, .ref wheel, .ref trials, .ref span, .ref search, .ref kept, .ref crosses, .ref trueM, .ref thought, .ref up, .ref low, .ref fits, .null]), (crosses, aI G 4 (upd (upd (upd (upd (fun _ => 0) 0 1) 1 0) 2 0) 3 1))] (fun r _ => r = some (.int (an_cross bearingi planei vi))) := by
  refine ct_of [(0, .ref x), (1, .int bearing), (2, .int plane), (3, .int v)] (by decide) (Nat.le_of_ble_eq_true rfl) rfl ?_
  intro p0 e0 s0 m0 args0 below0 meth0 c0 A X
  refine z_run X bb_X10_cross_0_1 bk_X10_cross_0_1 (lv' := [(0, .ref x), (1, .int bearing), (2, .int plane), (3, .int v)]) (st' := [.int bearing]) rfl ?_
  refine z_callS X k_10_156 (c_X10_isOneOfTwo l G bearing bearingi hbearing) d_X10_cross_1 ⟨Nat.le_of_ble_eq_true rfl, Nat.le_of_ble_eq_true rfl⟩ ⟨Nat.le_of_ble_eq_true rfl, Nat.le_of_ble_eq_true rfl⟩ rfl (rest := []) (As := [.int bearing]) rfl (Nat.le_of_ble_eq_true rfl) [] [0, 1] rfl (by decide) (wr := [(x, ob 10 [.ref told, .ref reader, .ref ring, .ref speeds, .ref wheel, .ref trials, .ref span, .ref search, .ref kept, .ref crosses, .ref trueM, .ref thought, .ref up, .ref low, .ref fits, .null]), (crosses, aI G 4 (upd (upd (upd (upd (fun _ => 0) 0 1) 1 0) 2 0) 3 1))]) rfl (by decide) (by decide) ?_
  rintro _ _ ⟨rfl, rfl⟩
  refine Z.at (pc' := 4) (st' := [.int (zb (decide (bearingi = 0 ∨ bearingi = 1)))]) (ws' := [(x, ob 10 [.ref told, .ref reader, .ref ring, .ref speeds, .ref wheel, .ref trials, .ref span, .ref search, .ref kept, .ref crosses, .ref trueM, .ref thought, .ref up, .ref low, .ref fits, .null]), (crosses, aI G 4 (upd (upd (upd (upd (fun _ => 0) 0 1) 1 0) 2 0) 3 1))]) (kc' := 0) (ks' := 0) rfl rfl rfl rfl rfl ?_
  refine zi_eq_zb X d_X10_cross_4 (tgt := 23) (by decide) (fun c4_1 => ?_) (fun c4_1 => ?_)
  ·
    refine z_run X bb_X10_cross_23_24 bk_X10_cross_23_24 (lv' := [(0, .ref x), (1, .int bearing), (2, .int plane), (3, .int v)]) (st' := [.int (-1)]) rfl ?_
    exact z_iret X rfl d_X10_cross_24 (Nat.le_of_ble_eq_true rfl) (Nat.le_of_ble_eq_true rfl) (congrArg (fun z => some (Value.int z)) (by unfold an_cross; (repeat' split) <;> first | rfl | (exfalso; omega)))
  ·
    refine z_run X bb_X10_cross_7_8 bk_X10_cross_7_8 (lv' := [(0, .ref x), (1, .int bearing), (2, .int plane), (3, .int v)]) (st' := [.int plane]) rfl ?_
    refine z_callS X k_10_156 (c_X10_isOneOfTwo l G plane planei hplane) d_X10_cross_8 ⟨Nat.le_of_ble_eq_true rfl, Nat.le_of_ble_eq_true rfl⟩ ⟨Nat.le_of_ble_eq_true rfl, Nat.le_of_ble_eq_true rfl⟩ rfl (rest := []) (As := [.int plane]) rfl (Nat.le_of_ble_eq_true rfl) [] [0, 1] rfl (by decide) (wr := [(x, ob 10 [.ref told, .ref reader, .ref ring, .ref speeds, .ref wheel, .ref trials, .ref span, .ref search, .ref kept, .ref crosses, .ref trueM, .ref thought, .ref up, .ref low, .ref fits, .null]), (crosses, aI G 4 (upd (upd (upd (upd (fun _ => 0) 0 1) 1 0) 2 0) 3 1))]) rfl (by decide) (by decide) ?_
    rintro _ _ ⟨rfl, rfl⟩
    refine Z.at (pc' := 11) (st' := [.int (zb (decide (planei = 0 ∨ planei = 1)))]) (ws' := [(x, ob 10 [.ref told, .ref reader, .ref ring, .ref speeds, .ref wheel, .ref trials, .ref span, .ref search, .ref kept, .ref crosses, .ref trueM, .ref thought, .ref up, .ref low, .ref fits, .null]), (crosses, aI G 4 (upd (upd (upd (upd (fun _ => 0) 0 1) 1 0) 2 0) 3 1))]) (kc' := 0) (ks' := 0) rfl rfl rfl rfl rfl ?_
    refine zi_eq_zb X d_X10_cross_11 (tgt := 23) (by decide) (fun c11_2 => ?_) (fun c11_2 => ?_)
    ·
      refine z_run X bb_X10_cross_23_24 bk_X10_cross_23_24 (lv' := [(0, .ref x), (1, .int bearing), (2, .int plane), (3, .int v)]) (st' := [.int (-1)]) rfl ?_
      exact z_iret X rfl d_X10_cross_24 (Nat.le_of_ble_eq_true rfl) (Nat.le_of_ble_eq_true rfl) (congrArg (fun z => some (Value.int z)) (by unfold an_cross; (repeat' split) <;> first | rfl | (exfalso; omega)))
    ·
      refine z_run X bb_X10_cross_14_17 bk_X10_cross_14_17 (lv' := [(0, .ref x), (1, .int bearing), (2, .int plane), (3, .int v)]) (st' := [.int 9, .int v]) rfl ?_
      refine z_callS X k_10_159 (c_X10_isWithin l G v 9 vi 9 hv (show (9 : Int32).toInt = 9 from by decide) (by omega)) d_X10_cross_17 ⟨Nat.le_of_ble_eq_true rfl, Nat.le_of_ble_eq_true rfl⟩ ⟨Nat.le_of_ble_eq_true rfl, Nat.le_of_ble_eq_true rfl⟩ rfl (rest := []) (As := [.int v, .int 9]) rfl (Nat.le_of_ble_eq_true rfl) [] [0, 1] rfl (by decide) (wr := [(x, ob 10 [.ref told, .ref reader, .ref ring, .ref speeds, .ref wheel, .ref trials, .ref span, .ref search, .ref kept, .ref crosses, .ref trueM, .ref thought, .ref up, .ref low, .ref fits, .null]), (crosses, aI G 4 (upd (upd (upd (upd (fun _ => 0) 0 1) 1 0) 2 0) 3 1))]) rfl (by decide) (by decide) ?_
      rintro _ _ ⟨rfl, rfl⟩
      refine Z.at (pc' := 20) (st' := [.int (zb (decide (-9 ≤ vi ∧ vi ≤ 9)))]) (ws' := [(x, ob 10 [.ref told, .ref reader, .ref ring, .ref speeds, .ref wheel, .ref trials, .ref span, .ref search, .ref kept, .ref crosses, .ref trueM, .ref thought, .ref up, .ref low, .ref fits, .null]), (crosses, aI G 4 (upd (upd (upd (upd (fun _ => 0) 0 1) 1 0) 2 0) 3 1))]) (kc' := 0) (ks' := 0) rfl rfl rfl rfl rfl ?_
      refine zi_ne_zb X d_X10_cross_20 (tgt := 25) (by decide) (fun c20_3 => ?_) (fun c20_3 => ?_)
      ·
        rcases (show bearingi = 0 ∨ bearingi = 1 from by omega) with hs | hs
        ·
          obtain rfl : bearing = 0 := i32_eq hbearing (by decide) hs
          refine z_run X bb_X10_cross_25_26 bk_X10_cross_25_26 (lv' := [(0, .ref x), (1, .int 0), (2, .int plane), (3, .int v)]) (st' := [.ref x]) rfl ?_
          rcases (show planei = 0 ∨ planei = 1 from by omega) with hs | hs
          ·
            obtain rfl : plane = 0 := i32_eq hplane (by decide) hs
            refine z_get X fl_10_71 d_X10_cross_26 0 rfl (v := .ref crosses) rfl ?_
            refine z_run X bb_X10_cross_29_34 bk_X10_cross_29_34 (lv' := [(0, .ref x), (1, .int 0), (2, .int 0), (3, .int v)]) (st' := [.int 0, .ref crosses]) rfl ?_
            refine z_iald X d_X10_cross_34 1 rfl (show vp_in _ _ from by unfold vp_in; decide) (v := 1) rfl ?_
            refine z_run X bb_X10_cross_35_38 bk_X10_cross_35_38 (lv' := [(4, .int 1), (0, .ref x), (1, .int 0), (2, .int 0), (3, .int v)]) (st' := [.ref x]) rfl ?_
            refine z_get X fl_10_71 d_X10_cross_38 0 rfl (v := .ref crosses) rfl ?_
            refine z_run X bb_X10_cross_41_47 bk_X10_cross_41_47 (lv' := [(4, .int 1), (0, .ref x), (1, .int 0), (2, .int 0), (3, .int v)]) (st' := [.int v, .int 0, .ref crosses]) rfl ?_
            refine z_iast X d_X10_cross_47 1 rfl (show vp_in _ _ from by unfold vp_in; decide) (ws' := [(x, ob 10 [.ref told, .ref reader, .ref ring, .ref speeds, .ref wheel, .ref trials, .ref span, .ref search, .ref kept, .ref crosses, .ref trueM, .ref thought, .ref up, .ref low, .ref fits, .null]), (crosses, aI G 4 (upd (upd (upd (upd (upd (fun _ => 0) 0 1) 1 0) 2 0) 3 1) 0 v))]) rfl ?_
            refine z_run X bb_X10_cross_48_50 bk_X10_cross_48_50 (lv' := [(4, .int 1), (0, .ref x), (1, .int 0), (2, .int 0), (3, .int v)]) (st' := [.int 1]) rfl ?_
            exact z_iret X rfl d_X10_cross_50 (Nat.le_of_ble_eq_true rfl) (Nat.le_of_ble_eq_true rfl) (congrArg (fun z => some (Value.int z)) (by unfold an_cross; (repeat' split) <;> first | rfl | (exfalso; omega)))
          ·
            obtain rfl : plane = 1 := i32_eq hplane (by decide) hs
            refine z_get X fl_10_71 d_X10_cross_26 0 rfl (v := .ref crosses) rfl ?_
            refine z_run X bb_X10_cross_29_34 bk_X10_cross_29_34 (lv' := [(0, .ref x), (1, .int 0), (2, .int 1), (3, .int v)]) (st' := [.int 1, .ref crosses]) rfl ?_
            refine z_iald X d_X10_cross_34 1 rfl (show vp_in _ _ from by unfold vp_in; decide) (v := 0) rfl ?_
            refine z_run X bb_X10_cross_35_38 bk_X10_cross_35_38 (lv' := [(4, .int 0), (0, .ref x), (1, .int 0), (2, .int 1), (3, .int v)]) (st' := [.ref x]) rfl ?_
            refine z_get X fl_10_71 d_X10_cross_38 0 rfl (v := .ref crosses) rfl ?_
            refine z_run X bb_X10_cross_41_47 bk_X10_cross_41_47 (lv' := [(4, .int 0), (0, .ref x), (1, .int 0), (2, .int 1), (3, .int v)]) (st' := [.int v, .int 1, .ref crosses]) rfl ?_
            refine z_iast X d_X10_cross_47 1 rfl (show vp_in _ _ from by unfold vp_in; decide) (ws' := [(x, ob 10 [.ref told, .ref reader, .ref ring, .ref speeds, .ref wheel, .ref trials, .ref span, .ref search, .ref kept, .ref crosses, .ref trueM, .ref thought, .ref up, .ref low, .ref fits, .null]), (crosses, aI G 4 (upd (upd (upd (upd (upd (fun _ => 0) 0 1) 1 0) 2 0) 3 1) 1 v))]) rfl ?_
            refine z_run X bb_X10_cross_48_50 bk_X10_cross_48_50 (lv' := [(4, .int 0), (0, .ref x), (1, .int 0), (2, .int 1), (3, .int v)]) (st' := [.int 0]) rfl ?_
            exact z_iret X rfl d_X10_cross_50 (Nat.le_of_ble_eq_true rfl) (Nat.le_of_ble_eq_true rfl) (congrArg (fun z => some (Value.int z)) (by unfold an_cross; (repeat' split) <;> first | rfl | (exfalso; omega)))
        ·
          obtain rfl : bearing = 1 := i32_eq hbearing (by decide) hs
          refine z_run X bb_X10_cross_25_26 bk_X10_cross_25_26 (lv' := [(0, .ref x), (1, .int 1), (2, .int plane), (3, .int v)]) (st' := [.ref x]) rfl ?_
          rcases (show planei = 0 ∨ planei = 1 from by omega) with hs | hs
          ·
            obtain rfl : plane = 0 := i32_eq hplane (by decide) hs
            refine z_get X fl_10_71 d_X10_cross_26 0 rfl (v := .ref crosses) rfl ?_
            refine z_run X bb_X10_cross_29_34 bk_X10_cross_29_34 (lv' := [(0, .ref x), (1, .int 1), (2, .int 0), (3, .int v)]) (st' := [.int 2, .ref crosses]) rfl ?_
            refine z_iald X d_X10_cross_34 1 rfl (show vp_in _ _ from by unfold vp_in; decide) (v := 0) rfl ?_
            refine z_run X bb_X10_cross_35_38 bk_X10_cross_35_38 (lv' := [(4, .int 0), (0, .ref x), (1, .int 1), (2, .int 0), (3, .int v)]) (st' := [.ref x]) rfl ?_
            refine z_get X fl_10_71 d_X10_cross_38 0 rfl (v := .ref crosses) rfl ?_
            refine z_run X bb_X10_cross_41_47 bk_X10_cross_41_47 (lv' := [(4, .int 0), (0, .ref x), (1, .int 1), (2, .int 0), (3, .int v)]) (st' := [.int v, .int 2, .ref crosses]) rfl ?_
            refine z_iast X d_X10_cross_47 1 rfl (show vp_in _ _ from by unfold vp_in; decide) (ws' := [(x, ob 10 [.ref told, .ref reader, .ref ring, .ref speeds, .ref wheel, .ref trials, .ref span, .ref search, .ref kept, .ref crosses, .ref trueM, .ref thought, .ref up, .ref low, .ref fits, .null]), (crosses, aI G 4 (upd (upd (upd (upd (upd (fun _ => 0) 0 1) 1 0) 2 0) 3 1) 2 v))]) rfl ?_
            refine z_run X bb_X10_cross_48_50 bk_X10_cross_48_50 (lv' := [(4, .int 0), (0, .ref x), (1, .int 1), (2, .int 0), (3, .int v)]) (st' := [.int 0]) rfl ?_
            exact z_iret X rfl d_X10_cross_50 (Nat.le_of_ble_eq_true rfl) (Nat.le_of_ble_eq_true rfl) (congrArg (fun z => some (Value.int z)) (by unfold an_cross; (repeat' split) <;> first | rfl | (exfalso; omega)))
          ·
            obtain rfl : plane = 1 := i32_eq hplane (by decide) hs
            refine z_get X fl_10_71 d_X10_cross_26 0 rfl (v := .ref crosses) rfl ?_
            refine z_run X bb_X10_cross_29_34 bk_X10_cross_29_34 (lv' := [(0, .ref x), (1, .int 1), (2, .int 1), (3, .int v)]) (st' := [.int 3, .ref crosses]) rfl ?_
            refine z_iald X d_X10_cross_34 1 rfl (show vp_in _ _ from by unfold vp_in; decide) (v := 1) rfl ?_
            refine z_run X bb_X10_cross_35_38 bk_X10_cross_35_38 (lv' := [(4, .int 1), (0, .ref x), (1, .int 1), (2, .int 1), (3, .int v)]) (st' := [.ref x]) rfl ?_
            refine z_get X fl_10_71 d_X10_cross_38 0 rfl (v := .ref crosses) rfl ?_
            refine z_run X bb_X10_cross_41_47 bk_X10_cross_41_47 (lv' := [(4, .int 1), (0, .ref x), (1, .int 1), (2, .int 1), (3, .int v)]) (st' := [.int v, .int 3, .ref crosses]) rfl ?_
            refine z_iast X d_X10_cross_47 1 rfl (show vp_in _ _ from by unfold vp_in; decide) (ws' := [(x, ob 10 [.ref told, .ref reader, .ref ring, .ref speeds, .ref wheel, .ref trials, .ref span, .ref search, .ref kept, .ref crosses, .ref trueM, .ref thought, .ref up, .ref low, .ref fits, .null]), (crosses, aI G 4 (upd (upd (upd (upd (upd (fun _ => 0) 0 1) 1 0) 2 0) 3 1) 3 v))]) rfl ?_
            refine z_run X bb_X10_cross_48_50 bk_X10_cross_48_50 (lv' := [(4, .int 1), (0, .ref x), (1, .int 1), (2, .int 1), (3, .int v)]) (st' := [.int 1]) rfl ?_
            exact z_iret X rfl d_X10_cross_50 (Nat.le_of_ble_eq_true rfl) (Nat.le_of_ble_eq_true rfl) (congrArg (fun z => some (Value.int z)) (by unfold an_cross; (repeat' split) <;> first | rfl | (exfalso; omega)))
      ·
        refine z_run X bb_X10_cross_23_24 bk_X10_cross_23_24 (lv' := [(0, .ref x), (1, .int bearing), (2, .int plane), (3, .int v)]) (st' := [.int (-1)]) rfl ?_
        exact z_iret X rfl d_X10_cross_24 (Nat.le_of_ble_eq_true rfl) (Nat.le_of_ble_eq_true rfl) (congrArg (fun z => some (Value.int z)) (by unfold an_cross; (repeat' split) <;> first | rfl | (exfalso; omega)))

theorem d_X10_setMass_1 : decode cX10_setMass 1 = .ok (.ifCond .lt 28, 3) := by decide +kernel
theorem d_X10_setMass_30 : decode cX10_setMass 30 = .ok (.ireturn, 1) := by decide +kernel
theorem d_X10_setMass_6 : decode cX10_setMass 6 = .ok (.if_icmp .gt 23, 3) := by decide +kernel
theorem d_X10_setMass_13 : decode cX10_setMass 13 = .ok (.invokestatic 159, 3) := by decide +kernel
theorem d_X10_setMass_16 : decode cX10_setMass 16 = .ok (.ifCond .eq 13, 3) := by decide +kernel
theorem d_X10_setMass_23 : decode cX10_setMass 23 = .ok (.invokestatic 159, 3) := by decide +kernel
theorem d_X10_setMass_26 : decode cX10_setMass 26 = .ok (.ifCond .ne 5, 3) := by decide +kernel
theorem d_X10_setMass_36 : decode cX10_setMass 36 = .ok (.iastore, 1) := by decide +kernel
theorem d_X10_setMass_44 : decode cX10_setMass 44 = .ok (.iastore, 1) := by decide +kernel
theorem d_X10_setMass_46 : decode cX10_setMass 46 = .ok (.ireturn, 1) := by decide +kernel
abbrev bb_X10_setMass_0_1 : ZB := [(.iload_n 1, .null)]
theorem bk_X10_setMass_0_1 : zchk cX10_setMass bb_X10_setMass_0_1 0 = true ∧ zpc bb_X10_setMass_0_1 0 = 1 := ⟨by decide +kernel, rfl⟩
abbrev bb_X10_setMass_29_30 : ZB := [(.iconst 0, .int 0)]
theorem bk_X10_setMass_29_30 : zchk cX10_setMass bb_X10_setMass_29_30 29 = true ∧ zpc bb_X10_setMass_29_30 29 = 30 := ⟨by decide +kernel, rfl⟩
abbrev bb_X10_setMass_4_6 : ZB := [(.iload_n 1, .null), (.iconst 3, .int 3)]
theorem bk_X10_setMass_4_6 : zchk cX10_setMass bb_X10_setMass_4_6 4 = true ∧ zpc bb_X10_setMass_4_6 4 = 6 := ⟨by decide +kernel, rfl⟩
abbrev bb_X10_setMass_9_13 : ZB := [(.iload_n 2, .null), (.sipush 9999, .int 9999)]
theorem bk_X10_setMass_9_13 : zchk cX10_setMass bb_X10_setMass_9_13 9 = true ∧ zpc bb_X10_setMass_9_13 9 = 13 := ⟨by decide +kernel, rfl⟩
abbrev bb_X10_setMass_19_23 : ZB := [(.iload_n 3, .null), (.sipush 9999, .int 9999)]
theorem bk_X10_setMass_19_23 : zchk cX10_setMass bb_X10_setMass_19_23 19 = true ∧ zpc bb_X10_setMass_19_23 19 = 23 := ⟨by decide +kernel, rfl⟩
abbrev bb_X10_setMass_31_36 : ZB := [(.aload_n 0, .null), (.iconst 2, .int 2), (.iload_n 1, .null), (.imul, .null), (.iload_n 2, .null)]
theorem bk_X10_setMass_31_36 : zchk cX10_setMass bb_X10_setMass_31_36 31 = true ∧ zpc bb_X10_setMass_31_36 31 = 36 := ⟨by decide +kernel, rfl⟩
abbrev bb_X10_setMass_37_44 : ZB := [(.aload_n 0, .null), (.iconst 2, .int 2), (.iload_n 1, .null), (.imul, .null), (.iconst 1, .int 1), (.iadd, .null), (.iload_n 3, .null)]
theorem bk_X10_setMass_37_44 : zchk cX10_setMass bb_X10_setMass_37_44 37 = true ∧ zpc bb_X10_setMass_37_44 37 = 44 := ⟨by decide +kernel, rfl⟩
abbrev bb_X10_setMass_45_46 : ZB := [(.iconst 1, .int 1)]
theorem bk_X10_setMass_45_46 : zchk cX10_setMass bb_X10_setMass_45_46 45 = true ∧ zpc bb_X10_setMass_45_46 45 = 46 := ⟨by decide +kernel, rfl⟩
set_option maxHeartbeats 4000000 in
set_option maxRecDepth 100000 in
theorem c_X10_setMass (l : Launch) (G : KG) (masses : Nat) (what : Int32) (x : Int32) (y : Int32) (f : Nat → Int32) (wi : Int) (xi : Int) (yi : Int) (hwhat : what.toInt = wi) (hx : x.toInt = xi) (hy : y.toInt = yi) : Ct l G yX10_setMass cX10_setMass 4 (some .boolean) { frames := 1, cells := 0, slots := 0, locals := 21 } [.ref masses, .int what, .int x, .int y] [(masses, aI G 8 f)] (fun r _ => r = some (.int (zb (decide (0 ≤ wi ∧ wi ≤ 3 ∧ -9999 ≤ xi ∧ xi ≤ 9999 ∧ -9999 ≤ yi ∧ yi ≤ 9999))))) := by
  refine ct_of [(0, .ref masses), (1, .int what), (2, .int x), (3, .int y)] (by decide) (Nat.le_of_ble_eq_true rfl) rfl ?_
  intro p0 e0 s0 m0 args0 below0 meth0 c0 A X
  refine z_run X bb_X10_setMass_0_1 bk_X10_setMass_0_1 (lv' := [(0, .ref masses), (1, .int what), (2, .int x), (3, .int y)]) (st' := [.int what]) rfl ?_
  refine zi_lt X d_X10_setMass_1 (tgt := 29) (by decide) (a := wi) hwhat (fun c1_1 => ?_) (fun c1_1 => ?_)
  ·
    refine z_run X bb_X10_setMass_29_30 bk_X10_setMass_29_30 (lv' := [(0, .ref masses), (1, .int what), (2, .int x), (3, .int y)]) (st' := [.int 0]) rfl ?_
    exact z_zret X rfl rfl d_X10_setMass_30 (Nat.le_of_ble_eq_true rfl) (Nat.le_of_ble_eq_true rfl) (congrArg (fun z => some (Value.int z)) (zb_f (by omega)).symm)
  ·
    refine z_run X bb_X10_setMass_4_6 bk_X10_setMass_4_6 (lv' := [(0, .ref masses), (1, .int what), (2, .int x), (3, .int y)]) (st' := [.int 3, .int what]) rfl ?_
    refine zc_gt X d_X10_setMass_6 (tgt := 29) (by decide) (a := wi) (b := 3) hwhat (show (3 : Int32).toInt = 3 from by decide) (fun c6_2 => ?_) (fun c6_2 => ?_)
    ·
      refine z_run X bb_X10_setMass_29_30 bk_X10_setMass_29_30 (lv' := [(0, .ref masses), (1, .int what), (2, .int x), (3, .int y)]) (st' := [.int 0]) rfl ?_
      exact z_zret X rfl rfl d_X10_setMass_30 (Nat.le_of_ble_eq_true rfl) (Nat.le_of_ble_eq_true rfl) (congrArg (fun z => some (Value.int z)) (zb_f (by omega)).symm)
    ·
      refine z_run X bb_X10_setMass_9_13 bk_X10_setMass_9_13 (lv' := [(0, .ref masses), (1, .int what), (2, .int x), (3, .int y)]) (st' := [.int 9999, .int x]) rfl ?_
      refine z_callS X k_10_159 (c_X10_isWithin l G x 9999 xi 9999 hx (show (9999 : Int32).toInt = 9999 from by decide) (by omega)) d_X10_setMass_13 ⟨Nat.le_of_ble_eq_true rfl, Nat.le_of_ble_eq_true rfl⟩ ⟨Nat.le_of_ble_eq_true rfl, Nat.le_of_ble_eq_true rfl⟩ rfl (rest := []) (As := [.int x, .int 9999]) rfl (Nat.le_of_ble_eq_true rfl) [] [0] rfl (by decide) (wr := [(masses, aI G 8 f)]) rfl (by decide) (by decide) ?_
      rintro _ _ ⟨rfl, rfl⟩
      refine Z.at (pc' := 16) (st' := [.int (zb (decide (-9999 ≤ xi ∧ xi ≤ 9999)))]) (ws' := [(masses, aI G 8 f)]) (kc' := 0) (ks' := 0) rfl rfl rfl rfl rfl ?_
      refine zi_eq_zb X d_X10_setMass_16 (tgt := 29) (by decide) (fun c16_3 => ?_) (fun c16_3 => ?_)
      ·
        refine z_run X bb_X10_setMass_29_30 bk_X10_setMass_29_30 (lv' := [(0, .ref masses), (1, .int what), (2, .int x), (3, .int y)]) (st' := [.int 0]) rfl ?_
        exact z_zret X rfl rfl d_X10_setMass_30 (Nat.le_of_ble_eq_true rfl) (Nat.le_of_ble_eq_true rfl) (congrArg (fun z => some (Value.int z)) (zb_f (by omega)).symm)
      ·
        refine z_run X bb_X10_setMass_19_23 bk_X10_setMass_19_23 (lv' := [(0, .ref masses), (1, .int what), (2, .int x), (3, .int y)]) (st' := [.int 9999, .int y]) rfl ?_
        refine z_callS X k_10_159 (c_X10_isWithin l G y 9999 yi 9999 hy (show (9999 : Int32).toInt = 9999 from by decide) (by omega)) d_X10_setMass_23 ⟨Nat.le_of_ble_eq_true rfl, Nat.le_of_ble_eq_true rfl⟩ ⟨Nat.le_of_ble_eq_true rfl, Nat.le_of_ble_eq_true rfl⟩ rfl (rest := []) (As := [.int y, .int 9999]) rfl (Nat.le_of_ble_eq_true rfl) [] [0] rfl (by decide) (wr := [(masses, aI G 8 f)]) rfl (by decide) (by decide) ?_
        rintro _ _ ⟨rfl, rfl⟩
        refine Z.at (pc' := 26) (st' := [.int (zb (decide (-9999 ≤ yi ∧ yi ≤ 9999)))]) (ws' := [(masses, aI G 8 f)]) (kc' := 0) (ks' := 0) rfl rfl rfl rfl rfl ?_
        refine zi_ne_zb X d_X10_setMass_26 (tgt := 31) (by decide) (fun c26_4 => ?_) (fun c26_4 => ?_)
        ·
          refine z_run X bb_X10_setMass_31_36 bk_X10_setMass_31_36 (lv' := [(0, .ref masses), (1, .int what), (2, .int x), (3, .int y)]) (st' := [.int x, .int (2 * what), .ref masses]) rfl ?_
          refine z_iast X d_X10_setMass_36 0 rfl (vin (tI_mul (show (2 : Int32).toInt = 2 from by decide) hwhat (by omega)) (by omega) (by omega)) (ws' := [(masses, aI G 8 (upd f (2 * what).toNatClampNeg x))]) rfl ?_
          refine z_run X bb_X10_setMass_37_44 bk_X10_setMass_37_44 (lv' := [(0, .ref masses), (1, .int what), (2, .int x), (3, .int y)]) (st' := [.int y, .int ((2 * what) + 1), .ref masses]) rfl ?_
          refine z_iast X d_X10_setMass_44 0 rfl (vin (tI_add (tI_mul (show (2 : Int32).toInt = 2 from by decide) hwhat (by omega)) (show (1 : Int32).toInt = 1 from by decide) (by omega)) (by omega) (by omega)) (ws' := [(masses, aI G 8 (upd (upd f (2 * what).toNatClampNeg x) ((2 * what) + 1).toNatClampNeg y))]) rfl ?_
          refine z_run X bb_X10_setMass_45_46 bk_X10_setMass_45_46 (lv' := [(0, .ref masses), (1, .int what), (2, .int x), (3, .int y)]) (st' := [.int 1]) rfl ?_
          exact z_zret X rfl rfl d_X10_setMass_46 (Nat.le_of_ble_eq_true rfl) (Nat.le_of_ble_eq_true rfl) (congrArg (fun z => some (Value.int z)) (zb_t (by omega)).symm)
        ·
          refine z_run X bb_X10_setMass_29_30 bk_X10_setMass_29_30 (lv' := [(0, .ref masses), (1, .int what), (2, .int x), (3, .int y)]) (st' := [.int 0]) rfl ?_
          exact z_zret X rfl rfl d_X10_setMass_30 (Nat.le_of_ble_eq_true rfl) (Nat.le_of_ble_eq_true rfl) (congrArg (fun z => some (Value.int z)) (zb_f (by omega)).symm)

theorem d_X10_truly_1 : decode cX10_truly 1 = .ok (.getfield 75, 3) := by decide +kernel
theorem d_X10_truly_7 : decode cX10_truly 7 = .ok (.invokestatic 163, 3) := by decide +kernel
theorem d_X10_truly_10 : decode cX10_truly 10 = .ok (.ireturn, 1) := by decide +kernel
abbrev bb_X10_truly_0_1 : ZB := [(.aload_n 0, .null)]
theorem bk_X10_truly_0_1 : zchk cX10_truly bb_X10_truly_0_1 0 = true ∧ zpc bb_X10_truly_0_1 0 = 1 := ⟨by decide +kernel, rfl⟩
abbrev bb_X10_truly_4_7 : ZB := [(.iload_n 1, .null), (.iload_n 2, .null), (.iload_n 3, .null)]
theorem bk_X10_truly_4_7 : zchk cX10_truly bb_X10_truly_4_7 4 = true ∧ zpc bb_X10_truly_4_7 4 = 7 := ⟨by decide +kernel, rfl⟩
set_option maxHeartbeats 4000000 in
set_option maxRecDepth 100000 in
theorem c_X10_truly (l : Launch) (G : KG) (x : Nat) (told : Nat) (reader : Nat) (ring : Nat) (speeds : Nat) (wheel : Nat) (trials : Nat) (span : Nat) (search : Nat) (kept : Nat) (crosses : Nat) (trueM : Nat) (thought : Nat) (up : Nat) (low : Nat) (fits : Nat) (what : Int32) (px : Int32) (py : Int32) (whati : Int) (pxi : Int) (pyi : Int) (hwhat : what.toInt = whati) (hpx : px.toInt = pxi) (hpy : py.toInt = pyi) : Ct l G yX10_truly cX10_truly 4 (some .boolean) { frames := 2, cells := 0, slots := 0, locals := 44 } [.ref x, .int what, .int px, .int py] [(x, ob 10 [.ref told, .ref reader, .ref ring, .ref speeds, .ref wheel, .ref trials, .ref span, .ref search, .ref kept, .ref crosses, .ref trueM, .ref thought, .ref up, .ref low, .ref fits, .null]), (trueM, aI G 8 (fun _ => 0))] (fun r _ => r = some (.int (zb (decide (0 ≤ whati ∧ whati ≤ 3 ∧ -9999 ≤ pxi ∧ pxi ≤ 9999 ∧ -9999 ≤ pyi ∧ pyi ≤ 9999))))) := by
  refine ct_of [(0, .ref x), (1, .int what), (2, .int px), (3, .int py)] (by decide) (Nat.le_of_ble_eq_true rfl) rfl ?_
  intro p0 e0 s0 m0 args0 below0 meth0 c0 A X
  refine z_run X bb_X10_truly_0_1 bk_X10_truly_0_1 (lv' := [(0, .ref x), (1, .int what), (2, .int px), (3, .int py)]) (st' := [.ref x]) rfl ?_
  refine z_get X fl_10_75 d_X10_truly_1 0 rfl (v := .ref trueM) rfl ?_
  refine z_run X bb_X10_truly_4_7 bk_X10_truly_4_7 (lv' := [(0, .ref x), (1, .int what), (2, .int px), (3, .int py)]) (st' := [.int py, .int px, .int what, .ref trueM]) rfl ?_
  refine z_callS X k_10_163 (c_X10_setMass l G trueM what px py (fun _ => 0) whati pxi pyi hwhat hpx hpy) d_X10_truly_7 ⟨Nat.le_of_ble_eq_true rfl, Nat.le_of_ble_eq_true rfl⟩ ⟨Nat.le_of_ble_eq_true rfl, Nat.le_of_ble_eq_true rfl⟩ rfl (rest := []) (As := [.ref trueM, .int what, .int px, .int py]) rfl (Nat.le_of_ble_eq_true rfl) [1] [0] rfl (by decide) (wr := [(x, ob 10 [.ref told, .ref reader, .ref ring, .ref speeds, .ref wheel, .ref trials, .ref span, .ref search, .ref kept, .ref crosses, .ref trueM, .ref thought, .ref up, .ref low, .ref fits, .null])]) rfl (by decide) (by decide) ?_
  rintro _ _ rfl
  refine Z.sub (lv' := [(0, .ref x), (1, .int what), (2, .int px), (3, .int py)]) [0, 1, 2, 3] rfl [0] (ws' := [(x, ob 10 [.ref told, .ref reader, .ref ring, .ref speeds, .ref wheel, .ref trials, .ref span, .ref search, .ref kept, .ref crosses, .ref trueM, .ref thought, .ref up, .ref low, .ref fits, .null])]) rfl (by decide) ?_
  refine Z.at (pc' := 10) (st' := [.int (zb (decide (0 ≤ whati ∧ whati ≤ 3 ∧ -9999 ≤ pxi ∧ pxi ≤ 9999 ∧ -9999 ≤ pyi ∧ pyi ≤ 9999)))]) (ws' := [(x, ob 10 [.ref told, .ref reader, .ref ring, .ref speeds, .ref wheel, .ref trials, .ref span, .ref search, .ref kept, .ref crosses, .ref trueM, .ref thought, .ref up, .ref low, .ref fits, .null])]) (kc' := 0) (ks' := 0) rfl rfl rfl rfl rfl ?_
  exact z_zret X rfl (zb_n _) d_X10_truly_10 (Nat.le_of_ble_eq_true rfl) (Nat.le_of_ble_eq_true rfl) rfl

theorem d_X10_think_1 : decode cX10_think 1 = .ok (.getfield 78, 3) := by decide +kernel
theorem d_X10_think_7 : decode cX10_think 7 = .ok (.invokestatic 163, 3) := by decide +kernel
theorem d_X10_think_10 : decode cX10_think 10 = .ok (.ireturn, 1) := by decide +kernel
abbrev bb_X10_think_0_1 : ZB := [(.aload_n 0, .null)]
theorem bk_X10_think_0_1 : zchk cX10_think bb_X10_think_0_1 0 = true ∧ zpc bb_X10_think_0_1 0 = 1 := ⟨by decide +kernel, rfl⟩
abbrev bb_X10_think_4_7 : ZB := [(.iload_n 1, .null), (.iload_n 2, .null), (.iload_n 3, .null)]
theorem bk_X10_think_4_7 : zchk cX10_think bb_X10_think_4_7 4 = true ∧ zpc bb_X10_think_4_7 4 = 7 := ⟨by decide +kernel, rfl⟩
set_option maxHeartbeats 4000000 in
set_option maxRecDepth 100000 in
theorem c_X10_think (l : Launch) (G : KG) (x : Nat) (told : Nat) (reader : Nat) (ring : Nat) (speeds : Nat) (wheel : Nat) (trials : Nat) (span : Nat) (search : Nat) (kept : Nat) (crosses : Nat) (trueM : Nat) (thought : Nat) (up : Nat) (low : Nat) (fits : Nat) (what : Int32) (px : Int32) (py : Int32) (whati : Int) (pxi : Int) (pyi : Int) (hwhat : what.toInt = whati) (hpx : px.toInt = pxi) (hpy : py.toInt = pyi) : Ct l G yX10_think cX10_think 4 (some .boolean) { frames := 2, cells := 0, slots := 0, locals := 44 } [.ref x, .int what, .int px, .int py] [(x, ob 10 [.ref told, .ref reader, .ref ring, .ref speeds, .ref wheel, .ref trials, .ref span, .ref search, .ref kept, .ref crosses, .ref trueM, .ref thought, .ref up, .ref low, .ref fits, .null]), (thought, aI G 8 (fun _ => 0))] (fun r _ => r = some (.int (zb (decide (0 ≤ whati ∧ whati ≤ 3 ∧ -9999 ≤ pxi ∧ pxi ≤ 9999 ∧ -9999 ≤ pyi ∧ pyi ≤ 9999))))) := by
  refine ct_of [(0, .ref x), (1, .int what), (2, .int px), (3, .int py)] (by decide) (Nat.le_of_ble_eq_true rfl) rfl ?_
  intro p0 e0 s0 m0 args0 below0 meth0 c0 A X
  refine z_run X bb_X10_think_0_1 bk_X10_think_0_1 (lv' := [(0, .ref x), (1, .int what), (2, .int px), (3, .int py)]) (st' := [.ref x]) rfl ?_
  refine z_get X fl_10_78 d_X10_think_1 0 rfl (v := .ref thought) rfl ?_
  refine z_run X bb_X10_think_4_7 bk_X10_think_4_7 (lv' := [(0, .ref x), (1, .int what), (2, .int px), (3, .int py)]) (st' := [.int py, .int px, .int what, .ref thought]) rfl ?_
  refine z_callS X k_10_163 (c_X10_setMass l G thought what px py (fun _ => 0) whati pxi pyi hwhat hpx hpy) d_X10_think_7 ⟨Nat.le_of_ble_eq_true rfl, Nat.le_of_ble_eq_true rfl⟩ ⟨Nat.le_of_ble_eq_true rfl, Nat.le_of_ble_eq_true rfl⟩ rfl (rest := []) (As := [.ref thought, .int what, .int px, .int py]) rfl (Nat.le_of_ble_eq_true rfl) [1] [0] rfl (by decide) (wr := [(x, ob 10 [.ref told, .ref reader, .ref ring, .ref speeds, .ref wheel, .ref trials, .ref span, .ref search, .ref kept, .ref crosses, .ref trueM, .ref thought, .ref up, .ref low, .ref fits, .null])]) rfl (by decide) (by decide) ?_
  rintro _ _ rfl
  refine Z.sub (lv' := [(0, .ref x), (1, .int what), (2, .int px), (3, .int py)]) [0, 1, 2, 3] rfl [0] (ws' := [(x, ob 10 [.ref told, .ref reader, .ref ring, .ref speeds, .ref wheel, .ref trials, .ref span, .ref search, .ref kept, .ref crosses, .ref trueM, .ref thought, .ref up, .ref low, .ref fits, .null])]) rfl (by decide) ?_
  refine Z.at (pc' := 10) (st' := [.int (zb (decide (0 ≤ whati ∧ whati ≤ 3 ∧ -9999 ≤ pxi ∧ pxi ≤ 9999 ∧ -9999 ≤ pyi ∧ pyi ≤ 9999)))]) (ws' := [(x, ob 10 [.ref told, .ref reader, .ref ring, .ref speeds, .ref wheel, .ref trials, .ref span, .ref search, .ref kept, .ref crosses, .ref trueM, .ref thought, .ref up, .ref low, .ref fits, .null])]) (kc' := 0) (ks' := 0) rfl rfl rfl rfl rfl ?_
  exact z_zret X rfl (zb_n _) d_X10_think_10 (Nat.le_of_ble_eq_true rfl) (Nat.le_of_ble_eq_true rfl) rfl

theorem d_X10_pound_2 : decode cX10_pound 2 = .ok (.if_icmp .ne 21, 3) := by decide +kernel
theorem d_X10_pound_24 : decode cX10_pound 24 = .ok (.getfield 26, 3) := by decide +kernel
theorem d_X10_pound_28 : decode cX10_pound 28 = .ok (.invokevirtual 106, 3) := by decide +kernel
theorem d_X10_pound_31 : decode cX10_pound 31 = .ok (.ifCond .eq 14, 3) := by decide +kernel
theorem d_X10_pound_46 : decode cX10_pound 46 = .ok (.ireturn, 1) := by decide +kernel
theorem d_X10_pound_6 : decode cX10_pound 6 = .ok (.getfield 26, 3) := by decide +kernel
theorem d_X10_pound_10 : decode cX10_pound 10 = .ok (.putfield 167, 3) := by decide +kernel
theorem d_X10_pound_14 : decode cX10_pound 14 = .ok (.getfield 26, 3) := by decide +kernel
theorem d_X10_pound_18 : decode cX10_pound 18 = .ok (.putfield 170, 3) := by decide +kernel
theorem d_X10_pound_22 : decode cX10_pound 22 = .ok (.ireturn, 1) := by decide +kernel
abbrev bb_X10_pound_0_2 : ZB := [(.iload_n 1, .null), (.iconst (-1), .int (-1))]
theorem bk_X10_pound_0_2 : zchk cX10_pound bb_X10_pound_0_2 0 = true ∧ zpc bb_X10_pound_0_2 0 = 2 := ⟨by decide +kernel, rfl⟩
abbrev bb_X10_pound_23_24 : ZB := [(.aload_n 0, .null)]
theorem bk_X10_pound_23_24 : zchk cX10_pound bb_X10_pound_23_24 23 = true ∧ zpc bb_X10_pound_23_24 23 = 24 := ⟨by decide +kernel, rfl⟩
abbrev bb_X10_pound_27_28 : ZB := [(.iload_n 1, .null)]
theorem bk_X10_pound_27_28 : zchk cX10_pound bb_X10_pound_27_28 27 = true ∧ zpc bb_X10_pound_27_28 27 = 28 := ⟨by decide +kernel, rfl⟩
abbrev bb_X10_pound_45_46 : ZB := [(.iconst 0, .int 0)]
theorem bk_X10_pound_45_46 : zchk cX10_pound bb_X10_pound_45_46 45 = true ∧ zpc bb_X10_pound_45_46 45 = 46 := ⟨by decide +kernel, rfl⟩
abbrev bb_X10_pound_5_6 : ZB := [(.aload_n 0, .null)]
theorem bk_X10_pound_5_6 : zchk cX10_pound bb_X10_pound_5_6 5 = true ∧ zpc bb_X10_pound_5_6 5 = 6 := ⟨by decide +kernel, rfl⟩
abbrev bb_X10_pound_9_10 : ZB := [(.iconst (-1), .int (-1))]
theorem bk_X10_pound_9_10 : zchk cX10_pound bb_X10_pound_9_10 9 = true ∧ zpc bb_X10_pound_9_10 9 = 10 := ⟨by decide +kernel, rfl⟩
abbrev bb_X10_pound_13_14 : ZB := [(.aload_n 0, .null)]
theorem bk_X10_pound_13_14 : zchk cX10_pound bb_X10_pound_13_14 13 = true ∧ zpc bb_X10_pound_13_14 13 = 14 := ⟨by decide +kernel, rfl⟩
abbrev bb_X10_pound_17_18 : ZB := [(.iconst 0, .int 0)]
theorem bk_X10_pound_17_18 : zchk cX10_pound bb_X10_pound_17_18 17 = true ∧ zpc bb_X10_pound_17_18 17 = 18 := ⟨by decide +kernel, rfl⟩
abbrev bb_X10_pound_21_22 : ZB := [(.iconst 1, .int 1)]
theorem bk_X10_pound_21_22 : zchk cX10_pound bb_X10_pound_21_22 21 = true ∧ zpc bb_X10_pound_21_22 21 = 22 := ⟨by decide +kernel, rfl⟩
set_option maxHeartbeats 4000000 in
set_option maxRecDepth 100000 in
theorem c_X10_pound (l : Launch) (G : KG) (x : Nat) (told : Nat) (reader : Nat) (ring : Nat) (speeds : Nat) (wheel : Nat) (trials : Nat) (span : Nat) (search : Nat) (kept : Nat) (crosses : Nat) (trueM : Nat) (thought : Nat) (up : Nat) (low : Nat) (fits : Nat) (rp : Nat) (rx : Nat) (ry : Nat) (rr : Nat) (rh : Nat) (rd : Nat) (hole : Int32) (ounces : Int32) (holei : Int) (ouncesi : Int) (hhole : hole.toInt = holei) (hounces : ounces.toInt = ouncesi) : Ct l G yX10_pound cX10_pound 3 (some .boolean) { frames := 1, cells := 0, slots := 0, locals := 21 } [.ref x, .int hole, .int ounces] [(x, ob 10 [.ref told, .ref reader, .ref ring, .ref speeds, .ref wheel, .ref trials, .ref span, .ref search, .ref kept, .ref crosses, .ref trueM, .ref thought, .ref up, .ref low, .ref fits, .null]), (ring, ob 5 [.int 0, .ref rp, .ref rx, .ref ry, .ref rr, .ref rh, .ref rd, .int (-1), .int 0])] (fun r _ => r = some (.int (zb (decide (holei = -1))))) := by
  refine ct_of [(0, .ref x), (1, .int hole), (2, .int ounces)] (by decide) (Nat.le_of_ble_eq_true rfl) rfl ?_
  intro p0 e0 s0 m0 args0 below0 meth0 c0 A X
  refine z_run X bb_X10_pound_0_2 bk_X10_pound_0_2 (lv' := [(0, .ref x), (1, .int hole), (2, .int ounces)]) (st' := [.int (-1), .int hole]) rfl ?_
  refine zc_ne X d_X10_pound_2 (tgt := 23) (by decide) (a := holei) (b := (-1)) hhole (show ((-1) : Int32).toInt = (-1) from by decide) (fun c2_1 => ?_) (fun c2_1 => ?_)
  ·
    refine z_run X bb_X10_pound_23_24 bk_X10_pound_23_24 (lv' := [(0, .ref x), (1, .int hole), (2, .int ounces)]) (st' := [.ref x]) rfl ?_
    refine z_get X fl_10_26 d_X10_pound_24 0 rfl (v := .ref ring) rfl ?_
    refine z_run X bb_X10_pound_27_28 bk_X10_pound_27_28 (lv' := [(0, .ref x), (1, .int hole), (2, .int ounces)]) (st' := [.int hole, .ref ring]) rfl ?_
    refine z_callV X k_10_106 (c_X5_isHole l G ring rp rx ry rr rh rd hole holei hhole) d_X10_pound_28 1 rfl rfl rfl ⟨Nat.le_of_ble_eq_true rfl, Nat.le_of_ble_eq_true rfl⟩ ⟨Nat.le_of_ble_eq_true rfl, Nat.le_of_ble_eq_true rfl⟩ rfl (rest := []) (As := [.int hole]) rfl (Nat.le_of_ble_eq_true rfl) [1] [0] rfl (by decide) (wr := [(x, ob 10 [.ref told, .ref reader, .ref ring, .ref speeds, .ref wheel, .ref trials, .ref span, .ref search, .ref kept, .ref crosses, .ref trueM, .ref thought, .ref up, .ref low, .ref fits, .null])]) rfl (by decide) (by decide) ?_
    rintro _ _ ⟨rfl, rfl⟩
    refine Z.at (pc' := 31) (st' := [.int 0]) (ws' := [(x, ob 10 [.ref told, .ref reader, .ref ring, .ref speeds, .ref wheel, .ref trials, .ref span, .ref search, .ref kept, .ref crosses, .ref trueM, .ref thought, .ref up, .ref low, .ref fits, .null]), (ring, ob 5 [.int 0, .ref rp, .ref rx, .ref ry, .ref rr, .ref rh, .ref rd, .int (-1), .int 0])]) (kc' := 0) (ks' := 0) rfl rfl rfl rfl rfl ?_
    refine zi_eq X d_X10_pound_31 (tgt := 45) (by decide) (a := 0) (show (0 : Int32).toInt = 0 from by decide) (fun _ => ?_) (fun c31_2 => absurd c31_2 (by decide))
    refine z_run X bb_X10_pound_45_46 bk_X10_pound_45_46 (lv' := [(0, .ref x), (1, .int hole), (2, .int ounces)]) (st' := [.int 0]) rfl ?_
    exact z_zret X rfl rfl d_X10_pound_46 (Nat.le_of_ble_eq_true rfl) (Nat.le_of_ble_eq_true rfl) (congrArg (fun z => some (Value.int z)) (zb_f (by omega)).symm)
  ·
    refine z_run X bb_X10_pound_5_6 bk_X10_pound_5_6 (lv' := [(0, .ref x), (1, .int hole), (2, .int ounces)]) (st' := [.ref x]) rfl ?_
    refine z_get X fl_10_26 d_X10_pound_6 0 rfl (v := .ref ring) rfl ?_
    refine z_run X bb_X10_pound_9_10 bk_X10_pound_9_10 (lv' := [(0, .ref x), (1, .int hole), (2, .int ounces)]) (st' := [.int (-1), .ref ring]) rfl ?_
    refine z_putN X fl_10_167 d_X10_pound_10 1 rfl (ty := .int) (T := TX5) (N := 9) rfl rfl (by decide +kernel) rfl (by rfl) (Nat.le_of_ble_eq_true rfl) (ws' := [(x, ob 10 [.ref told, .ref reader, .ref ring, .ref speeds, .ref wheel, .ref trials, .ref span, .ref search, .ref kept, .ref crosses, .ref trueM, .ref thought, .ref up, .ref low, .ref fits, .null]), (ring, ob 5 [.int 0, .ref rp, .ref rx, .ref ry, .ref rr, .ref rh, .ref rd, .int (-1), .int 0])]) rfl ?_
    refine z_run X bb_X10_pound_13_14 bk_X10_pound_13_14 (lv' := [(0, .ref x), (1, .int hole), (2, .int ounces)]) (st' := [.ref x]) rfl ?_
    refine z_get X fl_10_26 d_X10_pound_14 0 rfl (v := .ref ring) rfl ?_
    refine z_run X bb_X10_pound_17_18 bk_X10_pound_17_18 (lv' := [(0, .ref x), (1, .int hole), (2, .int ounces)]) (st' := [.int 0, .ref ring]) rfl ?_
    refine z_putN X fl_10_170 d_X10_pound_18 1 rfl (ty := .int) (T := TX5) (N := 9) rfl rfl (by decide +kernel) rfl (by rfl) (Nat.le_of_ble_eq_true rfl) (ws' := [(x, ob 10 [.ref told, .ref reader, .ref ring, .ref speeds, .ref wheel, .ref trials, .ref span, .ref search, .ref kept, .ref crosses, .ref trueM, .ref thought, .ref up, .ref low, .ref fits, .null]), (ring, ob 5 [.int 0, .ref rp, .ref rx, .ref ry, .ref rr, .ref rh, .ref rd, .int (-1), .int 0])]) rfl ?_
    refine z_run X bb_X10_pound_21_22 bk_X10_pound_21_22 (lv' := [(0, .ref x), (1, .int hole), (2, .int ounces)]) (st' := [.int 1]) rfl ?_
    exact z_zret X rfl rfl d_X10_pound_22 (Nat.le_of_ble_eq_true rfl) (Nat.le_of_ble_eq_true rfl) (congrArg (fun z => some (Value.int z)) (zb_t (by omega)).symm)

theorem d_X10_feel_1 : decode cX10_feel 1 = .ok (.invokestatic 156, 3) := by decide +kernel
theorem d_X10_feel_4 : decode cX10_feel 4 = .ok (.ifCond .eq 14, 3) := by decide +kernel
theorem d_X10_feel_19 : decode cX10_feel 19 = .ok (.ireturn, 1) := by decide +kernel
theorem d_X10_feel_8 : decode cX10_feel 8 = .ok (.getfield 33, 3) := by decide +kernel
theorem d_X10_feel_12 : decode cX10_feel 12 = .ok (.invokevirtual 173, 3) := by decide +kernel
theorem d_X10_feel_15 : decode cX10_feel 15 = .ok (.ifCond .ne 5, 3) := by decide +kernel
abbrev bb_X10_feel_0_1 : ZB := [(.iload_n 1, .null)]
theorem bk_X10_feel_0_1 : zchk cX10_feel bb_X10_feel_0_1 0 = true ∧ zpc bb_X10_feel_0_1 0 = 1 := ⟨by decide +kernel, rfl⟩
abbrev bb_X10_feel_18_19 : ZB := [(.iconst (-1), .int (-1))]
theorem bk_X10_feel_18_19 : zchk cX10_feel bb_X10_feel_18_19 18 = true ∧ zpc bb_X10_feel_18_19 18 = 19 := ⟨by decide +kernel, rfl⟩
abbrev bb_X10_feel_7_8 : ZB := [(.aload_n 0, .null)]
theorem bk_X10_feel_7_8 : zchk cX10_feel bb_X10_feel_7_8 7 = true ∧ zpc bb_X10_feel_7_8 7 = 8 := ⟨by decide +kernel, rfl⟩
abbrev bb_X10_feel_11_12 : ZB := [(.iload_n 2, .null)]
theorem bk_X10_feel_11_12 : zchk cX10_feel bb_X10_feel_11_12 11 = true ∧ zpc bb_X10_feel_11_12 11 = 12 := ⟨by decide +kernel, rfl⟩
set_option maxHeartbeats 4000000 in
set_option maxRecDepth 100000 in
theorem c_X10_feel (l : Launch) (G : KG) (x : Nat) (told : Nat) (reader : Nat) (ring : Nat) (speeds : Nat) (wheel : Nat) (trials : Nat) (span : Nat) (search : Nat) (kept : Nat) (crosses : Nat) (trueM : Nat) (thought : Nat) (up : Nat) (low : Nat) (fits : Nat) (sf : Nat) (so : Nat) (sa : Nat) (sx : Nat) (sy : Nat) (bearing : Int32) (speed : Int32) (bearingi : Int) (speedi : Int) (hbearing : bearing.toInt = bearingi) (hspeed : speed.toInt = speedi) : Ct l G yX10_feel cX10_feel 5 (some .int) { frames := 1, cells := 0, slots := 0, locals := 21 } [.ref x, .int bearing, .int speed] [(x, ob 10 [.ref told, .ref reader, .ref ring, .ref speeds, .ref wheel, .ref trials, .ref span, .ref search, .ref kept, .ref crosses, .ref trueM, .ref thought, .ref up, .ref low, .ref fits, .null]), (speeds, ob 7 [.int 0, .ref sf, .ref so, .ref sa, .ref sx, .ref sy])] (fun r _ => r = some (.int (-1))) := by
  refine ct_of [(0, .ref x), (1, .int bearing), (2, .int speed)] (by decide) (Nat.le_of_ble_eq_true rfl) rfl ?_
  intro p0 e0 s0 m0 args0 below0 meth0 c0 A X
  refine z_run X bb_X10_feel_0_1 bk_X10_feel_0_1 (lv' := [(0, .ref x), (1, .int bearing), (2, .int speed)]) (st' := [.int bearing]) rfl ?_
  refine z_callS X k_10_156 (c_X10_isOneOfTwo l G bearing bearingi hbearing) d_X10_feel_1 ⟨Nat.le_of_ble_eq_true rfl, Nat.le_of_ble_eq_true rfl⟩ ⟨Nat.le_of_ble_eq_true rfl, Nat.le_of_ble_eq_true rfl⟩ rfl (rest := []) (As := [.int bearing]) rfl (Nat.le_of_ble_eq_true rfl) [] [0, 1] rfl (by decide) (wr := [(x, ob 10 [.ref told, .ref reader, .ref ring, .ref speeds, .ref wheel, .ref trials, .ref span, .ref search, .ref kept, .ref crosses, .ref trueM, .ref thought, .ref up, .ref low, .ref fits, .null]), (speeds, ob 7 [.int 0, .ref sf, .ref so, .ref sa, .ref sx, .ref sy])]) rfl (by decide) (by decide) ?_
  rintro _ _ ⟨rfl, rfl⟩
  refine Z.at (pc' := 4) (st' := [.int (zb (decide (bearingi = 0 ∨ bearingi = 1)))]) (ws' := [(x, ob 10 [.ref told, .ref reader, .ref ring, .ref speeds, .ref wheel, .ref trials, .ref span, .ref search, .ref kept, .ref crosses, .ref trueM, .ref thought, .ref up, .ref low, .ref fits, .null]), (speeds, ob 7 [.int 0, .ref sf, .ref so, .ref sa, .ref sx, .ref sy])]) (kc' := 0) (ks' := 0) rfl rfl rfl rfl rfl ?_
  refine zi_eq_zb X d_X10_feel_4 (tgt := 18) (by decide) (fun c4_1 => ?_) (fun c4_1 => ?_)
  ·
    refine z_run X bb_X10_feel_18_19 bk_X10_feel_18_19 (lv' := [(0, .ref x), (1, .int bearing), (2, .int speed)]) (st' := [.int (-1)]) rfl ?_
    exact z_iret X rfl d_X10_feel_19 (Nat.le_of_ble_eq_true rfl) (Nat.le_of_ble_eq_true rfl) rfl
  ·
    refine z_run X bb_X10_feel_7_8 bk_X10_feel_7_8 (lv' := [(0, .ref x), (1, .int bearing), (2, .int speed)]) (st' := [.ref x]) rfl ?_
    refine z_get X fl_10_33 d_X10_feel_8 0 rfl (v := .ref speeds) rfl ?_
    refine z_run X bb_X10_feel_11_12 bk_X10_feel_11_12 (lv' := [(0, .ref x), (1, .int bearing), (2, .int speed)]) (st' := [.int speed, .ref speeds]) rfl ?_
    refine z_callV X k_10_173 (c_X7_isSpeed l G speeds sf so sa sx sy speed speedi hspeed) d_X10_feel_12 1 rfl rfl rfl ⟨Nat.le_of_ble_eq_true rfl, Nat.le_of_ble_eq_true rfl⟩ ⟨Nat.le_of_ble_eq_true rfl, Nat.le_of_ble_eq_true rfl⟩ rfl (rest := []) (As := [.int speed]) rfl (Nat.le_of_ble_eq_true rfl) [1] [0] rfl (by decide) (wr := [(x, ob 10 [.ref told, .ref reader, .ref ring, .ref speeds, .ref wheel, .ref trials, .ref span, .ref search, .ref kept, .ref crosses, .ref trueM, .ref thought, .ref up, .ref low, .ref fits, .null])]) rfl (by decide) (by decide) ?_
    rintro _ _ ⟨rfl, rfl⟩
    refine Z.at (pc' := 15) (st' := [.int 0]) (ws' := [(x, ob 10 [.ref told, .ref reader, .ref ring, .ref speeds, .ref wheel, .ref trials, .ref span, .ref search, .ref kept, .ref crosses, .ref trueM, .ref thought, .ref up, .ref low, .ref fits, .null]), (speeds, ob 7 [.int 0, .ref sf, .ref so, .ref sa, .ref sx, .ref sy])]) (kc' := 0) (ks' := 0) rfl rfl rfl rfl rfl ?_
    refine zi_ne X d_X10_feel_15 (tgt := 20) (by decide) (a := 0) (show (0 : Int32).toInt = 0 from by decide) (fun c15_2 => absurd c15_2 (by decide)) (fun _ => ?_)
    refine z_run X bb_X10_feel_18_19 bk_X10_feel_18_19 (lv' := [(0, .ref x), (1, .int bearing), (2, .int speed)]) (st' := [.int (-1)]) rfl ?_
    exact z_iret X rfl d_X10_feel_19 (Nat.le_of_ble_eq_true rfl) (Nat.le_of_ble_eq_true rfl) rfl

theorem d_X10_hums_1 : decode cX10_hums 1 = .ok (.invokestatic 156, 3) := by decide +kernel
theorem d_X10_hums_4 : decode cX10_hums 4 = .ok (.ifCond .eq 10, 3) := by decide +kernel
theorem d_X10_hums_15 : decode cX10_hums 15 = .ok (.ireturn, 1) := by decide +kernel
theorem d_X10_hums_8 : decode cX10_hums 8 = .ok (.invokestatic 156, 3) := by decide +kernel
theorem d_X10_hums_11 : decode cX10_hums 11 = .ok (.ifCond .ne 5, 3) := by decide +kernel
theorem d_X10_hums_28 : decode cX10_hums 28 = .ok (.getfield 33, 3) := by decide +kernel
theorem d_X10_hums_31 : decode cX10_hums 31 = .ok (.getfield 191, 3) := by decide +kernel
theorem d_X10_hums_34 : decode cX10_hums 34 = .ok (.if_icmp .ge 66, 3) := by decide +kernel
theorem d_X10_hums_101 : decode cX10_hums 101 = .ok (.ifCond .lt 19, 3) := by decide +kernel
theorem d_X10_hums_121 : decode cX10_hums 121 = .ok (.ireturn, 1) := by decide +kernel
abbrev bb_X10_hums_0_1 : ZB := [(.iload_n 1, .null)]
theorem bk_X10_hums_0_1 : zchk cX10_hums bb_X10_hums_0_1 0 = true ∧ zpc bb_X10_hums_0_1 0 = 1 := ⟨by decide +kernel, rfl⟩
abbrev bb_X10_hums_14_15 : ZB := [(.iconst (-1), .int (-1))]
theorem bk_X10_hums_14_15 : zchk cX10_hums bb_X10_hums_14_15 14 = true ∧ zpc bb_X10_hums_14_15 14 = 15 := ⟨by decide +kernel, rfl⟩
abbrev bb_X10_hums_7_8 : ZB := [(.iload_n 2, .null)]
theorem bk_X10_hums_7_8 : zchk cX10_hums bb_X10_hums_7_8 7 = true ∧ zpc bb_X10_hums_7_8 7 = 8 := ⟨by decide +kernel, rfl⟩
abbrev bb_X10_hums_16_28 : ZB := [(.bipush (-2), .int (-2)), (.istore_n 3, .null), (.lconst 0, .long 0), (.lstore 4, .null), (.iconst 0, .int 0), (.istore 6, .null), (.iload 6, .null), (.aload_n 0, .null)]
theorem bk_X10_hums_16_28 : zchk cX10_hums bb_X10_hums_16_28 16 = true ∧ zpc bb_X10_hums_16_28 16 = 28 := ⟨by decide +kernel, rfl⟩
abbrev bb_X10_hums_100_101 : ZB := [(.iload_n 3, .null)]
theorem bk_X10_hums_100_101 : zchk cX10_hums bb_X10_hums_100_101 100 = true ∧ zpc bb_X10_hums_100_101 100 = 101 := ⟨by decide +kernel, rfl⟩
abbrev bb_X10_hums_120_121 : ZB := [(.iload_n 3, .null)]
theorem bk_X10_hums_120_121 : zchk cX10_hums bb_X10_hums_120_121 120 = true ∧ zpc bb_X10_hums_120_121 120 = 121 := ⟨by decide +kernel, rfl⟩
set_option maxHeartbeats 4000000 in
set_option maxRecDepth 100000 in
theorem c_X10_hums (l : Launch) (G : KG) (x : Nat) (told : Nat) (reader : Nat) (ring : Nat) (speeds : Nat) (wheel : Nat) (trials : Nat) (span : Nat) (search : Nat) (kept : Nat) (crosses : Nat) (trueM : Nat) (thought : Nat) (up : Nat) (low : Nat) (fits : Nat) (sf : Nat) (so : Nat) (sa : Nat) (sx : Nat) (sy : Nat) (bearing : Int32) (what : Int32) (bearingi : Int) (whati : Int) (hbearing : bearing.toInt = bearingi) (hwhat : what.toInt = whati) : Ct l G yX10_hums cX10_hums 9 (some .int) { frames := 1, cells := 0, slots := 0, locals := 20 } [.ref x, .int bearing, .int what] [(x, ob 10 [.ref told, .ref reader, .ref ring, .ref speeds, .ref wheel, .ref trials, .ref span, .ref search, .ref kept, .ref crosses, .ref trueM, .ref thought, .ref up, .ref low, .ref fits, .null]), (speeds, ob 7 [.int 0, .ref sf, .ref so, .ref sa, .ref sx, .ref sy])] (fun r _ => r = some (.int (an_two bearingi whati))) := by
  refine ct_of [(0, .ref x), (1, .int bearing), (2, .int what)] (by decide) (Nat.le_of_ble_eq_true rfl) rfl ?_
  intro p0 e0 s0 m0 args0 below0 meth0 c0 A X
  refine z_run X bb_X10_hums_0_1 bk_X10_hums_0_1 (lv' := [(0, .ref x), (1, .int bearing), (2, .int what)]) (st' := [.int bearing]) rfl ?_
  refine z_callS X k_10_156 (c_X10_isOneOfTwo l G bearing bearingi hbearing) d_X10_hums_1 ⟨Nat.le_of_ble_eq_true rfl, Nat.le_of_ble_eq_true rfl⟩ ⟨Nat.le_of_ble_eq_true rfl, Nat.le_of_ble_eq_true rfl⟩ rfl (rest := []) (As := [.int bearing]) rfl (Nat.le_of_ble_eq_true rfl) [] [0, 1] rfl (by decide) (wr := [(x, ob 10 [.ref told, .ref reader, .ref ring, .ref speeds, .ref wheel, .ref trials, .ref span, .ref search, .ref kept, .ref crosses, .ref trueM, .ref thought, .ref up, .ref low, .ref fits, .null]), (speeds, ob 7 [.int 0, .ref sf, .ref so, .ref sa, .ref sx, .ref sy])]) rfl (by decide) (by decide) ?_
  rintro _ _ ⟨rfl, rfl⟩
  refine Z.at (pc' := 4) (st' := [.int (zb (decide (bearingi = 0 ∨ bearingi = 1)))]) (ws' := [(x, ob 10 [.ref told, .ref reader, .ref ring, .ref speeds, .ref wheel, .ref trials, .ref span, .ref search, .ref kept, .ref crosses, .ref trueM, .ref thought, .ref up, .ref low, .ref fits, .null]), (speeds, ob 7 [.int 0, .ref sf, .ref so, .ref sa, .ref sx, .ref sy])]) (kc' := 0) (ks' := 0) rfl rfl rfl rfl rfl ?_
  refine zi_eq_zb X d_X10_hums_4 (tgt := 14) (by decide) (fun c4_1 => ?_) (fun c4_1 => ?_)
  ·
    refine z_run X bb_X10_hums_14_15 bk_X10_hums_14_15 (lv' := [(0, .ref x), (1, .int bearing), (2, .int what)]) (st' := [.int (-1)]) rfl ?_
    exact z_iret X rfl d_X10_hums_15 (Nat.le_of_ble_eq_true rfl) (Nat.le_of_ble_eq_true rfl) (congrArg (fun z => some (Value.int z)) (by unfold an_two; (repeat' split) <;> first | rfl | (exfalso; omega)))
  ·
    refine z_run X bb_X10_hums_7_8 bk_X10_hums_7_8 (lv' := [(0, .ref x), (1, .int bearing), (2, .int what)]) (st' := [.int what]) rfl ?_
    refine z_callS X k_10_156 (c_X10_isOneOfTwo l G what whati hwhat) d_X10_hums_8 ⟨Nat.le_of_ble_eq_true rfl, Nat.le_of_ble_eq_true rfl⟩ ⟨Nat.le_of_ble_eq_true rfl, Nat.le_of_ble_eq_true rfl⟩ rfl (rest := []) (As := [.int what]) rfl (Nat.le_of_ble_eq_true rfl) [] [0, 1] rfl (by decide) (wr := [(x, ob 10 [.ref told, .ref reader, .ref ring, .ref speeds, .ref wheel, .ref trials, .ref span, .ref search, .ref kept, .ref crosses, .ref trueM, .ref thought, .ref up, .ref low, .ref fits, .null]), (speeds, ob 7 [.int 0, .ref sf, .ref so, .ref sa, .ref sx, .ref sy])]) rfl (by decide) (by decide) ?_
    rintro _ _ ⟨rfl, rfl⟩
    refine Z.at (pc' := 11) (st' := [.int (zb (decide (whati = 0 ∨ whati = 1)))]) (ws' := [(x, ob 10 [.ref told, .ref reader, .ref ring, .ref speeds, .ref wheel, .ref trials, .ref span, .ref search, .ref kept, .ref crosses, .ref trueM, .ref thought, .ref up, .ref low, .ref fits, .null]), (speeds, ob 7 [.int 0, .ref sf, .ref so, .ref sa, .ref sx, .ref sy])]) (kc' := 0) (ks' := 0) rfl rfl rfl rfl rfl ?_
    refine zi_ne_zb X d_X10_hums_11 (tgt := 16) (by decide) (fun c11_2 => ?_) (fun c11_2 => ?_)
    ·
      refine z_run X bb_X10_hums_16_28 bk_X10_hums_16_28 (lv' := [(6, .int 0), (4, .long 0), (3, .int (-2)), (0, .ref x), (1, .int bearing), (2, .int what)]) (st' := [.ref x, .int 0]) rfl ?_
      refine z_get X fl_10_33 d_X10_hums_28 0 rfl (v := .ref speeds) rfl ?_
      refine z_getN X fl_10_191 d_X10_hums_31 1 rfl (v := .int 0) rfl ?_
      refine zc_ge X d_X10_hums_34 (tgt := 100) (by decide) (a := 0) (b := 0) (show (0 : Int32).toInt = 0 from by decide) (show (0 : Int32).toInt = 0 from by decide) (fun _ => ?_) (fun c34_3 => absurd c34_3 (by decide))
      refine z_run X bb_X10_hums_100_101 bk_X10_hums_100_101 (lv' := [(6, .int 0), (4, .long 0), (3, .int (-2)), (0, .ref x), (1, .int bearing), (2, .int what)]) (st' := [.int (-2)]) rfl ?_
      refine zi_lt X d_X10_hums_101 (tgt := 120) (by decide) (a := (-2)) (show ((-2) : Int32).toInt = (-2) from by decide) (fun _ => ?_) (fun c101_4 => absurd c101_4 (by decide))
      refine z_run X bb_X10_hums_120_121 bk_X10_hums_120_121 (lv' := [(6, .int 0), (4, .long 0), (3, .int (-2)), (0, .ref x), (1, .int bearing), (2, .int what)]) (st' := [.int (-2)]) rfl ?_
      exact z_iret X rfl d_X10_hums_121 (Nat.le_of_ble_eq_true rfl) (Nat.le_of_ble_eq_true rfl) (congrArg (fun z => some (Value.int z)) (by unfold an_two; (repeat' split) <;> first | rfl | (exfalso; omega)))
    ·
      refine z_run X bb_X10_hums_14_15 bk_X10_hums_14_15 (lv' := [(0, .ref x), (1, .int bearing), (2, .int what)]) (st' := [.int (-1)]) rfl ?_
      exact z_iret X rfl d_X10_hums_15 (Nat.le_of_ble_eq_true rfl) (Nat.le_of_ble_eq_true rfl) (congrArg (fun z => some (Value.int z)) (by unfold an_two; (repeat' split) <;> first | rfl | (exfalso; omega)))

theorem d_X10_whole_1 : decode cX10_whole 1 = .ok (.getfield 33, 3) := by decide +kernel
theorem d_X10_whole_5 : decode cX10_whole 5 = .ok (.invokevirtual 173, 3) := by decide +kernel
theorem d_X10_whole_8 : decode cX10_whole 8 = .ok (.ifCond .eq 46, 3) := by decide +kernel
theorem d_X10_whole_55 : decode cX10_whole 55 = .ok (.ireturn, 1) := by decide +kernel
abbrev bb_X10_whole_0_1 : ZB := [(.aload_n 0, .null)]
theorem bk_X10_whole_0_1 : zchk cX10_whole bb_X10_whole_0_1 0 = true ∧ zpc bb_X10_whole_0_1 0 = 1 := ⟨by decide +kernel, rfl⟩
abbrev bb_X10_whole_4_5 : ZB := [(.iload_n 1, .null)]
theorem bk_X10_whole_4_5 : zchk cX10_whole bb_X10_whole_4_5 4 = true ∧ zpc bb_X10_whole_4_5 4 = 5 := ⟨by decide +kernel, rfl⟩
abbrev bb_X10_whole_54_55 : ZB := [(.iconst (-1), .int (-1))]
theorem bk_X10_whole_54_55 : zchk cX10_whole bb_X10_whole_54_55 54 = true ∧ zpc bb_X10_whole_54_55 54 = 55 := ⟨by decide +kernel, rfl⟩
set_option maxHeartbeats 4000000 in
set_option maxRecDepth 100000 in
theorem c_X10_whole (l : Launch) (G : KG) (x : Nat) (told : Nat) (reader : Nat) (ring : Nat) (speeds : Nat) (wheel : Nat) (trials : Nat) (span : Nat) (search : Nat) (kept : Nat) (crosses : Nat) (trueM : Nat) (thought : Nat) (up : Nat) (low : Nat) (fits : Nat) (sf : Nat) (so : Nat) (sa : Nat) (sx : Nat) (sy : Nat) (speed : Int32) (px : Int32) (py : Int32) (give : Int32) (speedi : Int) (pxi : Int) (pyi : Int) (givei : Int) (hspeed : speed.toInt = speedi) (hpx : px.toInt = pxi) (hpy : py.toInt = pyi) (hgive : give.toInt = givei) : Ct l G yX10_whole cX10_whole 5 (some .int) { frames := 1, cells := 0, slots := 0, locals := 21 } [.ref x, .int speed, .int px, .int py, .int give] [(x, ob 10 [.ref told, .ref reader, .ref ring, .ref speeds, .ref wheel, .ref trials, .ref span, .ref search, .ref kept, .ref crosses, .ref trueM, .ref thought, .ref up, .ref low, .ref fits, .null]), (speeds, ob 7 [.int 0, .ref sf, .ref so, .ref sa, .ref sx, .ref sy])] (fun r _ => r = some (.int (-1))) := by
  refine ct_of [(0, .ref x), (1, .int speed), (2, .int px), (3, .int py), (4, .int give)] (by decide) (Nat.le_of_ble_eq_true rfl) rfl ?_
  intro p0 e0 s0 m0 args0 below0 meth0 c0 A X
  refine z_run X bb_X10_whole_0_1 bk_X10_whole_0_1 (lv' := [(0, .ref x), (1, .int speed), (2, .int px), (3, .int py), (4, .int give)]) (st' := [.ref x]) rfl ?_
  refine z_get X fl_10_33 d_X10_whole_1 0 rfl (v := .ref speeds) rfl ?_
  refine z_run X bb_X10_whole_4_5 bk_X10_whole_4_5 (lv' := [(0, .ref x), (1, .int speed), (2, .int px), (3, .int py), (4, .int give)]) (st' := [.int speed, .ref speeds]) rfl ?_
  refine z_callV X k_10_173 (c_X7_isSpeed l G speeds sf so sa sx sy speed speedi hspeed) d_X10_whole_5 1 rfl rfl rfl ⟨Nat.le_of_ble_eq_true rfl, Nat.le_of_ble_eq_true rfl⟩ ⟨Nat.le_of_ble_eq_true rfl, Nat.le_of_ble_eq_true rfl⟩ rfl (rest := []) (As := [.int speed]) rfl (Nat.le_of_ble_eq_true rfl) [1] [0] rfl (by decide) (wr := [(x, ob 10 [.ref told, .ref reader, .ref ring, .ref speeds, .ref wheel, .ref trials, .ref span, .ref search, .ref kept, .ref crosses, .ref trueM, .ref thought, .ref up, .ref low, .ref fits, .null])]) rfl (by decide) (by decide) ?_
  rintro _ _ ⟨rfl, rfl⟩
  refine Z.at (pc' := 8) (st' := [.int 0]) (ws' := [(x, ob 10 [.ref told, .ref reader, .ref ring, .ref speeds, .ref wheel, .ref trials, .ref span, .ref search, .ref kept, .ref crosses, .ref trueM, .ref thought, .ref up, .ref low, .ref fits, .null]), (speeds, ob 7 [.int 0, .ref sf, .ref so, .ref sa, .ref sx, .ref sy])]) (kc' := 0) (ks' := 0) rfl rfl rfl rfl rfl ?_
  refine zi_eq X d_X10_whole_8 (tgt := 54) (by decide) (a := 0) (show (0 : Int32).toInt = 0 from by decide) (fun _ => ?_) (fun c8_1 => absurd c8_1 (by decide))
  refine z_run X bb_X10_whole_54_55 bk_X10_whole_54_55 (lv' := [(0, .ref x), (1, .int speed), (2, .int px), (3, .int py), (4, .int give)]) (st' := [.int (-1)]) rfl ?_
  exact z_iret X rfl d_X10_whole_55 (Nat.le_of_ble_eq_true rfl) (Nat.le_of_ble_eq_true rfl) rfl

theorem d_X10_much_1 : decode cX10_much 1 = .ok (.getfield 33, 3) := by decide +kernel
theorem d_X10_much_5 : decode cX10_much 5 = .ok (.invokevirtual 173, 3) := by decide +kernel
theorem d_X10_much_8 : decode cX10_much 8 = .ok (.ifCond .eq 30, 3) := by decide +kernel
theorem d_X10_much_39 : decode cX10_much 39 = .ok (.ireturn, 1) := by decide +kernel
abbrev bb_X10_much_0_1 : ZB := [(.aload_n 0, .null)]
theorem bk_X10_much_0_1 : zchk cX10_much bb_X10_much_0_1 0 = true ∧ zpc bb_X10_much_0_1 0 = 1 := ⟨by decide +kernel, rfl⟩
abbrev bb_X10_much_4_5 : ZB := [(.iload_n 1, .null)]
theorem bk_X10_much_4_5 : zchk cX10_much bb_X10_much_4_5 4 = true ∧ zpc bb_X10_much_4_5 4 = 5 := ⟨by decide +kernel, rfl⟩
abbrev bb_X10_much_38_39 : ZB := [(.iconst (-1), .int (-1))]
theorem bk_X10_much_38_39 : zchk cX10_much bb_X10_much_38_39 38 = true ∧ zpc bb_X10_much_38_39 38 = 39 := ⟨by decide +kernel, rfl⟩
set_option maxHeartbeats 4000000 in
set_option maxRecDepth 100000 in
theorem c_X10_much (l : Launch) (G : KG) (x : Nat) (told : Nat) (reader : Nat) (ring : Nat) (speeds : Nat) (wheel : Nat) (trials : Nat) (span : Nat) (search : Nat) (kept : Nat) (crosses : Nat) (trueM : Nat) (thought : Nat) (up : Nat) (low : Nat) (fits : Nat) (sf : Nat) (so : Nat) (sa : Nat) (sx : Nat) (sy : Nat) (speed : Int32) (low_ : Int32) (high : Int32) (speedi : Int) (low_i : Int) (highi : Int) (hspeed : speed.toInt = speedi) (hlow_ : low_.toInt = low_i) (hhigh : high.toInt = highi) : Ct l G yX10_much cX10_much 4 (some .int) { frames := 1, cells := 0, slots := 0, locals := 21 } [.ref x, .int speed, .int low_, .int high] [(x, ob 10 [.ref told, .ref reader, .ref ring, .ref speeds, .ref wheel, .ref trials, .ref span, .ref search, .ref kept, .ref crosses, .ref trueM, .ref thought, .ref up, .ref low, .ref fits, .null]), (speeds, ob 7 [.int 0, .ref sf, .ref so, .ref sa, .ref sx, .ref sy])] (fun r _ => r = some (.int (-1))) := by
  refine ct_of [(0, .ref x), (1, .int speed), (2, .int low_), (3, .int high)] (by decide) (Nat.le_of_ble_eq_true rfl) rfl ?_
  intro p0 e0 s0 m0 args0 below0 meth0 c0 A X
  refine z_run X bb_X10_much_0_1 bk_X10_much_0_1 (lv' := [(0, .ref x), (1, .int speed), (2, .int low_), (3, .int high)]) (st' := [.ref x]) rfl ?_
  refine z_get X fl_10_33 d_X10_much_1 0 rfl (v := .ref speeds) rfl ?_
  refine z_run X bb_X10_much_4_5 bk_X10_much_4_5 (lv' := [(0, .ref x), (1, .int speed), (2, .int low_), (3, .int high)]) (st' := [.int speed, .ref speeds]) rfl ?_
  refine z_callV X k_10_173 (c_X7_isSpeed l G speeds sf so sa sx sy speed speedi hspeed) d_X10_much_5 1 rfl rfl rfl ⟨Nat.le_of_ble_eq_true rfl, Nat.le_of_ble_eq_true rfl⟩ ⟨Nat.le_of_ble_eq_true rfl, Nat.le_of_ble_eq_true rfl⟩ rfl (rest := []) (As := [.int speed]) rfl (Nat.le_of_ble_eq_true rfl) [1] [0] rfl (by decide) (wr := [(x, ob 10 [.ref told, .ref reader, .ref ring, .ref speeds, .ref wheel, .ref trials, .ref span, .ref search, .ref kept, .ref crosses, .ref trueM, .ref thought, .ref up, .ref low, .ref fits, .null])]) rfl (by decide) (by decide) ?_
  rintro _ _ ⟨rfl, rfl⟩
  refine Z.at (pc' := 8) (st' := [.int 0]) (ws' := [(x, ob 10 [.ref told, .ref reader, .ref ring, .ref speeds, .ref wheel, .ref trials, .ref span, .ref search, .ref kept, .ref crosses, .ref trueM, .ref thought, .ref up, .ref low, .ref fits, .null]), (speeds, ob 7 [.int 0, .ref sf, .ref so, .ref sa, .ref sx, .ref sy])]) (kc' := 0) (ks' := 0) rfl rfl rfl rfl rfl ?_
  refine zi_eq X d_X10_much_8 (tgt := 38) (by decide) (a := 0) (show (0 : Int32).toInt = 0 from by decide) (fun _ => ?_) (fun c8_1 => absurd c8_1 (by decide))
  refine z_run X bb_X10_much_38_39 bk_X10_much_38_39 (lv' := [(0, .ref x), (1, .int speed), (2, .int low_), (3, .int high)]) (st' := [.int (-1)]) rfl ?_
  exact z_iret X rfl d_X10_much_39 (Nat.le_of_ble_eq_true rfl) (Nat.le_of_ble_eq_true rfl) rfl

theorem d_X10_drop_1 : decode cX10_drop 1 = .ok (.getfield 47, 3) := by decide +kernel
theorem d_X10_drop_4 : decode cX10_drop 4 = .ok (.getfield 206, 3) := by decide +kernel
theorem d_X10_drop_7 : decode cX10_drop 7 = .ok (.ifCond .gt 5, 3) := by decide +kernel
theorem d_X10_drop_11 : decode cX10_drop 11 = .ok (.ireturn, 1) := by decide +kernel
abbrev bb_X10_drop_0_1 : ZB := [(.aload_n 0, .null)]
theorem bk_X10_drop_0_1 : zchk cX10_drop bb_X10_drop_0_1 0 = true ∧ zpc bb_X10_drop_0_1 0 = 1 := ⟨by decide +kernel, rfl⟩
abbrev bb_X10_drop_10_11 : ZB := [(.iconst (-1), .int (-1))]
theorem bk_X10_drop_10_11 : zchk cX10_drop bb_X10_drop_10_11 10 = true ∧ zpc bb_X10_drop_10_11 10 = 11 := ⟨by decide +kernel, rfl⟩
set_option maxHeartbeats 4000000 in
set_option maxRecDepth 100000 in
theorem c_X10_drop (l : Launch) (G : KG) (x : Nat) (told : Nat) (reader : Nat) (ring : Nat) (speeds : Nat) (wheel : Nat) (trials : Nat) (span : Nat) (search : Nat) (kept : Nat) (crosses : Nat) (trueM : Nat) (thought : Nat) (up : Nat) (low : Nat) (fits : Nat) (ts : Nat) (tw : Nat) (tf : Nat) (te : Nat) (tg : Nat) (tl : Nat) (tc : Nat) (tx : Nat) (ty : Nat) : Ct l G yX10_drop cX10_drop 1 (some .int) { frames := 0, cells := 0, slots := 0, locals := 0 } [.ref x] [(x, ob 10 [.ref told, .ref reader, .ref ring, .ref speeds, .ref wheel, .ref trials, .ref span, .ref search, .ref kept, .ref crosses, .ref trueM, .ref thought, .ref up, .ref low, .ref fits, .null]), (trials, ob 9 [.int 0, .ref ts, .ref tw, .ref tf, .ref te, .ref tg, .ref tl, .ref tc, .ref tx, .ref ty])] (fun r _ => r = some (.int (-1))) := by
  refine ct_of [(0, .ref x)] (by decide) (Nat.le_of_ble_eq_true rfl) rfl ?_
  intro p0 e0 s0 m0 args0 below0 meth0 c0 A X
  refine z_run X bb_X10_drop_0_1 bk_X10_drop_0_1 (lv' := [(0, .ref x)]) (st' := [.ref x]) rfl ?_
  refine z_get X fl_10_47 d_X10_drop_1 0 rfl (v := .ref trials) rfl ?_
  refine z_getN X fl_10_206 d_X10_drop_4 1 rfl (v := .int 0) rfl ?_
  refine zi_gt X d_X10_drop_7 (tgt := 12) (by decide) (a := 0) (show (0 : Int32).toInt = 0 from by decide) (fun c7_1 => absurd c7_1 (by decide)) (fun _ => ?_)
  refine z_run X bb_X10_drop_10_11 bk_X10_drop_10_11 (lv' := [(0, .ref x)]) (st' := [.int (-1)]) rfl ?_
  exact z_iret X rfl d_X10_drop_11 (Nat.le_of_ble_eq_true rfl) (Nat.le_of_ble_eq_true rfl) rfl

theorem d_X10_prepareTrials_4 : decode cX10_prepareTrials 4 = .ok (.getfield 47, 3) := by decide +kernel
theorem d_X10_prepareTrials_7 : decode cX10_prepareTrials 7 = .ok (.getfield 206, 3) := by decide +kernel
theorem d_X10_prepareTrials_10 : decode cX10_prepareTrials 10 = .ok (.if_icmp .ge 124, 3) := by decide +kernel
theorem d_X10_prepareTrials_134 : decode cX10_prepareTrials 134 = .ok (.return_, 1) := by decide +kernel
abbrev bb_X10_prepareTrials_0_4 : ZB := [(.iconst 0, .int 0), (.istore_n 1, .null), (.iload_n 1, .null), (.aload_n 0, .null)]
theorem bk_X10_prepareTrials_0_4 : zchk cX10_prepareTrials bb_X10_prepareTrials_0_4 0 = true ∧ zpc bb_X10_prepareTrials_0_4 0 = 4 := ⟨by decide +kernel, rfl⟩
set_option maxHeartbeats 4000000 in
set_option maxRecDepth 100000 in
theorem c_X10_prepareTrials (l : Launch) (G : KG) (x : Nat) (told : Nat) (reader : Nat) (ring : Nat) (speeds : Nat) (wheel : Nat) (trials : Nat) (span : Nat) (search : Nat) (kept : Nat) (crosses : Nat) (trueM : Nat) (thought : Nat) (up : Nat) (low : Nat) (fits : Nat) (ts : Nat) (tw : Nat) (tf : Nat) (te : Nat) (tg : Nat) (tl : Nat) (tc : Nat) (tx : Nat) (ty : Nat) : Ct l G yX10_prepareTrials cX10_prepareTrials 3 none { frames := 0, cells := 0, slots := 0, locals := 0 } [.ref x] [(x, ob 10 [.ref told, .ref reader, .ref ring, .ref speeds, .ref wheel, .ref trials, .ref span, .ref search, .ref kept, .ref crosses, .ref trueM, .ref thought, .ref up, .ref low, .ref fits, .null]), (trials, ob 9 [.int 0, .ref ts, .ref tw, .ref tf, .ref te, .ref tg, .ref tl, .ref tc, .ref tx, .ref ty])] (fun r w1 => r = none ∧ w1 = [(x, ob 10 [.ref told, .ref reader, .ref ring, .ref speeds, .ref wheel, .ref trials, .ref span, .ref search, .ref kept, .ref crosses, .ref trueM, .ref thought, .ref up, .ref low, .ref fits, .null]), (trials, ob 9 [.int 0, .ref ts, .ref tw, .ref tf, .ref te, .ref tg, .ref tl, .ref tc, .ref tx, .ref ty])]) := by
  refine ct_of [(0, .ref x)] (by decide) (Nat.le_of_ble_eq_true rfl) rfl ?_
  intro p0 e0 s0 m0 args0 below0 meth0 c0 A X
  refine z_run X bb_X10_prepareTrials_0_4 bk_X10_prepareTrials_0_4 (lv' := [(1, .int 0), (0, .ref x)]) (st' := [.ref x, .int 0]) rfl ?_
  refine z_get X fl_10_47 d_X10_prepareTrials_4 0 rfl (v := .ref trials) rfl ?_
  refine z_getN X fl_10_206 d_X10_prepareTrials_7 1 rfl (v := .int 0) rfl ?_
  refine zc_ge X d_X10_prepareTrials_10 (tgt := 134) (by decide) (a := 0) (b := 0) (show (0 : Int32).toInt = 0 from by decide) (show (0 : Int32).toInt = 0 from by decide) (fun _ => ?_) (fun c10_1 => absurd c10_1 (by decide))
  exact z_vret X rfl d_X10_prepareTrials_134 (Nat.le_of_ble_eq_true rfl) (Nat.le_of_ble_eq_true rfl) ⟨rfl, rfl⟩

theorem d_X9_firstAgainst_4 : decode cX9_firstAgainst 4 = .ok (.getfield 44, 3) := by decide +kernel
theorem d_X9_firstAgainst_7 : decode cX9_firstAgainst 7 = .ok (.if_icmp .ge 21, 3) := by decide +kernel
theorem d_X9_firstAgainst_30 : decode cX9_firstAgainst 30 = .ok (.ireturn, 1) := by decide +kernel
abbrev bb_X9_firstAgainst_0_4 : ZB := [(.iconst 0, .int 0), (.istore_n 3, .null), (.iload_n 3, .null), (.aload_n 0, .null)]
theorem bk_X9_firstAgainst_0_4 : zchk cX9_firstAgainst bb_X9_firstAgainst_0_4 0 = true ∧ zpc bb_X9_firstAgainst_0_4 0 = 4 := ⟨by decide +kernel, rfl⟩
abbrev bb_X9_firstAgainst_28_30 : ZB := [(.bipush (-2), .int (-2))]
theorem bk_X9_firstAgainst_28_30 : zchk cX9_firstAgainst bb_X9_firstAgainst_28_30 28 = true ∧ zpc bb_X9_firstAgainst_28_30 28 = 30 := ⟨by decide +kernel, rfl⟩
set_option maxHeartbeats 4000000 in
set_option maxRecDepth 100000 in
theorem c_X9_firstAgainst (l : Launch) (G : KG) (trials : Nat) (ts : Nat) (tw : Nat) (tf : Nat) (te : Nat) (tg : Nat) (tl : Nat) (tc : Nat) (tx : Nat) (ty : Nat) (px : Int32) (py : Int32) : Ct l G yX9_firstAgainst cX9_firstAgainst 4 (some .int) { frames := 0, cells := 0, slots := 0, locals := 0 } [.ref trials, .int px, .int py] [(trials, ob 9 [.int 0, .ref ts, .ref tw, .ref tf, .ref te, .ref tg, .ref tl, .ref tc, .ref tx, .ref ty])] (fun r w1 => r = some (.int (-2)) ∧ w1 = [(trials, ob 9 [.int 0, .ref ts, .ref tw, .ref tf, .ref te, .ref tg, .ref tl, .ref tc, .ref tx, .ref ty])]) := by
  refine ct_of [(0, .ref trials), (1, .int px), (2, .int py)] (by decide) (Nat.le_of_ble_eq_true rfl) rfl ?_
  intro p0 e0 s0 m0 args0 below0 meth0 c0 A X
  refine z_run X bb_X9_firstAgainst_0_4 bk_X9_firstAgainst_0_4 (lv' := [(3, .int 0), (0, .ref trials), (1, .int px), (2, .int py)]) (st' := [.ref trials, .int 0]) rfl ?_
  refine z_get X fl_9_44 d_X9_firstAgainst_4 0 rfl (v := .int 0) rfl ?_
  refine zc_ge X d_X9_firstAgainst_7 (tgt := 28) (by decide) (a := 0) (b := 0) (show (0 : Int32).toInt = 0 from by decide) (show (0 : Int32).toInt = 0 from by decide) (fun _ => ?_) (fun c7_1 => absurd c7_1 (by decide))
  refine z_run X bb_X9_firstAgainst_28_30 bk_X9_firstAgainst_28_30 (lv' := [(3, .int 0), (0, .ref trials), (1, .int px), (2, .int py)]) (st' := [.int (-2)]) rfl ?_
  exact z_iret X rfl d_X9_firstAgainst_30 (Nat.le_of_ble_eq_true rfl) (Nat.le_of_ble_eq_true rfl) ⟨rfl, rfl⟩

theorem d_X9_allAgainst_12 : decode cX9_allAgainst 12 = .ok (.getfield 44, 3) := by decide +kernel
theorem d_X9_allAgainst_15 : decode cX9_allAgainst 15 = .ok (.if_icmp .ge 38, 3) := by decide +kernel
theorem d_X9_allAgainst_55 : decode cX9_allAgainst 55 = .ok (.ireturn, 1) := by decide +kernel
abbrev bb_X9_allAgainst_0_12 : ZB := [(.iconst 0, .int 0), (.istore 4, .null), (.iconst 0, .int 0), (.istore 5, .null), (.iconst 0, .int 0), (.istore 6, .null), (.iload 6, .null), (.aload_n 0, .null)]
theorem bk_X9_allAgainst_0_12 : zchk cX9_allAgainst bb_X9_allAgainst_0_12 0 = true ∧ zpc bb_X9_allAgainst_0_12 0 = 12 := ⟨by decide +kernel, rfl⟩
abbrev bb_X9_allAgainst_53_55 : ZB := [(.iload 4, .null)]
theorem bk_X9_allAgainst_53_55 : zchk cX9_allAgainst bb_X9_allAgainst_53_55 53 = true ∧ zpc bb_X9_allAgainst_53_55 53 = 55 := ⟨by decide +kernel, rfl⟩
set_option maxHeartbeats 4000000 in
set_option maxRecDepth 100000 in
theorem c_X9_allAgainst (l : Launch) (G : KG) (trials : Nat) (ts : Nat) (tw : Nat) (tf : Nat) (te : Nat) (tg : Nat) (tl : Nat) (tc : Nat) (tx : Nat) (ty : Nat) (px : Int32) (py : Int32) (few : Int32) : Ct l G yX9_allAgainst cX9_allAgainst 7 (some .int) { frames := 0, cells := 0, slots := 0, locals := 0 } [.ref trials, .int px, .int py, .int few] [(trials, ob 9 [.int 0, .ref ts, .ref tw, .ref tf, .ref te, .ref tg, .ref tl, .ref tc, .ref tx, .ref ty])] (fun r w1 => r = some (.int 0) ∧ w1 = [(trials, ob 9 [.int 0, .ref ts, .ref tw, .ref tf, .ref te, .ref tg, .ref tl, .ref tc, .ref tx, .ref ty])]) := by
  refine ct_of [(0, .ref trials), (1, .int px), (2, .int py), (3, .int few)] (by decide) (Nat.le_of_ble_eq_true rfl) rfl ?_
  intro p0 e0 s0 m0 args0 below0 meth0 c0 A X
  refine z_run X bb_X9_allAgainst_0_12 bk_X9_allAgainst_0_12 (lv' := [(6, .int 0), (5, .int 0), (4, .int 0), (0, .ref trials), (1, .int px), (2, .int py), (3, .int few)]) (st' := [.ref trials, .int 0]) rfl ?_
  refine z_get X fl_9_44 d_X9_allAgainst_12 0 rfl (v := .int 0) rfl ?_
  refine zc_ge X d_X9_allAgainst_15 (tgt := 53) (by decide) (a := 0) (b := 0) (show (0 : Int32).toInt = 0 from by decide) (show (0 : Int32).toInt = 0 from by decide) (fun _ => ?_) (fun c15_1 => absurd c15_1 (by decide))
  refine z_run X bb_X9_allAgainst_53_55 bk_X9_allAgainst_53_55 (lv' := [(6, .int 0), (5, .int 0), (4, .int 0), (0, .ref trials), (1, .int px), (2, .int py), (3, .int few)]) (st' := [.int 0]) rfl ?_
  exact z_iret X rfl d_X9_allAgainst_55 (Nat.le_of_ble_eq_true rfl) (Nat.le_of_ble_eq_true rfl) ⟨rfl, rfl⟩

theorem d_X8_start_2 : decode cX8_start 2 = .ok (.putfield 15, 3) := by decide +kernel
theorem d_X8_start_5 : decode cX8_start 5 = .ok (.return_, 1) := by decide +kernel
abbrev bb_X8_start_0_2 : ZB := [(.aload_n 0, .null), (.iconst 0, .int 0)]
theorem bk_X8_start_0_2 : zchk cX8_start bb_X8_start_0_2 0 = true ∧ zpc bb_X8_start_0_2 0 = 2 := ⟨by decide +kernel, rfl⟩
set_option maxHeartbeats 4000000 in
set_option maxRecDepth 100000 in
theorem c_X8_start0 (l : Launch) (G : KG) (told : Nat) (tn : Nat) : Ct l G yX8_start cX8_start 1 none { frames := 0, cells := 0, slots := 0, locals := 0 } [.ref told] [(told, ob 8 [.ref tn, .int 0])] (fun r w1 => r = none ∧ w1 = [(told, ob 8 [.ref tn, .int 0])]) := by
  refine ct_of [(0, .ref told)] (by decide) (Nat.le_of_ble_eq_true rfl) rfl ?_
  intro p0 e0 s0 m0 args0 below0 meth0 c0 A X
  refine z_run X bb_X8_start_0_2 bk_X8_start_0_2 (lv' := [(0, .ref told)]) (st' := [.int 0, .ref told]) rfl ?_
  refine z_put X fl_8_15 d_X8_start_2 0 rfl (ty := .int) (T := TX8) (N := 2) rfl (Or.inl rfl) (by decide +kernel) rfl (by rfl) (Nat.le_of_ble_eq_true rfl) (ws' := [(told, ob 8 [.ref tn, .int 0])]) rfl ?_
  exact z_vret X rfl d_X8_start_5 (Nat.le_of_ble_eq_true rfl) (Nat.le_of_ble_eq_true rfl) ⟨rfl, rfl⟩

set_option maxHeartbeats 4000000 in
set_option maxRecDepth 100000 in
theorem c_X8_start (l : Launch) (G : KG) (told : Nat) (tn : Nat) (k : Int32) : Ct l G yX8_start cX8_start 1 none { frames := 0, cells := 0, slots := 0, locals := 0 } [.ref told] [(told, ob 8 [.ref tn, .int k])] (fun r w1 => r = none ∧ w1 = [(told, ob 8 [.ref tn, .int 0])]) := by
  refine ct_of [(0, .ref told)] (by decide) (Nat.le_of_ble_eq_true rfl) rfl ?_
  intro p0 e0 s0 m0 args0 below0 meth0 c0 A X
  refine z_run X bb_X8_start_0_2 bk_X8_start_0_2 (lv' := [(0, .ref told)]) (st' := [.int 0, .ref told]) rfl ?_
  refine z_put X fl_8_15 d_X8_start_2 0 rfl (ty := .int) (T := TX8) (N := 2) rfl (Or.inl rfl) (by decide +kernel) rfl (by rfl) (Nat.le_of_ble_eq_true rfl) (ws' := [(told, ob 8 [.ref tn, .int 0])]) rfl ?_
  exact z_vret X rfl d_X8_start_5 (Nat.le_of_ble_eq_true rfl) (Nat.le_of_ble_eq_true rfl) ⟨rfl, rfl⟩

theorem d_X8_add_1 : decode cX8_add 1 = .ok (.getfield 15, 3) := by decide +kernel
theorem d_X8_add_5 : decode cX8_add 5 = .ok (.getfield 9, 3) := by decide +kernel
theorem d_X8_add_8 : decode cX8_add 8 = .ok (.arraylength, 1) := by decide +kernel
theorem d_X8_add_9 : decode cX8_add 9 = .ok (.if_icmp .ge 23, 3) := by decide +kernel
theorem d_X8_add_13 : decode cX8_add 13 = .ok (.getfield 9, 3) := by decide +kernel
theorem d_X8_add_17 : decode cX8_add 17 = .ok (.getfield 15, 3) := by decide +kernel
theorem d_X8_add_21 : decode cX8_add 21 = .ok (.lastore, 1) := by decide +kernel
theorem d_X8_add_24 : decode cX8_add 24 = .ok (.getfield 15, 3) := by decide +kernel
theorem d_X8_add_29 : decode cX8_add 29 = .ok (.putfield 15, 3) := by decide +kernel
theorem d_X8_add_32 : decode cX8_add 32 = .ok (.return_, 1) := by decide +kernel
abbrev bb_X8_add_0_1 : ZB := [(.aload_n 0, .null)]
theorem bk_X8_add_0_1 : zchk cX8_add bb_X8_add_0_1 0 = true ∧ zpc bb_X8_add_0_1 0 = 1 := ⟨by decide +kernel, rfl⟩
abbrev bb_X8_add_4_5 : ZB := [(.aload_n 0, .null)]
theorem bk_X8_add_4_5 : zchk cX8_add bb_X8_add_4_5 4 = true ∧ zpc bb_X8_add_4_5 4 = 5 := ⟨by decide +kernel, rfl⟩
abbrev bb_X8_add_12_13 : ZB := [(.aload_n 0, .null)]
theorem bk_X8_add_12_13 : zchk cX8_add bb_X8_add_12_13 12 = true ∧ zpc bb_X8_add_12_13 12 = 13 := ⟨by decide +kernel, rfl⟩
abbrev bb_X8_add_16_17 : ZB := [(.aload_n 0, .null)]
theorem bk_X8_add_16_17 : zchk cX8_add bb_X8_add_16_17 16 = true ∧ zpc bb_X8_add_16_17 16 = 17 := ⟨by decide +kernel, rfl⟩
abbrev bb_X8_add_20_21 : ZB := [(.lload_n 1, .null)]
theorem bk_X8_add_20_21 : zchk cX8_add bb_X8_add_20_21 20 = true ∧ zpc bb_X8_add_20_21 20 = 21 := ⟨by decide +kernel, rfl⟩
abbrev bb_X8_add_22_24 : ZB := [(.aload_n 0, .null), (.dup, .null)]
theorem bk_X8_add_22_24 : zchk cX8_add bb_X8_add_22_24 22 = true ∧ zpc bb_X8_add_22_24 22 = 24 := ⟨by decide +kernel, rfl⟩
abbrev bb_X8_add_27_29 : ZB := [(.iconst 1, .int 1), (.iadd, .null)]
theorem bk_X8_add_27_29 : zchk cX8_add bb_X8_add_27_29 27 = true ∧ zpc bb_X8_add_27_29 27 = 29 := ⟨by decide +kernel, rfl⟩
set_option maxHeartbeats 4000000 in
set_option maxRecDepth 100000 in
theorem c_X8_add0 (l : Launch) (G : KG) (told : Nat) (tn : Nat) (v : Int64) (f : Nat → Int64) : Ct l G yX8_add cX8_add 3 none { frames := 0, cells := 0, slots := 0, locals := 0 } [.ref told, .long v] [(told, ob 8 [.ref tn, .int 0]), (tn, aJ G 16 f)] (fun r w1 => r = none ∧ w1 = [(told, ob 8 [.ref tn, .int 1]), (tn, aJ G 16 (vp_updL f 0 v))]) := by
  refine ct_of [(0, .ref told), (1, .long v)] (by decide) (Nat.le_of_ble_eq_true rfl) rfl ?_
  intro p0 e0 s0 m0 args0 below0 meth0 c0 A X
  refine z_run X bb_X8_add_0_1 bk_X8_add_0_1 (lv' := [(0, .ref told), (1, .long v)]) (st' := [.ref told]) rfl ?_
  refine z_get X fl_8_15 d_X8_add_1 0 rfl (v := .int 0) rfl ?_
  refine z_run X bb_X8_add_4_5 bk_X8_add_4_5 (lv' := [(0, .ref told), (1, .long v)]) (st' := [.ref told, .int 0]) rfl ?_
  refine z_get X fl_8_9 d_X8_add_5 0 rfl (v := .ref tn) rfl ?_
  refine z_alen X d_X8_add_8 1 1 rfl rfl (v := 16) rfl ?_
  refine zc_ge X d_X8_add_9 (tgt := 32) (by decide) (a := 0) (b := 16) (show (0 : Int32).toInt = 0 from by decide) (show (16 : Int32).toInt = 16 from by decide) (fun c9_1 => absurd c9_1 (by decide)) (fun _ => ?_)
  refine z_run X bb_X8_add_12_13 bk_X8_add_12_13 (lv' := [(0, .ref told), (1, .long v)]) (st' := [.ref told]) rfl ?_
  refine z_get X fl_8_9 d_X8_add_13 0 rfl (v := .ref tn) rfl ?_
  refine z_run X bb_X8_add_16_17 bk_X8_add_16_17 (lv' := [(0, .ref told), (1, .long v)]) (st' := [.ref told, .ref tn]) rfl ?_
  refine z_get X fl_8_15 d_X8_add_17 0 rfl (v := .int 0) rfl ?_
  refine z_run X bb_X8_add_20_21 bk_X8_add_20_21 (lv' := [(0, .ref told), (1, .long v)]) (st' := [.long v, .int 0, .ref tn]) rfl ?_
  refine z_last X d_X8_add_21 1 rfl (show vp_in _ _ from by unfold vp_in; decide) (ws' := [(told, ob 8 [.ref tn, .int 0]), (tn, aJ G 16 (vp_updL f 0 v))]) rfl ?_
  refine z_run X bb_X8_add_22_24 bk_X8_add_22_24 (lv' := [(0, .ref told), (1, .long v)]) (st' := [.ref told, .ref told]) rfl ?_
  refine z_get X fl_8_15 d_X8_add_24 0 rfl (v := .int 0) rfl ?_
  refine z_run X bb_X8_add_27_29 bk_X8_add_27_29 (lv' := [(0, .ref told), (1, .long v)]) (st' := [.int 1, .ref told]) rfl ?_
  refine z_put X fl_8_15 d_X8_add_29 0 rfl (ty := .int) (T := TX8) (N := 2) rfl (Or.inl rfl) (by decide +kernel) rfl (by rfl) (Nat.le_of_ble_eq_true rfl) (ws' := [(told, ob 8 [.ref tn, .int 1]), (tn, aJ G 16 (vp_updL f 0 v))]) rfl ?_
  exact z_vret X rfl d_X8_add_32 (Nat.le_of_ble_eq_true rfl) (Nat.le_of_ble_eq_true rfl) ⟨rfl, rfl⟩

set_option maxHeartbeats 4000000 in
set_option maxRecDepth 100000 in
theorem c_X8_add1 (l : Launch) (G : KG) (told : Nat) (tn : Nat) (v : Int64) (f : Nat → Int64) : Ct l G yX8_add cX8_add 3 none { frames := 0, cells := 0, slots := 0, locals := 0 } [.ref told, .long v] [(told, ob 8 [.ref tn, .int 1]), (tn, aJ G 16 f)] (fun r w1 => r = none ∧ w1 = [(told, ob 8 [.ref tn, .int 2]), (tn, aJ G 16 (vp_updL f 1 v))]) := by
  refine ct_of [(0, .ref told), (1, .long v)] (by decide) (Nat.le_of_ble_eq_true rfl) rfl ?_
  intro p0 e0 s0 m0 args0 below0 meth0 c0 A X
  refine z_run X bb_X8_add_0_1 bk_X8_add_0_1 (lv' := [(0, .ref told), (1, .long v)]) (st' := [.ref told]) rfl ?_
  refine z_get X fl_8_15 d_X8_add_1 0 rfl (v := .int 1) rfl ?_
  refine z_run X bb_X8_add_4_5 bk_X8_add_4_5 (lv' := [(0, .ref told), (1, .long v)]) (st' := [.ref told, .int 1]) rfl ?_
  refine z_get X fl_8_9 d_X8_add_5 0 rfl (v := .ref tn) rfl ?_
  refine z_alen X d_X8_add_8 1 1 rfl rfl (v := 16) rfl ?_
  refine zc_ge X d_X8_add_9 (tgt := 32) (by decide) (a := 1) (b := 16) (show (1 : Int32).toInt = 1 from by decide) (show (16 : Int32).toInt = 16 from by decide) (fun c9_1 => absurd c9_1 (by decide)) (fun _ => ?_)
  refine z_run X bb_X8_add_12_13 bk_X8_add_12_13 (lv' := [(0, .ref told), (1, .long v)]) (st' := [.ref told]) rfl ?_
  refine z_get X fl_8_9 d_X8_add_13 0 rfl (v := .ref tn) rfl ?_
  refine z_run X bb_X8_add_16_17 bk_X8_add_16_17 (lv' := [(0, .ref told), (1, .long v)]) (st' := [.ref told, .ref tn]) rfl ?_
  refine z_get X fl_8_15 d_X8_add_17 0 rfl (v := .int 1) rfl ?_
  refine z_run X bb_X8_add_20_21 bk_X8_add_20_21 (lv' := [(0, .ref told), (1, .long v)]) (st' := [.long v, .int 1, .ref tn]) rfl ?_
  refine z_last X d_X8_add_21 1 rfl (show vp_in _ _ from by unfold vp_in; decide) (ws' := [(told, ob 8 [.ref tn, .int 1]), (tn, aJ G 16 (vp_updL f 1 v))]) rfl ?_
  refine z_run X bb_X8_add_22_24 bk_X8_add_22_24 (lv' := [(0, .ref told), (1, .long v)]) (st' := [.ref told, .ref told]) rfl ?_
  refine z_get X fl_8_15 d_X8_add_24 0 rfl (v := .int 1) rfl ?_
  refine z_run X bb_X8_add_27_29 bk_X8_add_27_29 (lv' := [(0, .ref told), (1, .long v)]) (st' := [.int 2, .ref told]) rfl ?_
  refine z_put X fl_8_15 d_X8_add_29 0 rfl (ty := .int) (T := TX8) (N := 2) rfl (Or.inl rfl) (by decide +kernel) rfl (by rfl) (Nat.le_of_ble_eq_true rfl) (ws' := [(told, ob 8 [.ref tn, .int 2]), (tn, aJ G 16 (vp_updL f 1 v))]) rfl ?_
  exact z_vret X rfl d_X8_add_32 (Nat.le_of_ble_eq_true rfl) (Nat.le_of_ble_eq_true rfl) ⟨rfl, rfl⟩

set_option maxHeartbeats 4000000 in
set_option maxRecDepth 100000 in
theorem c_X8_add2 (l : Launch) (G : KG) (told : Nat) (tn : Nat) (v : Int64) (f : Nat → Int64) : Ct l G yX8_add cX8_add 3 none { frames := 0, cells := 0, slots := 0, locals := 0 } [.ref told, .long v] [(told, ob 8 [.ref tn, .int 2]), (tn, aJ G 16 f)] (fun r w1 => r = none ∧ w1 = [(told, ob 8 [.ref tn, .int 3]), (tn, aJ G 16 (vp_updL f 2 v))]) := by
  refine ct_of [(0, .ref told), (1, .long v)] (by decide) (Nat.le_of_ble_eq_true rfl) rfl ?_
  intro p0 e0 s0 m0 args0 below0 meth0 c0 A X
  refine z_run X bb_X8_add_0_1 bk_X8_add_0_1 (lv' := [(0, .ref told), (1, .long v)]) (st' := [.ref told]) rfl ?_
  refine z_get X fl_8_15 d_X8_add_1 0 rfl (v := .int 2) rfl ?_
  refine z_run X bb_X8_add_4_5 bk_X8_add_4_5 (lv' := [(0, .ref told), (1, .long v)]) (st' := [.ref told, .int 2]) rfl ?_
  refine z_get X fl_8_9 d_X8_add_5 0 rfl (v := .ref tn) rfl ?_
  refine z_alen X d_X8_add_8 1 1 rfl rfl (v := 16) rfl ?_
  refine zc_ge X d_X8_add_9 (tgt := 32) (by decide) (a := 2) (b := 16) (show (2 : Int32).toInt = 2 from by decide) (show (16 : Int32).toInt = 16 from by decide) (fun c9_1 => absurd c9_1 (by decide)) (fun _ => ?_)
  refine z_run X bb_X8_add_12_13 bk_X8_add_12_13 (lv' := [(0, .ref told), (1, .long v)]) (st' := [.ref told]) rfl ?_
  refine z_get X fl_8_9 d_X8_add_13 0 rfl (v := .ref tn) rfl ?_
  refine z_run X bb_X8_add_16_17 bk_X8_add_16_17 (lv' := [(0, .ref told), (1, .long v)]) (st' := [.ref told, .ref tn]) rfl ?_
  refine z_get X fl_8_15 d_X8_add_17 0 rfl (v := .int 2) rfl ?_
  refine z_run X bb_X8_add_20_21 bk_X8_add_20_21 (lv' := [(0, .ref told), (1, .long v)]) (st' := [.long v, .int 2, .ref tn]) rfl ?_
  refine z_last X d_X8_add_21 1 rfl (show vp_in _ _ from by unfold vp_in; decide) (ws' := [(told, ob 8 [.ref tn, .int 2]), (tn, aJ G 16 (vp_updL f 2 v))]) rfl ?_
  refine z_run X bb_X8_add_22_24 bk_X8_add_22_24 (lv' := [(0, .ref told), (1, .long v)]) (st' := [.ref told, .ref told]) rfl ?_
  refine z_get X fl_8_15 d_X8_add_24 0 rfl (v := .int 2) rfl ?_
  refine z_run X bb_X8_add_27_29 bk_X8_add_27_29 (lv' := [(0, .ref told), (1, .long v)]) (st' := [.int 3, .ref told]) rfl ?_
  refine z_put X fl_8_15 d_X8_add_29 0 rfl (ty := .int) (T := TX8) (N := 2) rfl (Or.inl rfl) (by decide +kernel) rfl (by rfl) (Nat.le_of_ble_eq_true rfl) (ws' := [(told, ob 8 [.ref tn, .int 3]), (tn, aJ G 16 (vp_updL f 2 v))]) rfl ?_
  exact z_vret X rfl d_X8_add_32 (Nat.le_of_ble_eq_true rfl) (Nat.le_of_ble_eq_true rfl) ⟨rfl, rfl⟩

set_option maxHeartbeats 4000000 in
set_option maxRecDepth 100000 in
theorem c_X8_add3 (l : Launch) (G : KG) (told : Nat) (tn : Nat) (v : Int64) (f : Nat → Int64) : Ct l G yX8_add cX8_add 3 none { frames := 0, cells := 0, slots := 0, locals := 0 } [.ref told, .long v] [(told, ob 8 [.ref tn, .int 3]), (tn, aJ G 16 f)] (fun r w1 => r = none ∧ w1 = [(told, ob 8 [.ref tn, .int 4]), (tn, aJ G 16 (vp_updL f 3 v))]) := by
  refine ct_of [(0, .ref told), (1, .long v)] (by decide) (Nat.le_of_ble_eq_true rfl) rfl ?_
  intro p0 e0 s0 m0 args0 below0 meth0 c0 A X
  refine z_run X bb_X8_add_0_1 bk_X8_add_0_1 (lv' := [(0, .ref told), (1, .long v)]) (st' := [.ref told]) rfl ?_
  refine z_get X fl_8_15 d_X8_add_1 0 rfl (v := .int 3) rfl ?_
  refine z_run X bb_X8_add_4_5 bk_X8_add_4_5 (lv' := [(0, .ref told), (1, .long v)]) (st' := [.ref told, .int 3]) rfl ?_
  refine z_get X fl_8_9 d_X8_add_5 0 rfl (v := .ref tn) rfl ?_
  refine z_alen X d_X8_add_8 1 1 rfl rfl (v := 16) rfl ?_
  refine zc_ge X d_X8_add_9 (tgt := 32) (by decide) (a := 3) (b := 16) (show (3 : Int32).toInt = 3 from by decide) (show (16 : Int32).toInt = 16 from by decide) (fun c9_1 => absurd c9_1 (by decide)) (fun _ => ?_)
  refine z_run X bb_X8_add_12_13 bk_X8_add_12_13 (lv' := [(0, .ref told), (1, .long v)]) (st' := [.ref told]) rfl ?_
  refine z_get X fl_8_9 d_X8_add_13 0 rfl (v := .ref tn) rfl ?_
  refine z_run X bb_X8_add_16_17 bk_X8_add_16_17 (lv' := [(0, .ref told), (1, .long v)]) (st' := [.ref told, .ref tn]) rfl ?_
  refine z_get X fl_8_15 d_X8_add_17 0 rfl (v := .int 3) rfl ?_
  refine z_run X bb_X8_add_20_21 bk_X8_add_20_21 (lv' := [(0, .ref told), (1, .long v)]) (st' := [.long v, .int 3, .ref tn]) rfl ?_
  refine z_last X d_X8_add_21 1 rfl (show vp_in _ _ from by unfold vp_in; decide) (ws' := [(told, ob 8 [.ref tn, .int 3]), (tn, aJ G 16 (vp_updL f 3 v))]) rfl ?_
  refine z_run X bb_X8_add_22_24 bk_X8_add_22_24 (lv' := [(0, .ref told), (1, .long v)]) (st' := [.ref told, .ref told]) rfl ?_
  refine z_get X fl_8_15 d_X8_add_24 0 rfl (v := .int 3) rfl ?_
  refine z_run X bb_X8_add_27_29 bk_X8_add_27_29 (lv' := [(0, .ref told), (1, .long v)]) (st' := [.int 4, .ref told]) rfl ?_
  refine z_put X fl_8_15 d_X8_add_29 0 rfl (ty := .int) (T := TX8) (N := 2) rfl (Or.inl rfl) (by decide +kernel) rfl (by rfl) (Nat.le_of_ble_eq_true rfl) (ws' := [(told, ob 8 [.ref tn, .int 4]), (tn, aJ G 16 (vp_updL f 3 v))]) rfl ?_
  exact z_vret X rfl d_X8_add_32 (Nat.le_of_ble_eq_true rfl) (Nat.le_of_ble_eq_true rfl) ⟨rfl, rfl⟩

set_option maxHeartbeats 4000000 in
set_option maxRecDepth 100000 in
theorem c_X8_add4 (l : Launch) (G : KG) (told : Nat) (tn : Nat) (v : Int64) (f : Nat → Int64) : Ct l G yX8_add cX8_add 3 none { frames := 0, cells := 0, slots := 0, locals := 0 } [.ref told, .long v] [(told, ob 8 [.ref tn, .int 4]), (tn, aJ G 16 f)] (fun r w1 => r = none ∧ w1 = [(told, ob 8 [.ref tn, .int 5]), (tn, aJ G 16 (vp_updL f 4 v))]) := by
  refine ct_of [(0, .ref told), (1, .long v)] (by decide) (Nat.le_of_ble_eq_true rfl) rfl ?_
  intro p0 e0 s0 m0 args0 below0 meth0 c0 A X
  refine z_run X bb_X8_add_0_1 bk_X8_add_0_1 (lv' := [(0, .ref told), (1, .long v)]) (st' := [.ref told]) rfl ?_
  refine z_get X fl_8_15 d_X8_add_1 0 rfl (v := .int 4) rfl ?_
  refine z_run X bb_X8_add_4_5 bk_X8_add_4_5 (lv' := [(0, .ref told), (1, .long v)]) (st' := [.ref told, .int 4]) rfl ?_
  refine z_get X fl_8_9 d_X8_add_5 0 rfl (v := .ref tn) rfl ?_
  refine z_alen X d_X8_add_8 1 1 rfl rfl (v := 16) rfl ?_
  refine zc_ge X d_X8_add_9 (tgt := 32) (by decide) (a := 4) (b := 16) (show (4 : Int32).toInt = 4 from by decide) (show (16 : Int32).toInt = 16 from by decide) (fun c9_1 => absurd c9_1 (by decide)) (fun _ => ?_)
  refine z_run X bb_X8_add_12_13 bk_X8_add_12_13 (lv' := [(0, .ref told), (1, .long v)]) (st' := [.ref told]) rfl ?_
  refine z_get X fl_8_9 d_X8_add_13 0 rfl (v := .ref tn) rfl ?_
  refine z_run X bb_X8_add_16_17 bk_X8_add_16_17 (lv' := [(0, .ref told), (1, .long v)]) (st' := [.ref told, .ref tn]) rfl ?_
  refine z_get X fl_8_15 d_X8_add_17 0 rfl (v := .int 4) rfl ?_
  refine z_run X bb_X8_add_20_21 bk_X8_add_20_21 (lv' := [(0, .ref told), (1, .long v)]) (st' := [.long v, .int 4, .ref tn]) rfl ?_
  refine z_last X d_X8_add_21 1 rfl (show vp_in _ _ from by unfold vp_in; decide) (ws' := [(told, ob 8 [.ref tn, .int 4]), (tn, aJ G 16 (vp_updL f 4 v))]) rfl ?_
  refine z_run X bb_X8_add_22_24 bk_X8_add_22_24 (lv' := [(0, .ref told), (1, .long v)]) (st' := [.ref told, .ref told]) rfl ?_
  refine z_get X fl_8_15 d_X8_add_24 0 rfl (v := .int 4) rfl ?_
  refine z_run X bb_X8_add_27_29 bk_X8_add_27_29 (lv' := [(0, .ref told), (1, .long v)]) (st' := [.int 5, .ref told]) rfl ?_
  refine z_put X fl_8_15 d_X8_add_29 0 rfl (ty := .int) (T := TX8) (N := 2) rfl (Or.inl rfl) (by decide +kernel) rfl (by rfl) (Nat.le_of_ble_eq_true rfl) (ws' := [(told, ob 8 [.ref tn, .int 5]), (tn, aJ G 16 (vp_updL f 4 v))]) rfl ?_
  exact z_vret X rfl d_X8_add_32 (Nat.le_of_ble_eq_true rfl) (Nat.le_of_ble_eq_true rfl) ⟨rfl, rfl⟩

theorem d_X1_start_2 : decode cX1_start 2 = .ok (.putfield 18, 3) := by decide +kernel
theorem d_X1_start_5 : decode cX1_start 5 = .ok (.return_, 1) := by decide +kernel
abbrev bb_X1_start_0_2 : ZB := [(.aload_n 0, .null), (.iconst 0, .int 0)]
theorem bk_X1_start_0_2 : zchk cX1_start bb_X1_start_0_2 0 = true ∧ zpc bb_X1_start_0_2 0 = 2 := ⟨by decide +kernel, rfl⟩
set_option maxHeartbeats 4000000 in
set_option maxRecDepth 100000 in
theorem c_X1_start (l : Launch) (G : KG) (span : Nat) (fx : Nat) (fy : Nat) : Ct l G yX1_start cX1_start 1 none { frames := 0, cells := 0, slots := 0, locals := 0 } [.ref span] [(span, ob 1 [.int 0, .int 0, .int 0, .int 0, .int 0, .int 0, .int 0, .ref fx, .ref fy])] (fun r w1 => r = none ∧ w1 = [(span, ob 1 [.int 0, .int 0, .int 0, .int 0, .int 0, .int 0, .int 0, .ref fx, .ref fy])]) := by
  refine ct_of [(0, .ref span)] (by decide) (Nat.le_of_ble_eq_true rfl) rfl ?_
  intro p0 e0 s0 m0 args0 below0 meth0 c0 A X
  refine z_run X bb_X1_start_0_2 bk_X1_start_0_2 (lv' := [(0, .ref span)]) (st' := [.int 0, .ref span]) rfl ?_
  refine z_put X fl_1_18 d_X1_start_2 0 rfl (ty := .int) (T := TX1) (N := 9) rfl (Or.inl rfl) (by decide +kernel) rfl (by rfl) (Nat.le_of_ble_eq_true rfl) (ws' := [(span, ob 1 [.int 0, .int 0, .int 0, .int 0, .int 0, .int 0, .int 0, .ref fx, .ref fy])]) rfl ?_
  exact z_vret X rfl d_X1_start_5 (Nat.le_of_ble_eq_true rfl) (Nat.le_of_ble_eq_true rfl) ⟨rfl, rfl⟩

theorem d_X1_take_1 : decode cX1_take 1 = .ok (.getfield 18, 3) := by decide +kernel
theorem d_X1_take_4 : decode cX1_take 4 = .ok (.ifCond .ne 23, 3) := by decide +kernel
theorem d_X1_take_29 : decode cX1_take 29 = .ok (.putfield 34, 3) := by decide +kernel
theorem d_X1_take_34 : decode cX1_take 34 = .ok (.putfield 37, 3) := by decide +kernel
theorem d_X1_take_39 : decode cX1_take 39 = .ok (.getfield 28, 3) := by decide +kernel
theorem d_X1_take_43 : decode cX1_take 43 = .ok (.invokestatic 40, 3) := by decide +kernel
theorem d_X1_take_46 : decode cX1_take 46 = .ok (.putfield 28, 3) := by decide +kernel
theorem d_X1_take_51 : decode cX1_take 51 = .ok (.getfield 31, 3) := by decide +kernel
theorem d_X1_take_55 : decode cX1_take 55 = .ok (.invokestatic 46, 3) := by decide +kernel
theorem d_X1_take_58 : decode cX1_take 58 = .ok (.putfield 31, 3) := by decide +kernel
theorem d_X1_take_62 : decode cX1_take 62 = .ok (.getfield 18, 3) := by decide +kernel
theorem d_X1_take_67 : decode cX1_take 67 = .ok (.if_icmp .ge 23, 3) := by decide +kernel
theorem d_X1_take_92 : decode cX1_take 92 = .ok (.getfield 18, 3) := by decide +kernel
theorem d_X1_take_97 : decode cX1_take 97 = .ok (.putfield 18, 3) := by decide +kernel
theorem d_X1_take_100 : decode cX1_take 100 = .ok (.return_, 1) := by decide +kernel
theorem d_X1_take_71 : decode cX1_take 71 = .ok (.getfield 9, 3) := by decide +kernel
theorem d_X1_take_75 : decode cX1_take 75 = .ok (.getfield 18, 3) := by decide +kernel
theorem d_X1_take_79 : decode cX1_take 79 = .ok (.iastore, 1) := by decide +kernel
theorem d_X1_take_81 : decode cX1_take 81 = .ok (.getfield 15, 3) := by decide +kernel
theorem d_X1_take_85 : decode cX1_take 85 = .ok (.getfield 18, 3) := by decide +kernel
theorem d_X1_take_89 : decode cX1_take 89 = .ok (.iastore, 1) := by decide +kernel
theorem d_X1_take_9 : decode cX1_take 9 = .ok (.putfield 22, 3) := by decide +kernel
theorem d_X1_take_14 : decode cX1_take 14 = .ok (.putfield 25, 3) := by decide +kernel
theorem d_X1_take_19 : decode cX1_take 19 = .ok (.putfield 28, 3) := by decide +kernel
theorem d_X1_take_24 : decode cX1_take 24 = .ok (.putfield 31, 3) := by decide +kernel
abbrev bb_X1_take_0_1 : ZB := [(.aload_n 0, .null)]
theorem bk_X1_take_0_1 : zchk cX1_take bb_X1_take_0_1 0 = true ∧ zpc bb_X1_take_0_1 0 = 1 := ⟨by decide +kernel, rfl⟩
abbrev bb_X1_take_27_29 : ZB := [(.aload_n 0, .null), (.iload_n 1, .null)]
theorem bk_X1_take_27_29 : zchk cX1_take bb_X1_take_27_29 27 = true ∧ zpc bb_X1_take_27_29 27 = 29 := ⟨by decide +kernel, rfl⟩
abbrev bb_X1_take_32_34 : ZB := [(.aload_n 0, .null), (.iload_n 2, .null)]
theorem bk_X1_take_32_34 : zchk cX1_take bb_X1_take_32_34 32 = true ∧ zpc bb_X1_take_32_34 32 = 34 := ⟨by decide +kernel, rfl⟩
abbrev bb_X1_take_37_39 : ZB := [(.aload_n 0, .null), (.aload_n 0, .null)]
theorem bk_X1_take_37_39 : zchk cX1_take bb_X1_take_37_39 37 = true ∧ zpc bb_X1_take_37_39 37 = 39 := ⟨by decide +kernel, rfl⟩
abbrev bb_X1_take_42_43 : ZB := [(.iload_n 2, .null)]
theorem bk_X1_take_42_43 : zchk cX1_take bb_X1_take_42_43 42 = true ∧ zpc bb_X1_take_42_43 42 = 43 := ⟨by decide +kernel, rfl⟩
abbrev bb_X1_take_49_51 : ZB := [(.aload_n 0, .null), (.aload_n 0, .null)]
theorem bk_X1_take_49_51 : zchk cX1_take bb_X1_take_49_51 49 = true ∧ zpc bb_X1_take_49_51 49 = 51 := ⟨by decide +kernel, rfl⟩
abbrev bb_X1_take_54_55 : ZB := [(.iload_n 2, .null)]
theorem bk_X1_take_54_55 : zchk cX1_take bb_X1_take_54_55 54 = true ∧ zpc bb_X1_take_54_55 54 = 55 := ⟨by decide +kernel, rfl⟩
abbrev bb_X1_take_61_62 : ZB := [(.aload_n 0, .null)]
theorem bk_X1_take_61_62 : zchk cX1_take bb_X1_take_61_62 61 = true ∧ zpc bb_X1_take_61_62 61 = 62 := ⟨by decide +kernel, rfl⟩
abbrev bb_X1_take_65_67 : ZB := [(.bipush 40, .int 40)]
theorem bk_X1_take_65_67 : zchk cX1_take bb_X1_take_65_67 65 = true ∧ zpc bb_X1_take_65_67 65 = 67 := ⟨by decide +kernel, rfl⟩
abbrev bb_X1_take_90_92 : ZB := [(.aload_n 0, .null), (.dup, .null)]
theorem bk_X1_take_90_92 : zchk cX1_take bb_X1_take_90_92 90 = true ∧ zpc bb_X1_take_90_92 90 = 92 := ⟨by decide +kernel, rfl⟩
abbrev bb_X1_take_95_97 : ZB := [(.iconst 1, .int 1), (.iadd, .null)]
theorem bk_X1_take_95_97 : zchk cX1_take bb_X1_take_95_97 95 = true ∧ zpc bb_X1_take_95_97 95 = 97 := ⟨by decide +kernel, rfl⟩
abbrev bb_X1_take_70_71 : ZB := [(.aload_n 0, .null)]
theorem bk_X1_take_70_71 : zchk cX1_take bb_X1_take_70_71 70 = true ∧ zpc bb_X1_take_70_71 70 = 71 := ⟨by decide +kernel, rfl⟩
abbrev bb_X1_take_74_75 : ZB := [(.aload_n 0, .null)]
theorem bk_X1_take_74_75 : zchk cX1_take bb_X1_take_74_75 74 = true ∧ zpc bb_X1_take_74_75 74 = 75 := ⟨by decide +kernel, rfl⟩
abbrev bb_X1_take_78_79 : ZB := [(.iload_n 1, .null)]
theorem bk_X1_take_78_79 : zchk cX1_take bb_X1_take_78_79 78 = true ∧ zpc bb_X1_take_78_79 78 = 79 := ⟨by decide +kernel, rfl⟩
abbrev bb_X1_take_80_81 : ZB := [(.aload_n 0, .null)]
theorem bk_X1_take_80_81 : zchk cX1_take bb_X1_take_80_81 80 = true ∧ zpc bb_X1_take_80_81 80 = 81 := ⟨by decide +kernel, rfl⟩
abbrev bb_X1_take_84_85 : ZB := [(.aload_n 0, .null)]
theorem bk_X1_take_84_85 : zchk cX1_take bb_X1_take_84_85 84 = true ∧ zpc bb_X1_take_84_85 84 = 85 := ⟨by decide +kernel, rfl⟩
abbrev bb_X1_take_88_89 : ZB := [(.iload_n 2, .null)]
theorem bk_X1_take_88_89 : zchk cX1_take bb_X1_take_88_89 88 = true ∧ zpc bb_X1_take_88_89 88 = 89 := ⟨by decide +kernel, rfl⟩
abbrev bb_X1_take_7_9 : ZB := [(.aload_n 0, .null), (.iload_n 1, .null)]
theorem bk_X1_take_7_9 : zchk cX1_take bb_X1_take_7_9 7 = true ∧ zpc bb_X1_take_7_9 7 = 9 := ⟨by decide +kernel, rfl⟩
abbrev bb_X1_take_12_14 : ZB := [(.aload_n 0, .null), (.iload_n 2, .null)]
theorem bk_X1_take_12_14 : zchk cX1_take bb_X1_take_12_14 12 = true ∧ zpc bb_X1_take_12_14 12 = 14 := ⟨by decide +kernel, rfl⟩
abbrev bb_X1_take_17_19 : ZB := [(.aload_n 0, .null), (.iload_n 2, .null)]
theorem bk_X1_take_17_19 : zchk cX1_take bb_X1_take_17_19 17 = true ∧ zpc bb_X1_take_17_19 17 = 19 := ⟨by decide +kernel, rfl⟩
abbrev bb_X1_take_22_24 : ZB := [(.aload_n 0, .null), (.iload_n 2, .null)]
theorem bk_X1_take_22_24 : zchk cX1_take bb_X1_take_22_24 22 = true ∧ zpc bb_X1_take_22_24 22 = 24 := ⟨by decide +kernel, rfl⟩
set_option maxHeartbeats 4000000 in
set_option maxRecDepth 100000 in
theorem c_X1_take (l : Launch) (G : KG) (span : Nat) (fx : Nat) (fy : Nat) (px : Int32) (py : Int32) (cn : Int32) (m1 : Int32) (m2 : Int32) (m3 : Int32) (m4 : Int32) (m5 : Int32) (m6 : Int32) (f1 : Nat → Int32) (f2 : Nat → Int32) (ca : Int) (hcn : cn.toInt = ca) (hca : 0 ≤ ca ∧ ca < 14641) : Ct l G yX1_take cX1_take 3 none { frames := 1, cells := 0, slots := 0, locals := 14 } [.ref span, .int px, .int py] [(span, ob 1 [.int cn, .int m1, .int m2, .int m3, .int m4, .int m5, .int m6, .ref fx, .ref fy]), (fx, aI G 40 f1), (fy, aI G 40 f2)] (fun r w1 => ∃ (n1 : Int32), ∃ (n2 : Int32), ∃ (n3 : Int32), ∃ (n4 : Int32), ∃ (n5 : Int32), ∃ (n6 : Int32), ∃ (g1 : Nat → Int32), ∃ (g2 : Nat → Int32), r = none ∧ w1 = [(span, ob 1 [.int (cn + 1), .int n1, .int n2, .int n3, .int n4, .int n5, .int n6, .ref fx, .ref fy]), (fx, aI G 40 g1), (fy, aI G 40 g2)]) := by
  refine ct_of [(0, .ref span), (1, .int px), (2, .int py)] (by decide) (Nat.le_of_ble_eq_true rfl) rfl ?_
  intro p0 e0 s0 m0 args0 below0 meth0 c0 A X
  refine z_run X bb_X1_take_0_1 bk_X1_take_0_1 (lv' := [(0, .ref span), (1, .int px), (2, .int py)]) (st' := [.ref span]) rfl ?_
  refine z_get X fl_1_18 d_X1_take_1 0 rfl (v := .int cn) rfl ?_
  refine zi_ne X d_X1_take_4 (tgt := 27) (by decide) (a := cn.toInt) rfl (fun c4_1 => ?_) (fun c4_1 => ?_)
  ·
    refine z_run X bb_X1_take_27_29 bk_X1_take_27_29 (lv' := [(0, .ref span), (1, .int px), (2, .int py)]) (st' := [.int px, .ref span]) rfl ?_
    refine z_put X fl_1_34 d_X1_take_29 0 rfl (ty := .int) (T := TX1) (N := 9) rfl (Or.inl rfl) (by decide +kernel) rfl (by rfl) (Nat.le_of_ble_eq_true rfl) (ws' := [(span, ob 1 [.int cn, .int m1, .int m2, .int px, .int m4, .int m5, .int m6, .ref fx, .ref fy]), (fx, aI G 40 f1), (fy, aI G 40 f2)]) rfl ?_
    refine z_run X bb_X1_take_32_34 bk_X1_take_32_34 (lv' := [(0, .ref span), (1, .int px), (2, .int py)]) (st' := [.int py, .ref span]) rfl ?_
    refine z_put X fl_1_37 d_X1_take_34 0 rfl (ty := .int) (T := TX1) (N := 9) rfl (Or.inl rfl) (by decide +kernel) rfl (by rfl) (Nat.le_of_ble_eq_true rfl) (ws' := [(span, ob 1 [.int cn, .int m1, .int m2, .int px, .int py, .int m5, .int m6, .ref fx, .ref fy]), (fx, aI G 40 f1), (fy, aI G 40 f2)]) rfl ?_
    refine z_run X bb_X1_take_37_39 bk_X1_take_37_39 (lv' := [(0, .ref span), (1, .int px), (2, .int py)]) (st' := [.ref span, .ref span]) rfl ?_
    refine z_get X fl_1_28 d_X1_take_39 0 rfl (v := .int m5) rfl ?_
    refine z_run X bb_X1_take_42_43 bk_X1_take_42_43 (lv' := [(0, .ref span), (1, .int px), (2, .int py)]) (st' := [.int py, .int m5, .ref span]) rfl ?_
    refine z_mmin X k_1_40.1 k_1_40.2.1 k_1_40.2.2.1 k_1_40.2.2.2.1 ⟨Nat.le_of_ble_eq_true rfl, Nat.le_of_ble_eq_true rfl⟩ ⟨Nat.le_of_ble_eq_true rfl, Nat.le_of_ble_eq_true rfl⟩ d_X1_take_43 (v := (if py < m5 then py else m5)) rfl ?_
    refine z_put X fl_1_28 d_X1_take_46 0 rfl (ty := .int) (T := TX1) (N := 9) rfl (Or.inl rfl) (by decide +kernel) rfl (by rfl) (Nat.le_of_ble_eq_true rfl) (ws' := [(span, ob 1 [.int cn, .int m1, .int m2, .int px, .int py, .int (if py < m5 then py else m5), .int m6, .ref fx, .ref fy]), (fx, aI G 40 f1), (fy, aI G 40 f2)]) rfl ?_
    refine z_run X bb_X1_take_49_51 bk_X1_take_49_51 (lv' := [(0, .ref span), (1, .int px), (2, .int py)]) (st' := [.ref span, .ref span]) rfl ?_
    refine z_get X fl_1_31 d_X1_take_51 0 rfl (v := .int m6) rfl ?_
    refine z_run X bb_X1_take_54_55 bk_X1_take_54_55 (lv' := [(0, .ref span), (1, .int px), (2, .int py)]) (st' := [.int py, .int m6, .ref span]) rfl ?_
    refine z_mmax X k_1_46.1 k_1_46.2.1 k_1_46.2.2.1 k_1_46.2.2.2.1 ⟨Nat.le_of_ble_eq_true rfl, Nat.le_of_ble_eq_true rfl⟩ ⟨Nat.le_of_ble_eq_true rfl, Nat.le_of_ble_eq_true rfl⟩ d_X1_take_55 (v := (if m6 < py then py else m6)) rfl ?_
    refine z_put X fl_1_31 d_X1_take_58 0 rfl (ty := .int) (T := TX1) (N := 9) rfl (Or.inl rfl) (by decide +kernel) rfl (by rfl) (Nat.le_of_ble_eq_true rfl) (ws' := [(span, ob 1 [.int cn, .int m1, .int m2, .int px, .int py, .int (if py < m5 then py else m5), .int (if m6 < py then py else m6), .ref fx, .ref fy]), (fx, aI G 40 f1), (fy, aI G 40 f2)]) rfl ?_
    refine z_run X bb_X1_take_61_62 bk_X1_take_61_62 (lv' := [(0, .ref span), (1, .int px), (2, .int py)]) (st' := [.ref span]) rfl ?_
    refine z_get X fl_1_18 d_X1_take_62 0 rfl (v := .int cn) rfl ?_
    refine z_run X bb_X1_take_65_67 bk_X1_take_65_67 (lv' := [(0, .ref span), (1, .int px), (2, .int py)]) (st' := [.int 40, .int cn]) rfl ?_
    refine zc_ge X d_X1_take_67 (tgt := 90) (by decide) (a := cn.toInt) (b := 40) rfl (show (40 : Int32).toInt = 40 from by decide) (fun c67_2 => ?_) (fun c67_2 => ?_)
    ·
      refine z_run X bb_X1_take_90_92 bk_X1_take_90_92 (lv' := [(0, .ref span), (1, .int px), (2, .int py)]) (st' := [.ref span, .ref span]) rfl ?_
      refine z_get X fl_1_18 d_X1_take_92 0 rfl (v := .int cn) rfl ?_
      refine z_run X bb_X1_take_95_97 bk_X1_take_95_97 (lv' := [(0, .ref span), (1, .int px), (2, .int py)]) (st' := [.int (cn + 1), .ref span]) rfl ?_
      refine z_put X fl_1_18 d_X1_take_97 0 rfl (ty := .int) (T := TX1) (N := 9) rfl (Or.inl rfl) (by decide +kernel) rfl (by rfl) (Nat.le_of_ble_eq_true rfl) (ws' := [(span, ob 1 [.int (cn + 1), .int m1, .int m2, .int px, .int py, .int (if py < m5 then py else m5), .int (if m6 < py then py else m6), .ref fx, .ref fy]), (fx, aI G 40 f1), (fy, aI G 40 f2)]) rfl ?_
      exact z_vret X rfl d_X1_take_100 (Nat.le_of_ble_eq_true rfl) (Nat.le_of_ble_eq_true rfl) ⟨m1, m2, px, py, (if py < m5 then py else m5), (if m6 < py then py else m6), f1, f2, rfl, rfl⟩
    ·
      refine z_run X bb_X1_take_70_71 bk_X1_take_70_71 (lv' := [(0, .ref span), (1, .int px), (2, .int py)]) (st' := [.ref span]) rfl ?_
      refine z_get X fl_1_9 d_X1_take_71 0 rfl (v := .ref fx) rfl ?_
      refine z_run X bb_X1_take_74_75 bk_X1_take_74_75 (lv' := [(0, .ref span), (1, .int px), (2, .int py)]) (st' := [.ref span, .ref fx]) rfl ?_
      refine z_get X fl_1_18 d_X1_take_75 0 rfl (v := .int cn) rfl ?_
      refine z_run X bb_X1_take_78_79 bk_X1_take_78_79 (lv' := [(0, .ref span), (1, .int px), (2, .int py)]) (st' := [.int px, .int cn, .ref fx]) rfl ?_
      refine z_iast X d_X1_take_79 1 rfl (vin rfl (by omega) (by omega)) (ws' := [(span, ob 1 [.int cn, .int m1, .int m2, .int px, .int py, .int (if py < m5 then py else m5), .int (if m6 < py then py else m6), .ref fx, .ref fy]), (fx, aI G 40 (upd f1 cn.toNatClampNeg px)), (fy, aI G 40 f2)]) rfl ?_
      refine z_run X bb_X1_take_80_81 bk_X1_take_80_81 (lv' := [(0, .ref span), (1, .int px), (2, .int py)]) (st' := [.ref span]) rfl ?_
      refine z_get X fl_1_15 d_X1_take_81 0 rfl (v := .ref fy) rfl ?_
      refine z_run X bb_X1_take_84_85 bk_X1_take_84_85 (lv' := [(0, .ref span), (1, .int px), (2, .int py)]) (st' := [.ref span, .ref fy]) rfl ?_
      refine z_get X fl_1_18 d_X1_take_85 0 rfl (v := .int cn) rfl ?_
      refine z_run X bb_X1_take_88_89 bk_X1_take_88_89 (lv' := [(0, .ref span), (1, .int px), (2, .int py)]) (st' := [.int py, .int cn, .ref fy]) rfl ?_
      refine z_iast X d_X1_take_89 2 rfl (vin rfl (by omega) (by omega)) (ws' := [(span, ob 1 [.int cn, .int m1, .int m2, .int px, .int py, .int (if py < m5 then py else m5), .int (if m6 < py then py else m6), .ref fx, .ref fy]), (fx, aI G 40 (upd f1 cn.toNatClampNeg px)), (fy, aI G 40 (upd f2 cn.toNatClampNeg py))]) rfl ?_
      refine z_run X bb_X1_take_90_92 bk_X1_take_90_92 (lv' := [(0, .ref span), (1, .int px), (2, .int py)]) (st' := [.ref span, .ref span]) rfl ?_
      refine z_get X fl_1_18 d_X1_take_92 0 rfl (v := .int cn) rfl ?_
      refine z_run X bb_X1_take_95_97 bk_X1_take_95_97 (lv' := [(0, .ref span), (1, .int px), (2, .int py)]) (st' := [.int (cn + 1), .ref span]) rfl ?_
      refine z_put X fl_1_18 d_X1_take_97 0 rfl (ty := .int) (T := TX1) (N := 9) rfl (Or.inl rfl) (by decide +kernel) rfl (by rfl) (Nat.le_of_ble_eq_true rfl) (ws' := [(span, ob 1 [.int (cn + 1), .int m1, .int m2, .int px, .int py, .int (if py < m5 then py else m5), .int (if m6 < py then py else m6), .ref fx, .ref fy]), (fx, aI G 40 (upd f1 cn.toNatClampNeg px)), (fy, aI G 40 (upd f2 cn.toNatClampNeg py))]) rfl ?_
      exact z_vret X rfl d_X1_take_100 (Nat.le_of_ble_eq_true rfl) (Nat.le_of_ble_eq_true rfl) ⟨m1, m2, px, py, (if py < m5 then py else m5), (if m6 < py then py else m6), (upd f1 cn.toNatClampNeg px), (upd f2 cn.toNatClampNeg py), rfl, rfl⟩
  ·
    refine z_run X bb_X1_take_7_9 bk_X1_take_7_9 (lv' := [(0, .ref span), (1, .int px), (2, .int py)]) (st' := [.int px, .ref span]) rfl ?_
    refine z_put X fl_1_22 d_X1_take_9 0 rfl (ty := .int) (T := TX1) (N := 9) rfl (Or.inl rfl) (by decide +kernel) rfl (by rfl) (Nat.le_of_ble_eq_true rfl) (ws' := [(span, ob 1 [.int cn, .int px, .int m2, .int m3, .int m4, .int m5, .int m6, .ref fx, .ref fy]), (fx, aI G 40 f1), (fy, aI G 40 f2)]) rfl ?_
    refine z_run X bb_X1_take_12_14 bk_X1_take_12_14 (lv' := [(0, .ref span), (1, .int px), (2, .int py)]) (st' := [.int py, .ref span]) rfl ?_
    refine z_put X fl_1_25 d_X1_take_14 0 rfl (ty := .int) (T := TX1) (N := 9) rfl (Or.inl rfl) (by decide +kernel) rfl (by rfl) (Nat.le_of_ble_eq_true rfl) (ws' := [(span, ob 1 [.int cn, .int px, .int py, .int m3, .int m4, .int m5, .int m6, .ref fx, .ref fy]), (fx, aI G 40 f1), (fy, aI G 40 f2)]) rfl ?_
    refine z_run X bb_X1_take_17_19 bk_X1_take_17_19 (lv' := [(0, .ref span), (1, .int px), (2, .int py)]) (st' := [.int py, .ref span]) rfl ?_
    refine z_put X fl_1_28 d_X1_take_19 0 rfl (ty := .int) (T := TX1) (N := 9) rfl (Or.inl rfl) (by decide +kernel) rfl (by rfl) (Nat.le_of_ble_eq_true rfl) (ws' := [(span, ob 1 [.int cn, .int px, .int py, .int m3, .int m4, .int py, .int m6, .ref fx, .ref fy]), (fx, aI G 40 f1), (fy, aI G 40 f2)]) rfl ?_
    refine z_run X bb_X1_take_22_24 bk_X1_take_22_24 (lv' := [(0, .ref span), (1, .int px), (2, .int py)]) (st' := [.int py, .ref span]) rfl ?_
    refine z_put X fl_1_31 d_X1_take_24 0 rfl (ty := .int) (T := TX1) (N := 9) rfl (Or.inl rfl) (by decide +kernel) rfl (by rfl) (Nat.le_of_ble_eq_true rfl) (ws' := [(span, ob 1 [.int cn, .int px, .int py, .int m3, .int m4, .int py, .int py, .ref fx, .ref fy]), (fx, aI G 40 f1), (fy, aI G 40 f2)]) rfl ?_
    refine z_run X bb_X1_take_27_29 bk_X1_take_27_29 (lv' := [(0, .ref span), (1, .int px), (2, .int py)]) (st' := [.int px, .ref span]) rfl ?_
    refine z_put X fl_1_34 d_X1_take_29 0 rfl (ty := .int) (T := TX1) (N := 9) rfl (Or.inl rfl) (by decide +kernel) rfl (by rfl) (Nat.le_of_ble_eq_true rfl) (ws' := [(span, ob 1 [.int cn, .int px, .int py, .int px, .int m4, .int py, .int py, .ref fx, .ref fy]), (fx, aI G 40 f1), (fy, aI G 40 f2)]) rfl ?_
    refine z_run X bb_X1_take_32_34 bk_X1_take_32_34 (lv' := [(0, .ref span), (1, .int px), (2, .int py)]) (st' := [.int py, .ref span]) rfl ?_
    refine z_put X fl_1_37 d_X1_take_34 0 rfl (ty := .int) (T := TX1) (N := 9) rfl (Or.inl rfl) (by decide +kernel) rfl (by rfl) (Nat.le_of_ble_eq_true rfl) (ws' := [(span, ob 1 [.int cn, .int px, .int py, .int px, .int py, .int py, .int py, .ref fx, .ref fy]), (fx, aI G 40 f1), (fy, aI G 40 f2)]) rfl ?_
    refine z_run X bb_X1_take_37_39 bk_X1_take_37_39 (lv' := [(0, .ref span), (1, .int px), (2, .int py)]) (st' := [.ref span, .ref span]) rfl ?_
    refine z_get X fl_1_28 d_X1_take_39 0 rfl (v := .int py) rfl ?_
    refine z_run X bb_X1_take_42_43 bk_X1_take_42_43 (lv' := [(0, .ref span), (1, .int px), (2, .int py)]) (st' := [.int py, .int py, .ref span]) rfl ?_
    refine z_mmin X k_1_40.1 k_1_40.2.1 k_1_40.2.2.1 k_1_40.2.2.2.1 ⟨Nat.le_of_ble_eq_true rfl, Nat.le_of_ble_eq_true rfl⟩ ⟨Nat.le_of_ble_eq_true rfl, Nat.le_of_ble_eq_true rfl⟩ d_X1_take_43 (v := (if py < py then py else py)) rfl ?_
    refine z_put X fl_1_28 d_X1_take_46 0 rfl (ty := .int) (T := TX1) (N := 9) rfl (Or.inl rfl) (by decide +kernel) rfl (by rfl) (Nat.le_of_ble_eq_true rfl) (ws' := [(span, ob 1 [.int cn, .int px, .int py, .int px, .int py, .int (if py < py then py else py), .int py, .ref fx, .ref fy]), (fx, aI G 40 f1), (fy, aI G 40 f2)]) rfl ?_
    refine z_run X bb_X1_take_49_51 bk_X1_take_49_51 (lv' := [(0, .ref span), (1, .int px), (2, .int py)]) (st' := [.ref span, .ref span]) rfl ?_
    refine z_get X fl_1_31 d_X1_take_51 0 rfl (v := .int py) rfl ?_
    refine z_run X bb_X1_take_54_55 bk_X1_take_54_55 (lv' := [(0, .ref span), (1, .int px), (2, .int py)]) (st' := [.int py, .int py, .ref span]) rfl ?_
    refine z_mmax X k_1_46.1 k_1_46.2.1 k_1_46.2.2.1 k_1_46.2.2.2.1 ⟨Nat.le_of_ble_eq_true rfl, Nat.le_of_ble_eq_true rfl⟩ ⟨Nat.le_of_ble_eq_true rfl, Nat.le_of_ble_eq_true rfl⟩ d_X1_take_55 (v := (if py < py then py else py)) rfl ?_
    refine z_put X fl_1_31 d_X1_take_58 0 rfl (ty := .int) (T := TX1) (N := 9) rfl (Or.inl rfl) (by decide +kernel) rfl (by rfl) (Nat.le_of_ble_eq_true rfl) (ws' := [(span, ob 1 [.int cn, .int px, .int py, .int px, .int py, .int (if py < py then py else py), .int (if py < py then py else py), .ref fx, .ref fy]), (fx, aI G 40 f1), (fy, aI G 40 f2)]) rfl ?_
    refine z_run X bb_X1_take_61_62 bk_X1_take_61_62 (lv' := [(0, .ref span), (1, .int px), (2, .int py)]) (st' := [.ref span]) rfl ?_
    refine z_get X fl_1_18 d_X1_take_62 0 rfl (v := .int cn) rfl ?_
    refine z_run X bb_X1_take_65_67 bk_X1_take_65_67 (lv' := [(0, .ref span), (1, .int px), (2, .int py)]) (st' := [.int 40, .int cn]) rfl ?_
    refine zc_ge X d_X1_take_67 (tgt := 90) (by decide) (a := cn.toInt) (b := 40) rfl (show (40 : Int32).toInt = 40 from by decide) (fun c67_3 => ?_) (fun c67_3 => ?_)
    ·
      refine z_run X bb_X1_take_90_92 bk_X1_take_90_92 (lv' := [(0, .ref span), (1, .int px), (2, .int py)]) (st' := [.ref span, .ref span]) rfl ?_
      refine z_get X fl_1_18 d_X1_take_92 0 rfl (v := .int cn) rfl ?_
      refine z_run X bb_X1_take_95_97 bk_X1_take_95_97 (lv' := [(0, .ref span), (1, .int px), (2, .int py)]) (st' := [.int (cn + 1), .ref span]) rfl ?_
      refine z_put X fl_1_18 d_X1_take_97 0 rfl (ty := .int) (T := TX1) (N := 9) rfl (Or.inl rfl) (by decide +kernel) rfl (by rfl) (Nat.le_of_ble_eq_true rfl) (ws' := [(span, ob 1 [.int (cn + 1), .int px, .int py, .int px, .int py, .int (if py < py then py else py), .int (if py < py then py else py), .ref fx, .ref fy]), (fx, aI G 40 f1), (fy, aI G 40 f2)]) rfl ?_
      exact z_vret X rfl d_X1_take_100 (Nat.le_of_ble_eq_true rfl) (Nat.le_of_ble_eq_true rfl) ⟨px, py, px, py, (if py < py then py else py), (if py < py then py else py), f1, f2, rfl, rfl⟩
    ·
      refine z_run X bb_X1_take_70_71 bk_X1_take_70_71 (lv' := [(0, .ref span), (1, .int px), (2, .int py)]) (st' := [.ref span]) rfl ?_
      refine z_get X fl_1_9 d_X1_take_71 0 rfl (v := .ref fx) rfl ?_
      refine z_run X bb_X1_take_74_75 bk_X1_take_74_75 (lv' := [(0, .ref span), (1, .int px), (2, .int py)]) (st' := [.ref span, .ref fx]) rfl ?_
      refine z_get X fl_1_18 d_X1_take_75 0 rfl (v := .int cn) rfl ?_
      refine z_run X bb_X1_take_78_79 bk_X1_take_78_79 (lv' := [(0, .ref span), (1, .int px), (2, .int py)]) (st' := [.int px, .int cn, .ref fx]) rfl ?_
      refine z_iast X d_X1_take_79 1 rfl (vin rfl (by omega) (by omega)) (ws' := [(span, ob 1 [.int cn, .int px, .int py, .int px, .int py, .int (if py < py then py else py), .int (if py < py then py else py), .ref fx, .ref fy]), (fx, aI G 40 (upd f1 cn.toNatClampNeg px)), (fy, aI G 40 f2)]) rfl ?_
      refine z_run X bb_X1_take_80_81 bk_X1_take_80_81 (lv' := [(0, .ref span), (1, .int px), (2, .int py)]) (st' := [.ref span]) rfl ?_
      refine z_get X fl_1_15 d_X1_take_81 0 rfl (v := .ref fy) rfl ?_
      refine z_run X bb_X1_take_84_85 bk_X1_take_84_85 (lv' := [(0, .ref span), (1, .int px), (2, .int py)]) (st' := [.ref span, .ref fy]) rfl ?_
      refine z_get X fl_1_18 d_X1_take_85 0 rfl (v := .int cn) rfl ?_
      refine z_run X bb_X1_take_88_89 bk_X1_take_88_89 (lv' := [(0, .ref span), (1, .int px), (2, .int py)]) (st' := [.int py, .int cn, .ref fy]) rfl ?_
      refine z_iast X d_X1_take_89 2 rfl (vin rfl (by omega) (by omega)) (ws' := [(span, ob 1 [.int cn, .int px, .int py, .int px, .int py, .int (if py < py then py else py), .int (if py < py then py else py), .ref fx, .ref fy]), (fx, aI G 40 (upd f1 cn.toNatClampNeg px)), (fy, aI G 40 (upd f2 cn.toNatClampNeg py))]) rfl ?_
      refine z_run X bb_X1_take_90_92 bk_X1_take_90_92 (lv' := [(0, .ref span), (1, .int px), (2, .int py)]) (st' := [.ref span, .ref span]) rfl ?_
      refine z_get X fl_1_18 d_X1_take_92 0 rfl (v := .int cn) rfl ?_
      refine z_run X bb_X1_take_95_97 bk_X1_take_95_97 (lv' := [(0, .ref span), (1, .int px), (2, .int py)]) (st' := [.int (cn + 1), .ref span]) rfl ?_
      refine z_put X fl_1_18 d_X1_take_97 0 rfl (ty := .int) (T := TX1) (N := 9) rfl (Or.inl rfl) (by decide +kernel) rfl (by rfl) (Nat.le_of_ble_eq_true rfl) (ws' := [(span, ob 1 [.int (cn + 1), .int px, .int py, .int px, .int py, .int (if py < py then py else py), .int (if py < py then py else py), .ref fx, .ref fy]), (fx, aI G 40 (upd f1 cn.toNatClampNeg px)), (fy, aI G 40 (upd f2 cn.toNatClampNeg py))]) rfl ?_
      exact z_vret X rfl d_X1_take_100 (Nat.le_of_ble_eq_true rfl) (Nat.le_of_ble_eq_true rfl) ⟨px, py, px, py, (if py < py then py else py), (if py < py then py else py), (upd f1 cn.toNatClampNeg px), (upd f2 cn.toNatClampNeg py), rfl, rfl⟩

theorem d_X10_gatherSpan_1 : decode cX10_gatherSpan 1 = .ok (.invokevirtual 242, 3) := by decide +kernel
theorem d_X10_gatherSpan_5 : decode cX10_gatherSpan 5 = .ok (.getfield 54, 3) := by decide +kernel
theorem d_X10_gatherSpan_8 : decode cX10_gatherSpan 8 = .ok (.invokevirtual 245, 3) := by decide +kernel
theorem d_X10_gatherSpan_17 : decode cX10_gatherSpan 17 = .ok (.if_icmp .gt 47, 3) := by decide +kernel
theorem d_X10_gatherSpan_64 : decode cX10_gatherSpan 64 = .ok (.return_, 1) := by decide +kernel
theorem d_X10_gatherSpan_26 : decode cX10_gatherSpan 26 = .ok (.if_icmp .gt 32, 3) := by decide +kernel
theorem d_X10_gatherSpan_61 : decode cX10_gatherSpan 61 = .ok (.goto (-47), 3) := by decide +kernel
theorem d_X10_gatherSpan_30 : decode cX10_gatherSpan 30 = .ok (.getfield 47, 3) := by decide +kernel
theorem d_X10_gatherSpan_35 : decode cX10_gatherSpan 35 = .ok (.invokevirtual 246, 3) := by decide +kernel
theorem d_X10_gatherSpan_40 : decode cX10_gatherSpan 40 = .ok (.if_icmp .ne 12, 3) := by decide +kernel
theorem d_X10_gatherSpan_44 : decode cX10_gatherSpan 44 = .ok (.getfield 54, 3) := by decide +kernel
theorem d_X10_gatherSpan_49 : decode cX10_gatherSpan 49 = .ok (.invokevirtual 249, 3) := by decide +kernel
theorem d_X10_gatherSpan_55 : decode cX10_gatherSpan 55 = .ok (.goto (-32), 3) := by decide +kernel
abbrev bb_X10_gatherSpan_0_1 : ZB := [(.aload_n 0, .null)]
theorem bk_X10_gatherSpan_0_1 : zchk cX10_gatherSpan bb_X10_gatherSpan_0_1 0 = true ∧ zpc bb_X10_gatherSpan_0_1 0 = 1 := ⟨by decide +kernel, rfl⟩
abbrev bb_X10_gatherSpan_4_5 : ZB := [(.aload_n 0, .null)]
theorem bk_X10_gatherSpan_4_5 : zchk cX10_gatherSpan bb_X10_gatherSpan_4_5 4 = true ∧ zpc bb_X10_gatherSpan_4_5 4 = 5 := ⟨by decide +kernel, rfl⟩
abbrev bb_X10_gatherSpan_11_14 : ZB := [(.bipush (-60), .int (-60)), (.istore_n 1, .null)]
theorem bk_X10_gatherSpan_11_14 : zchk cX10_gatherSpan bb_X10_gatherSpan_11_14 11 = true ∧ zpc bb_X10_gatherSpan_11_14 11 = 14 := ⟨by decide +kernel, rfl⟩
abbrev bb_X10_gatherSpan_14_17 : ZB := [(.iload_n 1, .null), (.bipush 60, .int 60)]
theorem bk_X10_gatherSpan_14_17 : zchk cX10_gatherSpan bb_X10_gatherSpan_14_17 14 = true ∧ zpc bb_X10_gatherSpan_14_17 14 = 17 := ⟨by decide +kernel, rfl⟩
abbrev bb_X10_gatherSpan_20_23 : ZB := [(.bipush (-60), .int (-60)), (.istore_n 2, .null)]
theorem bk_X10_gatherSpan_20_23 : zchk cX10_gatherSpan bb_X10_gatherSpan_20_23 20 = true ∧ zpc bb_X10_gatherSpan_20_23 20 = 23 := ⟨by decide +kernel, rfl⟩
abbrev bb_X10_gatherSpan_23_26 : ZB := [(.iload_n 2, .null), (.bipush 60, .int 60)]
theorem bk_X10_gatherSpan_23_26 : zchk cX10_gatherSpan bb_X10_gatherSpan_23_26 23 = true ∧ zpc bb_X10_gatherSpan_23_26 23 = 26 := ⟨by decide +kernel, rfl⟩
abbrev bb_X10_gatherSpan_58_61 : ZB := [(.iinc 1 1, .int 1)]
theorem bk_X10_gatherSpan_58_61 : zchk cX10_gatherSpan bb_X10_gatherSpan_58_61 58 = true ∧ zpc bb_X10_gatherSpan_58_61 58 = 61 := ⟨by decide +kernel, rfl⟩
abbrev bb_X10_gatherSpan_29_30 : ZB := [(.aload_n 0, .null)]
theorem bk_X10_gatherSpan_29_30 : zchk cX10_gatherSpan bb_X10_gatherSpan_29_30 29 = true ∧ zpc bb_X10_gatherSpan_29_30 29 = 30 := ⟨by decide +kernel, rfl⟩
abbrev bb_X10_gatherSpan_33_35 : ZB := [(.iload_n 1, .null), (.iload_n 2, .null)]
theorem bk_X10_gatherSpan_33_35 : zchk cX10_gatherSpan bb_X10_gatherSpan_33_35 33 = true ∧ zpc bb_X10_gatherSpan_33_35 33 = 35 := ⟨by decide +kernel, rfl⟩
abbrev bb_X10_gatherSpan_38_40 : ZB := [(.bipush (-2), .int (-2))]
theorem bk_X10_gatherSpan_38_40 : zchk cX10_gatherSpan bb_X10_gatherSpan_38_40 38 = true ∧ zpc bb_X10_gatherSpan_38_40 38 = 40 := ⟨by decide +kernel, rfl⟩
abbrev bb_X10_gatherSpan_43_44 : ZB := [(.aload_n 0, .null)]
theorem bk_X10_gatherSpan_43_44 : zchk cX10_gatherSpan bb_X10_gatherSpan_43_44 43 = true ∧ zpc bb_X10_gatherSpan_43_44 43 = 44 := ⟨by decide +kernel, rfl⟩
abbrev bb_X10_gatherSpan_47_49 : ZB := [(.iload_n 1, .null), (.iload_n 2, .null)]
theorem bk_X10_gatherSpan_47_49 : zchk cX10_gatherSpan bb_X10_gatherSpan_47_49 47 = true ∧ zpc bb_X10_gatherSpan_47_49 47 = 49 := ⟨by decide +kernel, rfl⟩
abbrev bb_X10_gatherSpan_52_55 : ZB := [(.iinc 2 1, .int 1)]
theorem bk_X10_gatherSpan_52_55 : zchk cX10_gatherSpan bb_X10_gatherSpan_52_55 52 = true ∧ zpc bb_X10_gatherSpan_52_55 52 = 55 := ⟨by decide +kernel, rfl⟩
set_option maxHeartbeats 4000000 in
set_option maxRecDepth 100000 in
theorem c_X10_gatherSpan (l : Launch) (G : KG) (x : Nat) (told : Nat) (reader : Nat) (ring : Nat) (speeds : Nat) (wheel : Nat) (trials : Nat) (span : Nat) (search : Nat) (kept : Nat) (crosses : Nat) (trueM : Nat) (thought : Nat) (up : Nat) (low : Nat) (fits : Nat) (ts : Nat) (tw : Nat) (tf : Nat) (te : Nat) (tg : Nat) (tl : Nat) (tc : Nat) (tx : Nat) (ty : Nat) (fx : Nat) (fy : Nat) : Ct l G yX10_gatherSpan cX10_gatherSpan 3 none { frames := 2, cells := 0, slots := 0, locals := 36 } [.ref x] [(x, ob 10 [.ref told, .ref reader, .ref ring, .ref speeds, .ref wheel, .ref trials, .ref span, .ref search, .ref kept, .ref crosses, .ref trueM, .ref thought, .ref up, .ref low, .ref fits, .null]), (trials, ob 9 [.int 0, .ref ts, .ref tw, .ref tf, .ref te, .ref tg, .ref tl, .ref tc, .ref tx, .ref ty]), (span, ob 1 [.int 0, .int 0, .int 0, .int 0, .int 0, .int 0, .int 0, .ref fx, .ref fy]), (fx, aI G 40 (fun _ => 0)), (fy, aI G 40 (fun _ => 0))] (fun r w1 => ∃ (n1 : Int32), ∃ (n2 : Int32), ∃ (n3 : Int32), ∃ (n4 : Int32), ∃ (n5 : Int32), ∃ (n6 : Int32), ∃ (g1 : Nat → Int32), ∃ (g2 : Nat → Int32), r = none ∧ w1 = [(x, ob 10 [.ref told, .ref reader, .ref ring, .ref speeds, .ref wheel, .ref trials, .ref span, .ref search, .ref kept, .ref crosses, .ref trueM, .ref thought, .ref up, .ref low, .ref fits, .null]), (trials, ob 9 [.int 0, .ref ts, .ref tw, .ref tf, .ref te, .ref tg, .ref tl, .ref tc, .ref tx, .ref ty]), (span, ob 1 [.int 14641, .int n1, .int n2, .int n3, .int n4, .int n5, .int n6, .ref fx, .ref fy]), (fx, aI G 40 g1), (fy, aI G 40 g2)]) := by
  refine ct_of [(0, .ref x)] (by decide) (Nat.le_of_ble_eq_true rfl) rfl ?_
  intro p0 e0 s0 m0 args0 below0 meth0 c0 A X
  refine z_run X bb_X10_gatherSpan_0_1 bk_X10_gatherSpan_0_1 (lv' := [(0, .ref x)]) (st' := [.ref x]) rfl ?_
  refine z_callV X k_10_242 (c_X10_prepareTrials l G x told reader ring speeds wheel trials span search kept crosses trueM thought up low fits ts tw tf te tg tl tc tx ty) d_X10_gatherSpan_1 0 rfl rfl rfl ⟨Nat.le_of_ble_eq_true rfl, Nat.le_of_ble_eq_true rfl⟩ ⟨Nat.le_of_ble_eq_true rfl, Nat.le_of_ble_eq_true rfl⟩ rfl (rest := []) (As := []) rfl (Nat.le_of_ble_eq_true rfl) [0, 1] [2, 3, 4] rfl (by decide) (wr := [(span, ob 1 [.int 0, .int 0, .int 0, .int 0, .int 0, .int 0, .int 0, .ref fx, .ref fy]), (fx, aI G 40 (fun _ => 0)), (fy, aI G 40 (fun _ => 0))]) rfl (by decide) (by decide) ?_
  rintro _ _ ⟨rfl, rfl⟩
  refine Z.at (pc' := 4) (st' := []) (ws' := [(span, ob 1 [.int 0, .int 0, .int 0, .int 0, .int 0, .int 0, .int 0, .ref fx, .ref fy]), (fx, aI G 40 (fun _ => 0)), (fy, aI G 40 (fun _ => 0)), (x, ob 10 [.ref told, .ref reader, .ref ring, .ref speeds, .ref wheel, .ref trials, .ref span, .ref search, .ref kept, .ref crosses, .ref trueM, .ref thought, .ref up, .ref low, .ref fits, .null]), (trials, ob 9 [.int 0, .ref ts, .ref tw, .ref tf, .ref te, .ref tg, .ref tl, .ref tc, .ref tx, .ref ty])]) (kc' := 0) (ks' := 0) rfl rfl rfl rfl rfl ?_
  refine z_run X bb_X10_gatherSpan_4_5 bk_X10_gatherSpan_4_5 (lv' := [(0, .ref x)]) (st' := [.ref x]) rfl ?_
  refine z_get X fl_10_54 d_X10_gatherSpan_5 3 rfl (v := .ref span) rfl ?_
  refine z_callV X k_10_245 (c_X1_start l G span fx fy) d_X10_gatherSpan_8 0 rfl rfl rfl ⟨Nat.le_of_ble_eq_true rfl, Nat.le_of_ble_eq_true rfl⟩ ⟨Nat.le_of_ble_eq_true rfl, Nat.le_of_ble_eq_true rfl⟩ rfl (rest := []) (As := []) rfl (Nat.le_of_ble_eq_true rfl) [0] [1, 2, 3, 4] rfl (by decide) (wr := [(fx, aI G 40 (fun _ => 0)), (fy, aI G 40 (fun _ => 0)), (x, ob 10 [.ref told, .ref reader, .ref ring, .ref speeds, .ref wheel, .ref trials, .ref span, .ref search, .ref kept, .ref crosses, .ref trueM, .ref thought, .ref up, .ref low, .ref fits, .null]), (trials, ob 9 [.int 0, .ref ts, .ref tw, .ref tf, .ref te, .ref tg, .ref tl, .ref tc, .ref tx, .ref ty])]) rfl (by decide) (by decide) ?_
  rintro _ _ ⟨rfl, rfl⟩
  refine Z.at (pc' := 11) (st' := []) (ws' := [(fx, aI G 40 (fun _ => 0)), (fy, aI G 40 (fun _ => 0)), (x, ob 10 [.ref told, .ref reader, .ref ring, .ref speeds, .ref wheel, .ref trials, .ref span, .ref search, .ref kept, .ref crosses, .ref trueM, .ref thought, .ref up, .ref low, .ref fits, .null]), (trials, ob 9 [.int 0, .ref ts, .ref tw, .ref tf, .ref te, .ref tg, .ref tl, .ref tc, .ref tx, .ref ty]), (span, ob 1 [.int 0, .int 0, .int 0, .int 0, .int 0, .int 0, .int 0, .ref fx, .ref fy])]) (kc' := 0) (ks' := 0) rfl rfl rfl rfl rfl ?_
  refine z_run X bb_X10_gatherSpan_11_14 bk_X10_gatherSpan_11_14 (lv' := [(1, .int (-60)), (0, .ref x)]) (st' := []) rfl ?_
  refine zloop (σ := Int32 × Int × Int32 × Int32 × Int32 × Int32 × Int32 × Int32 × Int32 × (Nat → Int32) × (Nat → Int32)) (fun z => [(1, .int z.1), (0, .ref x)]) (fun z => []) (fun z => [(fx, aI G 40 z.2.2.2.2.2.2.2.2.2.1), (fy, aI G 40 z.2.2.2.2.2.2.2.2.2.2), (x, ob 10 [.ref told, .ref reader, .ref ring, .ref speeds, .ref wheel, .ref trials, .ref span, .ref search, .ref kept, .ref crosses, .ref trueM, .ref thought, .ref up, .ref low, .ref fits, .null]), (trials, ob 9 [.int 0, .ref ts, .ref tw, .ref tf, .ref te, .ref tg, .ref tl, .ref tc, .ref tx, .ref ty]), (span, ob 1 [.int z.2.2.1, .int z.2.2.2.1, .int z.2.2.2.2.1, .int z.2.2.2.2.2.1, .int z.2.2.2.2.2.2.1, .int z.2.2.2.2.2.2.2.1, .int z.2.2.2.2.2.2.2.2.1, .ref fx, .ref fy])]) (fun z => (z.1.toInt = z.2.1) ∧ (-60 ≤ z.2.1 ∧ z.2.1 ≤ 61) ∧ (z.2.2.1.toInt = 121 * (z.2.1 + 60))) (fun z => (61 - z.2.1).toNat) ((-60), (-60), 0, 0, 0, 0, 0, 0, 0, (fun _ => 0), (fun _ => 0)) ?_ ?_
  ·
    rintro ⟨xx, a, cnp, n1p, n2p, n3p, n4p, n5p, n6p, g1p, g2p⟩ ⟨hxx, hrxx, hcnp⟩ ih14
    dsimp only at *
    refine z_run X bb_X10_gatherSpan_14_17 bk_X10_gatherSpan_14_17 (lv' := [(1, .int xx), (0, .ref x)]) (st' := [.int 60, .int xx]) rfl ?_
    refine zc_gt X d_X10_gatherSpan_17 (tgt := 64) (by decide) (a := a) (b := 60) hxx (show (60 : Int32).toInt = 60 from by decide) (fun c17_1 => ?_) (fun c17_1 => ?_)
    ·
      rcases (show 121 * (a + 60) = 14641 from by omega) with hs
      ·
        obtain rfl : cnp = 14641 := i32_eq hcnp (by decide) hs
        refine Z.sub (lv' := []) [] rfl [2, 3, 4, 0, 1] (ws' := [(x, ob 10 [.ref told, .ref reader, .ref ring, .ref speeds, .ref wheel, .ref trials, .ref span, .ref search, .ref kept, .ref crosses, .ref trueM, .ref thought, .ref up, .ref low, .ref fits, .null]), (trials, ob 9 [.int 0, .ref ts, .ref tw, .ref tf, .ref te, .ref tg, .ref tl, .ref tc, .ref tx, .ref ty]), (span, ob 1 [.int 14641, .int n1p, .int n2p, .int n3p, .int n4p, .int n5p, .int n6p, .ref fx, .ref fy]), (fx, aI G 40 g1p), (fy, aI G 40 g2p)]) rfl (by decide) ?_
        exact z_vret X rfl d_X10_gatherSpan_64 (Nat.le_of_ble_eq_true rfl) (Nat.le_of_ble_eq_true rfl) ⟨n1p, n2p, n3p, n4p, n5p, n6p, g1p, g2p, rfl, rfl⟩
    ·
      refine z_run X bb_X10_gatherSpan_20_23 bk_X10_gatherSpan_20_23 (lv' := [(2, .int (-60)), (1, .int xx), (0, .ref x)]) (st' := []) rfl ?_
      refine zloop (σ := Int32 × Int × Int32 × Int32 × Int32 × Int32 × Int32 × Int32 × Int32 × (Nat → Int32) × (Nat → Int32)) (fun z => [(2, .int z.1), (1, .int xx), (0, .ref x)]) (fun z => []) (fun z => [(fx, aI G 40 z.2.2.2.2.2.2.2.2.2.1), (fy, aI G 40 z.2.2.2.2.2.2.2.2.2.2), (x, ob 10 [.ref told, .ref reader, .ref ring, .ref speeds, .ref wheel, .ref trials, .ref span, .ref search, .ref kept, .ref crosses, .ref trueM, .ref thought, .ref up, .ref low, .ref fits, .null]), (trials, ob 9 [.int 0, .ref ts, .ref tw, .ref tf, .ref te, .ref tg, .ref tl, .ref tc, .ref tx, .ref ty]), (span, ob 1 [.int z.2.2.1, .int z.2.2.2.1, .int z.2.2.2.2.1, .int z.2.2.2.2.2.1, .int z.2.2.2.2.2.2.1, .int z.2.2.2.2.2.2.2.1, .int z.2.2.2.2.2.2.2.2.1, .ref fx, .ref fy])]) (fun z => (z.1.toInt = z.2.1) ∧ (-60 ≤ z.2.1 ∧ z.2.1 ≤ 61) ∧ (z.2.2.1.toInt = 121 * (a + 60) + (z.2.1 + 60))) (fun z => (61 - z.2.1).toNat) ((-60), (-60), cnp, n1p, n2p, n3p, n4p, n5p, n6p, g1p, g2p) ?_ ?_
      ·
        rintro ⟨yy, b, cnq, n1q, n2q, n3q, n4q, n5q, n6q, g1q, g2q⟩ ⟨hyy, hryy, hcnq⟩ ih23
        dsimp only at *
        refine z_run X bb_X10_gatherSpan_23_26 bk_X10_gatherSpan_23_26 (lv' := [(2, .int yy), (1, .int xx), (0, .ref x)]) (st' := [.int 60, .int yy]) rfl ?_
        refine zc_gt X d_X10_gatherSpan_26 (tgt := 58) (by decide) (a := b) (b := 60) hyy (show (60 : Int32).toInt = 60 from by decide) (fun c26_2 => ?_) (fun c26_2 => ?_)
        ·
          refine z_run X bb_X10_gatherSpan_58_61 bk_X10_gatherSpan_58_61 (lv' := [(1, .int (xx + 1)), (2, .int yy), (0, .ref x)]) (st' := []) rfl ?_
          refine z_goto X d_X10_gatherSpan_61 (tgt := 14) (by decide) ?_
          refine Z.sub (lv' := [(1, .int (xx + 1)), (0, .ref x)]) [0, 2] rfl [0, 1, 2, 3, 4] (ws' := [(fx, aI G 40 g1q), (fy, aI G 40 g2q), (x, ob 10 [.ref told, .ref reader, .ref ring, .ref speeds, .ref wheel, .ref trials, .ref span, .ref search, .ref kept, .ref crosses, .ref trueM, .ref thought, .ref up, .ref low, .ref fits, .null]), (trials, ob 9 [.int 0, .ref ts, .ref tw, .ref tf, .ref te, .ref tg, .ref tl, .ref tc, .ref tx, .ref ty]), (span, ob 1 [.int cnq, .int n1q, .int n2q, .int n3q, .int n4q, .int n5q, .int n6q, .ref fx, .ref fy])]) rfl (by decide) ?_
          exact ih14 ((xx + 1), (a + 1), cnq, n1q, n2q, n3q, n4q, n5q, n6q, g1q, g2q) ⟨(tI_add hxx (show (1 : Int32).toInt = 1 from by decide) (by omega)), (by dsimp only; omega), (by have h9 := hcnq; dsimp only; omega)⟩ (by dsimp only; omega)
        ·
          refine z_run X bb_X10_gatherSpan_29_30 bk_X10_gatherSpan_29_30 (lv' := [(2, .int yy), (1, .int xx), (0, .ref x)]) (st' := [.ref x]) rfl ?_
          refine z_get X fl_10_47 d_X10_gatherSpan_30 2 rfl (v := .ref trials) rfl ?_
          refine z_run X bb_X10_gatherSpan_33_35 bk_X10_gatherSpan_33_35 (lv' := [(2, .int yy), (1, .int xx), (0, .ref x)]) (st' := [.int yy, .int xx, .ref trials]) rfl ?_
          refine z_callV X k_10_246 (c_X9_firstAgainst l G trials ts tw tf te tg tl tc tx ty xx yy) d_X10_gatherSpan_35 3 rfl rfl rfl ⟨Nat.le_of_ble_eq_true rfl, Nat.le_of_ble_eq_true rfl⟩ ⟨Nat.le_of_ble_eq_true rfl, Nat.le_of_ble_eq_true rfl⟩ rfl (rest := []) (As := [.int xx, .int yy]) rfl (Nat.le_of_ble_eq_true rfl) [3] [0, 1, 2, 4] rfl (by decide) (wr := [(fx, aI G 40 g1q), (fy, aI G 40 g2q), (x, ob 10 [.ref told, .ref reader, .ref ring, .ref speeds, .ref wheel, .ref trials, .ref span, .ref search, .ref kept, .ref crosses, .ref trueM, .ref thought, .ref up, .ref low, .ref fits, .null]), (span, ob 1 [.int cnq, .int n1q, .int n2q, .int n3q, .int n4q, .int n5q, .int n6q, .ref fx, .ref fy])]) rfl (by decide) (by decide) ?_
          rintro _ _ ⟨rfl, rfl⟩
          refine Z.at (pc' := 38) (st' := [.int (-2)]) (ws' := [(fx, aI G 40 g1q), (fy, aI G 40 g2q), (x, ob 10 [.ref told, .ref reader, .ref ring, .ref speeds, .ref wheel, .ref trials, .ref span, .ref search, .ref kept, .ref crosses, .ref trueM, .ref thought, .ref up, .ref low, .ref fits, .null]), (span, ob 1 [.int cnq, .int n1q, .int n2q, .int n3q, .int n4q, .int n5q, .int n6q, .ref fx, .ref fy]), (trials, ob 9 [.int 0, .ref ts, .ref tw, .ref tf, .ref te, .ref tg, .ref tl, .ref tc, .ref tx, .ref ty])]) (kc' := 0) (ks' := 0) rfl rfl rfl rfl rfl ?_
          refine z_run X bb_X10_gatherSpan_38_40 bk_X10_gatherSpan_38_40 (lv' := [(2, .int yy), (1, .int xx), (0, .ref x)]) (st' := [.int (-2), .int (-2)]) rfl ?_
          refine zc_ne X d_X10_gatherSpan_40 (tgt := 52) (by decide) (a := (-2)) (b := (-2)) (show ((-2) : Int32).toInt = (-2) from by decide) (show ((-2) : Int32).toInt = (-2) from by decide) (fun c40_3 => absurd c40_3 (by decide)) (fun _ => ?_)
          refine z_run X bb_X10_gatherSpan_43_44 bk_X10_gatherSpan_43_44 (lv' := [(2, .int yy), (1, .int xx), (0, .ref x)]) (st' := [.ref x]) rfl ?_
          refine z_get X fl_10_54 d_X10_gatherSpan_44 2 rfl (v := .ref span) rfl ?_
          refine z_run X bb_X10_gatherSpan_47_49 bk_X10_gatherSpan_47_49 (lv' := [(2, .int yy), (1, .int xx), (0, .ref x)]) (st' := [.int yy, .int xx, .ref span]) rfl ?_
          refine z_callV X k_10_249 (c_X1_take l G span fx fy xx yy cnq n1q n2q n3q n4q n5q n6q g1q g2q (121 * (a + 60) + (b + 60)) hcnq (by omega)) d_X10_gatherSpan_49 3 rfl rfl rfl ⟨Nat.le_of_ble_eq_true rfl, Nat.le_of_ble_eq_true rfl⟩ ⟨Nat.le_of_ble_eq_true rfl, Nat.le_of_ble_eq_true rfl⟩ rfl (rest := []) (As := [.int xx, .int yy]) rfl (Nat.le_of_ble_eq_true rfl) [3, 0, 1] [2, 4] rfl (by decide) (wr := [(x, ob 10 [.ref told, .ref reader, .ref ring, .ref speeds, .ref wheel, .ref trials, .ref span, .ref search, .ref kept, .ref crosses, .ref trueM, .ref thought, .ref up, .ref low, .ref fits, .null]), (trials, ob 9 [.int 0, .ref ts, .ref tw, .ref tf, .ref te, .ref tg, .ref tl, .ref tc, .ref tx, .ref ty])]) rfl (by decide) (by decide) ?_
          rintro _ _ ⟨n1_4, n2_5, n3_6, n4_7, n5_8, n6_9, g1_10, g2_11, rfl, rfl⟩
          refine Z.at (pc' := 52) (st' := []) (ws' := [(x, ob 10 [.ref told, .ref reader, .ref ring, .ref speeds, .ref wheel, .ref trials, .ref span, .ref search, .ref kept, .ref crosses, .ref trueM, .ref thought, .ref up, .ref low, .ref fits, .null]), (trials, ob 9 [.int 0, .ref ts, .ref tw, .ref tf, .ref te, .ref tg, .ref tl, .ref tc, .ref tx, .ref ty]), (span, ob 1 [.int (cnq + 1), .int n1_4, .int n2_5, .int n3_6, .int n4_7, .int n5_8, .int n6_9, .ref fx, .ref fy]), (fx, aI G 40 g1_10), (fy, aI G 40 g2_11)]) (kc' := 0) (ks' := 0) rfl rfl rfl rfl rfl ?_
          refine z_run X bb_X10_gatherSpan_52_55 bk_X10_gatherSpan_52_55 (lv' := [(2, .int (yy + 1)), (1, .int xx), (0, .ref x)]) (st' := []) rfl ?_
          refine z_goto X d_X10_gatherSpan_55 (tgt := 23) (by decide) ?_
          refine Z.sub (lv' := [(2, .int (yy + 1)), (1, .int xx), (0, .ref x)]) [0, 1, 2] rfl [3, 4, 0, 1, 2] (ws' := [(fx, aI G 40 g1_10), (fy, aI G 40 g2_11), (x, ob 10 [.ref told, .ref reader, .ref ring, .ref speeds, .ref wheel, .ref trials, .ref span, .ref search, .ref kept, .ref crosses, .ref trueM, .ref thought, .ref up, .ref low, .ref fits, .null]), (trials, ob 9 [.int 0, .ref ts, .ref tw, .ref tf, .ref te, .ref tg, .ref tl, .ref tc, .ref tx, .ref ty]), (span, ob 1 [.int (cnq + 1), .int n1_4, .int n2_5, .int n3_6, .int n4_7, .int n5_8, .int n6_9, .ref fx, .ref fy])]) rfl (by decide) ?_
          exact ih23 ((yy + 1), (b + 1), (cnq + 1), n1_4, n2_5, n3_6, n4_7, n5_8, n6_9, g1_10, g2_11) ⟨(tI_add hyy (show (1 : Int32).toInt = 1 from by decide) (by omega)), (by dsimp only; omega), (by have h9 := (tI_add hcnq (show (1 : Int32).toInt = 1 from by decide) (by omega)); dsimp only; omega)⟩ (by dsimp only; omega)
      · exact ⟨(show ((-60) : Int32).toInt = (-60) from by decide), (by dsimp only; omega), (by have h9 := hcnp; dsimp only; omega)⟩
  · exact ⟨(show ((-60) : Int32).toInt = (-60) from by decide), (by dsimp only; omega), (by have h9 : (0 : Int32).toInt = 0 := (by decide); dsimp only; omega)⟩

theorem d_X1_widest_1 : decode cX1_widest 1 = .ok (.getfield 18, 3) := by decide +kernel
theorem d_X1_widest_6 : decode cX1_widest 6 = .ok (.if_icmp .le 7, 3) := by decide +kernel
theorem d_X1_widest_9 : decode cX1_widest 9 = .ok (.ldc2_w 49, 3) := by decide +kernel
theorem d_X1_widest_12 : decode cX1_widest 12 = .ok (.lreturn, 1) := by decide +kernel
abbrev bb_X1_widest_0_1 : ZB := [(.aload_n 0, .null)]
theorem bk_X1_widest_0_1 : zchk cX1_widest bb_X1_widest_0_1 0 = true ∧ zpc bb_X1_widest_0_1 0 = 1 := ⟨by decide +kernel, rfl⟩
abbrev bb_X1_widest_4_6 : ZB := [(.bipush 40, .int 40)]
theorem bk_X1_widest_4_6 : zchk cX1_widest bb_X1_widest_4_6 4 = true ∧ zpc bb_X1_widest_4_6 4 = 6 := ⟨by decide +kernel, rfl⟩
set_option maxHeartbeats 4000000 in
set_option maxRecDepth 100000 in
theorem c_X1_widest (l : Launch) (G : KG) (span : Nat) (fx : Nat) (fy : Nat) (n1 : Int32) (n2 : Int32) (n3 : Int32) (n4 : Int32) (n5 : Int32) (n6 : Int32) : Ct l G yX1_widest cX1_widest 5 (some .long) { frames := 0, cells := 0, slots := 0, locals := 0 } [.ref span] [(span, ob 1 [.int 14641, .int n1, .int n2, .int n3, .int n4, .int n5, .int n6, .ref fx, .ref fy])] (fun r w1 => r = some (.long (-1)) ∧ w1 = [(span, ob 1 [.int 14641, .int n1, .int n2, .int n3, .int n4, .int n5, .int n6, .ref fx, .ref fy])]) := by
  refine ct_of [(0, .ref span)] (by decide) (Nat.le_of_ble_eq_true rfl) rfl ?_
  intro p0 e0 s0 m0 args0 below0 meth0 c0 A X
  refine z_run X bb_X1_widest_0_1 bk_X1_widest_0_1 (lv' := [(0, .ref span)]) (st' := [.ref span]) rfl ?_
  refine z_get X fl_1_18 d_X1_widest_1 0 rfl (v := .int 14641) rfl ?_
  refine z_run X bb_X1_widest_4_6 bk_X1_widest_4_6 (lv' := [(0, .ref span)]) (st' := [.int 40, .int 14641]) rfl ?_
  refine zc_le X d_X1_widest_6 (tgt := 13) (by decide) (a := 14641) (b := 40) (show (14641 : Int32).toInt = 14641 from by decide) (show (40 : Int32).toInt = 40 from by decide) (fun c6_1 => absurd c6_1 (by decide)) (fun _ => ?_)
  refine z_ldc2 X d_X1_widest_9 cn_1_49 ?_
  exact z_lret X rfl d_X1_widest_12 (Nat.le_of_ble_eq_true rfl) (Nat.le_of_ble_eq_true rfl) ⟨rfl, rfl⟩

theorem d_X10_which_1 : decode cX10_which 1 = .ok (.invokevirtual 216, 3) := by decide +kernel
theorem d_X10_which_5 : decode cX10_which 5 = .ok (.getfield 12, 3) := by decide +kernel
theorem d_X10_which_8 : decode cX10_which 8 = .ok (.invokevirtual 180, 3) := by decide +kernel
theorem d_X10_which_12 : decode cX10_which 12 = .ok (.getfield 54, 3) := by decide +kernel
theorem d_X10_which_15 : decode cX10_which 15 = .ok (.getfield 219, 3) := by decide +kernel
theorem d_X10_which_18 : decode cX10_which 18 = .ok (.ifCond .le 63, 3) := by decide +kernel
theorem d_X10_which_22 : decode cX10_which 22 = .ok (.getfield 12, 3) := by decide +kernel
theorem d_X10_which_26 : decode cX10_which 26 = .ok (.getfield 54, 3) := by decide +kernel
theorem d_X10_which_29 : decode cX10_which 29 = .ok (.getfield 220, 3) := by decide +kernel
theorem d_X10_which_33 : decode cX10_which 33 = .ok (.invokevirtual 183, 3) := by decide +kernel
theorem d_X10_which_37 : decode cX10_which 37 = .ok (.getfield 12, 3) := by decide +kernel
theorem d_X10_which_41 : decode cX10_which 41 = .ok (.getfield 54, 3) := by decide +kernel
theorem d_X10_which_44 : decode cX10_which 44 = .ok (.getfield 223, 3) := by decide +kernel
theorem d_X10_which_48 : decode cX10_which 48 = .ok (.invokevirtual 183, 3) := by decide +kernel
theorem d_X10_which_52 : decode cX10_which 52 = .ok (.getfield 12, 3) := by decide +kernel
theorem d_X10_which_56 : decode cX10_which 56 = .ok (.getfield 54, 3) := by decide +kernel
theorem d_X10_which_59 : decode cX10_which 59 = .ok (.getfield 226, 3) := by decide +kernel
theorem d_X10_which_63 : decode cX10_which 63 = .ok (.invokevirtual 183, 3) := by decide +kernel
theorem d_X10_which_67 : decode cX10_which 67 = .ok (.getfield 12, 3) := by decide +kernel
theorem d_X10_which_71 : decode cX10_which 71 = .ok (.getfield 54, 3) := by decide +kernel
theorem d_X10_which_74 : decode cX10_which 74 = .ok (.getfield 229, 3) := by decide +kernel
theorem d_X10_which_78 : decode cX10_which 78 = .ok (.invokevirtual 183, 3) := by decide +kernel
theorem d_X10_which_82 : decode cX10_which 82 = .ok (.getfield 54, 3) := by decide +kernel
theorem d_X10_which_85 : decode cX10_which 85 = .ok (.getfield 219, 3) := by decide +kernel
theorem d_X10_which_88 : decode cX10_which 88 = .ok (.ireturn, 1) := by decide +kernel
abbrev bb_X10_which_0_1 : ZB := [(.aload_n 0, .null)]
theorem bk_X10_which_0_1 : zchk cX10_which bb_X10_which_0_1 0 = true ∧ zpc bb_X10_which_0_1 0 = 1 := ⟨by decide +kernel, rfl⟩
abbrev bb_X10_which_4_5 : ZB := [(.aload_n 0, .null)]
theorem bk_X10_which_4_5 : zchk cX10_which bb_X10_which_4_5 4 = true ∧ zpc bb_X10_which_4_5 4 = 5 := ⟨by decide +kernel, rfl⟩
abbrev bb_X10_which_11_12 : ZB := [(.aload_n 0, .null)]
theorem bk_X10_which_11_12 : zchk cX10_which bb_X10_which_11_12 11 = true ∧ zpc bb_X10_which_11_12 11 = 12 := ⟨by decide +kernel, rfl⟩
abbrev bb_X10_which_21_22 : ZB := [(.aload_n 0, .null)]
theorem bk_X10_which_21_22 : zchk cX10_which bb_X10_which_21_22 21 = true ∧ zpc bb_X10_which_21_22 21 = 22 := ⟨by decide +kernel, rfl⟩
abbrev bb_X10_which_25_26 : ZB := [(.aload_n 0, .null)]
theorem bk_X10_which_25_26 : zchk cX10_which bb_X10_which_25_26 25 = true ∧ zpc bb_X10_which_25_26 25 = 26 := ⟨by decide +kernel, rfl⟩
abbrev bb_X10_which_32_33 : ZB := [(.i2l, .null)]
theorem bk_X10_which_32_33 : zchk cX10_which bb_X10_which_32_33 32 = true ∧ zpc bb_X10_which_32_33 32 = 33 := ⟨by decide +kernel, rfl⟩
abbrev bb_X10_which_36_37 : ZB := [(.aload_n 0, .null)]
theorem bk_X10_which_36_37 : zchk cX10_which bb_X10_which_36_37 36 = true ∧ zpc bb_X10_which_36_37 36 = 37 := ⟨by decide +kernel, rfl⟩
abbrev bb_X10_which_40_41 : ZB := [(.aload_n 0, .null)]
theorem bk_X10_which_40_41 : zchk cX10_which bb_X10_which_40_41 40 = true ∧ zpc bb_X10_which_40_41 40 = 41 := ⟨by decide +kernel, rfl⟩
abbrev bb_X10_which_47_48 : ZB := [(.i2l, .null)]
theorem bk_X10_which_47_48 : zchk cX10_which bb_X10_which_47_48 47 = true ∧ zpc bb_X10_which_47_48 47 = 48 := ⟨by decide +kernel, rfl⟩
abbrev bb_X10_which_51_52 : ZB := [(.aload_n 0, .null)]
theorem bk_X10_which_51_52 : zchk cX10_which bb_X10_which_51_52 51 = true ∧ zpc bb_X10_which_51_52 51 = 52 := ⟨by decide +kernel, rfl⟩
abbrev bb_X10_which_55_56 : ZB := [(.aload_n 0, .null)]
theorem bk_X10_which_55_56 : zchk cX10_which bb_X10_which_55_56 55 = true ∧ zpc bb_X10_which_55_56 55 = 56 := ⟨by decide +kernel, rfl⟩
abbrev bb_X10_which_62_63 : ZB := [(.i2l, .null)]
theorem bk_X10_which_62_63 : zchk cX10_which bb_X10_which_62_63 62 = true ∧ zpc bb_X10_which_62_63 62 = 63 := ⟨by decide +kernel, rfl⟩
abbrev bb_X10_which_66_67 : ZB := [(.aload_n 0, .null)]
theorem bk_X10_which_66_67 : zchk cX10_which bb_X10_which_66_67 66 = true ∧ zpc bb_X10_which_66_67 66 = 67 := ⟨by decide +kernel, rfl⟩
abbrev bb_X10_which_70_71 : ZB := [(.aload_n 0, .null)]
theorem bk_X10_which_70_71 : zchk cX10_which bb_X10_which_70_71 70 = true ∧ zpc bb_X10_which_70_71 70 = 71 := ⟨by decide +kernel, rfl⟩
abbrev bb_X10_which_77_78 : ZB := [(.i2l, .null)]
theorem bk_X10_which_77_78 : zchk cX10_which bb_X10_which_77_78 77 = true ∧ zpc bb_X10_which_77_78 77 = 78 := ⟨by decide +kernel, rfl⟩
abbrev bb_X10_which_81_82 : ZB := [(.aload_n 0, .null)]
theorem bk_X10_which_81_82 : zchk cX10_which bb_X10_which_81_82 81 = true ∧ zpc bb_X10_which_81_82 81 = 82 := ⟨by decide +kernel, rfl⟩
set_option maxHeartbeats 4000000 in
set_option maxRecDepth 100000 in
theorem c_X10_which (l : Launch) (G : KG) (x : Nat) (told : Nat) (reader : Nat) (ring : Nat) (speeds : Nat) (wheel : Nat) (trials : Nat) (span : Nat) (search : Nat) (kept : Nat) (crosses : Nat) (trueM : Nat) (thought : Nat) (up : Nat) (low : Nat) (fits : Nat) (ts : Nat) (tw : Nat) (tf : Nat) (te : Nat) (tg : Nat) (tl : Nat) (tc : Nat) (tx : Nat) (ty : Nat) (fx : Nat) (fy : Nat) (tn : Nat) : Ct l G yX10_which cX10_which 1 (some .int) { frames := 3, cells := 0, slots := 0, locals := 58 } [.ref x] [(x, ob 10 [.ref told, .ref reader, .ref ring, .ref speeds, .ref wheel, .ref trials, .ref span, .ref search, .ref kept, .ref crosses, .ref trueM, .ref thought, .ref up, .ref low, .ref fits, .null]), (trials, ob 9 [.int 0, .ref ts, .ref tw, .ref tf, .ref te, .ref tg, .ref tl, .ref tc, .ref tx, .ref ty]), (span, ob 1 [.int 0, .int 0, .int 0, .int 0, .int 0, .int 0, .int 0, .ref fx, .ref fy]), (fx, aI G 40 (fun _ => 0)), (fy, aI G 40 (fun _ => 0)), (told, ob 8 [.ref tn, .int 0]), (tn, aJ G 16 (fun _ => 0))] (fun r _ => r = some (.int 14641)) := by
  refine ct_of [(0, .ref x)] (by decide) (Nat.le_of_ble_eq_true rfl) rfl ?_
  intro p0 e0 s0 m0 args0 below0 meth0 c0 A X
  refine z_run X bb_X10_which_0_1 bk_X10_which_0_1 (lv' := [(0, .ref x)]) (st' := [.ref x]) rfl ?_
  refine z_callV X k_10_216 (c_X10_gatherSpan l G x told reader ring speeds wheel trials span search kept crosses trueM thought up low fits ts tw tf te tg tl tc tx ty fx fy) d_X10_which_1 0 rfl rfl rfl ⟨Nat.le_of_ble_eq_true rfl, Nat.le_of_ble_eq_true rfl⟩ ⟨Nat.le_of_ble_eq_true rfl, Nat.le_of_ble_eq_true rfl⟩ rfl (rest := []) (As := []) rfl (Nat.le_of_ble_eq_true rfl) [0, 1, 2, 3, 4] [5, 6] rfl (by decide) (wr := [(told, ob 8 [.ref tn, .int 0]), (tn, aJ G 16 (fun _ => 0))]) rfl (by decide) (by decide) ?_
  rintro _ _ ⟨n1_1, n2_2, n3_3, n4_4, n5_5, n6_6, g1_7, g2_8, rfl, rfl⟩
  refine Z.at (pc' := 4) (st' := []) (ws' := [(told, ob 8 [.ref tn, .int 0]), (tn, aJ G 16 (fun _ => 0)), (x, ob 10 [.ref told, .ref reader, .ref ring, .ref speeds, .ref wheel, .ref trials, .ref span, .ref search, .ref kept, .ref crosses, .ref trueM, .ref thought, .ref up, .ref low, .ref fits, .null]), (trials, ob 9 [.int 0, .ref ts, .ref tw, .ref tf, .ref te, .ref tg, .ref tl, .ref tc, .ref tx, .ref ty]), (span, ob 1 [.int 14641, .int n1_1, .int n2_2, .int n3_3, .int n4_4, .int n5_5, .int n6_6, .ref fx, .ref fy]), (fx, aI G 40 g1_7), (fy, aI G 40 g2_8)]) (kc' := 0) (ks' := 0) rfl rfl rfl rfl rfl ?_
  refine z_run X bb_X10_which_4_5 bk_X10_which_4_5 (lv' := [(0, .ref x)]) (st' := [.ref x]) rfl ?_
  refine z_get X fl_10_12 d_X10_which_5 2 rfl (v := .ref told) rfl ?_
  refine z_callV X k_10_180 (c_X8_start0 l G told tn) d_X10_which_8 0 rfl rfl rfl ⟨Nat.le_of_ble_eq_true rfl, Nat.le_of_ble_eq_true rfl⟩ ⟨Nat.le_of_ble_eq_true rfl, Nat.le_of_ble_eq_true rfl⟩ rfl (rest := []) (As := []) rfl (Nat.le_of_ble_eq_true rfl) [0] [1, 2, 3, 4, 5, 6] rfl (by decide) (wr := [(tn, aJ G 16 (fun _ => 0)), (x, ob 10 [.ref told, .ref reader, .ref ring, .ref speeds, .ref wheel, .ref trials, .ref span, .ref search, .ref kept, .ref crosses, .ref trueM, .ref thought, .ref up, .ref low, .ref fits, .null]), (trials, ob 9 [.int 0, .ref ts, .ref tw, .ref tf, .ref te, .ref tg, .ref tl, .ref tc, .ref tx, .ref ty]), (span, ob 1 [.int 14641, .int n1_1, .int n2_2, .int n3_3, .int n4_4, .int n5_5, .int n6_6, .ref fx, .ref fy]), (fx, aI G 40 g1_7), (fy, aI G 40 g2_8)]) rfl (by decide) (by decide) ?_
  rintro _ _ ⟨rfl, rfl⟩
  refine Z.at (pc' := 11) (st' := []) (ws' := [(tn, aJ G 16 (fun _ => 0)), (x, ob 10 [.ref told, .ref reader, .ref ring, .ref speeds, .ref wheel, .ref trials, .ref span, .ref search, .ref kept, .ref crosses, .ref trueM, .ref thought, .ref up, .ref low, .ref fits, .null]), (trials, ob 9 [.int 0, .ref ts, .ref tw, .ref tf, .ref te, .ref tg, .ref tl, .ref tc, .ref tx, .ref ty]), (span, ob 1 [.int 14641, .int n1_1, .int n2_2, .int n3_3, .int n4_4, .int n5_5, .int n6_6, .ref fx, .ref fy]), (fx, aI G 40 g1_7), (fy, aI G 40 g2_8), (told, ob 8 [.ref tn, .int 0])]) (kc' := 0) (ks' := 0) rfl rfl rfl rfl rfl ?_
  refine z_run X bb_X10_which_11_12 bk_X10_which_11_12 (lv' := [(0, .ref x)]) (st' := [.ref x]) rfl ?_
  refine z_get X fl_10_54 d_X10_which_12 1 rfl (v := .ref span) rfl ?_
  refine z_getN X fl_10_219 d_X10_which_15 3 rfl (v := .int 14641) rfl ?_
  refine zi_le X d_X10_which_18 (tgt := 81) (by decide) (a := 14641) (show (14641 : Int32).toInt = 14641 from by decide) (fun c18_9 => absurd c18_9 (by decide)) (fun _ => ?_)
  refine z_run X bb_X10_which_21_22 bk_X10_which_21_22 (lv' := [(0, .ref x)]) (st' := [.ref x]) rfl ?_
  refine z_get X fl_10_12 d_X10_which_22 1 rfl (v := .ref told) rfl ?_
  refine z_run X bb_X10_which_25_26 bk_X10_which_25_26 (lv' := [(0, .ref x)]) (st' := [.ref x, .ref told]) rfl ?_
  refine z_get X fl_10_54 d_X10_which_26 1 rfl (v := .ref span) rfl ?_
  refine z_getN X fl_10_220 d_X10_which_29 3 rfl (v := .int n1_1) rfl ?_
  refine z_run X bb_X10_which_32_33 bk_X10_which_32_33 (lv' := [(0, .ref x)]) (st' := [.long n1_1.toInt64, .ref told]) rfl ?_
  refine z_callV X k_10_183 (c_X8_add0 l G told tn n1_1.toInt64 (fun _ => 0)) d_X10_which_33 6 rfl rfl rfl ⟨Nat.le_of_ble_eq_true rfl, Nat.le_of_ble_eq_true rfl⟩ ⟨Nat.le_of_ble_eq_true rfl, Nat.le_of_ble_eq_true rfl⟩ rfl (rest := []) (As := [.long n1_1.toInt64]) rfl (Nat.le_of_ble_eq_true rfl) [6, 0] [1, 2, 3, 4, 5] rfl (by decide) (wr := [(x, ob 10 [.ref told, .ref reader, .ref ring, .ref speeds, .ref wheel, .ref trials, .ref span, .ref search, .ref kept, .ref crosses, .ref trueM, .ref thought, .ref up, .ref low, .ref fits, .null]), (trials, ob 9 [.int 0, .ref ts, .ref tw, .ref tf, .ref te, .ref tg, .ref tl, .ref tc, .ref tx, .ref ty]), (span, ob 1 [.int 14641, .int n1_1, .int n2_2, .int n3_3, .int n4_4, .int n5_5, .int n6_6, .ref fx, .ref fy]), (fx, aI G 40 g1_7), (fy, aI G 40 g2_8)]) rfl (by decide) (by decide) ?_
  rintro _ _ ⟨rfl, rfl⟩
  refine Z.at (pc' := 36) (st' := []) (ws' := [(x, ob 10 [.ref told, .ref reader, .ref ring, .ref speeds, .ref wheel, .ref trials, .ref span, .ref search, .ref kept, .ref crosses, .ref trueM, .ref thought, .ref up, .ref low, .ref fits, .null]), (trials, ob 9 [.int 0, .ref ts, .ref tw, .ref tf, .ref te, .ref tg, .ref tl, .ref tc, .ref tx, .ref ty]), (span, ob 1 [.int 14641, .int n1_1, .int n2_2, .int n3_3, .int n4_4, .int n5_5, .int n6_6, .ref fx, .ref fy]), (fx, aI G 40 g1_7), (fy, aI G 40 g2_8), (told, ob 8 [.ref tn, .int 1]), (tn, aJ G 16 (vp_updL (fun _ => 0) 0 n1_1.toInt64))]) (kc' := 0) (ks' := 0) rfl rfl rfl rfl rfl ?_
  refine z_run X bb_X10_which_36_37 bk_X10_which_36_37 (lv' := [(0, .ref x)]) (st' := [.ref x]) rfl ?_
  refine z_get X fl_10_12 d_X10_which_37 0 rfl (v := .ref told) rfl ?_
  refine z_run X bb_X10_which_40_41 bk_X10_which_40_41 (lv' := [(0, .ref x)]) (st' := [.ref x, .ref told]) rfl ?_
  refine z_get X fl_10_54 d_X10_which_41 0 rfl (v := .ref span) rfl ?_
  refine z_getN X fl_10_223 d_X10_which_44 2 rfl (v := .int n2_2) rfl ?_
  refine z_run X bb_X10_which_47_48 bk_X10_which_47_48 (lv' := [(0, .ref x)]) (st' := [.long n2_2.toInt64, .ref told]) rfl ?_
  refine z_callV X k_10_183 (c_X8_add1 l G told tn n2_2.toInt64 (vp_updL (fun _ => 0) 0 n1_1.toInt64)) d_X10_which_48 5 rfl rfl rfl ⟨Nat.le_of_ble_eq_true rfl, Nat.le_of_ble_eq_true rfl⟩ ⟨Nat.le_of_ble_eq_true rfl, Nat.le_of_ble_eq_true rfl⟩ rfl (rest := []) (As := [.long n2_2.toInt64]) rfl (Nat.le_of_ble_eq_true rfl) [5, 6] [0, 1, 2, 3, 4] rfl (by decide) (wr := [(x, ob 10 [.ref told, .ref reader, .ref ring, .ref speeds, .ref wheel, .ref trials, .ref span, .ref search, .ref kept, .ref crosses, .ref trueM, .ref thought, .ref up, .ref low, .ref fits, .null]), (trials, ob 9 [.int 0, .ref ts, .ref tw, .ref tf, .ref te, .ref tg, .ref tl, .ref tc, .ref tx, .ref ty]), (span, ob 1 [.int 14641, .int n1_1, .int n2_2, .int n3_3, .int n4_4, .int n5_5, .int n6_6, .ref fx, .ref fy]), (fx, aI G 40 g1_7), (fy, aI G 40 g2_8)]) rfl (by decide) (by decide) ?_
  rintro _ _ ⟨rfl, rfl⟩
  refine Z.at (pc' := 51) (st' := []) (ws' := [(x, ob 10 [.ref told, .ref reader, .ref ring, .ref speeds, .ref wheel, .ref trials, .ref span, .ref search, .ref kept, .ref crosses, .ref trueM, .ref thought, .ref up, .ref low, .ref fits, .null]), (trials, ob 9 [.int 0, .ref ts, .ref tw, .ref tf, .ref te, .ref tg, .ref tl, .ref tc, .ref tx, .ref ty]), (span, ob 1 [.int 14641, .int n1_1, .int n2_2, .int n3_3, .int n4_4, .int n5_5, .int n6_6, .ref fx, .ref fy]), (fx, aI G 40 g1_7), (fy, aI G 40 g2_8), (told, ob 8 [.ref tn, .int 2]), (tn, aJ G 16 (vp_updL (vp_updL (fun _ => 0) 0 n1_1.toInt64) 1 n2_2.toInt64))]) (kc' := 0) (ks' := 0) rfl rfl rfl rfl rfl ?_
  refine z_run X bb_X10_which_51_52 bk_X10_which_51_52 (lv' := [(0, .ref x)]) (st' := [.ref x]) rfl ?_
  refine z_get X fl_10_12 d_X10_which_52 0 rfl (v := .ref told) rfl ?_
  refine z_run X bb_X10_which_55_56 bk_X10_which_55_56 (lv' := [(0, .ref x)]) (st' := [.ref x, .ref told]) rfl ?_
  refine z_get X fl_10_54 d_X10_which_56 0 rfl (v := .ref span) rfl ?_
  refine z_getN X fl_10_226 d_X10_which_59 2 rfl (v := .int n3_3) rfl ?_
  refine z_run X bb_X10_which_62_63 bk_X10_which_62_63 (lv' := [(0, .ref x)]) (st' := [.long n3_3.toInt64, .ref told]) rfl ?_
  refine z_callV X k_10_183 (c_X8_add2 l G told tn n3_3.toInt64 (vp_updL (vp_updL (fun _ => 0) 0 n1_1.toInt64) 1 n2_2.toInt64)) d_X10_which_63 5 rfl rfl rfl ⟨Nat.le_of_ble_eq_true rfl, Nat.le_of_ble_eq_true rfl⟩ ⟨Nat.le_of_ble_eq_true rfl, Nat.le_of_ble_eq_true rfl⟩ rfl (rest := []) (As := [.long n3_3.toInt64]) rfl (Nat.le_of_ble_eq_true rfl) [5, 6] [0, 1, 2, 3, 4] rfl (by decide) (wr := [(x, ob 10 [.ref told, .ref reader, .ref ring, .ref speeds, .ref wheel, .ref trials, .ref span, .ref search, .ref kept, .ref crosses, .ref trueM, .ref thought, .ref up, .ref low, .ref fits, .null]), (trials, ob 9 [.int 0, .ref ts, .ref tw, .ref tf, .ref te, .ref tg, .ref tl, .ref tc, .ref tx, .ref ty]), (span, ob 1 [.int 14641, .int n1_1, .int n2_2, .int n3_3, .int n4_4, .int n5_5, .int n6_6, .ref fx, .ref fy]), (fx, aI G 40 g1_7), (fy, aI G 40 g2_8)]) rfl (by decide) (by decide) ?_
  rintro _ _ ⟨rfl, rfl⟩
  refine Z.at (pc' := 66) (st' := []) (ws' := [(x, ob 10 [.ref told, .ref reader, .ref ring, .ref speeds, .ref wheel, .ref trials, .ref span, .ref search, .ref kept, .ref crosses, .ref trueM, .ref thought, .ref up, .ref low, .ref fits, .null]), (trials, ob 9 [.int 0, .ref ts, .ref tw, .ref tf, .ref te, .ref tg, .ref tl, .ref tc, .ref tx, .ref ty]), (span, ob 1 [.int 14641, .int n1_1, .int n2_2, .int n3_3, .int n4_4, .int n5_5, .int n6_6, .ref fx, .ref fy]), (fx, aI G 40 g1_7), (fy, aI G 40 g2_8), (told, ob 8 [.ref tn, .int 3]), (tn, aJ G 16 (vp_updL (vp_updL (vp_updL (fun _ => 0) 0 n1_1.toInt64) 1 n2_2.toInt64) 2 n3_3.toInt64))]) (kc' := 0) (ks' := 0) rfl rfl rfl rfl rfl ?_
  refine z_run X bb_X10_which_66_67 bk_X10_which_66_67 (lv' := [(0, .ref x)]) (st' := [.ref x]) rfl ?_
  refine z_get X fl_10_12 d_X10_which_67 0 rfl (v := .ref told) rfl ?_
  refine z_run X bb_X10_which_70_71 bk_X10_which_70_71 (lv' := [(0, .ref x)]) (st' := [.ref x, .ref told]) rfl ?_
  refine z_get X fl_10_54 d_X10_which_71 0 rfl (v := .ref span) rfl ?_
  refine z_getN X fl_10_229 d_X10_which_74 2 rfl (v := .int n4_4) rfl ?_
  refine z_run X bb_X10_which_77_78 bk_X10_which_77_78 (lv' := [(0, .ref x)]) (st' := [.long n4_4.toInt64, .ref told]) rfl ?_
  refine z_callV X k_10_183 (c_X8_add3 l G told tn n4_4.toInt64 (vp_updL (vp_updL (vp_updL (fun _ => 0) 0 n1_1.toInt64) 1 n2_2.toInt64) 2 n3_3.toInt64)) d_X10_which_78 5 rfl rfl rfl ⟨Nat.le_of_ble_eq_true rfl, Nat.le_of_ble_eq_true rfl⟩ ⟨Nat.le_of_ble_eq_true rfl, Nat.le_of_ble_eq_true rfl⟩ rfl (rest := []) (As := [.long n4_4.toInt64]) rfl (Nat.le_of_ble_eq_true rfl) [5, 6] [0, 1, 2, 3, 4] rfl (by decide) (wr := [(x, ob 10 [.ref told, .ref reader, .ref ring, .ref speeds, .ref wheel, .ref trials, .ref span, .ref search, .ref kept, .ref crosses, .ref trueM, .ref thought, .ref up, .ref low, .ref fits, .null]), (trials, ob 9 [.int 0, .ref ts, .ref tw, .ref tf, .ref te, .ref tg, .ref tl, .ref tc, .ref tx, .ref ty]), (span, ob 1 [.int 14641, .int n1_1, .int n2_2, .int n3_3, .int n4_4, .int n5_5, .int n6_6, .ref fx, .ref fy]), (fx, aI G 40 g1_7), (fy, aI G 40 g2_8)]) rfl (by decide) (by decide) ?_
  rintro _ _ ⟨rfl, rfl⟩
  refine Z.at (pc' := 81) (st' := []) (ws' := [(x, ob 10 [.ref told, .ref reader, .ref ring, .ref speeds, .ref wheel, .ref trials, .ref span, .ref search, .ref kept, .ref crosses, .ref trueM, .ref thought, .ref up, .ref low, .ref fits, .null]), (trials, ob 9 [.int 0, .ref ts, .ref tw, .ref tf, .ref te, .ref tg, .ref tl, .ref tc, .ref tx, .ref ty]), (span, ob 1 [.int 14641, .int n1_1, .int n2_2, .int n3_3, .int n4_4, .int n5_5, .int n6_6, .ref fx, .ref fy]), (fx, aI G 40 g1_7), (fy, aI G 40 g2_8), (told, ob 8 [.ref tn, .int 4]), (tn, aJ G 16 (vp_updL (vp_updL (vp_updL (vp_updL (fun _ => 0) 0 n1_1.toInt64) 1 n2_2.toInt64) 2 n3_3.toInt64) 3 n4_4.toInt64))]) (kc' := 0) (ks' := 0) rfl rfl rfl rfl rfl ?_
  refine z_run X bb_X10_which_81_82 bk_X10_which_81_82 (lv' := [(0, .ref x)]) (st' := [.ref x]) rfl ?_
  refine z_get X fl_10_54 d_X10_which_82 0 rfl (v := .ref span) rfl ?_
  refine z_getN X fl_10_219 d_X10_which_85 2 rfl (v := .int 14641) rfl ?_
  exact z_iret X rfl d_X10_which_88 (Nat.le_of_ble_eq_true rfl) (Nat.le_of_ble_eq_true rfl) rfl

theorem d_X10_ends_1 : decode cX10_ends 1 = .ok (.invokevirtual 216, 3) := by decide +kernel
theorem d_X10_ends_5 : decode cX10_ends 5 = .ok (.getfield 54, 3) := by decide +kernel
theorem d_X10_ends_8 : decode cX10_ends 8 = .ok (.getfield 219, 3) := by decide +kernel
theorem d_X10_ends_11 : decode cX10_ends 11 = .ok (.ifCond .ne 5, 3) := by decide +kernel
theorem d_X10_ends_17 : decode cX10_ends 17 = .ok (.getfield 12, 3) := by decide +kernel
theorem d_X10_ends_20 : decode cX10_ends 20 = .ok (.invokevirtual 180, 3) := by decide +kernel
theorem d_X10_ends_24 : decode cX10_ends 24 = .ok (.getfield 12, 3) := by decide +kernel
theorem d_X10_ends_28 : decode cX10_ends 28 = .ok (.getfield 54, 3) := by decide +kernel
theorem d_X10_ends_31 : decode cX10_ends 31 = .ok (.getfield 220, 3) := by decide +kernel
theorem d_X10_ends_35 : decode cX10_ends 35 = .ok (.invokevirtual 183, 3) := by decide +kernel
theorem d_X10_ends_39 : decode cX10_ends 39 = .ok (.getfield 12, 3) := by decide +kernel
theorem d_X10_ends_43 : decode cX10_ends 43 = .ok (.getfield 54, 3) := by decide +kernel
theorem d_X10_ends_46 : decode cX10_ends 46 = .ok (.getfield 226, 3) := by decide +kernel
theorem d_X10_ends_50 : decode cX10_ends 50 = .ok (.invokevirtual 183, 3) := by decide +kernel
theorem d_X10_ends_54 : decode cX10_ends 54 = .ok (.getfield 12, 3) := by decide +kernel
theorem d_X10_ends_58 : decode cX10_ends 58 = .ok (.getfield 54, 3) := by decide +kernel
theorem d_X10_ends_61 : decode cX10_ends 61 = .ok (.getfield 232, 3) := by decide +kernel
theorem d_X10_ends_65 : decode cX10_ends 65 = .ok (.invokevirtual 183, 3) := by decide +kernel
theorem d_X10_ends_69 : decode cX10_ends 69 = .ok (.getfield 12, 3) := by decide +kernel
theorem d_X10_ends_73 : decode cX10_ends 73 = .ok (.getfield 54, 3) := by decide +kernel
theorem d_X10_ends_76 : decode cX10_ends 76 = .ok (.getfield 235, 3) := by decide +kernel
theorem d_X10_ends_80 : decode cX10_ends 80 = .ok (.invokevirtual 183, 3) := by decide +kernel
theorem d_X10_ends_84 : decode cX10_ends 84 = .ok (.getfield 12, 3) := by decide +kernel
theorem d_X10_ends_88 : decode cX10_ends 88 = .ok (.getfield 54, 3) := by decide +kernel
theorem d_X10_ends_91 : decode cX10_ends 91 = .ok (.invokevirtual 238, 3) := by decide +kernel
theorem d_X10_ends_94 : decode cX10_ends 94 = .ok (.invokevirtual 183, 3) := by decide +kernel
theorem d_X10_ends_98 : decode cX10_ends 98 = .ok (.getfield 54, 3) := by decide +kernel
theorem d_X10_ends_101 : decode cX10_ends 101 = .ok (.getfield 219, 3) := by decide +kernel
theorem d_X10_ends_104 : decode cX10_ends 104 = .ok (.ireturn, 1) := by decide +kernel
abbrev bb_X10_ends_0_1 : ZB := [(.aload_n 0, .null)]
theorem bk_X10_ends_0_1 : zchk cX10_ends bb_X10_ends_0_1 0 = true ∧ zpc bb_X10_ends_0_1 0 = 1 := ⟨by decide +kernel, rfl⟩
abbrev bb_X10_ends_4_5 : ZB := [(.aload_n 0, .null)]
theorem bk_X10_ends_4_5 : zchk cX10_ends bb_X10_ends_4_5 4 = true ∧ zpc bb_X10_ends_4_5 4 = 5 := ⟨by decide +kernel, rfl⟩
abbrev bb_X10_ends_16_17 : ZB := [(.aload_n 0, .null)]
theorem bk_X10_ends_16_17 : zchk cX10_ends bb_X10_ends_16_17 16 = true ∧ zpc bb_X10_ends_16_17 16 = 17 := ⟨by decide +kernel, rfl⟩
abbrev bb_X10_ends_23_24 : ZB := [(.aload_n 0, .null)]
theorem bk_X10_ends_23_24 : zchk cX10_ends bb_X10_ends_23_24 23 = true ∧ zpc bb_X10_ends_23_24 23 = 24 := ⟨by decide +kernel, rfl⟩
abbrev bb_X10_ends_27_28 : ZB := [(.aload_n 0, .null)]
theorem bk_X10_ends_27_28 : zchk cX10_ends bb_X10_ends_27_28 27 = true ∧ zpc bb_X10_ends_27_28 27 = 28 := ⟨by decide +kernel, rfl⟩
abbrev bb_X10_ends_34_35 : ZB := [(.i2l, .null)]
theorem bk_X10_ends_34_35 : zchk cX10_ends bb_X10_ends_34_35 34 = true ∧ zpc bb_X10_ends_34_35 34 = 35 := ⟨by decide +kernel, rfl⟩
abbrev bb_X10_ends_38_39 : ZB := [(.aload_n 0, .null)]
theorem bk_X10_ends_38_39 : zchk cX10_ends bb_X10_ends_38_39 38 = true ∧ zpc bb_X10_ends_38_39 38 = 39 := ⟨by decide +kernel, rfl⟩
abbrev bb_X10_ends_42_43 : ZB := [(.aload_n 0, .null)]
theorem bk_X10_ends_42_43 : zchk cX10_ends bb_X10_ends_42_43 42 = true ∧ zpc bb_X10_ends_42_43 42 = 43 := ⟨by decide +kernel, rfl⟩
abbrev bb_X10_ends_49_50 : ZB := [(.i2l, .null)]
theorem bk_X10_ends_49_50 : zchk cX10_ends bb_X10_ends_49_50 49 = true ∧ zpc bb_X10_ends_49_50 49 = 50 := ⟨by decide +kernel, rfl⟩
abbrev bb_X10_ends_53_54 : ZB := [(.aload_n 0, .null)]
theorem bk_X10_ends_53_54 : zchk cX10_ends bb_X10_ends_53_54 53 = true ∧ zpc bb_X10_ends_53_54 53 = 54 := ⟨by decide +kernel, rfl⟩
abbrev bb_X10_ends_57_58 : ZB := [(.aload_n 0, .null)]
theorem bk_X10_ends_57_58 : zchk cX10_ends bb_X10_ends_57_58 57 = true ∧ zpc bb_X10_ends_57_58 57 = 58 := ⟨by decide +kernel, rfl⟩
abbrev bb_X10_ends_64_65 : ZB := [(.i2l, .null)]
theorem bk_X10_ends_64_65 : zchk cX10_ends bb_X10_ends_64_65 64 = true ∧ zpc bb_X10_ends_64_65 64 = 65 := ⟨by decide +kernel, rfl⟩
abbrev bb_X10_ends_68_69 : ZB := [(.aload_n 0, .null)]
theorem bk_X10_ends_68_69 : zchk cX10_ends bb_X10_ends_68_69 68 = true ∧ zpc bb_X10_ends_68_69 68 = 69 := ⟨by decide +kernel, rfl⟩
abbrev bb_X10_ends_72_73 : ZB := [(.aload_n 0, .null)]
theorem bk_X10_ends_72_73 : zchk cX10_ends bb_X10_ends_72_73 72 = true ∧ zpc bb_X10_ends_72_73 72 = 73 := ⟨by decide +kernel, rfl⟩
abbrev bb_X10_ends_79_80 : ZB := [(.i2l, .null)]
theorem bk_X10_ends_79_80 : zchk cX10_ends bb_X10_ends_79_80 79 = true ∧ zpc bb_X10_ends_79_80 79 = 80 := ⟨by decide +kernel, rfl⟩
abbrev bb_X10_ends_83_84 : ZB := [(.aload_n 0, .null)]
theorem bk_X10_ends_83_84 : zchk cX10_ends bb_X10_ends_83_84 83 = true ∧ zpc bb_X10_ends_83_84 83 = 84 := ⟨by decide +kernel, rfl⟩
abbrev bb_X10_ends_87_88 : ZB := [(.aload_n 0, .null)]
theorem bk_X10_ends_87_88 : zchk cX10_ends bb_X10_ends_87_88 87 = true ∧ zpc bb_X10_ends_87_88 87 = 88 := ⟨by decide +kernel, rfl⟩
abbrev bb_X10_ends_97_98 : ZB := [(.aload_n 0, .null)]
theorem bk_X10_ends_97_98 : zchk cX10_ends bb_X10_ends_97_98 97 = true ∧ zpc bb_X10_ends_97_98 97 = 98 := ⟨by decide +kernel, rfl⟩
set_option maxHeartbeats 4000000 in
set_option maxRecDepth 100000 in
theorem c_X10_ends (l : Launch) (G : KG) (x : Nat) (told : Nat) (reader : Nat) (ring : Nat) (speeds : Nat) (wheel : Nat) (trials : Nat) (span : Nat) (search : Nat) (kept : Nat) (crosses : Nat) (trueM : Nat) (thought : Nat) (up : Nat) (low : Nat) (fits : Nat) (ts : Nat) (tw : Nat) (tf : Nat) (te : Nat) (tg : Nat) (tl : Nat) (tc : Nat) (tx : Nat) (ty : Nat) (fx : Nat) (fy : Nat) (tn : Nat) : Ct l G yX10_ends cX10_ends 1 (some .int) { frames := 3, cells := 0, slots := 0, locals := 58 } [.ref x] [(x, ob 10 [.ref told, .ref reader, .ref ring, .ref speeds, .ref wheel, .ref trials, .ref span, .ref search, .ref kept, .ref crosses, .ref trueM, .ref thought, .ref up, .ref low, .ref fits, .null]), (trials, ob 9 [.int 0, .ref ts, .ref tw, .ref tf, .ref te, .ref tg, .ref tl, .ref tc, .ref tx, .ref ty]), (span, ob 1 [.int 0, .int 0, .int 0, .int 0, .int 0, .int 0, .int 0, .ref fx, .ref fy]), (fx, aI G 40 (fun _ => 0)), (fy, aI G 40 (fun _ => 0)), (told, ob 8 [.ref tn, .int 0]), (tn, aJ G 16 (fun _ => 0))] (fun r _ => r = some (.int 14641)) := by
  refine ct_of [(0, .ref x)] (by decide) (Nat.le_of_ble_eq_true rfl) rfl ?_
  intro p0 e0 s0 m0 args0 below0 meth0 c0 A X
  refine z_run X bb_X10_ends_0_1 bk_X10_ends_0_1 (lv' := [(0, .ref x)]) (st' := [.ref x]) rfl ?_
  refine z_callV X k_10_216 (c_X10_gatherSpan l G x told reader ring speeds wheel trials span search kept crosses trueM thought up low fits ts tw tf te tg tl tc tx ty fx fy) d_X10_ends_1 0 rfl rfl rfl ⟨Nat.le_of_ble_eq_true rfl, Nat.le_of_ble_eq_true rfl⟩ ⟨Nat.le_of_ble_eq_true rfl, Nat.le_of_ble_eq_true rfl⟩ rfl (rest := []) (As := []) rfl (Nat.le_of_ble_eq_true rfl) [0, 1, 2, 3, 4] [5, 6] rfl (by decide) (wr := [(told, ob 8 [.ref tn, .int 0]), (tn, aJ G 16 (fun _ => 0))]) rfl (by decide) (by decide) ?_
  rintro _ _ ⟨n1_1, n2_2, n3_3, n4_4, n5_5, n6_6, g1_7, g2_8, rfl, rfl⟩
  refine Z.at (pc' := 4) (st' := []) (ws' := [(told, ob 8 [.ref tn, .int 0]), (tn, aJ G 16 (fun _ => 0)), (x, ob 10 [.ref told, .ref reader, .ref ring, .ref speeds, .ref wheel, .ref trials, .ref span, .ref search, .ref kept, .ref crosses, .ref trueM, .ref thought, .ref up, .ref low, .ref fits, .null]), (trials, ob 9 [.int 0, .ref ts, .ref tw, .ref tf, .ref te, .ref tg, .ref tl, .ref tc, .ref tx, .ref ty]), (span, ob 1 [.int 14641, .int n1_1, .int n2_2, .int n3_3, .int n4_4, .int n5_5, .int n6_6, .ref fx, .ref fy]), (fx, aI G 40 g1_7), (fy, aI G 40 g2_8)]) (kc' := 0) (ks' := 0) rfl rfl rfl rfl rfl ?_
  refine z_run X bb_X10_ends_4_5 bk_X10_ends_4_5 (lv' := [(0, .ref x)]) (st' := [.ref x]) rfl ?_
  refine z_get X fl_10_54 d_X10_ends_5 2 rfl (v := .ref span) rfl ?_
  refine z_getN X fl_10_219 d_X10_ends_8 4 rfl (v := .int 14641) rfl ?_
  refine zi_ne X d_X10_ends_11 (tgt := 16) (by decide) (a := 14641) (show (14641 : Int32).toInt = 14641 from by decide) (fun _ => ?_) (fun c11_9 => absurd c11_9 (by decide))
  refine z_run X bb_X10_ends_16_17 bk_X10_ends_16_17 (lv' := [(0, .ref x)]) (st' := [.ref x]) rfl ?_
  refine z_get X fl_10_12 d_X10_ends_17 2 rfl (v := .ref told) rfl ?_
  refine z_callV X k_10_180 (c_X8_start0 l G told tn) d_X10_ends_20 0 rfl rfl rfl ⟨Nat.le_of_ble_eq_true rfl, Nat.le_of_ble_eq_true rfl⟩ ⟨Nat.le_of_ble_eq_true rfl, Nat.le_of_ble_eq_true rfl⟩ rfl (rest := []) (As := []) rfl (Nat.le_of_ble_eq_true rfl) [0] [1, 2, 3, 4, 5, 6] rfl (by decide) (wr := [(tn, aJ G 16 (fun _ => 0)), (x, ob 10 [.ref told, .ref reader, .ref ring, .ref speeds, .ref wheel, .ref trials, .ref span, .ref search, .ref kept, .ref crosses, .ref trueM, .ref thought, .ref up, .ref low, .ref fits, .null]), (trials, ob 9 [.int 0, .ref ts, .ref tw, .ref tf, .ref te, .ref tg, .ref tl, .ref tc, .ref tx, .ref ty]), (span, ob 1 [.int 14641, .int n1_1, .int n2_2, .int n3_3, .int n4_4, .int n5_5, .int n6_6, .ref fx, .ref fy]), (fx, aI G 40 g1_7), (fy, aI G 40 g2_8)]) rfl (by decide) (by decide) ?_
  rintro _ _ ⟨rfl, rfl⟩
  refine Z.at (pc' := 23) (st' := []) (ws' := [(tn, aJ G 16 (fun _ => 0)), (x, ob 10 [.ref told, .ref reader, .ref ring, .ref speeds, .ref wheel, .ref trials, .ref span, .ref search, .ref kept, .ref crosses, .ref trueM, .ref thought, .ref up, .ref low, .ref fits, .null]), (trials, ob 9 [.int 0, .ref ts, .ref tw, .ref tf, .ref te, .ref tg, .ref tl, .ref tc, .ref tx, .ref ty]), (span, ob 1 [.int 14641, .int n1_1, .int n2_2, .int n3_3, .int n4_4, .int n5_5, .int n6_6, .ref fx, .ref fy]), (fx, aI G 40 g1_7), (fy, aI G 40 g2_8), (told, ob 8 [.ref tn, .int 0])]) (kc' := 0) (ks' := 0) rfl rfl rfl rfl rfl ?_
  refine z_run X bb_X10_ends_23_24 bk_X10_ends_23_24 (lv' := [(0, .ref x)]) (st' := [.ref x]) rfl ?_
  refine z_get X fl_10_12 d_X10_ends_24 1 rfl (v := .ref told) rfl ?_
  refine z_run X bb_X10_ends_27_28 bk_X10_ends_27_28 (lv' := [(0, .ref x)]) (st' := [.ref x, .ref told]) rfl ?_
  refine z_get X fl_10_54 d_X10_ends_28 1 rfl (v := .ref span) rfl ?_
  refine z_getN X fl_10_220 d_X10_ends_31 3 rfl (v := .int n1_1) rfl ?_
  refine z_run X bb_X10_ends_34_35 bk_X10_ends_34_35 (lv' := [(0, .ref x)]) (st' := [.long n1_1.toInt64, .ref told]) rfl ?_
  refine z_callV X k_10_183 (c_X8_add0 l G told tn n1_1.toInt64 (fun _ => 0)) d_X10_ends_35 6 rfl rfl rfl ⟨Nat.le_of_ble_eq_true rfl, Nat.le_of_ble_eq_true rfl⟩ ⟨Nat.le_of_ble_eq_true rfl, Nat.le_of_ble_eq_true rfl⟩ rfl (rest := []) (As := [.long n1_1.toInt64]) rfl (Nat.le_of_ble_eq_true rfl) [6, 0] [1, 2, 3, 4, 5] rfl (by decide) (wr := [(x, ob 10 [.ref told, .ref reader, .ref ring, .ref speeds, .ref wheel, .ref trials, .ref span, .ref search, .ref kept, .ref crosses, .ref trueM, .ref thought, .ref up, .ref low, .ref fits, .null]), (trials, ob 9 [.int 0, .ref ts, .ref tw, .ref tf, .ref te, .ref tg, .ref tl, .ref tc, .ref tx, .ref ty]), (span, ob 1 [.int 14641, .int n1_1, .int n2_2, .int n3_3, .int n4_4, .int n5_5, .int n6_6, .ref fx, .ref fy]), (fx, aI G 40 g1_7), (fy, aI G 40 g2_8)]) rfl (by decide) (by decide) ?_
  rintro _ _ ⟨rfl, rfl⟩
  refine Z.at (pc' := 38) (st' := []) (ws' := [(x, ob 10 [.ref told, .ref reader, .ref ring, .ref speeds, .ref wheel, .ref trials, .ref span, .ref search, .ref kept, .ref crosses, .ref trueM, .ref thought, .ref up, .ref low, .ref fits, .null]), (trials, ob 9 [.int 0, .ref ts, .ref tw, .ref tf, .ref te, .ref tg, .ref tl, .ref tc, .ref tx, .ref ty]), (span, ob 1 [.int 14641, .int n1_1, .int n2_2, .int n3_3, .int n4_4, .int n5_5, .int n6_6, .ref fx, .ref fy]), (fx, aI G 40 g1_7), (fy, aI G 40 g2_8), (told, ob 8 [.ref tn, .int 1]), (tn, aJ G 16 (vp_updL (fun _ => 0) 0 n1_1.toInt64))]) (kc' := 0) (ks' := 0) rfl rfl rfl rfl rfl ?_
  refine z_run X bb_X10_ends_38_39 bk_X10_ends_38_39 (lv' := [(0, .ref x)]) (st' := [.ref x]) rfl ?_
  refine z_get X fl_10_12 d_X10_ends_39 0 rfl (v := .ref told) rfl ?_
  refine z_run X bb_X10_ends_42_43 bk_X10_ends_42_43 (lv' := [(0, .ref x)]) (st' := [.ref x, .ref told]) rfl ?_
  refine z_get X fl_10_54 d_X10_ends_43 0 rfl (v := .ref span) rfl ?_
  refine z_getN X fl_10_226 d_X10_ends_46 2 rfl (v := .int n3_3) rfl ?_
  refine z_run X bb_X10_ends_49_50 bk_X10_ends_49_50 (lv' := [(0, .ref x)]) (st' := [.long n3_3.toInt64, .ref told]) rfl ?_
  refine z_callV X k_10_183 (c_X8_add1 l G told tn n3_3.toInt64 (vp_updL (fun _ => 0) 0 n1_1.toInt64)) d_X10_ends_50 5 rfl rfl rfl ⟨Nat.le_of_ble_eq_true rfl, Nat.le_of_ble_eq_true rfl⟩ ⟨Nat.le_of_ble_eq_true rfl, Nat.le_of_ble_eq_true rfl⟩ rfl (rest := []) (As := [.long n3_3.toInt64]) rfl (Nat.le_of_ble_eq_true rfl) [5, 6] [0, 1, 2, 3, 4] rfl (by decide) (wr := [(x, ob 10 [.ref told, .ref reader, .ref ring, .ref speeds, .ref wheel, .ref trials, .ref span, .ref search, .ref kept, .ref crosses, .ref trueM, .ref thought, .ref up, .ref low, .ref fits, .null]), (trials, ob 9 [.int 0, .ref ts, .ref tw, .ref tf, .ref te, .ref tg, .ref tl, .ref tc, .ref tx, .ref ty]), (span, ob 1 [.int 14641, .int n1_1, .int n2_2, .int n3_3, .int n4_4, .int n5_5, .int n6_6, .ref fx, .ref fy]), (fx, aI G 40 g1_7), (fy, aI G 40 g2_8)]) rfl (by decide) (by decide) ?_
  rintro _ _ ⟨rfl, rfl⟩
  refine Z.at (pc' := 53) (st' := []) (ws' := [(x, ob 10 [.ref told, .ref reader, .ref ring, .ref speeds, .ref wheel, .ref trials, .ref span, .ref search, .ref kept, .ref crosses, .ref trueM, .ref thought, .ref up, .ref low, .ref fits, .null]), (trials, ob 9 [.int 0, .ref ts, .ref tw, .ref tf, .ref te, .ref tg, .ref tl, .ref tc, .ref tx, .ref ty]), (span, ob 1 [.int 14641, .int n1_1, .int n2_2, .int n3_3, .int n4_4, .int n5_5, .int n6_6, .ref fx, .ref fy]), (fx, aI G 40 g1_7), (fy, aI G 40 g2_8), (told, ob 8 [.ref tn, .int 2]), (tn, aJ G 16 (vp_updL (vp_updL (fun _ => 0) 0 n1_1.toInt64) 1 n3_3.toInt64))]) (kc' := 0) (ks' := 0) rfl rfl rfl rfl rfl ?_
  refine z_run X bb_X10_ends_53_54 bk_X10_ends_53_54 (lv' := [(0, .ref x)]) (st' := [.ref x]) rfl ?_
  refine z_get X fl_10_12 d_X10_ends_54 0 rfl (v := .ref told) rfl ?_
  refine z_run X bb_X10_ends_57_58 bk_X10_ends_57_58 (lv' := [(0, .ref x)]) (st' := [.ref x, .ref told]) rfl ?_
  refine z_get X fl_10_54 d_X10_ends_58 0 rfl (v := .ref span) rfl ?_
  refine z_getN X fl_10_232 d_X10_ends_61 2 rfl (v := .int n5_5) rfl ?_
  refine z_run X bb_X10_ends_64_65 bk_X10_ends_64_65 (lv' := [(0, .ref x)]) (st' := [.long n5_5.toInt64, .ref told]) rfl ?_
  refine z_callV X k_10_183 (c_X8_add2 l G told tn n5_5.toInt64 (vp_updL (vp_updL (fun _ => 0) 0 n1_1.toInt64) 1 n3_3.toInt64)) d_X10_ends_65 5 rfl rfl rfl ⟨Nat.le_of_ble_eq_true rfl, Nat.le_of_ble_eq_true rfl⟩ ⟨Nat.le_of_ble_eq_true rfl, Nat.le_of_ble_eq_true rfl⟩ rfl (rest := []) (As := [.long n5_5.toInt64]) rfl (Nat.le_of_ble_eq_true rfl) [5, 6] [0, 1, 2, 3, 4] rfl (by decide) (wr := [(x, ob 10 [.ref told, .ref reader, .ref ring, .ref speeds, .ref wheel, .ref trials, .ref span, .ref search, .ref kept, .ref crosses, .ref trueM, .ref thought, .ref up, .ref low, .ref fits, .null]), (trials, ob 9 [.int 0, .ref ts, .ref tw, .ref tf, .ref te, .ref tg, .ref tl, .ref tc, .ref tx, .ref ty]), (span, ob 1 [.int 14641, .int n1_1, .int n2_2, .int n3_3, .int n4_4, .int n5_5, .int n6_6, .ref fx, .ref fy]), (fx, aI G 40 g1_7), (fy, aI G 40 g2_8)]) rfl (by decide) (by decide) ?_
  rintro _ _ ⟨rfl, rfl⟩
  refine Z.at (pc' := 68) (st' := []) (ws' := [(x, ob 10 [.ref told, .ref reader, .ref ring, .ref speeds, .ref wheel, .ref trials, .ref span, .ref search, .ref kept, .ref crosses, .ref trueM, .ref thought, .ref up, .ref low, .ref fits, .null]), (trials, ob 9 [.int 0, .ref ts, .ref tw, .ref tf, .ref te, .ref tg, .ref tl, .ref tc, .ref tx, .ref ty]), (span, ob 1 [.int 14641, .int n1_1, .int n2_2, .int n3_3, .int n4_4, .int n5_5, .int n6_6, .ref fx, .ref fy]), (fx, aI G 40 g1_7), (fy, aI G 40 g2_8), (told, ob 8 [.ref tn, .int 3]), (tn, aJ G 16 (vp_updL (vp_updL (vp_updL (fun _ => 0) 0 n1_1.toInt64) 1 n3_3.toInt64) 2 n5_5.toInt64))]) (kc' := 0) (ks' := 0) rfl rfl rfl rfl rfl ?_
  refine z_run X bb_X10_ends_68_69 bk_X10_ends_68_69 (lv' := [(0, .ref x)]) (st' := [.ref x]) rfl ?_
  refine z_get X fl_10_12 d_X10_ends_69 0 rfl (v := .ref told) rfl ?_
  refine z_run X bb_X10_ends_72_73 bk_X10_ends_72_73 (lv' := [(0, .ref x)]) (st' := [.ref x, .ref told]) rfl ?_
  refine z_get X fl_10_54 d_X10_ends_73 0 rfl (v := .ref span) rfl ?_
  refine z_getN X fl_10_235 d_X10_ends_76 2 rfl (v := .int n6_6) rfl ?_
  refine z_run X bb_X10_ends_79_80 bk_X10_ends_79_80 (lv' := [(0, .ref x)]) (st' := [.long n6_6.toInt64, .ref told]) rfl ?_
  refine z_callV X k_10_183 (c_X8_add3 l G told tn n6_6.toInt64 (vp_updL (vp_updL (vp_updL (fun _ => 0) 0 n1_1.toInt64) 1 n3_3.toInt64) 2 n5_5.toInt64)) d_X10_ends_80 5 rfl rfl rfl ⟨Nat.le_of_ble_eq_true rfl, Nat.le_of_ble_eq_true rfl⟩ ⟨Nat.le_of_ble_eq_true rfl, Nat.le_of_ble_eq_true rfl⟩ rfl (rest := []) (As := [.long n6_6.toInt64]) rfl (Nat.le_of_ble_eq_true rfl) [5, 6] [0, 1, 2, 3, 4] rfl (by decide) (wr := [(x, ob 10 [.ref told, .ref reader, .ref ring, .ref speeds, .ref wheel, .ref trials, .ref span, .ref search, .ref kept, .ref crosses, .ref trueM, .ref thought, .ref up, .ref low, .ref fits, .null]), (trials, ob 9 [.int 0, .ref ts, .ref tw, .ref tf, .ref te, .ref tg, .ref tl, .ref tc, .ref tx, .ref ty]), (span, ob 1 [.int 14641, .int n1_1, .int n2_2, .int n3_3, .int n4_4, .int n5_5, .int n6_6, .ref fx, .ref fy]), (fx, aI G 40 g1_7), (fy, aI G 40 g2_8)]) rfl (by decide) (by decide) ?_
  rintro _ _ ⟨rfl, rfl⟩
  refine Z.at (pc' := 83) (st' := []) (ws' := [(x, ob 10 [.ref told, .ref reader, .ref ring, .ref speeds, .ref wheel, .ref trials, .ref span, .ref search, .ref kept, .ref crosses, .ref trueM, .ref thought, .ref up, .ref low, .ref fits, .null]), (trials, ob 9 [.int 0, .ref ts, .ref tw, .ref tf, .ref te, .ref tg, .ref tl, .ref tc, .ref tx, .ref ty]), (span, ob 1 [.int 14641, .int n1_1, .int n2_2, .int n3_3, .int n4_4, .int n5_5, .int n6_6, .ref fx, .ref fy]), (fx, aI G 40 g1_7), (fy, aI G 40 g2_8), (told, ob 8 [.ref tn, .int 4]), (tn, aJ G 16 (vp_updL (vp_updL (vp_updL (vp_updL (fun _ => 0) 0 n1_1.toInt64) 1 n3_3.toInt64) 2 n5_5.toInt64) 3 n6_6.toInt64))]) (kc' := 0) (ks' := 0) rfl rfl rfl rfl rfl ?_
  refine z_run X bb_X10_ends_83_84 bk_X10_ends_83_84 (lv' := [(0, .ref x)]) (st' := [.ref x]) rfl ?_
  refine z_get X fl_10_12 d_X10_ends_84 0 rfl (v := .ref told) rfl ?_
  refine z_run X bb_X10_ends_87_88 bk_X10_ends_87_88 (lv' := [(0, .ref x)]) (st' := [.ref x, .ref told]) rfl ?_
  refine z_get X fl_10_54 d_X10_ends_88 0 rfl (v := .ref span) rfl ?_
  refine z_callV X k_10_238 (c_X1_widest l G span fx fy n1_1 n2_2 n3_3 n4_4 n5_5 n6_6) d_X10_ends_91 2 rfl rfl rfl ⟨Nat.le_of_ble_eq_true rfl, Nat.le_of_ble_eq_true rfl⟩ ⟨Nat.le_of_ble_eq_true rfl, Nat.le_of_ble_eq_true rfl⟩ rfl (rest := [.ref told]) (As := []) rfl (Nat.le_of_ble_eq_true rfl) [2] [0, 1, 3, 4, 5, 6] rfl (by decide) (wr := [(x, ob 10 [.ref told, .ref reader, .ref ring, .ref speeds, .ref wheel, .ref trials, .ref span, .ref search, .ref kept, .ref crosses, .ref trueM, .ref thought, .ref up, .ref low, .ref fits, .null]), (trials, ob 9 [.int 0, .ref ts, .ref tw, .ref tf, .ref te, .ref tg, .ref tl, .ref tc, .ref tx, .ref ty]), (fx, aI G 40 g1_7), (fy, aI G 40 g2_8), (told, ob 8 [.ref tn, .int 4]), (tn, aJ G 16 (vp_updL (vp_updL (vp_updL (vp_updL (fun _ => 0) 0 n1_1.toInt64) 1 n3_3.toInt64) 2 n5_5.toInt64) 3 n6_6.toInt64))]) rfl (by decide) (by decide) ?_
  rintro _ _ ⟨rfl, rfl⟩
  refine Z.at (pc' := 94) (st' := [.long (-1), .ref told]) (ws' := [(x, ob 10 [.ref told, .ref reader, .ref ring, .ref speeds, .ref wheel, .ref trials, .ref span, .ref search, .ref kept, .ref crosses, .ref trueM, .ref thought, .ref up, .ref low, .ref fits, .null]), (trials, ob 9 [.int 0, .ref ts, .ref tw, .ref tf, .ref te, .ref tg, .ref tl, .ref tc, .ref tx, .ref ty]), (fx, aI G 40 g1_7), (fy, aI G 40 g2_8), (told, ob 8 [.ref tn, .int 4]), (tn, aJ G 16 (vp_updL (vp_updL (vp_updL (vp_updL (fun _ => 0) 0 n1_1.toInt64) 1 n3_3.toInt64) 2 n5_5.toInt64) 3 n6_6.toInt64)), (span, ob 1 [.int 14641, .int n1_1, .int n2_2, .int n3_3, .int n4_4, .int n5_5, .int n6_6, .ref fx, .ref fy])]) (kc' := 0) (ks' := 0) rfl rfl rfl rfl rfl ?_
  refine z_callV X k_10_183 (c_X8_add4 l G told tn (-1) (vp_updL (vp_updL (vp_updL (vp_updL (fun _ => 0) 0 n1_1.toInt64) 1 n3_3.toInt64) 2 n5_5.toInt64) 3 n6_6.toInt64)) d_X10_ends_94 4 rfl rfl rfl ⟨Nat.le_of_ble_eq_true rfl, Nat.le_of_ble_eq_true rfl⟩ ⟨Nat.le_of_ble_eq_true rfl, Nat.le_of_ble_eq_true rfl⟩ rfl (rest := []) (As := [.long (-1)]) rfl (Nat.le_of_ble_eq_true rfl) [4, 5] [0, 1, 2, 3, 6] rfl (by decide) (wr := [(x, ob 10 [.ref told, .ref reader, .ref ring, .ref speeds, .ref wheel, .ref trials, .ref span, .ref search, .ref kept, .ref crosses, .ref trueM, .ref thought, .ref up, .ref low, .ref fits, .null]), (trials, ob 9 [.int 0, .ref ts, .ref tw, .ref tf, .ref te, .ref tg, .ref tl, .ref tc, .ref tx, .ref ty]), (fx, aI G 40 g1_7), (fy, aI G 40 g2_8), (span, ob 1 [.int 14641, .int n1_1, .int n2_2, .int n3_3, .int n4_4, .int n5_5, .int n6_6, .ref fx, .ref fy])]) rfl (by decide) (by decide) ?_
  rintro _ _ ⟨rfl, rfl⟩
  refine Z.at (pc' := 97) (st' := []) (ws' := [(x, ob 10 [.ref told, .ref reader, .ref ring, .ref speeds, .ref wheel, .ref trials, .ref span, .ref search, .ref kept, .ref crosses, .ref trueM, .ref thought, .ref up, .ref low, .ref fits, .null]), (trials, ob 9 [.int 0, .ref ts, .ref tw, .ref tf, .ref te, .ref tg, .ref tl, .ref tc, .ref tx, .ref ty]), (fx, aI G 40 g1_7), (fy, aI G 40 g2_8), (span, ob 1 [.int 14641, .int n1_1, .int n2_2, .int n3_3, .int n4_4, .int n5_5, .int n6_6, .ref fx, .ref fy]), (told, ob 8 [.ref tn, .int 5]), (tn, aJ G 16 (vp_updL (vp_updL (vp_updL (vp_updL (vp_updL (fun _ => 0) 0 n1_1.toInt64) 1 n3_3.toInt64) 2 n5_5.toInt64) 3 n6_6.toInt64) 4 (-1)))]) (kc' := 0) (ks' := 0) rfl rfl rfl rfl rfl ?_
  refine z_run X bb_X10_ends_97_98 bk_X10_ends_97_98 (lv' := [(0, .ref x)]) (st' := [.ref x]) rfl ?_
  refine z_get X fl_10_54 d_X10_ends_98 0 rfl (v := .ref span) rfl ?_
  refine z_getN X fl_10_219 d_X10_ends_101 4 rfl (v := .int 14641) rfl ?_
  exact z_iret X rfl d_X10_ends_104 (Nat.le_of_ble_eq_true rfl) (Nat.le_of_ble_eq_true rfl) rfl

theorem d_X10_judge_3 : decode cX10_judge 3 = .ok (.invokestatic 159, 3) := by decide +kernel
theorem d_X10_judge_6 : decode cX10_judge 6 = .ok (.ifCond .eq 12, 3) := by decide +kernel
theorem d_X10_judge_19 : decode cX10_judge 19 = .ok (.ireturn, 1) := by decide +kernel
theorem d_X10_judge_12 : decode cX10_judge 12 = .ok (.invokestatic 159, 3) := by decide +kernel
theorem d_X10_judge_15 : decode cX10_judge 15 = .ok (.ifCond .ne 5, 3) := by decide +kernel
theorem d_X10_judge_21 : decode cX10_judge 21 = .ok (.invokevirtual 242, 3) := by decide +kernel
theorem d_X10_judge_25 : decode cX10_judge 25 = .ok (.getfield 47, 3) := by decide +kernel
theorem d_X10_judge_30 : decode cX10_judge 30 = .ok (.invokevirtual 246, 3) := by decide +kernel
theorem d_X10_judge_33 : decode cX10_judge 33 = .ok (.ireturn, 1) := by decide +kernel
abbrev bb_X10_judge_0_3 : ZB := [(.iload_n 1, .null), (.bipush 60, .int 60)]
theorem bk_X10_judge_0_3 : zchk cX10_judge bb_X10_judge_0_3 0 = true ∧ zpc bb_X10_judge_0_3 0 = 3 := ⟨by decide +kernel, rfl⟩
abbrev bb_X10_judge_18_19 : ZB := [(.iconst (-1), .int (-1))]
theorem bk_X10_judge_18_19 : zchk cX10_judge bb_X10_judge_18_19 18 = true ∧ zpc bb_X10_judge_18_19 18 = 19 := ⟨by decide +kernel, rfl⟩
abbrev bb_X10_judge_9_12 : ZB := [(.iload_n 2, .null), (.bipush 60, .int 60)]
theorem bk_X10_judge_9_12 : zchk cX10_judge bb_X10_judge_9_12 9 = true ∧ zpc bb_X10_judge_9_12 9 = 12 := ⟨by decide +kernel, rfl⟩
abbrev bb_X10_judge_20_21 : ZB := [(.aload_n 0, .null)]
theorem bk_X10_judge_20_21 : zchk cX10_judge bb_X10_judge_20_21 20 = true ∧ zpc bb_X10_judge_20_21 20 = 21 := ⟨by decide +kernel, rfl⟩
abbrev bb_X10_judge_24_25 : ZB := [(.aload_n 0, .null)]
theorem bk_X10_judge_24_25 : zchk cX10_judge bb_X10_judge_24_25 24 = true ∧ zpc bb_X10_judge_24_25 24 = 25 := ⟨by decide +kernel, rfl⟩
abbrev bb_X10_judge_28_30 : ZB := [(.iload_n 1, .null), (.iload_n 2, .null)]
theorem bk_X10_judge_28_30 : zchk cX10_judge bb_X10_judge_28_30 28 = true ∧ zpc bb_X10_judge_28_30 28 = 30 := ⟨by decide +kernel, rfl⟩
set_option maxHeartbeats 4000000 in
set_option maxRecDepth 100000 in
theorem c_X10_judge (l : Launch) (G : KG) (x : Nat) (told : Nat) (reader : Nat) (ring : Nat) (speeds : Nat) (wheel : Nat) (trials : Nat) (span : Nat) (search : Nat) (kept : Nat) (crosses : Nat) (trueM : Nat) (thought : Nat) (up : Nat) (low : Nat) (fits : Nat) (ts : Nat) (tw : Nat) (tf : Nat) (te : Nat) (tg : Nat) (tl : Nat) (tc : Nat) (tx : Nat) (ty : Nat) (px : Int32) (py : Int32) (pxi : Int) (pyi : Int) (hpx : px.toInt = pxi) (hpy : py.toInt = pyi) : Ct l G yX10_judge cX10_judge 3 (some .int) { frames := 1, cells := 0, slots := 0, locals := 23 } [.ref x, .int px, .int py] [(x, ob 10 [.ref told, .ref reader, .ref ring, .ref speeds, .ref wheel, .ref trials, .ref span, .ref search, .ref kept, .ref crosses, .ref trueM, .ref thought, .ref up, .ref low, .ref fits, .null]), (trials, ob 9 [.int 0, .ref ts, .ref tw, .ref tf, .ref te, .ref tg, .ref tl, .ref tc, .ref tx, .ref ty])] (fun r _ => r = some (.int (an_judge pxi pyi))) := by
  refine ct_of [(0, .ref x), (1, .int px), (2, .int py)] (by decide) (Nat.le_of_ble_eq_true rfl) rfl ?_
  intro p0 e0 s0 m0 args0 below0 meth0 c0 A X
  refine z_run X bb_X10_judge_0_3 bk_X10_judge_0_3 (lv' := [(0, .ref x), (1, .int px), (2, .int py)]) (st' := [.int 60, .int px]) rfl ?_
  refine z_callS X k_10_159 (c_X10_isWithin l G px 60 pxi 60 hpx (show (60 : Int32).toInt = 60 from by decide) (by omega)) d_X10_judge_3 ⟨Nat.le_of_ble_eq_true rfl, Nat.le_of_ble_eq_true rfl⟩ ⟨Nat.le_of_ble_eq_true rfl, Nat.le_of_ble_eq_true rfl⟩ rfl (rest := []) (As := [.int px, .int 60]) rfl (Nat.le_of_ble_eq_true rfl) [] [0, 1] rfl (by decide) (wr := [(x, ob 10 [.ref told, .ref reader, .ref ring, .ref speeds, .ref wheel, .ref trials, .ref span, .ref search, .ref kept, .ref crosses, .ref trueM, .ref thought, .ref up, .ref low, .ref fits, .null]), (trials, ob 9 [.int 0, .ref ts, .ref tw, .ref tf, .ref te, .ref tg, .ref tl, .ref tc, .ref tx, .ref ty])]) rfl (by decide) (by decide) ?_
  rintro _ _ ⟨rfl, rfl⟩
  refine Z.at (pc' := 6) (st' := [.int (zb (decide (-60 ≤ pxi ∧ pxi ≤ 60)))]) (ws' := [(x, ob 10 [.ref told, .ref reader, .ref ring, .ref speeds, .ref wheel, .ref trials, .ref span, .ref search, .ref kept, .ref crosses, .ref trueM, .ref thought, .ref up, .ref low, .ref fits, .null]), (trials, ob 9 [.int 0, .ref ts, .ref tw, .ref tf, .ref te, .ref tg, .ref tl, .ref tc, .ref tx, .ref ty])]) (kc' := 0) (ks' := 0) rfl rfl rfl rfl rfl ?_
  refine zi_eq_zb X d_X10_judge_6 (tgt := 18) (by decide) (fun c6_1 => ?_) (fun c6_1 => ?_)
  ·
    refine z_run X bb_X10_judge_18_19 bk_X10_judge_18_19 (lv' := [(0, .ref x), (1, .int px), (2, .int py)]) (st' := [.int (-1)]) rfl ?_
    exact z_iret X rfl d_X10_judge_19 (Nat.le_of_ble_eq_true rfl) (Nat.le_of_ble_eq_true rfl) (congrArg (fun z => some (Value.int z)) (by unfold an_judge; (repeat' split) <;> first | rfl | (exfalso; omega)))
  ·
    refine z_run X bb_X10_judge_9_12 bk_X10_judge_9_12 (lv' := [(0, .ref x), (1, .int px), (2, .int py)]) (st' := [.int 60, .int py]) rfl ?_
    refine z_callS X k_10_159 (c_X10_isWithin l G py 60 pyi 60 hpy (show (60 : Int32).toInt = 60 from by decide) (by omega)) d_X10_judge_12 ⟨Nat.le_of_ble_eq_true rfl, Nat.le_of_ble_eq_true rfl⟩ ⟨Nat.le_of_ble_eq_true rfl, Nat.le_of_ble_eq_true rfl⟩ rfl (rest := []) (As := [.int py, .int 60]) rfl (Nat.le_of_ble_eq_true rfl) [] [0, 1] rfl (by decide) (wr := [(x, ob 10 [.ref told, .ref reader, .ref ring, .ref speeds, .ref wheel, .ref trials, .ref span, .ref search, .ref kept, .ref crosses, .ref trueM, .ref thought, .ref up, .ref low, .ref fits, .null]), (trials, ob 9 [.int 0, .ref ts, .ref tw, .ref tf, .ref te, .ref tg, .ref tl, .ref tc, .ref tx, .ref ty])]) rfl (by decide) (by decide) ?_
    rintro _ _ ⟨rfl, rfl⟩
    refine Z.at (pc' := 15) (st' := [.int (zb (decide (-60 ≤ pyi ∧ pyi ≤ 60)))]) (ws' := [(x, ob 10 [.ref told, .ref reader, .ref ring, .ref speeds, .ref wheel, .ref trials, .ref span, .ref search, .ref kept, .ref crosses, .ref trueM, .ref thought, .ref up, .ref low, .ref fits, .null]), (trials, ob 9 [.int 0, .ref ts, .ref tw, .ref tf, .ref te, .ref tg, .ref tl, .ref tc, .ref tx, .ref ty])]) (kc' := 0) (ks' := 0) rfl rfl rfl rfl rfl ?_
    refine zi_ne_zb X d_X10_judge_15 (tgt := 20) (by decide) (fun c15_2 => ?_) (fun c15_2 => ?_)
    ·
      refine z_run X bb_X10_judge_20_21 bk_X10_judge_20_21 (lv' := [(0, .ref x), (1, .int px), (2, .int py)]) (st' := [.ref x]) rfl ?_
      refine z_callV X k_10_242 (c_X10_prepareTrials l G x told reader ring speeds wheel trials span search kept crosses trueM thought up low fits ts tw tf te tg tl tc tx ty) d_X10_judge_21 0 rfl rfl rfl ⟨Nat.le_of_ble_eq_true rfl, Nat.le_of_ble_eq_true rfl⟩ ⟨Nat.le_of_ble_eq_true rfl, Nat.le_of_ble_eq_true rfl⟩ rfl (rest := []) (As := []) rfl (Nat.le_of_ble_eq_true rfl) [0, 1] [] rfl (by decide) (wr := []) rfl (by decide) (by decide) ?_
      rintro _ _ ⟨rfl, rfl⟩
      refine Z.at (pc' := 24) (st' := []) (ws' := [(x, ob 10 [.ref told, .ref reader, .ref ring, .ref speeds, .ref wheel, .ref trials, .ref span, .ref search, .ref kept, .ref crosses, .ref trueM, .ref thought, .ref up, .ref low, .ref fits, .null]), (trials, ob 9 [.int 0, .ref ts, .ref tw, .ref tf, .ref te, .ref tg, .ref tl, .ref tc, .ref tx, .ref ty])]) (kc' := 0) (ks' := 0) rfl rfl rfl rfl rfl ?_
      refine z_run X bb_X10_judge_24_25 bk_X10_judge_24_25 (lv' := [(0, .ref x), (1, .int px), (2, .int py)]) (st' := [.ref x]) rfl ?_
      refine z_get X fl_10_47 d_X10_judge_25 0 rfl (v := .ref trials) rfl ?_
      refine z_run X bb_X10_judge_28_30 bk_X10_judge_28_30 (lv' := [(0, .ref x), (1, .int px), (2, .int py)]) (st' := [.int py, .int px, .ref trials]) rfl ?_
      refine z_callV X k_10_246 (c_X9_firstAgainst l G trials ts tw tf te tg tl tc tx ty px py) d_X10_judge_30 1 rfl rfl rfl ⟨Nat.le_of_ble_eq_true rfl, Nat.le_of_ble_eq_true rfl⟩ ⟨Nat.le_of_ble_eq_true rfl, Nat.le_of_ble_eq_true rfl⟩ rfl (rest := []) (As := [.int px, .int py]) rfl (Nat.le_of_ble_eq_true rfl) [1] [0] rfl (by decide) (wr := [(x, ob 10 [.ref told, .ref reader, .ref ring, .ref speeds, .ref wheel, .ref trials, .ref span, .ref search, .ref kept, .ref crosses, .ref trueM, .ref thought, .ref up, .ref low, .ref fits, .null])]) rfl (by decide) (by decide) ?_
      rintro _ _ ⟨rfl, rfl⟩
      refine Z.at (pc' := 33) (st' := [.int (-2)]) (ws' := [(x, ob 10 [.ref told, .ref reader, .ref ring, .ref speeds, .ref wheel, .ref trials, .ref span, .ref search, .ref kept, .ref crosses, .ref trueM, .ref thought, .ref up, .ref low, .ref fits, .null]), (trials, ob 9 [.int 0, .ref ts, .ref tw, .ref tf, .ref te, .ref tg, .ref tl, .ref tc, .ref tx, .ref ty])]) (kc' := 0) (ks' := 0) rfl rfl rfl rfl rfl ?_
      exact z_iret X rfl d_X10_judge_33 (Nat.le_of_ble_eq_true rfl) (Nat.le_of_ble_eq_true rfl) (congrArg (fun z => some (Value.int z)) (by unfold an_judge; (repeat' split) <;> first | rfl | (exfalso; omega)))
    ·
      refine z_run X bb_X10_judge_18_19 bk_X10_judge_18_19 (lv' := [(0, .ref x), (1, .int px), (2, .int py)]) (st' := [.int (-1)]) rfl ?_
      exact z_iret X rfl d_X10_judge_19 (Nat.le_of_ble_eq_true rfl) (Nat.le_of_ble_eq_true rfl) (congrArg (fun z => some (Value.int z)) (by unfold an_judge; (repeat' split) <;> first | rfl | (exfalso; omega)))
