theorem d_X10_row_1 : decode cX10_row 1 = .ok (.ifCond .lt 14, 3) := by decide +kernel
theorem d_X10_row_15 : decode cX10_row 15 = .ok (.new 109, 3) := by decide +kernel
theorem d_X10_row_18 : decode cX10_row 18 = .ok (.dup, 1) := by decide +kernel
theorem d_X10_row_19 : decode cX10_row 19 = .ok (.ldc_w 496, 3) := by decide +kernel
theorem d_X10_row_22 : decode cX10_row 22 = .ok (.invokespecial 113, 3) := by decide +kernel
theorem d_X10_row_25 : decode cX10_row 25 = .ok (.athrow, 1) := by decide +kernel
theorem d_X10_row_6 : decode cX10_row 6 = .ok (.getfield 12, 3) := by decide +kernel
theorem d_X10_row_9 : decode cX10_row 9 = .ok (.getfield 492, 3) := by decide +kernel
theorem d_X10_row_12 : decode cX10_row 12 = .ok (.if_icmp .lt 14, 3) := by decide +kernel
abbrev bb_X10_row_0_1 : ZB := [(.iload_n 1, .null)]
theorem bk_X10_row_0_1 : zchk cX10_row bb_X10_row_0_1 0 = true ∧ zpc bb_X10_row_0_1 0 = 1 := ⟨by decide +kernel, rfl⟩
abbrev bb_X10_row_4_6 : ZB := [(.iload_n 1, .null), (.aload_n 0, .null)]
theorem bk_X10_row_4_6 : zchk cX10_row bb_X10_row_4_6 4 = true ∧ zpc bb_X10_row_4_6 4 = 6 := ⟨by decide +kernel, rfl⟩
set_option maxHeartbeats 4000000 in
set_option maxRecDepth 100000 in
theorem cx_row (l : Launch) (hst : l.stackTraces = false) (G : KG) (x : Nat) (told : Nat) (reader : Nat) (ring : Nat) (speeds : Nat) (wheel : Nat) (trials : Nat) (span : Nat) (search : Nat) (kept : Nat) (crosses : Nat) (trueM : Nat) (thought : Nat) (up : Nat) (low : Nat) (fits : Nat) (tn : Nat) (i : Int32) (ii : Int) (hi : i.toInt = ii) : CtT l G yX10_row cX10_row 2 (some .long) { frames := 6, cells := 1, slots := 6, locals := 82 } [.ref x, .int i] [(x, ob 10 [.ref told, .ref reader, .ref ring, .ref speeds, .ref wheel, .ref trials, .ref span, .ref search, .ref kept, .ref crosses, .ref trueM, .ref thought, .ref up, .ref low, .ref fits, .null]), (told, ob 8 [.ref tn, .int 0])] QfL := by
  refine ctT_of [(0, .ref x), (1, .int i)] (by decide) (Nat.le_of_ble_eq_true rfl) rfl ?_
  intro p0 e0 s0 m0 args0 below0 meth0 c0 A X hE hno
  refine z_run X bb_X10_row_0_1 bk_X10_row_0_1 (lv' := [(0, .ref x), (1, .int i)]) (st' := [.int i]) rfl ?_
  refine zi_lt X d_X10_row_1 (tgt := 15) (by decide) (a := ii) hi (fun c1_1 => ?_) (fun c1_1 => ?_)
  ·
    exact z_throwW X hE hst hno hE.2.2.2.2.2 d_X10_row_15 d_X10_row_18 d_X10_row_19 d_X10_row_22 d_X10_row_25 ⟨by decide, by decide, by decide, by decide⟩ ⟨by decide, by decide⟩
  ·
    refine z_run X bb_X10_row_4_6 bk_X10_row_4_6 (lv' := [(0, .ref x), (1, .int i)]) (st' := [.ref x, .int i]) rfl ?_
    refine z_get X fl_10_12 d_X10_row_6 0 rfl (v := .ref told) rfl ?_
    refine z_getN X fl_10_492 d_X10_row_9 1 rfl (v := .int 0) rfl ?_
    refine zc_lt X d_X10_row_12 (tgt := 26) (by decide) (a := ii) (b := 0) hi (show (0 : Int32).toInt = 0 from by decide) (fun c12_2 => ?_) (fun c12_2 => ?_)
    ·
      exfalso; omega
    ·
      exact z_throwW X hE hst hno hE.2.2.2.2.2 d_X10_row_15 d_X10_row_18 d_X10_row_19 d_X10_row_22 d_X10_row_25 ⟨by decide, by decide, by decide, by decide⟩ ⟨by decide, by decide⟩

theorem d_X10_hole_1 : decode cX10_hole 1 = .ok (.getfield 26, 3) := by decide +kernel
theorem d_X10_hole_5 : decode cX10_hole 5 = .ok (.invokevirtual 106, 3) := by decide +kernel
theorem d_X10_hole_8 : decode cX10_hole 8 = .ok (.ifCond .ne 13, 3) := by decide +kernel
theorem d_X10_hole_11 : decode cX10_hole 11 = .ok (.new 109, 3) := by decide +kernel
theorem d_X10_hole_14 : decode cX10_hole 14 = .ok (.dup, 1) := by decide +kernel
theorem d_X10_hole_15 : decode cX10_hole 15 = .ok (.ldc 111, 2) := by decide +kernel
theorem d_X10_hole_17 : decode cX10_hole 17 = .ok (.invokespecial 113, 3) := by decide +kernel
theorem d_X10_hole_20 : decode cX10_hole 20 = .ok (.athrow, 1) := by decide +kernel
abbrev bb_X10_hole_0_1 : ZB := [(.aload_n 0, .null)]
theorem bk_X10_hole_0_1 : zchk cX10_hole bb_X10_hole_0_1 0 = true ∧ zpc bb_X10_hole_0_1 0 = 1 := ⟨by decide +kernel, rfl⟩
abbrev bb_X10_hole_4_5 : ZB := [(.iload_n 1, .null)]
theorem bk_X10_hole_4_5 : zchk cX10_hole bb_X10_hole_4_5 4 = true ∧ zpc bb_X10_hole_4_5 4 = 5 := ⟨by decide +kernel, rfl⟩
set_option maxHeartbeats 4000000 in
set_option maxRecDepth 100000 in
theorem cx_hole (l : Launch) (hst : l.stackTraces = false) (G : KG) (x : Nat) (told : Nat) (reader : Nat) (ring : Nat) (speeds : Nat) (wheel : Nat) (trials : Nat) (span : Nat) (search : Nat) (kept : Nat) (crosses : Nat) (trueM : Nat) (thought : Nat) (up : Nat) (low : Nat) (fits : Nat) (rp : Nat) (rx : Nat) (ry : Nat) (rr : Nat) (rh : Nat) (rd : Nat) (i : Int32) (k : Int32) (ii : Int) (hi : i.toInt = ii) : CtT l G yX10_hole cX10_hole 3 (some .int) { frames := 6, cells := 1, slots := 6, locals := 82 } [.ref x, .int i, .int k] [(x, ob 10 [.ref told, .ref reader, .ref ring, .ref speeds, .ref wheel, .ref trials, .ref span, .ref search, .ref kept, .ref crosses, .ref trueM, .ref thought, .ref up, .ref low, .ref fits, .null]), (ring, ob 5 [.int 0, .ref rp, .ref rx, .ref ry, .ref rr, .ref rh, .ref rd, .int (-1), .int 0])] QfI := by
  refine ctT_of [(0, .ref x), (1, .int i), (2, .int k)] (by decide) (Nat.le_of_ble_eq_true rfl) rfl ?_
  intro p0 e0 s0 m0 args0 below0 meth0 c0 A X hE hno
  refine z_run X bb_X10_hole_0_1 bk_X10_hole_0_1 (lv' := [(0, .ref x), (1, .int i), (2, .int k)]) (st' := [.ref x]) rfl ?_
  refine z_get X fl_10_26 d_X10_hole_1 0 rfl (v := .ref ring) rfl ?_
  refine z_run X bb_X10_hole_4_5 bk_X10_hole_4_5 (lv' := [(0, .ref x), (1, .int i), (2, .int k)]) (st' := [.int i, .ref ring]) rfl ?_
  refine z_callV X k_10_106 (c_X5_isHole l G ring rp rx ry rr rh rd i ii hi) d_X10_hole_5 1 rfl rfl rfl ⟨Nat.le_of_ble_eq_true rfl, Nat.le_of_ble_eq_true rfl⟩ ⟨Nat.le_of_ble_eq_true rfl, Nat.le_of_ble_eq_true rfl⟩ rfl (rest := []) (As := [.int i]) rfl (Nat.le_of_ble_eq_true rfl) [1] [0] rfl (by decide) (wr := [(x, ob 10 [.ref told, .ref reader, .ref ring, .ref speeds, .ref wheel, .ref trials, .ref span, .ref search, .ref kept, .ref crosses, .ref trueM, .ref thought, .ref up, .ref low, .ref fits, .null])]) rfl (by decide) (by decide) ?_
  rintro _ _ ⟨rfl, rfl⟩
  refine Z.at (pc' := 8) (st' := [.int 0]) (ws' := [(x, ob 10 [.ref told, .ref reader, .ref ring, .ref speeds, .ref wheel, .ref trials, .ref span, .ref search, .ref kept, .ref crosses, .ref trueM, .ref thought, .ref up, .ref low, .ref fits, .null]), (ring, ob 5 [.int 0, .ref rp, .ref rx, .ref ry, .ref rr, .ref rh, .ref rd, .int (-1), .int 0])]) (kc' := 0) (ks' := 0) rfl rfl rfl rfl rfl ?_
  refine zi_ne X d_X10_hole_8 (tgt := 21) (by decide) (a := 0) (show (0 : Int32).toInt = 0 from by decide) (fun c8_1 => absurd c8_1 (by decide)) (fun _ => ?_)
  exact z_throw X hE hst hno hE.2.2.2.2.1 d_X10_hole_11 d_X10_hole_14 d_X10_hole_15 d_X10_hole_17 d_X10_hole_20 ⟨by decide, by decide, by decide, by decide⟩ ⟨by decide, by decide⟩
