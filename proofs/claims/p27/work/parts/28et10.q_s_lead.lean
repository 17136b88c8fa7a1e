section
/-! lead, pound: exactly -/
def mLead (h : Int) (rm hs : Nat → Int32) (a v : Int32) : Int32 × (Nat → Int32) := if 0 ≤ a.toInt ∧ a.toInt < h ∧ 0 ≤ v.toInt ∧ v.toInt ≤ (rm a.toNatClampNeg).toInt then (hs a.toNatClampNeg, upd hs a.toNatClampNeg v) else (-1, hs)
def mPound (h : Int) (ph po a v : Int32) : Int32 × Int32 × Int32 := if a.toInt = -1 then (1, -1, 0) else if 0 ≤ a.toInt ∧ a.toInt < h ∧ 1 ≤ v.toInt ∧ v.toInt ≤ 20 then (1, a, v) else (0, ph, po)
theorem dl_X5_isHole_1 : decode cX5_isHole 1 = .ok (.ifCond .lt 15, 3) := by decide +kernel
theorem dl_X5_isHole_17 : decode cX5_isHole 17 = .ok (.ireturn, 1) := by decide +kernel
theorem dl_X5_isHole_6 : decode cX5_isHole 6 = .ok (.getfield 34, 3) := by decide +kernel
theorem dl_X5_isHole_9 : decode cX5_isHole 9 = .ok (.if_icmp .ge 7, 3) := by decide +kernel
theorem dl_X5_isHole_13 : decode cX5_isHole 13 = .ok (.goto 4, 3) := by decide +kernel
abbrev bl_X5_isHole_0_1 : ZB := [(.iload_n 1, .null)]
theorem kl_X5_isHole_0_1 : zchk cX5_isHole bl_X5_isHole_0_1 0 = true ∧ zpc bl_X5_isHole_0_1 0 = 1 := ⟨by decide +kernel, rfl⟩
abbrev bl_X5_isHole_16_17 : ZB := [(.iconst 0, .int 0)]
theorem kl_X5_isHole_16_17 : zchk cX5_isHole bl_X5_isHole_16_17 16 = true ∧ zpc bl_X5_isHole_16_17 16 = 17 := ⟨by decide +kernel, rfl⟩
abbrev bl_X5_isHole_4_6 : ZB := [(.iload_n 1, .null), (.aload_n 0, .null)]
theorem kl_X5_isHole_4_6 : zchk cX5_isHole bl_X5_isHole_4_6 4 = true ∧ zpc bl_X5_isHole_4_6 4 = 6 := ⟨by decide +kernel, rfl⟩
abbrev bl_X5_isHole_12_13 : ZB := [(.iconst 1, .int 1)]
theorem kl_X5_isHole_12_13 : zchk cX5_isHole bl_X5_isHole_12_13 12 = true ∧ zpc bl_X5_isHole_12_13 12 = 13 := ⟨by decide +kernel, rfl⟩
set_option maxHeartbeats 4000000 in
set_option maxRecDepth 100000 in
theorem cl_X5_isHole (l : Launch) (G : KG) (ring : Nat) (hc : Int32) (g_rp : Value) (g_rx : Value) (g_ry : Value) (g_rr : Value) (g_rh : Value) (g_rd : Value) (g_ph : Value) (g_po : Value) (a : Int32) (hci : Int) (ai : Int) (hhc : hc.toInt = hci) (ha : a.toInt = ai) : Ct l G yX5_isHole cX5_isHole 2 (some .boolean) { frames := 0, cells := 0, slots := 0, locals := 0 } [.ref ring, .int a] [(ring, ob 5 [.int hc, g_rp, g_rx, g_ry, g_rr, g_rh, g_rd, g_ph, g_po])] (fun r w1 => r = some (.int (zb (decide (0 ≤ ai ∧ ai < hci)))) ∧ w1 = [(ring, ob 5 [.int hc, g_rp, g_rx, g_ry, g_rr, g_rh, g_rd, g_ph, g_po])]) := by
  refine ct_of [(0, .ref ring), (1, .int a)] (by decide) (Nat.le_of_ble_eq_true rfl) rfl ?_
  intro p0 e0 s0 m0 args0 below0 meth0 c0 A X
  refine z_run X bl_X5_isHole_0_1 kl_X5_isHole_0_1 (lv' := [(0, .ref ring), (1, .int a)]) (st' := [.int a]) rfl ?_
  refine zi_lt X dl_X5_isHole_1 (tgt := 16) (by decide) (a := ai) ha (fun c1_1 => ?_) (fun c1_1 => ?_)
  ·
    refine z_run X bl_X5_isHole_16_17 kl_X5_isHole_16_17 (lv' := [(0, .ref ring), (1, .int a)]) (st' := [.int 0]) rfl ?_
    exact z_zret X rfl rfl dl_X5_isHole_17 (Nat.le_of_ble_eq_true rfl) (Nat.le_of_ble_eq_true rfl) ⟨(congrArg (fun z => some (Value.int z)) (zb_f (by omega)).symm), rfl⟩
  ·
    refine z_run X bl_X5_isHole_4_6 kl_X5_isHole_4_6 (lv' := [(0, .ref ring), (1, .int a)]) (st' := [.ref ring, .int a]) rfl ?_
    refine z_get X fl_5_34 dl_X5_isHole_6 0 rfl (v := .int hc) rfl ?_
    refine zc_ge X dl_X5_isHole_9 (tgt := 16) (by decide) (a := ai) (b := hci) ha hhc (fun c9_2 => ?_) (fun c9_2 => ?_)
    ·
      refine z_run X bl_X5_isHole_16_17 kl_X5_isHole_16_17 (lv' := [(0, .ref ring), (1, .int a)]) (st' := [.int 0]) rfl ?_
      exact z_zret X rfl rfl dl_X5_isHole_17 (Nat.le_of_ble_eq_true rfl) (Nat.le_of_ble_eq_true rfl) ⟨(congrArg (fun z => some (Value.int z)) (zb_f (by omega)).symm), rfl⟩
    ·
      refine z_run X bl_X5_isHole_12_13 kl_X5_isHole_12_13 (lv' := [(0, .ref ring), (1, .int a)]) (st' := [.int 1]) rfl ?_
      refine z_goto X dl_X5_isHole_13 (tgt := 17) (by decide) ?_
      exact z_zret X rfl rfl dl_X5_isHole_17 (Nat.le_of_ble_eq_true rfl) (Nat.le_of_ble_eq_true rfl) ⟨(congrArg (fun z => some (Value.int z)) (zb_t (by omega)).symm), rfl⟩

theorem dl_X11_isHole_4 : decode cX11_isHole 4 = .ok (.getfield 63, 3) := by decide +kernel
theorem dl_X11_isHole_10 : decode cX11_isHole 10 = .ok (.invokestatic 29, 3) := by decide +kernel
theorem dl_X11_isHole_13 : decode cX11_isHole 13 = .ok (.ireturn, 1) := by decide +kernel
abbrev bl_X11_isHole_0_4 : ZB := [(.iload_n 1, .null), (.i2l, .null), (.lconst 0, .long 0), (.aload_n 0, .null)]
theorem kl_X11_isHole_0_4 : zchk cX11_isHole bl_X11_isHole_0_4 0 = true ∧ zpc bl_X11_isHole_0_4 0 = 4 := ⟨by decide +kernel, rfl⟩
abbrev bl_X11_isHole_7_10 : ZB := [(.iconst 1, .int 1), (.isub, .null), (.i2l, .null)]
theorem kl_X11_isHole_7_10 : zchk cX11_isHole bl_X11_isHole_7_10 7 = true ∧ zpc bl_X11_isHole_7_10 7 = 10 := ⟨by decide +kernel, rfl⟩
set_option maxHeartbeats 4000000 in
set_option maxRecDepth 100000 in
theorem cl_X11_isHole (l : Launch) (G : KG) (mo : Nat) (th : Int32) (g_rows : Value) (g_row : Value) (hc : Int32) (r_planeOf : Nat) (r_holeX : Nat) (r_holeY : Nat) (r_room : Nat) (r_ounces : Nat) (r_deepOf : Nat) (sc : Int32) (r_factor : Nat) (r_otherOf : Nat) (r_isApart : Nat) (g_apartX : Value) (g_apartY : Value) (cc : Int32) (r_weight : Nat) (r_tape : Nat) (n : Int32) (p : Int32) (lim : Int32) (fi : Int32) (g_crossOf : Value) (g_trueX : Value) (g_trueY : Value) (g_thoughtX : Value) (g_thoughtY : Value) (g_poundHole : Value) (g_poundOunces : Value) (g_lead : Value) (g_trials : Value) (g_trialSpeed : Value) (g_isWhole : Value) (g_trialX : Value) (g_trialY : Value) (g_trialGive : Value) (g_trialLead : Value) (g_baseX : Value) (g_baseY : Value) (g_timesPull : Value) (g_trialBaseX : Value) (g_trialBaseY : Value) (g_trialTimes : Value) (g_pulls : Value) (g_pullMany : Value) (g_sizes : Value) (g_merged : Value) (g_nextHole : Value) (g_nextOunces : Value) (g_leftBehind : Value) (g_manUp : Value) (g_manLow : Value) (g_asked : Value) (g_lowOf : Value) (g_highOf : Value) (g_tried : Value) (g_found : Value) (g_askedMany : Value) (g_mostHoles : Value) (g_isFound : Value) (g_foundRest : Value) (g_foundOunces : Value) (g_question : Value) (g_questionSpeed : Value) (g_ounceRest : Value) (g_parts : Value) (g_filled : Value) (g_cogAt : Value) (g_cogBest : Value) (g_isOrdered : Value) (g_orderSize : Value) (g_isKept : Value) (g_kept : Value) (g_keptAt : Value) (a : Int32) (hci : Int) (ai : Int) (hhc : hc.toInt = hci) (ha : a.toInt = ai) (hc0 : 0 ≤ hci ∧ hci ≤ 16) : Ct l G yX11_isHole cX11_isHole 2 (some .boolean) { frames := 1, cells := 0, slots := 0, locals := 25 } [.ref mo, .int a] [(mo, ob 11 [.int th, g_rows, g_row, .int hc, .ref r_planeOf, .ref r_holeX, .ref r_holeY, .ref r_room, .ref r_ounces, .ref r_deepOf, .int sc, .ref r_factor, .ref r_otherOf, .ref r_isApart, g_apartX, g_apartY, .int cc, .ref r_weight, .ref r_tape, .int n, .int p, .int lim, .int fi, g_crossOf, g_trueX, g_trueY, g_thoughtX, g_thoughtY, g_poundHole, g_poundOunces, g_lead, g_trials, g_trialSpeed, g_isWhole, g_trialX, g_trialY, g_trialGive, g_trialLead, g_baseX, g_baseY, g_timesPull, g_trialBaseX, g_trialBaseY, g_trialTimes, g_pulls, g_pullMany, g_sizes, g_merged, g_nextHole, g_nextOunces, g_leftBehind, g_manUp, g_manLow, g_asked, g_lowOf, g_highOf, g_tried, g_found, g_askedMany, g_mostHoles, g_isFound, g_foundRest, g_foundOunces, g_question, g_questionSpeed, g_ounceRest, g_parts, g_filled, g_cogAt, g_cogBest, g_isOrdered, g_orderSize, g_isKept, g_kept, g_keptAt])] (fun r w1 => r = some (.int (zb (decide (0 ≤ ai ∧ ai < hci)))) ∧ w1 = [(mo, ob 11 [.int th, g_rows, g_row, .int hc, .ref r_planeOf, .ref r_holeX, .ref r_holeY, .ref r_room, .ref r_ounces, .ref r_deepOf, .int sc, .ref r_factor, .ref r_otherOf, .ref r_isApart, g_apartX, g_apartY, .int cc, .ref r_weight, .ref r_tape, .int n, .int p, .int lim, .int fi, g_crossOf, g_trueX, g_trueY, g_thoughtX, g_thoughtY, g_poundHole, g_poundOunces, g_lead, g_trials, g_trialSpeed, g_isWhole, g_trialX, g_trialY, g_trialGive, g_trialLead, g_baseX, g_baseY, g_timesPull, g_trialBaseX, g_trialBaseY, g_trialTimes, g_pulls, g_pullMany, g_sizes, g_merged, g_nextHole, g_nextOunces, g_leftBehind, g_manUp, g_manLow, g_asked, g_lowOf, g_highOf, g_tried, g_found, g_askedMany, g_mostHoles, g_isFound, g_foundRest, g_foundOunces, g_question, g_questionSpeed, g_ounceRest, g_parts, g_filled, g_cogAt, g_cogBest, g_isOrdered, g_orderSize, g_isKept, g_kept, g_keptAt])]) := by
  refine ct_of [(0, .ref mo), (1, .int a)] (by decide) (Nat.le_of_ble_eq_true rfl) rfl ?_
  intro p0 e0 s0 m0 args0 below0 meth0 c0 A X
  refine z_run X bl_X11_isHole_0_4 kl_X11_isHole_0_4 (lv' := [(0, .ref mo), (1, .int a)]) (st' := [.ref mo, .long 0, .long a.toInt64]) rfl ?_
  refine z_get X fl_11_63 dl_X11_isHole_4 0 rfl (v := .int hc) rfl ?_
  refine z_run X bl_X11_isHole_7_10 kl_X11_isHole_7_10 (lv' := [(0, .ref mo), (1, .int a)]) (st' := [.long (hc - 1).toInt64, .long 0, .long a.toInt64]) rfl ?_
  refine z_callS X k_11_29 (cm_X11_in l G a.toInt64 0 (hc - 1).toInt64 ai 0 ((hci - 1)) (tI64 ha) (show (0 : Int64).toInt = 0 from by decide) (tI64 (tI_sub hhc (show (1 : Int32).toInt = 1 from by decide) (by omega)))) dl_X11_isHole_10 ⟨Nat.le_of_ble_eq_true rfl, Nat.le_of_ble_eq_true rfl⟩ ⟨Nat.le_of_ble_eq_true rfl, Nat.le_of_ble_eq_true rfl⟩ rfl (rest := []) (As := [.long a.toInt64, .long 0, .long (hc - 1).toInt64]) rfl (Nat.le_of_ble_eq_true rfl) [] [0] rfl (by decide) (wr := [(mo, ob 11 [.int th, g_rows, g_row, .int hc, .ref r_planeOf, .ref r_holeX, .ref r_holeY, .ref r_room, .ref r_ounces, .ref r_deepOf, .int sc, .ref r_factor, .ref r_otherOf, .ref r_isApart, g_apartX, g_apartY, .int cc, .ref r_weight, .ref r_tape, .int n, .int p, .int lim, .int fi, g_crossOf, g_trueX, g_trueY, g_thoughtX, g_thoughtY, g_poundHole, g_poundOunces, g_lead, g_trials, g_trialSpeed, g_isWhole, g_trialX, g_trialY, g_trialGive, g_trialLead, g_baseX, g_baseY, g_timesPull, g_trialBaseX, g_trialBaseY, g_trialTimes, g_pulls, g_pullMany, g_sizes, g_merged, g_nextHole, g_nextOunces, g_leftBehind, g_manUp, g_manLow, g_asked, g_lowOf, g_highOf, g_tried, g_found, g_askedMany, g_mostHoles, g_isFound, g_foundRest, g_foundOunces, g_question, g_questionSpeed, g_ounceRest, g_parts, g_filled, g_cogAt, g_cogBest, g_isOrdered, g_orderSize, g_isKept, g_kept, g_keptAt])]) rfl (by decide) (by decide) ?_
  rintro _ _ ⟨rfl, rfl⟩
  refine Z.at (pc' := 13) (st' := [.int (zb (decide (0 ≤ ai ∧ ai ≤ ((hci - 1)))))]) (ws' := [(mo, ob 11 [.int th, g_rows, g_row, .int hc, .ref r_planeOf, .ref r_holeX, .ref r_holeY, .ref r_room, .ref r_ounces, .ref r_deepOf, .int sc, .ref r_factor, .ref r_otherOf, .ref r_isApart, g_apartX, g_apartY, .int cc, .ref r_weight, .ref r_tape, .int n, .int p, .int lim, .int fi, g_crossOf, g_trueX, g_trueY, g_thoughtX, g_thoughtY, g_poundHole, g_poundOunces, g_lead, g_trials, g_trialSpeed, g_isWhole, g_trialX, g_trialY, g_trialGive, g_trialLead, g_baseX, g_baseY, g_timesPull, g_trialBaseX, g_trialBaseY, g_trialTimes, g_pulls, g_pullMany, g_sizes, g_merged, g_nextHole, g_nextOunces, g_leftBehind, g_manUp, g_manLow, g_asked, g_lowOf, g_highOf, g_tried, g_found, g_askedMany, g_mostHoles, g_isFound, g_foundRest, g_foundOunces, g_question, g_questionSpeed, g_ounceRest, g_parts, g_filled, g_cogAt, g_cogBest, g_isOrdered, g_orderSize, g_isKept, g_kept, g_keptAt])]) (kc' := 0) (ks' := 0) rfl rfl rfl rfl rfl ?_
  exact z_zret X rfl (zb_n _) dl_X11_isHole_13 (Nat.le_of_ble_eq_true rfl) (Nat.le_of_ble_eq_true rfl) ⟨(congrArg (fun z => some (Value.int z)) (zb_i (by omega))), rfl⟩

theorem dl_X10_isWithin_3 : decode cX10_isWithin 3 = .ok (.if_icmp .lt 12, 3) := by decide +kernel
theorem dl_X10_isWithin_16 : decode cX10_isWithin 16 = .ok (.ireturn, 1) := by decide +kernel
theorem dl_X10_isWithin_8 : decode cX10_isWithin 8 = .ok (.if_icmp .gt 7, 3) := by decide +kernel
theorem dl_X10_isWithin_12 : decode cX10_isWithin 12 = .ok (.goto 4, 3) := by decide +kernel
abbrev bl_X10_isWithin_0_3 : ZB := [(.iload_n 0, .null), (.iload_n 1, .null), (.ineg, .null)]
theorem kl_X10_isWithin_0_3 : zchk cX10_isWithin bl_X10_isWithin_0_3 0 = true ∧ zpc bl_X10_isWithin_0_3 0 = 3 := ⟨by decide +kernel, rfl⟩
abbrev bl_X10_isWithin_15_16 : ZB := [(.iconst 0, .int 0)]
theorem kl_X10_isWithin_15_16 : zchk cX10_isWithin bl_X10_isWithin_15_16 15 = true ∧ zpc bl_X10_isWithin_15_16 15 = 16 := ⟨by decide +kernel, rfl⟩
abbrev bl_X10_isWithin_6_8 : ZB := [(.iload_n 0, .null), (.iload_n 1, .null)]
theorem kl_X10_isWithin_6_8 : zchk cX10_isWithin bl_X10_isWithin_6_8 6 = true ∧ zpc bl_X10_isWithin_6_8 6 = 8 := ⟨by decide +kernel, rfl⟩
abbrev bl_X10_isWithin_11_12 : ZB := [(.iconst 1, .int 1)]
theorem kl_X10_isWithin_11_12 : zchk cX10_isWithin bl_X10_isWithin_11_12 11 = true ∧ zpc bl_X10_isWithin_11_12 11 = 12 := ⟨by decide +kernel, rfl⟩
set_option maxHeartbeats 4000000 in
set_option maxRecDepth 100000 in
theorem cl_X10_isWithin (l : Launch) (G : KG) (a : Int32) (b : Int32) (ai : Int) (bi : Int) (ha : a.toInt = ai) (hb : b.toInt = bi) (hb0 : 0 ≤ bi ∧ bi ≤ 1000000) : Ct l G yX10_isWithin cX10_isWithin 2 (some .boolean) { frames := 0, cells := 0, slots := 0, locals := 0 } [.int a, .int b] [] (fun r w1 => r = some (.int (zb (decide (-bi ≤ ai ∧ ai ≤ bi)))) ∧ w1 = []) := by
  refine ct_of [(0, .int a), (1, .int b)] (by decide) (Nat.le_of_ble_eq_true rfl) rfl ?_
  intro p0 e0 s0 m0 args0 below0 meth0 c0 A X
  refine z_run X bl_X10_isWithin_0_3 kl_X10_isWithin_0_3 (lv' := [(0, .int a), (1, .int b)]) (st' := [.int (-b), .int a]) rfl ?_
  refine zc_lt X dl_X10_isWithin_3 (tgt := 15) (by decide) (a := ai) (b := (-bi)) ha (tI_neg hb (by omega)) (fun c3_1 => ?_) (fun c3_1 => ?_)
  ·
    refine z_run X bl_X10_isWithin_15_16 kl_X10_isWithin_15_16 (lv' := [(0, .int a), (1, .int b)]) (st' := [.int 0]) rfl ?_
    exact z_zret X rfl rfl dl_X10_isWithin_16 (Nat.le_of_ble_eq_true rfl) (Nat.le_of_ble_eq_true rfl) ⟨(congrArg (fun z => some (Value.int z)) (zb_f (by omega)).symm), rfl⟩
  ·
    refine z_run X bl_X10_isWithin_6_8 kl_X10_isWithin_6_8 (lv' := [(0, .int a), (1, .int b)]) (st' := [.int b, .int a]) rfl ?_
    refine zc_gt X dl_X10_isWithin_8 (tgt := 15) (by decide) (a := ai) (b := bi) ha hb (fun c8_2 => ?_) (fun c8_2 => ?_)
    ·
      refine z_run X bl_X10_isWithin_15_16 kl_X10_isWithin_15_16 (lv' := [(0, .int a), (1, .int b)]) (st' := [.int 0]) rfl ?_
      exact z_zret X rfl rfl dl_X10_isWithin_16 (Nat.le_of_ble_eq_true rfl) (Nat.le_of_ble_eq_true rfl) ⟨(congrArg (fun z => some (Value.int z)) (zb_f (by omega)).symm), rfl⟩
    ·
      refine z_run X bl_X10_isWithin_11_12 kl_X10_isWithin_11_12 (lv' := [(0, .int a), (1, .int b)]) (st' := [.int 1]) rfl ?_
      refine z_goto X dl_X10_isWithin_12 (tgt := 16) (by decide) ?_
      exact z_zret X rfl rfl dl_X10_isWithin_16 (Nat.le_of_ble_eq_true rfl) (Nat.le_of_ble_eq_true rfl) ⟨(congrArg (fun z => some (Value.int z)) (zb_t (by omega)).symm), rfl⟩

theorem dl_X10_isMan_1 : decode cX10_isMan 1 = .ok (.ifCond .lt 12, 3) := by decide +kernel
theorem dl_X10_isMan_14 : decode cX10_isMan 14 = .ok (.ireturn, 1) := by decide +kernel
theorem dl_X10_isMan_6 : decode cX10_isMan 6 = .ok (.if_icmp .ge 7, 3) := by decide +kernel
theorem dl_X10_isMan_10 : decode cX10_isMan 10 = .ok (.goto 4, 3) := by decide +kernel
abbrev bl_X10_isMan_0_1 : ZB := [(.iload_n 0, .null)]
theorem kl_X10_isMan_0_1 : zchk cX10_isMan bl_X10_isMan_0_1 0 = true ∧ zpc bl_X10_isMan_0_1 0 = 1 := ⟨by decide +kernel, rfl⟩
abbrev bl_X10_isMan_13_14 : ZB := [(.iconst 0, .int 0)]
theorem kl_X10_isMan_13_14 : zchk cX10_isMan bl_X10_isMan_13_14 13 = true ∧ zpc bl_X10_isMan_13_14 13 = 14 := ⟨by decide +kernel, rfl⟩
abbrev bl_X10_isMan_4_6 : ZB := [(.iload_n 0, .null), (.iconst 3, .int 3)]
theorem kl_X10_isMan_4_6 : zchk cX10_isMan bl_X10_isMan_4_6 4 = true ∧ zpc bl_X10_isMan_4_6 4 = 6 := ⟨by decide +kernel, rfl⟩
abbrev bl_X10_isMan_9_10 : ZB := [(.iconst 1, .int 1)]
theorem kl_X10_isMan_9_10 : zchk cX10_isMan bl_X10_isMan_9_10 9 = true ∧ zpc bl_X10_isMan_9_10 9 = 10 := ⟨by decide +kernel, rfl⟩
set_option maxHeartbeats 4000000 in
set_option maxRecDepth 100000 in
theorem cl_X10_isMan (l : Launch) (G : KG) (a : Int32) (ai : Int) (ha : a.toInt = ai) : Ct l G yX10_isMan cX10_isMan 1 (some .boolean) { frames := 0, cells := 0, slots := 0, locals := 0 } [.int a] [] (fun r w1 => r = some (.int (zb (decide (0 ≤ ai ∧ ai < 3)))) ∧ w1 = []) := by
  refine ct_of [(0, .int a)] (by decide) (Nat.le_of_ble_eq_true rfl) rfl ?_
  intro p0 e0 s0 m0 args0 below0 meth0 c0 A X
  refine z_run X bl_X10_isMan_0_1 kl_X10_isMan_0_1 (lv' := [(0, .int a)]) (st' := [.int a]) rfl ?_
  refine zi_lt X dl_X10_isMan_1 (tgt := 13) (by decide) (a := ai) ha (fun c1_1 => ?_) (fun c1_1 => ?_)
  ·
    refine z_run X bl_X10_isMan_13_14 kl_X10_isMan_13_14 (lv' := [(0, .int a)]) (st' := [.int 0]) rfl ?_
    exact z_zret X rfl rfl dl_X10_isMan_14 (Nat.le_of_ble_eq_true rfl) (Nat.le_of_ble_eq_true rfl) ⟨(congrArg (fun z => some (Value.int z)) (zb_f (by omega)).symm), rfl⟩
  ·
    refine z_run X bl_X10_isMan_4_6 kl_X10_isMan_4_6 (lv' := [(0, .int a)]) (st' := [.int 3, .int a]) rfl ?_
    refine zc_ge X dl_X10_isMan_6 (tgt := 13) (by decide) (a := ai) (b := 3) ha (show (3 : Int32).toInt = 3 from by decide) (fun c6_2 => ?_) (fun c6_2 => ?_)
    ·
      refine z_run X bl_X10_isMan_13_14 kl_X10_isMan_13_14 (lv' := [(0, .int a)]) (st' := [.int 0]) rfl ?_
      exact z_zret X rfl rfl dl_X10_isMan_14 (Nat.le_of_ble_eq_true rfl) (Nat.le_of_ble_eq_true rfl) ⟨(congrArg (fun z => some (Value.int z)) (zb_f (by omega)).symm), rfl⟩
    ·
      refine z_run X bl_X10_isMan_9_10 kl_X10_isMan_9_10 (lv' := [(0, .int a)]) (st' := [.int 1]) rfl ?_
      refine z_goto X dl_X10_isMan_10 (tgt := 14) (by decide) ?_
      exact z_zret X rfl rfl dl_X10_isMan_14 (Nat.le_of_ble_eq_true rfl) (Nat.le_of_ble_eq_true rfl) ⟨(congrArg (fun z => some (Value.int z)) (zb_t (by omega)).symm), rfl⟩

theorem dl_X11_isMan_3 : decode cX11_isMan 3 = .ok (.ldc2_w 335, 3) := by decide +kernel
theorem dl_X11_isMan_6 : decode cX11_isMan 6 = .ok (.invokestatic 29, 3) := by decide +kernel
theorem dl_X11_isMan_9 : decode cX11_isMan 9 = .ok (.ireturn, 1) := by decide +kernel
abbrev bl_X11_isMan_0_3 : ZB := [(.iload_n 0, .null), (.i2l, .null), (.lconst 0, .long 0)]
theorem kl_X11_isMan_0_3 : zchk cX11_isMan bl_X11_isMan_0_3 0 = true ∧ zpc bl_X11_isMan_0_3 0 = 3 := ⟨by decide +kernel, rfl⟩
set_option maxHeartbeats 4000000 in
set_option maxRecDepth 100000 in
theorem cl_X11_isMan (l : Launch) (G : KG) (a : Int32) (ai : Int) (ha : a.toInt = ai) : Ct l G yX11_isMan cX11_isMan 1 (some .boolean) { frames := 1, cells := 0, slots := 0, locals := 25 } [.int a] [] (fun r w1 => r = some (.int (zb (decide (0 ≤ ai ∧ ai < 3)))) ∧ w1 = []) := by
  refine ct_of [(0, .int a)] (by decide) (Nat.le_of_ble_eq_true rfl) rfl ?_
  intro p0 e0 s0 m0 args0 below0 meth0 c0 A X
  refine z_run X bl_X11_isMan_0_3 kl_X11_isMan_0_3 (lv' := [(0, .int a)]) (st' := [.long 0, .long a.toInt64]) rfl ?_
  refine z_ldc2 X dl_X11_isMan_3 cn_11_335 ?_
  refine z_callS X k_11_29 (cm_X11_in l G a.toInt64 0 2 ai 0 2 (tI64 ha) (show (0 : Int64).toInt = 0 from by decide) (show (2 : Int64).toInt = 2 from by decide)) dl_X11_isMan_6 ⟨Nat.le_of_ble_eq_true rfl, Nat.le_of_ble_eq_true rfl⟩ ⟨Nat.le_of_ble_eq_true rfl, Nat.le_of_ble_eq_true rfl⟩ rfl (rest := []) (As := [.long a.toInt64, .long 0, .long 2]) rfl (Nat.le_of_ble_eq_true rfl) [] [] rfl (by decide) (wr := []) rfl (by decide) (by decide) ?_
  rintro _ _ ⟨rfl, rfl⟩
  refine Z.at (pc' := 9) (st' := [.int (zb (decide (0 ≤ ai ∧ ai ≤ 2)))]) (ws' := []) (kc' := 0) (ks' := 0) rfl rfl rfl rfl rfl ?_
  exact z_zret X rfl (zb_n _) dl_X11_isMan_9 (Nat.le_of_ble_eq_true rfl) (Nat.le_of_ble_eq_true rfl) ⟨(congrArg (fun z => some (Value.int z)) (zb_i (by omega))), rfl⟩

theorem dl_X11_isMass_3 : decode cX11_isMass 3 = .ok (.ldc2_w 122, 3) := by decide +kernel
theorem dl_X11_isMass_6 : decode cX11_isMass 6 = .ok (.invokestatic 29, 3) := by decide +kernel
theorem dl_X11_isMass_9 : decode cX11_isMass 9 = .ok (.ifCond .eq 35, 3) := by decide +kernel
theorem dl_X11_isMass_45 : decode cX11_isMass 45 = .ok (.ireturn, 1) := by decide +kernel
theorem dl_X11_isMass_14 : decode cX11_isMass 14 = .ok (.ldc2_w 138, 3) := by decide +kernel
theorem dl_X11_isMass_17 : decode cX11_isMass 17 = .ok (.ldc2_w 140, 3) := by decide +kernel
theorem dl_X11_isMass_20 : decode cX11_isMass 20 = .ok (.invokestatic 29, 3) := by decide +kernel
theorem dl_X11_isMass_23 : decode cX11_isMass 23 = .ok (.ifCond .eq 21, 3) := by decide +kernel
theorem dl_X11_isMass_28 : decode cX11_isMass 28 = .ok (.ldc2_w 138, 3) := by decide +kernel
theorem dl_X11_isMass_31 : decode cX11_isMass 31 = .ok (.ldc2_w 140, 3) := by decide +kernel
theorem dl_X11_isMass_34 : decode cX11_isMass 34 = .ok (.invokestatic 29, 3) := by decide +kernel
theorem dl_X11_isMass_37 : decode cX11_isMass 37 = .ok (.ifCond .eq 7, 3) := by decide +kernel
theorem dl_X11_isMass_41 : decode cX11_isMass 41 = .ok (.goto 4, 3) := by decide +kernel
abbrev bl_X11_isMass_0_3 : ZB := [(.iload_n 0, .null), (.i2l, .null), (.lconst 0, .long 0)]
theorem kl_X11_isMass_0_3 : zchk cX11_isMass bl_X11_isMass_0_3 0 = true ∧ zpc bl_X11_isMass_0_3 0 = 3 := ⟨by decide +kernel, rfl⟩
abbrev bl_X11_isMass_44_45 : ZB := [(.iconst 0, .int 0)]
theorem kl_X11_isMass_44_45 : zchk cX11_isMass bl_X11_isMass_44_45 44 = true ∧ zpc bl_X11_isMass_44_45 44 = 45 := ⟨by decide +kernel, rfl⟩
abbrev bl_X11_isMass_12_14 : ZB := [(.iload_n 1, .null), (.i2l, .null)]
theorem kl_X11_isMass_12_14 : zchk cX11_isMass bl_X11_isMass_12_14 12 = true ∧ zpc bl_X11_isMass_12_14 12 = 14 := ⟨by decide +kernel, rfl⟩
abbrev bl_X11_isMass_26_28 : ZB := [(.iload_n 2, .null), (.i2l, .null)]
theorem kl_X11_isMass_26_28 : zchk cX11_isMass bl_X11_isMass_26_28 26 = true ∧ zpc bl_X11_isMass_26_28 26 = 28 := ⟨by decide +kernel, rfl⟩
abbrev bl_X11_isMass_40_41 : ZB := [(.iconst 1, .int 1)]
theorem kl_X11_isMass_40_41 : zchk cX11_isMass bl_X11_isMass_40_41 40 = true ∧ zpc bl_X11_isMass_40_41 40 = 41 := ⟨by decide +kernel, rfl⟩
set_option maxHeartbeats 4000000 in
set_option maxRecDepth 100000 in
theorem cl_X11_isMass (l : Launch) (G : KG) (a : Int32) (b : Int32) (c : Int32) (ai : Int) (bi : Int) (ci : Int) (ha : a.toInt = ai) (hb : b.toInt = bi) (hc : c.toInt = ci) : Ct l G yX11_isMass cX11_isMass 3 (some .boolean) { frames := 1, cells := 0, slots := 0, locals := 25 } [.int a, .int b, .int c] [] (fun r w1 => r = some (.int (zb (decide (0 ≤ ai ∧ ai ≤ 3 ∧ -9999 ≤ bi ∧ bi ≤ 9999 ∧ -9999 ≤ ci ∧ ci ≤ 9999)))) ∧ w1 = []) := by
  refine ct_of [(0, .int a), (1, .int b), (2, .int c)] (by decide) (Nat.le_of_ble_eq_true rfl) rfl ?_
  intro p0 e0 s0 m0 args0 below0 meth0 c0 A X
  refine z_run X bl_X11_isMass_0_3 kl_X11_isMass_0_3 (lv' := [(0, .int a), (1, .int b), (2, .int c)]) (st' := [.long 0, .long a.toInt64]) rfl ?_
  refine z_ldc2 X dl_X11_isMass_3 cn_11_122 ?_
  refine z_callS X k_11_29 (cm_X11_in l G a.toInt64 0 3 ai 0 3 (tI64 ha) (show (0 : Int64).toInt = 0 from by decide) (show (3 : Int64).toInt = 3 from by decide)) dl_X11_isMass_6 ⟨Nat.le_of_ble_eq_true rfl, Nat.le_of_ble_eq_true rfl⟩ ⟨Nat.le_of_ble_eq_true rfl, Nat.le_of_ble_eq_true rfl⟩ rfl (rest := []) (As := [.long a.toInt64, .long 0, .long 3]) rfl (Nat.le_of_ble_eq_true rfl) [] [] rfl (by decide) (wr := []) rfl (by decide) (by decide) ?_
  rintro _ _ ⟨rfl, rfl⟩
  refine Z.at (pc' := 9) (st' := [.int (zb (decide (0 ≤ ai ∧ ai ≤ 3)))]) (ws' := []) (kc' := 0) (ks' := 0) rfl rfl rfl rfl rfl ?_
  refine zi_eq_zb X dl_X11_isMass_9 (tgt := 44) (by decide) (fun c9_1 => ?_) (fun c9_1 => ?_)
  ·
    refine z_run X bl_X11_isMass_44_45 kl_X11_isMass_44_45 (lv' := [(0, .int a), (1, .int b), (2, .int c)]) (st' := [.int 0]) rfl ?_
    exact z_zret X rfl rfl dl_X11_isMass_45 (Nat.le_of_ble_eq_true rfl) (Nat.le_of_ble_eq_true rfl) ⟨(congrArg (fun z => some (Value.int z)) (zb_f (by omega)).symm), rfl⟩
  ·
    refine z_run X bl_X11_isMass_12_14 kl_X11_isMass_12_14 (lv' := [(0, .int a), (1, .int b), (2, .int c)]) (st' := [.long b.toInt64]) rfl ?_
    refine z_ldc2 X dl_X11_isMass_14 cn_11_138 ?_
    refine z_ldc2 X dl_X11_isMass_17 cn_11_140 ?_
    refine z_callS X k_11_29 (cm_X11_in l G b.toInt64 (-9999) 9999 bi ((-9999)) 9999 (tI64 hb) (show ((-9999) : Int64).toInt = (-9999) from by decide) (show (9999 : Int64).toInt = 9999 from by decide)) dl_X11_isMass_20 ⟨Nat.le_of_ble_eq_true rfl, Nat.le_of_ble_eq_true rfl⟩ ⟨Nat.le_of_ble_eq_true rfl, Nat.le_of_ble_eq_true rfl⟩ rfl (rest := []) (As := [.long b.toInt64, .long (-9999), .long 9999]) rfl (Nat.le_of_ble_eq_true rfl) [] [] rfl (by decide) (wr := []) rfl (by decide) (by decide) ?_
    rintro _ _ ⟨rfl, rfl⟩
    refine Z.at (pc' := 23) (st' := [.int (zb (decide (((-9999)) ≤ bi ∧ bi ≤ 9999)))]) (ws' := []) (kc' := 0) (ks' := 0) rfl rfl rfl rfl rfl ?_
    refine zi_eq_zb X dl_X11_isMass_23 (tgt := 44) (by decide) (fun c23_2 => ?_) (fun c23_2 => ?_)
    ·
      refine z_run X bl_X11_isMass_44_45 kl_X11_isMass_44_45 (lv' := [(0, .int a), (1, .int b), (2, .int c)]) (st' := [.int 0]) rfl ?_
      exact z_zret X rfl rfl dl_X11_isMass_45 (Nat.le_of_ble_eq_true rfl) (Nat.le_of_ble_eq_true rfl) ⟨(congrArg (fun z => some (Value.int z)) (zb_f (by omega)).symm), rfl⟩
    ·
      refine z_run X bl_X11_isMass_26_28 kl_X11_isMass_26_28 (lv' := [(0, .int a), (1, .int b), (2, .int c)]) (st' := [.long c.toInt64]) rfl ?_
      refine z_ldc2 X dl_X11_isMass_28 cn_11_138 ?_
      refine z_ldc2 X dl_X11_isMass_31 cn_11_140 ?_
      refine z_callS X k_11_29 (cm_X11_in l G c.toInt64 (-9999) 9999 ci ((-9999)) 9999 (tI64 hc) (show ((-9999) : Int64).toInt = (-9999) from by decide) (show (9999 : Int64).toInt = 9999 from by decide)) dl_X11_isMass_34 ⟨Nat.le_of_ble_eq_true rfl, Nat.le_of_ble_eq_true rfl⟩ ⟨Nat.le_of_ble_eq_true rfl, Nat.le_of_ble_eq_true rfl⟩ rfl (rest := []) (As := [.long c.toInt64, .long (-9999), .long 9999]) rfl (Nat.le_of_ble_eq_true rfl) [] [] rfl (by decide) (wr := []) rfl (by decide) (by decide) ?_
      rintro _ _ ⟨rfl, rfl⟩
      refine Z.at (pc' := 37) (st' := [.int (zb (decide (((-9999)) ≤ ci ∧ ci ≤ 9999)))]) (ws' := []) (kc' := 0) (ks' := 0) rfl rfl rfl rfl rfl ?_
      refine zi_eq_zb X dl_X11_isMass_37 (tgt := 44) (by decide) (fun c37_3 => ?_) (fun c37_3 => ?_)
      ·
        refine z_run X bl_X11_isMass_44_45 kl_X11_isMass_44_45 (lv' := [(0, .int a), (1, .int b), (2, .int c)]) (st' := [.int 0]) rfl ?_
        exact z_zret X rfl rfl dl_X11_isMass_45 (Nat.le_of_ble_eq_true rfl) (Nat.le_of_ble_eq_true rfl) ⟨(congrArg (fun z => some (Value.int z)) (zb_f (by omega)).symm), rfl⟩
      ·
        refine z_run X bl_X11_isMass_40_41 kl_X11_isMass_40_41 (lv' := [(0, .int a), (1, .int b), (2, .int c)]) (st' := [.int 1]) rfl ?_
        refine z_goto X dl_X11_isMass_41 (tgt := 45) (by decide) ?_
        exact z_zret X rfl rfl dl_X11_isMass_45 (Nat.le_of_ble_eq_true rfl) (Nat.le_of_ble_eq_true rfl) ⟨(congrArg (fun z => some (Value.int z)) (zb_t (by omega)).symm), rfl⟩

theorem dl_X10_lead_1 : decode cX10_lead 1 = .ok (.getfield 26, 3) := by decide +kernel
theorem dl_X10_lead_5 : decode cX10_lead 5 = .ok (.invokevirtual 106, 3) := by decide +kernel
theorem dl_X10_lead_8 : decode cX10_lead 8 = .ok (.ifCond .eq 20, 3) := by decide +kernel
theorem dl_X10_lead_29 : decode cX10_lead 29 = .ok (.ireturn, 1) := by decide +kernel
theorem dl_X10_lead_12 : decode cX10_lead 12 = .ok (.ifCond .lt 16, 3) := by decide +kernel
theorem dl_X10_lead_17 : decode cX10_lead 17 = .ok (.getfield 26, 3) := by decide +kernel
theorem dl_X10_lead_20 : decode cX10_lead 20 = .ok (.getfield 125, 3) := by decide +kernel
theorem dl_X10_lead_24 : decode cX10_lead 24 = .ok (.iaload, 1) := by decide +kernel
theorem dl_X10_lead_25 : decode cX10_lead 25 = .ok (.if_icmp .le 5, 3) := by decide +kernel
theorem dl_X10_lead_31 : decode cX10_lead 31 = .ok (.getfield 26, 3) := by decide +kernel
theorem dl_X10_lead_34 : decode cX10_lead 34 = .ok (.getfield 128, 3) := by decide +kernel
theorem dl_X10_lead_38 : decode cX10_lead 38 = .ok (.iaload, 1) := by decide +kernel
theorem dl_X10_lead_41 : decode cX10_lead 41 = .ok (.getfield 26, 3) := by decide +kernel
theorem dl_X10_lead_44 : decode cX10_lead 44 = .ok (.getfield 128, 3) := by decide +kernel
theorem dl_X10_lead_49 : decode cX10_lead 49 = .ok (.iastore, 1) := by decide +kernel
theorem dl_X10_lead_51 : decode cX10_lead 51 = .ok (.ireturn, 1) := by decide +kernel
abbrev bl_X10_lead_0_1 : ZB := [(.aload_n 0, .null)]
theorem kl_X10_lead_0_1 : zchk cX10_lead bl_X10_lead_0_1 0 = true ∧ zpc bl_X10_lead_0_1 0 = 1 := ⟨by decide +kernel, rfl⟩
abbrev bl_X10_lead_4_5 : ZB := [(.iload_n 1, .null)]
theorem kl_X10_lead_4_5 : zchk cX10_lead bl_X10_lead_4_5 4 = true ∧ zpc bl_X10_lead_4_5 4 = 5 := ⟨by decide +kernel, rfl⟩
abbrev bl_X10_lead_28_29 : ZB := [(.iconst (-1), .int (-1))]
theorem kl_X10_lead_28_29 : zchk cX10_lead bl_X10_lead_28_29 28 = true ∧ zpc bl_X10_lead_28_29 28 = 29 := ⟨by decide +kernel, rfl⟩
abbrev bl_X10_lead_11_12 : ZB := [(.iload_n 2, .null)]
theorem kl_X10_lead_11_12 : zchk cX10_lead bl_X10_lead_11_12 11 = true ∧ zpc bl_X10_lead_11_12 11 = 12 := ⟨by decide +kernel, rfl⟩
abbrev bl_X10_lead_15_17 : ZB := [(.iload_n 2, .null), (.aload_n 0, .null)]
theorem kl_X10_lead_15_17 : zchk cX10_lead bl_X10_lead_15_17 15 = true ∧ zpc bl_X10_lead_15_17 15 = 17 := ⟨by decide +kernel, rfl⟩
abbrev bl_X10_lead_23_24 : ZB := [(.iload_n 1, .null)]
theorem kl_X10_lead_23_24 : zchk cX10_lead bl_X10_lead_23_24 23 = true ∧ zpc bl_X10_lead_23_24 23 = 24 := ⟨by decide +kernel, rfl⟩
abbrev bl_X10_lead_30_31 : ZB := [(.aload_n 0, .null)]
theorem kl_X10_lead_30_31 : zchk cX10_lead bl_X10_lead_30_31 30 = true ∧ zpc bl_X10_lead_30_31 30 = 31 := ⟨by decide +kernel, rfl⟩
abbrev bl_X10_lead_37_38 : ZB := [(.iload_n 1, .null)]
theorem kl_X10_lead_37_38 : zchk cX10_lead bl_X10_lead_37_38 37 = true ∧ zpc bl_X10_lead_37_38 37 = 38 := ⟨by decide +kernel, rfl⟩
abbrev bl_X10_lead_39_41 : ZB := [(.istore_n 3, .null), (.aload_n 0, .null)]
theorem kl_X10_lead_39_41 : zchk cX10_lead bl_X10_lead_39_41 39 = true ∧ zpc bl_X10_lead_39_41 39 = 41 := ⟨by decide +kernel, rfl⟩
abbrev bl_X10_lead_47_49 : ZB := [(.iload_n 1, .null), (.iload_n 2, .null)]
theorem kl_X10_lead_47_49 : zchk cX10_lead bl_X10_lead_47_49 47 = true ∧ zpc bl_X10_lead_47_49 47 = 49 := ⟨by decide +kernel, rfl⟩
abbrev bl_X10_lead_50_51 : ZB := [(.iload_n 3, .null)]
theorem kl_X10_lead_50_51 : zchk cX10_lead bl_X10_lead_50_51 50 = true ∧ zpc bl_X10_lead_50_51 50 = 51 := ⟨by decide +kernel, rfl⟩
set_option maxHeartbeats 4000000 in
set_option maxRecDepth 100000 in
theorem cl_X10_lead (l : Launch) (G : KG) (x : Nat) (x_told : Value) (x_reader : Value) (ring : Nat) (x_speeds : Value) (x_wheel : Value) (x_trials : Value) (x_span : Value) (x_search : Value) (x_kept : Value) (x_crosses : Value) (x_trueMasses : Value) (x_thought : Value) (x_up : Value) (x_low : Value) (x_fits : Value) (x_pulls : Value) (ring : Nat) (hc : Int32) (g_rp : Value) (g_rx : Value) (g_ry : Value) (rr : Nat) (rh : Nat) (g_rd : Value) (g_ph : Value) (g_po : Value) (fr : Nat → Int32) (fh : Nat → Int32) (a : Int32) (v : Int32) (hci : Int) (ai : Int) (vi : Int) (hhc : hc.toInt = hci) (ha : a.toInt = ai) (hv : v.toInt = vi) (hc0 : 0 ≤ hci ∧ hci ≤ 16) : Ct l G yX10_lead cX10_lead 4 (some .int) { frames := 1, cells := 0, slots := 0, locals := 21 } [.ref x, .int a, .int v] [(x, ob 10 [x_told, x_reader, .ref ring, x_speeds, x_wheel, x_trials, x_span, x_search, x_kept, x_crosses, x_trueMasses, x_thought, x_up, x_low, x_fits, x_pulls]), (ring, ob 5 [.int hc, g_rp, g_rx, g_ry, .ref rr, .ref rh, g_rd, g_ph, g_po]), (rr, aI G 16 fr), (rh, aI G 16 fh)] (fun r w1 => ∃ (rz : Int32), ∃ (fh2 : Nat → Int32), (rz = (mLead hci fr fh a v).1) ∧ (fh2 = (mLead hci fr fh a v).2) ∧ r = some (.int rz) ∧ w1 = [(x, ob 10 [x_told, x_reader, .ref ring, x_speeds, x_wheel, x_trials, x_span, x_search, x_kept, x_crosses, x_trueMasses, x_thought, x_up, x_low, x_fits, x_pulls]), (ring, ob 5 [.int hc, g_rp, g_rx, g_ry, .ref rr, .ref rh, g_rd, g_ph, g_po]), (rr, aI G 16 fr), (rh, aI G 16 fh2)]) := by
  refine ct_of [(0, .ref x), (1, .int a), (2, .int v)] (by decide) (Nat.le_of_ble_eq_true rfl) rfl ?_
  intro p0 e0 s0 m0 args0 below0 meth0 c0 A X
  refine z_run X bl_X10_lead_0_1 kl_X10_lead_0_1 (lv' := [(0, .ref x), (1, .int a), (2, .int v)]) (st' := [.ref x]) rfl ?_
  refine z_get X fl_10_26 dl_X10_lead_1 0 rfl (v := .ref ring) rfl ?_
  refine z_run X bl_X10_lead_4_5 kl_X10_lead_4_5 (lv' := [(0, .ref x), (1, .int a), (2, .int v)]) (st' := [.int a, .ref ring]) rfl ?_
  refine z_callV X k_10_106 (cl_X5_isHole l G ring hc g_rp g_rx g_ry (.ref rr) (.ref rh) g_rd g_ph g_po a hci ai hhc ha) dl_X10_lead_5 1 rfl rfl rfl ⟨Nat.le_of_ble_eq_true rfl, Nat.le_of_ble_eq_true rfl⟩ ⟨Nat.le_of_ble_eq_true rfl, Nat.le_of_ble_eq_true rfl⟩ rfl (rest := []) (As := [.int a]) rfl (Nat.le_of_ble_eq_true rfl) [1] [0, 2, 3] rfl (by decide) (wr := [(x, ob 10 [x_told, x_reader, .ref ring, x_speeds, x_wheel, x_trials, x_span, x_search, x_kept, x_crosses, x_trueMasses, x_thought, x_up, x_low, x_fits, x_pulls]), (rr, aI G 16 fr), (rh, aI G 16 fh)]) rfl (by decide) (by decide) ?_
  rintro _ _ ⟨rfl, rfl⟩
  refine Z.at (pc' := 8) (st' := [.int (zb (decide (0 ≤ ai ∧ ai < hci)))]) (ws' := [(x, ob 10 [x_told, x_reader, .ref ring, x_speeds, x_wheel, x_trials, x_span, x_search, x_kept, x_crosses, x_trueMasses, x_thought, x_up, x_low, x_fits, x_pulls]), (rr, aI G 16 fr), (rh, aI G 16 fh), (ring, ob 5 [.int hc, g_rp, g_rx, g_ry, .ref rr, .ref rh, g_rd, g_ph, g_po])]) (kc' := 0) (ks' := 0) rfl rfl rfl rfl rfl ?_
  refine zi_eq_zb X dl_X10_lead_8 (tgt := 28) (by decide) (fun c8_1 => ?_) (fun c8_1 => ?_)
  ·
    refine z_run X bl_X10_lead_28_29 kl_X10_lead_28_29 (lv' := [(0, .ref x), (1, .int a), (2, .int v)]) (st' := [.int (-1)]) rfl ?_
    refine Z.sub (lv' := []) [] rfl [0, 3, 1, 2] (ws' := [(x, ob 10 [x_told, x_reader, .ref ring, x_speeds, x_wheel, x_trials, x_span, x_search, x_kept, x_crosses, x_trueMasses, x_thought, x_up, x_low, x_fits, x_pulls]), (ring, ob 5 [.int hc, g_rp, g_rx, g_ry, .ref rr, .ref rh, g_rd, g_ph, g_po]), (rr, aI G 16 fr), (rh, aI G 16 fh)]) rfl (by decide) ?_
    exact z_iret X rfl dl_X10_lead_29 (Nat.le_of_ble_eq_true rfl) (Nat.le_of_ble_eq_true rfl) ⟨((-1) : Int32), fh, (by unfold mLead; first | (rw [if_pos (by omega)]; done) | (rw [if_neg (by omega)]; done) | (rw [if_neg (by omega), if_pos (by omega)]; done) | (rw [if_neg (by omega), if_neg (by omega)]; done)), (by unfold mLead; first | (rw [if_pos (by omega)]; done) | (rw [if_neg (by omega)]; done) | (rw [if_neg (by omega), if_pos (by omega)]; done) | (rw [if_neg (by omega), if_neg (by omega)]; done)), rfl, rfl⟩
  ·
    refine z_run X bl_X10_lead_11_12 kl_X10_lead_11_12 (lv' := [(0, .ref x), (1, .int a), (2, .int v)]) (st' := [.int v]) rfl ?_
    refine zi_lt X dl_X10_lead_12 (tgt := 28) (by decide) (a := vi) hv (fun c12_2 => ?_) (fun c12_2 => ?_)
    ·
      refine z_run X bl_X10_lead_28_29 kl_X10_lead_28_29 (lv' := [(0, .ref x), (1, .int a), (2, .int v)]) (st' := [.int (-1)]) rfl ?_
      refine Z.sub (lv' := []) [] rfl [0, 3, 1, 2] (ws' := [(x, ob 10 [x_told, x_reader, .ref ring, x_speeds, x_wheel, x_trials, x_span, x_search, x_kept, x_crosses, x_trueMasses, x_thought, x_up, x_low, x_fits, x_pulls]), (ring, ob 5 [.int hc, g_rp, g_rx, g_ry, .ref rr, .ref rh, g_rd, g_ph, g_po]), (rr, aI G 16 fr), (rh, aI G 16 fh)]) rfl (by decide) ?_
      exact z_iret X rfl dl_X10_lead_29 (Nat.le_of_ble_eq_true rfl) (Nat.le_of_ble_eq_true rfl) ⟨((-1) : Int32), fh, (by unfold mLead; first | (rw [if_pos (by omega)]; done) | (rw [if_neg (by omega)]; done) | (rw [if_neg (by omega), if_pos (by omega)]; done) | (rw [if_neg (by omega), if_neg (by omega)]; done)), (by unfold mLead; first | (rw [if_pos (by omega)]; done) | (rw [if_neg (by omega)]; done) | (rw [if_neg (by omega), if_pos (by omega)]; done) | (rw [if_neg (by omega), if_neg (by omega)]; done)), rfl, rfl⟩
    ·
      refine z_run X bl_X10_lead_15_17 kl_X10_lead_15_17 (lv' := [(0, .ref x), (1, .int a), (2, .int v)]) (st' := [.ref x, .int v]) rfl ?_
      refine z_get X fl_10_26 dl_X10_lead_17 0 rfl (v := .ref ring) rfl ?_
      refine z_getN X fl_10_125 dl_X10_lead_20 3 rfl (v := .ref rr) rfl ?_
      refine z_run X bl_X10_lead_23_24 kl_X10_lead_23_24 (lv' := [(0, .ref x), (1, .int a), (2, .int v)]) (st' := [.int a, .ref rr, .int v]) rfl ?_
      refine z_iald X dl_X10_lead_24 1 rfl (vin ha (by omega) (by omega)) (v := (fr a.toNatClampNeg)) rfl ?_
      refine zc_le X dl_X10_lead_25 (tgt := 30) (by decide) (a := vi) (b := (fr a.toNatClampNeg).toInt) hv rfl (fun c25_3 => ?_) (fun c25_3 => ?_)
      ·
        refine z_run X bl_X10_lead_30_31 kl_X10_lead_30_31 (lv' := [(0, .ref x), (1, .int a), (2, .int v)]) (st' := [.ref x]) rfl ?_
        refine z_get X fl_10_26 dl_X10_lead_31 0 rfl (v := .ref ring) rfl ?_
        refine z_getN X fl_10_128 dl_X10_lead_34 3 rfl (v := .ref rh) rfl ?_
        refine z_run X bl_X10_lead_37_38 kl_X10_lead_37_38 (lv' := [(0, .ref x), (1, .int a), (2, .int v)]) (st' := [.int a, .ref rh]) rfl ?_
        refine z_iald X dl_X10_lead_38 2 rfl (vin ha (by omega) (by omega)) (v := (fh a.toNatClampNeg)) rfl ?_
        refine z_run X bl_X10_lead_39_41 kl_X10_lead_39_41 (lv' := [(3, .int (fh a.toNatClampNeg)), (0, .ref x), (1, .int a), (2, .int v)]) (st' := [.ref x]) rfl ?_
        refine z_get X fl_10_26 dl_X10_lead_41 0 rfl (v := .ref ring) rfl ?_
        refine z_getN X fl_10_128 dl_X10_lead_44 3 rfl (v := .ref rh) rfl ?_
        refine z_run X bl_X10_lead_47_49 kl_X10_lead_47_49 (lv' := [(3, .int (fh a.toNatClampNeg)), (0, .ref x), (1, .int a), (2, .int v)]) (st' := [.int v, .int a, .ref rh]) rfl ?_
        refine z_iast X dl_X10_lead_49 2 rfl (vin ha (by omega) (by omega)) (ws' := [(x, ob 10 [x_told, x_reader, .ref ring, x_speeds, x_wheel, x_trials, x_span, x_search, x_kept, x_crosses, x_trueMasses, x_thought, x_up, x_low, x_fits, x_pulls]), (rr, aI G 16 fr), (rh, aI G 16 (upd fh a.toNatClampNeg v)), (ring, ob 5 [.int hc, g_rp, g_rx, g_ry, .ref rr, .ref rh, g_rd, g_ph, g_po])]) rfl ?_
        refine z_run X bl_X10_lead_50_51 kl_X10_lead_50_51 (lv' := [(3, .int (fh a.toNatClampNeg)), (0, .ref x), (1, .int a), (2, .int v)]) (st' := [.int (fh a.toNatClampNeg)]) rfl ?_
        refine Z.sub (lv' := []) [] rfl [0, 3, 1, 2] (ws' := [(x, ob 10 [x_told, x_reader, .ref ring, x_speeds, x_wheel, x_trials, x_span, x_search, x_kept, x_crosses, x_trueMasses, x_thought, x_up, x_low, x_fits, x_pulls]), (ring, ob 5 [.int hc, g_rp, g_rx, g_ry, .ref rr, .ref rh, g_rd, g_ph, g_po]), (rr, aI G 16 fr), (rh, aI G 16 (upd fh a.toNatClampNeg v))]) rfl (by decide) ?_
        exact z_iret X rfl dl_X10_lead_51 (Nat.le_of_ble_eq_true rfl) (Nat.le_of_ble_eq_true rfl) ⟨(fh a.toNatClampNeg), (upd fh a.toNatClampNeg v), (by unfold mLead; first | (rw [if_pos (by omega)]; done) | (rw [if_neg (by omega)]; done) | (rw [if_neg (by omega), if_pos (by omega)]; done) | (rw [if_neg (by omega), if_neg (by omega)]; done)), (by unfold mLead; first | (rw [if_pos (by omega)]; done) | (rw [if_neg (by omega)]; done) | (rw [if_neg (by omega), if_pos (by omega)]; done) | (rw [if_neg (by omega), if_neg (by omega)]; done)), rfl, rfl⟩
      ·
        refine z_run X bl_X10_lead_28_29 kl_X10_lead_28_29 (lv' := [(0, .ref x), (1, .int a), (2, .int v)]) (st' := [.int (-1)]) rfl ?_
        refine Z.sub (lv' := []) [] rfl [0, 3, 1, 2] (ws' := [(x, ob 10 [x_told, x_reader, .ref ring, x_speeds, x_wheel, x_trials, x_span, x_search, x_kept, x_crosses, x_trueMasses, x_thought, x_up, x_low, x_fits, x_pulls]), (ring, ob 5 [.int hc, g_rp, g_rx, g_ry, .ref rr, .ref rh, g_rd, g_ph, g_po]), (rr, aI G 16 fr), (rh, aI G 16 fh)]) rfl (by decide) ?_
        exact z_iret X rfl dl_X10_lead_29 (Nat.le_of_ble_eq_true rfl) (Nat.le_of_ble_eq_true rfl) ⟨((-1) : Int32), fh, (by unfold mLead; first | (rw [if_pos (by omega)]; done) | (rw [if_neg (by omega)]; done) | (rw [if_neg (by omega), if_pos (by omega)]; done) | (rw [if_neg (by omega), if_neg (by omega)]; done)), (by unfold mLead; first | (rw [if_pos (by omega)]; done) | (rw [if_neg (by omega)]; done) | (rw [if_neg (by omega), if_pos (by omega)]; done) | (rw [if_neg (by omega), if_neg (by omega)]; done)), rfl, rfl⟩

theorem dl_X11_lead_2 : decode cX11_lead 2 = .ok (.putfield 3, 3) := by decide +kernel
theorem dl_X11_lead_7 : decode cX11_lead 7 = .ok (.invokevirtual 115, 3) := by decide +kernel
theorem dl_X11_lead_10 : decode cX11_lead 10 = .ok (.ifCond .eq 19, 3) := by decide +kernel
theorem dl_X11_lead_30 : decode cX11_lead 30 = .ok (.ireturn, 1) := by decide +kernel
theorem dl_X11_lead_17 : decode cX11_lead 17 = .ok (.getfield 79, 3) := by decide +kernel
theorem dl_X11_lead_21 : decode cX11_lead 21 = .ok (.iaload, 1) := by decide +kernel
theorem dl_X11_lead_23 : decode cX11_lead 23 = .ok (.invokestatic 29, 3) := by decide +kernel
theorem dl_X11_lead_26 : decode cX11_lead 26 = .ok (.ifCond .ne 5, 3) := by decide +kernel
theorem dl_X11_lead_32 : decode cX11_lead 32 = .ok (.getfield 82, 3) := by decide +kernel
theorem dl_X11_lead_36 : decode cX11_lead 36 = .ok (.iaload, 1) := by decide +kernel
theorem dl_X11_lead_39 : decode cX11_lead 39 = .ok (.getfield 82, 3) := by decide +kernel
theorem dl_X11_lead_44 : decode cX11_lead 44 = .ok (.iastore, 1) := by decide +kernel
theorem dl_X11_lead_46 : decode cX11_lead 46 = .ok (.ireturn, 1) := by decide +kernel
abbrev bl_X11_lead_0_2 : ZB := [(.aload_n 0, .null), (.iconst 0, .int 0)]
theorem kl_X11_lead_0_2 : zchk cX11_lead bl_X11_lead_0_2 0 = true ∧ zpc bl_X11_lead_0_2 0 = 2 := ⟨by decide +kernel, rfl⟩
abbrev bl_X11_lead_5_7 : ZB := [(.aload_n 0, .null), (.iload_n 1, .null)]
theorem kl_X11_lead_5_7 : zchk cX11_lead bl_X11_lead_5_7 5 = true ∧ zpc bl_X11_lead_5_7 5 = 7 := ⟨by decide +kernel, rfl⟩
abbrev bl_X11_lead_29_30 : ZB := [(.iconst (-1), .int (-1))]
theorem kl_X11_lead_29_30 : zchk cX11_lead bl_X11_lead_29_30 29 = true ∧ zpc bl_X11_lead_29_30 29 = 30 := ⟨by decide +kernel, rfl⟩
abbrev bl_X11_lead_13_17 : ZB := [(.iload_n 2, .null), (.i2l, .null), (.lconst 0, .long 0), (.aload_n 0, .null)]
theorem kl_X11_lead_13_17 : zchk cX11_lead bl_X11_lead_13_17 13 = true ∧ zpc bl_X11_lead_13_17 13 = 17 := ⟨by decide +kernel, rfl⟩
abbrev bl_X11_lead_20_21 : ZB := [(.iload_n 1, .null)]
theorem kl_X11_lead_20_21 : zchk cX11_lead bl_X11_lead_20_21 20 = true ∧ zpc bl_X11_lead_20_21 20 = 21 := ⟨by decide +kernel, rfl⟩
abbrev bl_X11_lead_22_23 : ZB := [(.i2l, .null)]
theorem kl_X11_lead_22_23 : zchk cX11_lead bl_X11_lead_22_23 22 = true ∧ zpc bl_X11_lead_22_23 22 = 23 := ⟨by decide +kernel, rfl⟩
abbrev bl_X11_lead_31_32 : ZB := [(.aload_n 0, .null)]
theorem kl_X11_lead_31_32 : zchk cX11_lead bl_X11_lead_31_32 31 = true ∧ zpc bl_X11_lead_31_32 31 = 32 := ⟨by decide +kernel, rfl⟩
abbrev bl_X11_lead_35_36 : ZB := [(.iload_n 1, .null)]
theorem kl_X11_lead_35_36 : zchk cX11_lead bl_X11_lead_35_36 35 = true ∧ zpc bl_X11_lead_35_36 35 = 36 := ⟨by decide +kernel, rfl⟩
abbrev bl_X11_lead_37_39 : ZB := [(.istore_n 3, .null), (.aload_n 0, .null)]
theorem kl_X11_lead_37_39 : zchk cX11_lead bl_X11_lead_37_39 37 = true ∧ zpc bl_X11_lead_37_39 37 = 39 := ⟨by decide +kernel, rfl⟩
abbrev bl_X11_lead_42_44 : ZB := [(.iload_n 1, .null), (.iload_n 2, .null)]
theorem kl_X11_lead_42_44 : zchk cX11_lead bl_X11_lead_42_44 42 = true ∧ zpc bl_X11_lead_42_44 42 = 44 := ⟨by decide +kernel, rfl⟩
abbrev bl_X11_lead_45_46 : ZB := [(.iload_n 3, .null)]
theorem kl_X11_lead_45_46 : zchk cX11_lead bl_X11_lead_45_46 45 = true ∧ zpc bl_X11_lead_45_46 45 = 46 := ⟨by decide +kernel, rfl⟩
set_option maxHeartbeats 4000000 in
set_option maxRecDepth 100000 in
theorem cl_X11_lead (l : Launch) (G : KG) (mo : Nat) (th : Int32) (g_rows : Value) (g_row : Value) (hc : Int32) (r_planeOf : Nat) (r_holeX : Nat) (r_holeY : Nat) (r_room : Nat) (r_ounces : Nat) (r_deepOf : Nat) (sc : Int32) (r_factor : Nat) (r_otherOf : Nat) (r_isApart : Nat) (g_apartX : Value) (g_apartY : Value) (cc : Int32) (r_weight : Nat) (r_tape : Nat) (n : Int32) (p : Int32) (lim : Int32) (fi : Int32) (g_crossOf : Value) (g_trueX : Value) (g_trueY : Value) (g_thoughtX : Value) (g_thoughtY : Value) (g_poundHole : Value) (g_poundOunces : Value) (g_lead : Value) (g_trials : Value) (g_trialSpeed : Value) (g_isWhole : Value) (g_trialX : Value) (g_trialY : Value) (g_trialGive : Value) (g_trialLead : Value) (g_baseX : Value) (g_baseY : Value) (g_timesPull : Value) (g_trialBaseX : Value) (g_trialBaseY : Value) (g_trialTimes : Value) (g_pulls : Value) (g_pullMany : Value) (g_sizes : Value) (g_merged : Value) (g_nextHole : Value) (g_nextOunces : Value) (g_leftBehind : Value) (g_manUp : Value) (g_manLow : Value) (g_asked : Value) (g_lowOf : Value) (g_highOf : Value) (g_tried : Value) (g_found : Value) (g_askedMany : Value) (g_mostHoles : Value) (g_isFound : Value) (g_foundRest : Value) (g_foundOunces : Value) (g_question : Value) (g_questionSpeed : Value) (g_ounceRest : Value) (g_parts : Value) (g_filled : Value) (g_cogAt : Value) (g_cogBest : Value) (g_isOrdered : Value) (g_orderSize : Value) (g_isKept : Value) (g_kept : Value) (g_keptAt : Value) (fr : Nat → Int32) (fh : Nat → Int32) (a : Int32) (v : Int32) (hci : Int) (ai : Int) (vi : Int) (hhc : hc.toInt = hci) (ha : a.toInt = ai) (hv : v.toInt = vi) (hc0 : 0 ≤ hci ∧ hci ≤ 16) : Ct l G yX11_lead cX11_lead 4 (some .int) { frames := 2, cells := 0, slots := 0, locals := 46 } [.ref mo, .int a, .int v] [(mo, ob 11 [.int th, g_rows, g_row, .int hc, .ref r_planeOf, .ref r_holeX, .ref r_holeY, .ref r_room, .ref r_ounces, .ref r_deepOf, .int sc, .ref r_factor, .ref r_otherOf, .ref r_isApart, g_apartX, g_apartY, .int cc, .ref r_weight, .ref r_tape, .int n, .int p, .int lim, .int fi, g_crossOf, g_trueX, g_trueY, g_thoughtX, g_thoughtY, g_poundHole, g_poundOunces, g_lead, g_trials, g_trialSpeed, g_isWhole, g_trialX, g_trialY, g_trialGive, g_trialLead, g_baseX, g_baseY, g_timesPull, g_trialBaseX, g_trialBaseY, g_trialTimes, g_pulls, g_pullMany, g_sizes, g_merged, g_nextHole, g_nextOunces, g_leftBehind, g_manUp, g_manLow, g_asked, g_lowOf, g_highOf, g_tried, g_found, g_askedMany, g_mostHoles, g_isFound, g_foundRest, g_foundOunces, g_question, g_questionSpeed, g_ounceRest, g_parts, g_filled, g_cogAt, g_cogBest, g_isOrdered, g_orderSize, g_isKept, g_kept, g_keptAt]), (r_room, aI G 16 fr), (r_ounces, aI G 16 fh)] (fun r w1 => ∃ (rz : Int32), ∃ (fh2 : Nat → Int32), (rz = (mLead hci fr fh a v).1) ∧ (fh2 = (mLead hci fr fh a v).2) ∧ r = some (.int rz) ∧ w1 = [(mo, ob 11 [.int (0 : Int32), g_rows, g_row, .int hc, .ref r_planeOf, .ref r_holeX, .ref r_holeY, .ref r_room, .ref r_ounces, .ref r_deepOf, .int sc, .ref r_factor, .ref r_otherOf, .ref r_isApart, g_apartX, g_apartY, .int cc, .ref r_weight, .ref r_tape, .int n, .int p, .int lim, .int fi, g_crossOf, g_trueX, g_trueY, g_thoughtX, g_thoughtY, g_poundHole, g_poundOunces, g_lead, g_trials, g_trialSpeed, g_isWhole, g_trialX, g_trialY, g_trialGive, g_trialLead, g_baseX, g_baseY, g_timesPull, g_trialBaseX, g_trialBaseY, g_trialTimes, g_pulls, g_pullMany, g_sizes, g_merged, g_nextHole, g_nextOunces, g_leftBehind, g_manUp, g_manLow, g_asked, g_lowOf, g_highOf, g_tried, g_found, g_askedMany, g_mostHoles, g_isFound, g_foundRest, g_foundOunces, g_question, g_questionSpeed, g_ounceRest, g_parts, g_filled, g_cogAt, g_cogBest, g_isOrdered, g_orderSize, g_isKept, g_kept, g_keptAt]), (r_room, aI G 16 fr), (r_ounces, aI G 16 fh2)]) := by
  refine ct_of [(0, .ref mo), (1, .int a), (2, .int v)] (by decide) (Nat.le_of_ble_eq_true rfl) rfl ?_
  intro p0 e0 s0 m0 args0 below0 meth0 c0 A X
  refine z_run X bl_X11_lead_0_2 kl_X11_lead_0_2 (lv' := [(0, .ref mo), (1, .int a), (2, .int v)]) (st' := [.int 0, .ref mo]) rfl ?_
  refine z_put X fl_11_3 dl_X11_lead_2 0 rfl (ty := .int) (T := TX11) (N := 75) rfl (Or.inl rfl) (by decide +kernel) rfl (by rfl) (Nat.le_of_ble_eq_true rfl) (ws' := [(mo, ob 11 [.int 0, g_rows, g_row, .int hc, .ref r_planeOf, .ref r_holeX, .ref r_holeY, .ref r_room, .ref r_ounces, .ref r_deepOf, .int sc, .ref r_factor, .ref r_otherOf, .ref r_isApart, g_apartX, g_apartY, .int cc, .ref r_weight, .ref r_tape, .int n, .int p, .int lim, .int fi, g_crossOf, g_trueX, g_trueY, g_thoughtX, g_thoughtY, g_poundHole, g_poundOunces, g_lead, g_trials, g_trialSpeed, g_isWhole, g_trialX, g_trialY, g_trialGive, g_trialLead, g_baseX, g_baseY, g_timesPull, g_trialBaseX, g_trialBaseY, g_trialTimes, g_pulls, g_pullMany, g_sizes, g_merged, g_nextHole, g_nextOunces, g_leftBehind, g_manUp, g_manLow, g_asked, g_lowOf, g_highOf, g_tried, g_found, g_askedMany, g_mostHoles, g_isFound, g_foundRest, g_foundOunces, g_question, g_questionSpeed, g_ounceRest, g_parts, g_filled, g_cogAt, g_cogBest, g_isOrdered, g_orderSize, g_isKept, g_kept, g_keptAt]), (r_room, aI G 16 fr), (r_ounces, aI G 16 fh)]) rfl ?_
  refine z_run X bl_X11_lead_5_7 kl_X11_lead_5_7 (lv' := [(0, .ref mo), (1, .int a), (2, .int v)]) (st' := [.int a, .ref mo]) rfl ?_
  refine z_callV X k_11_115 (cl_X11_isHole l G mo 0 g_rows g_row hc r_planeOf r_holeX r_holeY r_room r_ounces r_deepOf sc r_factor r_otherOf r_isApart g_apartX g_apartY cc r_weight r_tape n p lim fi g_crossOf g_trueX g_trueY g_thoughtX g_thoughtY g_poundHole g_poundOunces g_lead g_trials g_trialSpeed g_isWhole g_trialX g_trialY g_trialGive g_trialLead g_baseX g_baseY g_timesPull g_trialBaseX g_trialBaseY g_trialTimes g_pulls g_pullMany g_sizes g_merged g_nextHole g_nextOunces g_leftBehind g_manUp g_manLow g_asked g_lowOf g_highOf g_tried g_found g_askedMany g_mostHoles g_isFound g_foundRest g_foundOunces g_question g_questionSpeed g_ounceRest g_parts g_filled g_cogAt g_cogBest g_isOrdered g_orderSize g_isKept g_kept g_keptAt a hci ai hhc ha (by omega)) dl_X11_lead_7 0 rfl rfl rfl ⟨Nat.le_of_ble_eq_true rfl, Nat.le_of_ble_eq_true rfl⟩ ⟨Nat.le_of_ble_eq_true rfl, Nat.le_of_ble_eq_true rfl⟩ rfl (rest := []) (As := [.int a]) rfl (Nat.le_of_ble_eq_true rfl) [0] [1, 2] rfl (by decide) (wr := [(r_room, aI G 16 fr), (r_ounces, aI G 16 fh)]) rfl (by decide) (by decide) ?_
  rintro _ _ ⟨rfl, rfl⟩
  refine Z.at (pc' := 10) (st' := [.int (zb (decide (0 ≤ ai ∧ ai < hci)))]) (ws' := [(r_room, aI G 16 fr), (r_ounces, aI G 16 fh), (mo, ob 11 [.int 0, g_rows, g_row, .int hc, .ref r_planeOf, .ref r_holeX, .ref r_holeY, .ref r_room, .ref r_ounces, .ref r_deepOf, .int sc, .ref r_factor, .ref r_otherOf, .ref r_isApart, g_apartX, g_apartY, .int cc, .ref r_weight, .ref r_tape, .int n, .int p, .int lim, .int fi, g_crossOf, g_trueX, g_trueY, g_thoughtX, g_thoughtY, g_poundHole, g_poundOunces, g_lead, g_trials, g_trialSpeed, g_isWhole, g_trialX, g_trialY, g_trialGive, g_trialLead, g_baseX, g_baseY, g_timesPull, g_trialBaseX, g_trialBaseY, g_trialTimes, g_pulls, g_pullMany, g_sizes, g_merged, g_nextHole, g_nextOunces, g_leftBehind, g_manUp, g_manLow, g_asked, g_lowOf, g_highOf, g_tried, g_found, g_askedMany, g_mostHoles, g_isFound, g_foundRest, g_foundOunces, g_question, g_questionSpeed, g_ounceRest, g_parts, g_filled, g_cogAt, g_cogBest, g_isOrdered, g_orderSize, g_isKept, g_kept, g_keptAt])]) (kc' := 0) (ks' := 0) rfl rfl rfl rfl rfl ?_
  refine zi_eq_zb X dl_X11_lead_10 (tgt := 29) (by decide) (fun c10_1 => ?_) (fun c10_1 => ?_)
  ·
    refine z_run X bl_X11_lead_29_30 kl_X11_lead_29_30 (lv' := [(0, .ref mo), (1, .int a), (2, .int v)]) (st' := [.int (-1)]) rfl ?_
    refine Z.sub (lv' := []) [] rfl [2, 0, 1] (ws' := [(mo, ob 11 [.int 0, g_rows, g_row, .int hc, .ref r_planeOf, .ref r_holeX, .ref r_holeY, .ref r_room, .ref r_ounces, .ref r_deepOf, .int sc, .ref r_factor, .ref r_otherOf, .ref r_isApart, g_apartX, g_apartY, .int cc, .ref r_weight, .ref r_tape, .int n, .int p, .int lim, .int fi, g_crossOf, g_trueX, g_trueY, g_thoughtX, g_thoughtY, g_poundHole, g_poundOunces, g_lead, g_trials, g_trialSpeed, g_isWhole, g_trialX, g_trialY, g_trialGive, g_trialLead, g_baseX, g_baseY, g_timesPull, g_trialBaseX, g_trialBaseY, g_trialTimes, g_pulls, g_pullMany, g_sizes, g_merged, g_nextHole, g_nextOunces, g_leftBehind, g_manUp, g_manLow, g_asked, g_lowOf, g_highOf, g_tried, g_found, g_askedMany, g_mostHoles, g_isFound, g_foundRest, g_foundOunces, g_question, g_questionSpeed, g_ounceRest, g_parts, g_filled, g_cogAt, g_cogBest, g_isOrdered, g_orderSize, g_isKept, g_kept, g_keptAt]), (r_room, aI G 16 fr), (r_ounces, aI G 16 fh)]) rfl (by decide) ?_
    exact z_iret X rfl dl_X11_lead_30 (Nat.le_of_ble_eq_true rfl) (Nat.le_of_ble_eq_true rfl) ⟨((-1) : Int32), fh, (by unfold mLead; first | (rw [if_pos (by omega)]; done) | (rw [if_neg (by omega)]; done) | (rw [if_neg (by omega), if_pos (by omega)]; done) | (rw [if_neg (by omega), if_neg (by omega)]; done)), (by unfold mLead; first | (rw [if_pos (by omega)]; done) | (rw [if_neg (by omega)]; done) | (rw [if_neg (by omega), if_pos (by omega)]; done) | (rw [if_neg (by omega), if_neg (by omega)]; done)), rfl, rfl⟩
  ·
    refine z_run X bl_X11_lead_13_17 kl_X11_lead_13_17 (lv' := [(0, .ref mo), (1, .int a), (2, .int v)]) (st' := [.ref mo, .long 0, .long v.toInt64]) rfl ?_
    refine z_get X fl_11_79 dl_X11_lead_17 2 rfl (v := .ref r_room) rfl ?_
    refine z_run X bl_X11_lead_20_21 kl_X11_lead_20_21 (lv' := [(0, .ref mo), (1, .int a), (2, .int v)]) (st' := [.int a, .ref r_room, .long 0, .long v.toInt64]) rfl ?_
    refine z_iald X dl_X11_lead_21 0 rfl (vin ha (by omega) (by omega)) (v := (fr a.toNatClampNeg)) rfl ?_
    refine z_run X bl_X11_lead_22_23 kl_X11_lead_22_23 (lv' := [(0, .ref mo), (1, .int a), (2, .int v)]) (st' := [.long (fr a.toNatClampNeg).toInt64, .long 0, .long v.toInt64]) rfl ?_
    refine z_callS X k_11_29 (cm_X11_in l G v.toInt64 0 (fr a.toNatClampNeg).toInt64 vi 0 ((fr a.toNatClampNeg).toInt) (tI64 hv) (show (0 : Int64).toInt = 0 from by decide) (tI64 rfl)) dl_X11_lead_23 ⟨Nat.le_of_ble_eq_true rfl, Nat.le_of_ble_eq_true rfl⟩ ⟨Nat.le_of_ble_eq_true rfl, Nat.le_of_ble_eq_true rfl⟩ rfl (rest := []) (As := [.long v.toInt64, .long 0, .long (fr a.toNatClampNeg).toInt64]) rfl (Nat.le_of_ble_eq_true rfl) [] [0, 1, 2] rfl (by decide) (wr := [(r_room, aI G 16 fr), (r_ounces, aI G 16 fh), (mo, ob 11 [.int 0, g_rows, g_row, .int hc, .ref r_planeOf, .ref r_holeX, .ref r_holeY, .ref r_room, .ref r_ounces, .ref r_deepOf, .int sc, .ref r_factor, .ref r_otherOf, .ref r_isApart, g_apartX, g_apartY, .int cc, .ref r_weight, .ref r_tape, .int n, .int p, .int lim, .int fi, g_crossOf, g_trueX, g_trueY, g_thoughtX, g_thoughtY, g_poundHole, g_poundOunces, g_lead, g_trials, g_trialSpeed, g_isWhole, g_trialX, g_trialY, g_trialGive, g_trialLead, g_baseX, g_baseY, g_timesPull, g_trialBaseX, g_trialBaseY, g_trialTimes, g_pulls, g_pullMany, g_sizes, g_merged, g_nextHole, g_nextOunces, g_leftBehind, g_manUp, g_manLow, g_asked, g_lowOf, g_highOf, g_tried, g_found, g_askedMany, g_mostHoles, g_isFound, g_foundRest, g_foundOunces, g_question, g_questionSpeed, g_ounceRest, g_parts, g_filled, g_cogAt, g_cogBest, g_isOrdered, g_orderSize, g_isKept, g_kept, g_keptAt])]) rfl (by decide) (by decide) ?_
    rintro _ _ ⟨rfl, rfl⟩
    refine Z.at (pc' := 26) (st' := [.int (zb (decide (0 ≤ vi ∧ vi ≤ ((fr a.toNatClampNeg).toInt))))]) (ws' := [(r_room, aI G 16 fr), (r_ounces, aI G 16 fh), (mo, ob 11 [.int 0, g_rows, g_row, .int hc, .ref r_planeOf, .ref r_holeX, .ref r_holeY, .ref r_room, .ref r_ounces, .ref r_deepOf, .int sc, .ref r_factor, .ref r_otherOf, .ref r_isApart, g_apartX, g_apartY, .int cc, .ref r_weight, .ref r_tape, .int n, .int p, .int lim, .int fi, g_crossOf, g_trueX, g_trueY, g_thoughtX, g_thoughtY, g_poundHole, g_poundOunces, g_lead, g_trials, g_trialSpeed, g_isWhole, g_trialX, g_trialY, g_trialGive, g_trialLead, g_baseX, g_baseY, g_timesPull, g_trialBaseX, g_trialBaseY, g_trialTimes, g_pulls, g_pullMany, g_sizes, g_merged, g_nextHole, g_nextOunces, g_leftBehind, g_manUp, g_manLow, g_asked, g_lowOf, g_highOf, g_tried, g_found, g_askedMany, g_mostHoles, g_isFound, g_foundRest, g_foundOunces, g_question, g_questionSpeed, g_ounceRest, g_parts, g_filled, g_cogAt, g_cogBest, g_isOrdered, g_orderSize, g_isKept, g_kept, g_keptAt])]) (kc' := 0) (ks' := 0) rfl rfl rfl rfl rfl ?_
    refine zi_ne_zb X dl_X11_lead_26 (tgt := 31) (by decide) (fun c26_2 => ?_) (fun c26_2 => ?_)
    ·
      refine z_run X bl_X11_lead_31_32 kl_X11_lead_31_32 (lv' := [(0, .ref mo), (1, .int a), (2, .int v)]) (st' := [.ref mo]) rfl ?_
      refine z_get X fl_11_82 dl_X11_lead_32 2 rfl (v := .ref r_ounces) rfl ?_
      refine z_run X bl_X11_lead_35_36 kl_X11_lead_35_36 (lv' := [(0, .ref mo), (1, .int a), (2, .int v)]) (st' := [.int a, .ref r_ounces]) rfl ?_
      refine z_iald X dl_X11_lead_36 1 rfl (vin ha (by omega) (by omega)) (v := (fh a.toNatClampNeg)) rfl ?_
      refine z_run X bl_X11_lead_37_39 kl_X11_lead_37_39 (lv' := [(3, .int (fh a.toNatClampNeg)), (0, .ref mo), (1, .int a), (2, .int v)]) (st' := [.ref mo]) rfl ?_
      refine z_get X fl_11_82 dl_X11_lead_39 2 rfl (v := .ref r_ounces) rfl ?_
      refine z_run X bl_X11_lead_42_44 kl_X11_lead_42_44 (lv' := [(3, .int (fh a.toNatClampNeg)), (0, .ref mo), (1, .int a), (2, .int v)]) (st' := [.int v, .int a, .ref r_ounces]) rfl ?_
      refine z_iast X dl_X11_lead_44 1 rfl (vin ha (by omega) (by omega)) (ws' := [(r_room, aI G 16 fr), (r_ounces, aI G 16 (upd fh a.toNatClampNeg v)), (mo, ob 11 [.int 0, g_rows, g_row, .int hc, .ref r_planeOf, .ref r_holeX, .ref r_holeY, .ref r_room, .ref r_ounces, .ref r_deepOf, .int sc, .ref r_factor, .ref r_otherOf, .ref r_isApart, g_apartX, g_apartY, .int cc, .ref r_weight, .ref r_tape, .int n, .int p, .int lim, .int fi, g_crossOf, g_trueX, g_trueY, g_thoughtX, g_thoughtY, g_poundHole, g_poundOunces, g_lead, g_trials, g_trialSpeed, g_isWhole, g_trialX, g_trialY, g_trialGive, g_trialLead, g_baseX, g_baseY, g_timesPull, g_trialBaseX, g_trialBaseY, g_trialTimes, g_pulls, g_pullMany, g_sizes, g_merged, g_nextHole, g_nextOunces, g_leftBehind, g_manUp, g_manLow, g_asked, g_lowOf, g_highOf, g_tried, g_found, g_askedMany, g_mostHoles, g_isFound, g_foundRest, g_foundOunces, g_question, g_questionSpeed, g_ounceRest, g_parts, g_filled, g_cogAt, g_cogBest, g_isOrdered, g_orderSize, g_isKept, g_kept, g_keptAt])]) rfl ?_
      refine z_run X bl_X11_lead_45_46 kl_X11_lead_45_46 (lv' := [(3, .int (fh a.toNatClampNeg)), (0, .ref mo), (1, .int a), (2, .int v)]) (st' := [.int (fh a.toNatClampNeg)]) rfl ?_
      refine Z.sub (lv' := []) [] rfl [2, 0, 1] (ws' := [(mo, ob 11 [.int 0, g_rows, g_row, .int hc, .ref r_planeOf, .ref r_holeX, .ref r_holeY, .ref r_room, .ref r_ounces, .ref r_deepOf, .int sc, .ref r_factor, .ref r_otherOf, .ref r_isApart, g_apartX, g_apartY, .int cc, .ref r_weight, .ref r_tape, .int n, .int p, .int lim, .int fi, g_crossOf, g_trueX, g_trueY, g_thoughtX, g_thoughtY, g_poundHole, g_poundOunces, g_lead, g_trials, g_trialSpeed, g_isWhole, g_trialX, g_trialY, g_trialGive, g_trialLead, g_baseX, g_baseY, g_timesPull, g_trialBaseX, g_trialBaseY, g_trialTimes, g_pulls, g_pullMany, g_sizes, g_merged, g_nextHole, g_nextOunces, g_leftBehind, g_manUp, g_manLow, g_asked, g_lowOf, g_highOf, g_tried, g_found, g_askedMany, g_mostHoles, g_isFound, g_foundRest, g_foundOunces, g_question, g_questionSpeed, g_ounceRest, g_parts, g_filled, g_cogAt, g_cogBest, g_isOrdered, g_orderSize, g_isKept, g_kept, g_keptAt]), (r_room, aI G 16 fr), (r_ounces, aI G 16 (upd fh a.toNatClampNeg v))]) rfl (by decide) ?_
      exact z_iret X rfl dl_X11_lead_46 (Nat.le_of_ble_eq_true rfl) (Nat.le_of_ble_eq_true rfl) ⟨(fh a.toNatClampNeg), (upd fh a.toNatClampNeg v), (by unfold mLead; first | (rw [if_pos (by omega)]; done) | (rw [if_neg (by omega)]; done) | (rw [if_neg (by omega), if_pos (by omega)]; done) | (rw [if_neg (by omega), if_neg (by omega)]; done)), (by unfold mLead; first | (rw [if_pos (by omega)]; done) | (rw [if_neg (by omega)]; done) | (rw [if_neg (by omega), if_pos (by omega)]; done) | (rw [if_neg (by omega), if_neg (by omega)]; done)), rfl, rfl⟩
    ·
      refine z_run X bl_X11_lead_29_30 kl_X11_lead_29_30 (lv' := [(0, .ref mo), (1, .int a), (2, .int v)]) (st' := [.int (-1)]) rfl ?_
      refine Z.sub (lv' := []) [] rfl [2, 0, 1] (ws' := [(mo, ob 11 [.int 0, g_rows, g_row, .int hc, .ref r_planeOf, .ref r_holeX, .ref r_holeY, .ref r_room, .ref r_ounces, .ref r_deepOf, .int sc, .ref r_factor, .ref r_otherOf, .ref r_isApart, g_apartX, g_apartY, .int cc, .ref r_weight, .ref r_tape, .int n, .int p, .int lim, .int fi, g_crossOf, g_trueX, g_trueY, g_thoughtX, g_thoughtY, g_poundHole, g_poundOunces, g_lead, g_trials, g_trialSpeed, g_isWhole, g_trialX, g_trialY, g_trialGive, g_trialLead, g_baseX, g_baseY, g_timesPull, g_trialBaseX, g_trialBaseY, g_trialTimes, g_pulls, g_pullMany, g_sizes, g_merged, g_nextHole, g_nextOunces, g_leftBehind, g_manUp, g_manLow, g_asked, g_lowOf, g_highOf, g_tried, g_found, g_askedMany, g_mostHoles, g_isFound, g_foundRest, g_foundOunces, g_question, g_questionSpeed, g_ounceRest, g_parts, g_filled, g_cogAt, g_cogBest, g_isOrdered, g_orderSize, g_isKept, g_kept, g_keptAt]), (r_room, aI G 16 fr), (r_ounces, aI G 16 fh)]) rfl (by decide) ?_
      exact z_iret X rfl dl_X11_lead_30 (Nat.le_of_ble_eq_true rfl) (Nat.le_of_ble_eq_true rfl) ⟨((-1) : Int32), fh, (by unfold mLead; first | (rw [if_pos (by omega)]; done) | (rw [if_neg (by omega)]; done) | (rw [if_neg (by omega), if_pos (by omega)]; done) | (rw [if_neg (by omega), if_neg (by omega)]; done)), (by unfold mLead; first | (rw [if_pos (by omega)]; done) | (rw [if_neg (by omega)]; done) | (rw [if_neg (by omega), if_pos (by omega)]; done) | (rw [if_neg (by omega), if_neg (by omega)]; done)), rfl, rfl⟩

theorem dl_X10_pound_2 : decode cX10_pound 2 = .ok (.if_icmp .ne 21, 3) := by decide +kernel
theorem dl_X10_pound_24 : decode cX10_pound 24 = .ok (.getfield 26, 3) := by decide +kernel
theorem dl_X10_pound_28 : decode cX10_pound 28 = .ok (.invokevirtual 106, 3) := by decide +kernel
theorem dl_X10_pound_31 : decode cX10_pound 31 = .ok (.ifCond .eq 14, 3) := by decide +kernel
theorem dl_X10_pound_46 : decode cX10_pound 46 = .ok (.ireturn, 1) := by decide +kernel
theorem dl_X10_pound_36 : decode cX10_pound 36 = .ok (.if_icmp .lt 9, 3) := by decide +kernel
theorem dl_X10_pound_42 : decode cX10_pound 42 = .ok (.if_icmp .le 5, 3) := by decide +kernel
theorem dl_X10_pound_48 : decode cX10_pound 48 = .ok (.getfield 26, 3) := by decide +kernel
theorem dl_X10_pound_52 : decode cX10_pound 52 = .ok (.putfield 167, 3) := by decide +kernel
theorem dl_X10_pound_56 : decode cX10_pound 56 = .ok (.getfield 26, 3) := by decide +kernel
theorem dl_X10_pound_60 : decode cX10_pound 60 = .ok (.putfield 170, 3) := by decide +kernel
theorem dl_X10_pound_64 : decode cX10_pound 64 = .ok (.ireturn, 1) := by decide +kernel
theorem dl_X10_pound_6 : decode cX10_pound 6 = .ok (.getfield 26, 3) := by decide +kernel
theorem dl_X10_pound_10 : decode cX10_pound 10 = .ok (.putfield 167, 3) := by decide +kernel
theorem dl_X10_pound_14 : decode cX10_pound 14 = .ok (.getfield 26, 3) := by decide +kernel
theorem dl_X10_pound_18 : decode cX10_pound 18 = .ok (.putfield 170, 3) := by decide +kernel
theorem dl_X10_pound_22 : decode cX10_pound 22 = .ok (.ireturn, 1) := by decide +kernel
abbrev bl_X10_pound_0_2 : ZB := [(.iload_n 1, .null), (.iconst (-1), .int (-1))]
theorem kl_X10_pound_0_2 : zchk cX10_pound bl_X10_pound_0_2 0 = true ∧ zpc bl_X10_pound_0_2 0 = 2 := ⟨by decide +kernel, rfl⟩
abbrev bl_X10_pound_23_24 : ZB := [(.aload_n 0, .null)]
theorem kl_X10_pound_23_24 : zchk cX10_pound bl_X10_pound_23_24 23 = true ∧ zpc bl_X10_pound_23_24 23 = 24 := ⟨by decide +kernel, rfl⟩
abbrev bl_X10_pound_27_28 : ZB := [(.iload_n 1, .null)]
theorem kl_X10_pound_27_28 : zchk cX10_pound bl_X10_pound_27_28 27 = true ∧ zpc bl_X10_pound_27_28 27 = 28 := ⟨by decide +kernel, rfl⟩
abbrev bl_X10_pound_45_46 : ZB := [(.iconst 0, .int 0)]
theorem kl_X10_pound_45_46 : zchk cX10_pound bl_X10_pound_45_46 45 = true ∧ zpc bl_X10_pound_45_46 45 = 46 := ⟨by decide +kernel, rfl⟩
abbrev bl_X10_pound_34_36 : ZB := [(.iload_n 2, .null), (.iconst 1, .int 1)]
theorem kl_X10_pound_34_36 : zchk cX10_pound bl_X10_pound_34_36 34 = true ∧ zpc bl_X10_pound_34_36 34 = 36 := ⟨by decide +kernel, rfl⟩
abbrev bl_X10_pound_39_42 : ZB := [(.iload_n 2, .null), (.bipush 20, .int 20)]
theorem kl_X10_pound_39_42 : zchk cX10_pound bl_X10_pound_39_42 39 = true ∧ zpc bl_X10_pound_39_42 39 = 42 := ⟨by decide +kernel, rfl⟩
abbrev bl_X10_pound_47_48 : ZB := [(.aload_n 0, .null)]
theorem kl_X10_pound_47_48 : zchk cX10_pound bl_X10_pound_47_48 47 = true ∧ zpc bl_X10_pound_47_48 47 = 48 := ⟨by decide +kernel, rfl⟩
abbrev bl_X10_pound_51_52 : ZB := [(.iload_n 1, .null)]
theorem kl_X10_pound_51_52 : zchk cX10_pound bl_X10_pound_51_52 51 = true ∧ zpc bl_X10_pound_51_52 51 = 52 := ⟨by decide +kernel, rfl⟩
abbrev bl_X10_pound_55_56 : ZB := [(.aload_n 0, .null)]
theorem kl_X10_pound_55_56 : zchk cX10_pound bl_X10_pound_55_56 55 = true ∧ zpc bl_X10_pound_55_56 55 = 56 := ⟨by decide +kernel, rfl⟩
abbrev bl_X10_pound_59_60 : ZB := [(.iload_n 2, .null)]
theorem kl_X10_pound_59_60 : zchk cX10_pound bl_X10_pound_59_60 59 = true ∧ zpc bl_X10_pound_59_60 59 = 60 := ⟨by decide +kernel, rfl⟩
abbrev bl_X10_pound_63_64 : ZB := [(.iconst 1, .int 1)]
theorem kl_X10_pound_63_64 : zchk cX10_pound bl_X10_pound_63_64 63 = true ∧ zpc bl_X10_pound_63_64 63 = 64 := ⟨by decide +kernel, rfl⟩
abbrev bl_X10_pound_5_6 : ZB := [(.aload_n 0, .null)]
theorem kl_X10_pound_5_6 : zchk cX10_pound bl_X10_pound_5_6 5 = true ∧ zpc bl_X10_pound_5_6 5 = 6 := ⟨by decide +kernel, rfl⟩
abbrev bl_X10_pound_9_10 : ZB := [(.iconst (-1), .int (-1))]
theorem kl_X10_pound_9_10 : zchk cX10_pound bl_X10_pound_9_10 9 = true ∧ zpc bl_X10_pound_9_10 9 = 10 := ⟨by decide +kernel, rfl⟩
abbrev bl_X10_pound_13_14 : ZB := [(.aload_n 0, .null)]
theorem kl_X10_pound_13_14 : zchk cX10_pound bl_X10_pound_13_14 13 = true ∧ zpc bl_X10_pound_13_14 13 = 14 := ⟨by decide +kernel, rfl⟩
abbrev bl_X10_pound_17_18 : ZB := [(.iconst 0, .int 0)]
theorem kl_X10_pound_17_18 : zchk cX10_pound bl_X10_pound_17_18 17 = true ∧ zpc bl_X10_pound_17_18 17 = 18 := ⟨by decide +kernel, rfl⟩
abbrev bl_X10_pound_21_22 : ZB := [(.iconst 1, .int 1)]
theorem kl_X10_pound_21_22 : zchk cX10_pound bl_X10_pound_21_22 21 = true ∧ zpc bl_X10_pound_21_22 21 = 22 := ⟨by decide +kernel, rfl⟩
set_option maxHeartbeats 4000000 in
set_option maxRecDepth 100000 in
theorem cl_X10_pound (l : Launch) (G : KG) (x : Nat) (x_told : Value) (x_reader : Value) (ring : Nat) (x_speeds : Value) (x_wheel : Value) (x_trials : Value) (x_span : Value) (x_search : Value) (x_kept : Value) (x_crosses : Value) (x_trueMasses : Value) (x_thought : Value) (x_up : Value) (x_low : Value) (x_fits : Value) (x_pulls : Value) (ring : Nat) (hc : Int32) (g_rp : Value) (g_rx : Value) (g_ry : Value) (g_rr : Value) (g_rh : Value) (g_rd : Value) (ph : Int32) (po : Int32) (a : Int32) (v : Int32) (hci : Int) (ai : Int) (vi : Int) (hhc : hc.toInt = hci) (ha : a.toInt = ai) (hv : v.toInt = vi) (hc0 : 0 ≤ hci ∧ hci ≤ 16) : Ct l G yX10_pound cX10_pound 3 (some .boolean) { frames := 1, cells := 0, slots := 0, locals := 21 } [.ref x, .int a, .int v] [(x, ob 10 [x_told, x_reader, .ref ring, x_speeds, x_wheel, x_trials, x_span, x_search, x_kept, x_crosses, x_trueMasses, x_thought, x_up, x_low, x_fits, x_pulls]), (ring, ob 5 [.int hc, g_rp, g_rx, g_ry, g_rr, g_rh, g_rd, .int ph, .int po])] (fun r w1 => ∃ (rz : Int32), ∃ (ph2 : Int32), ∃ (po2 : Int32), (rz = (mPound hci ph po a v).1) ∧ (ph2 = (mPound hci ph po a v).2.1) ∧ (po2 = (mPound hci ph po a v).2.2) ∧ r = some (.int rz) ∧ w1 = [(x, ob 10 [x_told, x_reader, .ref ring, x_speeds, x_wheel, x_trials, x_span, x_search, x_kept, x_crosses, x_trueMasses, x_thought, x_up, x_low, x_fits, x_pulls]), (ring, ob 5 [.int hc, g_rp, g_rx, g_ry, g_rr, g_rh, g_rd, .int ph2, .int po2])]) := by
  refine ct_of [(0, .ref x), (1, .int a), (2, .int v)] (by decide) (Nat.le_of_ble_eq_true rfl) rfl ?_
  intro p0 e0 s0 m0 args0 below0 meth0 c0 A X
  refine z_run X bl_X10_pound_0_2 kl_X10_pound_0_2 (lv' := [(0, .ref x), (1, .int a), (2, .int v)]) (st' := [.int (-1), .int a]) rfl ?_
  refine zc_ne X dl_X10_pound_2 (tgt := 23) (by decide) (a := ai) (b := (-1)) ha (show ((-1) : Int32).toInt = (-1) from by decide) (fun c2_1 => ?_) (fun c2_1 => ?_)
  ·
    refine z_run X bl_X10_pound_23_24 kl_X10_pound_23_24 (lv' := [(0, .ref x), (1, .int a), (2, .int v)]) (st' := [.ref x]) rfl ?_
    refine z_get X fl_10_26 dl_X10_pound_24 0 rfl (v := .ref ring) rfl ?_
    refine z_run X bl_X10_pound_27_28 kl_X10_pound_27_28 (lv' := [(0, .ref x), (1, .int a), (2, .int v)]) (st' := [.int a, .ref ring]) rfl ?_
    refine z_callV X k_10_106 (cl_X5_isHole l G ring hc g_rp g_rx g_ry g_rr g_rh g_rd (.int ph) (.int po) a hci ai hhc ha) dl_X10_pound_28 1 rfl rfl rfl ⟨Nat.le_of_ble_eq_true rfl, Nat.le_of_ble_eq_true rfl⟩ ⟨Nat.le_of_ble_eq_true rfl, Nat.le_of_ble_eq_true rfl⟩ rfl (rest := []) (As := [.int a]) rfl (Nat.le_of_ble_eq_true rfl) [1] [0] rfl (by decide) (wr := [(x, ob 10 [x_told, x_reader, .ref ring, x_speeds, x_wheel, x_trials, x_span, x_search, x_kept, x_crosses, x_trueMasses, x_thought, x_up, x_low, x_fits, x_pulls])]) rfl (by decide) (by decide) ?_
    rintro _ _ ⟨rfl, rfl⟩
    refine Z.at (pc' := 31) (st' := [.int (zb (decide (0 ≤ ai ∧ ai < hci)))]) (ws' := [(x, ob 10 [x_told, x_reader, .ref ring, x_speeds, x_wheel, x_trials, x_span, x_search, x_kept, x_crosses, x_trueMasses, x_thought, x_up, x_low, x_fits, x_pulls]), (ring, ob 5 [.int hc, g_rp, g_rx, g_ry, g_rr, g_rh, g_rd, .int ph, .int po])]) (kc' := 0) (ks' := 0) rfl rfl rfl rfl rfl ?_
    refine zi_eq_zb X dl_X10_pound_31 (tgt := 45) (by decide) (fun c31_2 => ?_) (fun c31_2 => ?_)
    ·
      refine z_run X bl_X10_pound_45_46 kl_X10_pound_45_46 (lv' := [(0, .ref x), (1, .int a), (2, .int v)]) (st' := [.int 0]) rfl ?_
      exact z_zret X rfl rfl dl_X10_pound_46 (Nat.le_of_ble_eq_true rfl) (Nat.le_of_ble_eq_true rfl) ⟨(0 : Int32), ph, po, (by unfold mPound; first | (rw [if_pos (by omega)]; done) | (rw [if_neg (by omega)]; done) | (rw [if_neg (by omega), if_pos (by omega)]; done) | (rw [if_neg (by omega), if_neg (by omega)]; done)), (by unfold mPound; first | (rw [if_pos (by omega)]; done) | (rw [if_neg (by omega)]; done) | (rw [if_neg (by omega), if_pos (by omega)]; done) | (rw [if_neg (by omega), if_neg (by omega)]; done)), (by unfold mPound; first | (rw [if_pos (by omega)]; done) | (rw [if_neg (by omega)]; done) | (rw [if_neg (by omega), if_pos (by omega)]; done) | (rw [if_neg (by omega), if_neg (by omega)]; done)), rfl, rfl⟩
    ·
      refine z_run X bl_X10_pound_34_36 kl_X10_pound_34_36 (lv' := [(0, .ref x), (1, .int a), (2, .int v)]) (st' := [.int 1, .int v]) rfl ?_
      refine zc_lt X dl_X10_pound_36 (tgt := 45) (by decide) (a := vi) (b := 1) hv (show (1 : Int32).toInt = 1 from by decide) (fun c36_3 => ?_) (fun c36_3 => ?_)
      ·
        refine z_run X bl_X10_pound_45_46 kl_X10_pound_45_46 (lv' := [(0, .ref x), (1, .int a), (2, .int v)]) (st' := [.int 0]) rfl ?_
        exact z_zret X rfl rfl dl_X10_pound_46 (Nat.le_of_ble_eq_true rfl) (Nat.le_of_ble_eq_true rfl) ⟨(0 : Int32), ph, po, (by unfold mPound; first | (rw [if_pos (by omega)]; done) | (rw [if_neg (by omega)]; done) | (rw [if_neg (by omega), if_pos (by omega)]; done) | (rw [if_neg (by omega), if_neg (by omega)]; done)), (by unfold mPound; first | (rw [if_pos (by omega)]; done) | (rw [if_neg (by omega)]; done) | (rw [if_neg (by omega), if_pos (by omega)]; done) | (rw [if_neg (by omega), if_neg (by omega)]; done)), (by unfold mPound; first | (rw [if_pos (by omega)]; done) | (rw [if_neg (by omega)]; done) | (rw [if_neg (by omega), if_pos (by omega)]; done) | (rw [if_neg (by omega), if_neg (by omega)]; done)), rfl, rfl⟩
      ·
        refine z_run X bl_X10_pound_39_42 kl_X10_pound_39_42 (lv' := [(0, .ref x), (1, .int a), (2, .int v)]) (st' := [.int 20, .int v]) rfl ?_
        refine zc_le X dl_X10_pound_42 (tgt := 47) (by decide) (a := vi) (b := 20) hv (show (20 : Int32).toInt = 20 from by decide) (fun c42_4 => ?_) (fun c42_4 => ?_)
        ·
          refine z_run X bl_X10_pound_47_48 kl_X10_pound_47_48 (lv' := [(0, .ref x), (1, .int a), (2, .int v)]) (st' := [.ref x]) rfl ?_
          refine z_get X fl_10_26 dl_X10_pound_48 0 rfl (v := .ref ring) rfl ?_
          refine z_run X bl_X10_pound_51_52 kl_X10_pound_51_52 (lv' := [(0, .ref x), (1, .int a), (2, .int v)]) (st' := [.int a, .ref ring]) rfl ?_
          refine z_putN X fl_10_167 dl_X10_pound_52 1 rfl (ty := .int) (T := TX5) (N := 9) rfl rfl (by decide +kernel) rfl (by rfl) (Nat.le_of_ble_eq_true rfl) (ws' := [(x, ob 10 [x_told, x_reader, .ref ring, x_speeds, x_wheel, x_trials, x_span, x_search, x_kept, x_crosses, x_trueMasses, x_thought, x_up, x_low, x_fits, x_pulls]), (ring, ob 5 [.int hc, g_rp, g_rx, g_ry, g_rr, g_rh, g_rd, .int a, .int po])]) rfl ?_
          refine z_run X bl_X10_pound_55_56 kl_X10_pound_55_56 (lv' := [(0, .ref x), (1, .int a), (2, .int v)]) (st' := [.ref x]) rfl ?_
          refine z_get X fl_10_26 dl_X10_pound_56 0 rfl (v := .ref ring) rfl ?_
          refine z_run X bl_X10_pound_59_60 kl_X10_pound_59_60 (lv' := [(0, .ref x), (1, .int a), (2, .int v)]) (st' := [.int v, .ref ring]) rfl ?_
          refine z_putN X fl_10_170 dl_X10_pound_60 1 rfl (ty := .int) (T := TX5) (N := 9) rfl rfl (by decide +kernel) rfl (by rfl) (Nat.le_of_ble_eq_true rfl) (ws' := [(x, ob 10 [x_told, x_reader, .ref ring, x_speeds, x_wheel, x_trials, x_span, x_search, x_kept, x_crosses, x_trueMasses, x_thought, x_up, x_low, x_fits, x_pulls]), (ring, ob 5 [.int hc, g_rp, g_rx, g_ry, g_rr, g_rh, g_rd, .int a, .int v])]) rfl ?_
          refine z_run X bl_X10_pound_63_64 kl_X10_pound_63_64 (lv' := [(0, .ref x), (1, .int a), (2, .int v)]) (st' := [.int 1]) rfl ?_
          exact z_zret X rfl rfl dl_X10_pound_64 (Nat.le_of_ble_eq_true rfl) (Nat.le_of_ble_eq_true rfl) ⟨(1 : Int32), a, v, (by unfold mPound; first | (rw [if_pos (by omega)]; done) | (rw [if_neg (by omega)]; done) | (rw [if_neg (by omega), if_pos (by omega)]; done) | (rw [if_neg (by omega), if_neg (by omega)]; done)), (by unfold mPound; first | (rw [if_pos (by omega)]; done) | (rw [if_neg (by omega)]; done) | (rw [if_neg (by omega), if_pos (by omega)]; done) | (rw [if_neg (by omega), if_neg (by omega)]; done)), (by unfold mPound; first | (rw [if_pos (by omega)]; done) | (rw [if_neg (by omega)]; done) | (rw [if_neg (by omega), if_pos (by omega)]; done) | (rw [if_neg (by omega), if_neg (by omega)]; done)), rfl, rfl⟩
        ·
          refine z_run X bl_X10_pound_45_46 kl_X10_pound_45_46 (lv' := [(0, .ref x), (1, .int a), (2, .int v)]) (st' := [.int 0]) rfl ?_
          exact z_zret X rfl rfl dl_X10_pound_46 (Nat.le_of_ble_eq_true rfl) (Nat.le_of_ble_eq_true rfl) ⟨(0 : Int32), ph, po, (by unfold mPound; first | (rw [if_pos (by omega)]; done) | (rw [if_neg (by omega)]; done) | (rw [if_neg (by omega), if_pos (by omega)]; done) | (rw [if_neg (by omega), if_neg (by omega)]; done)), (by unfold mPound; first | (rw [if_pos (by omega)]; done) | (rw [if_neg (by omega)]; done) | (rw [if_neg (by omega), if_pos (by omega)]; done) | (rw [if_neg (by omega), if_neg (by omega)]; done)), (by unfold mPound; first | (rw [if_pos (by omega)]; done) | (rw [if_neg (by omega)]; done) | (rw [if_neg (by omega), if_pos (by omega)]; done) | (rw [if_neg (by omega), if_neg (by omega)]; done)), rfl, rfl⟩
  ·
    refine z_run X bl_X10_pound_5_6 kl_X10_pound_5_6 (lv' := [(0, .ref x), (1, .int a), (2, .int v)]) (st' := [.ref x]) rfl ?_
    refine z_get X fl_10_26 dl_X10_pound_6 0 rfl (v := .ref ring) rfl ?_
    refine z_run X bl_X10_pound_9_10 kl_X10_pound_9_10 (lv' := [(0, .ref x), (1, .int a), (2, .int v)]) (st' := [.int (-1), .ref ring]) rfl ?_
    refine z_putN X fl_10_167 dl_X10_pound_10 1 rfl (ty := .int) (T := TX5) (N := 9) rfl rfl (by decide +kernel) rfl (by rfl) (Nat.le_of_ble_eq_true rfl) (ws' := [(x, ob 10 [x_told, x_reader, .ref ring, x_speeds, x_wheel, x_trials, x_span, x_search, x_kept, x_crosses, x_trueMasses, x_thought, x_up, x_low, x_fits, x_pulls]), (ring, ob 5 [.int hc, g_rp, g_rx, g_ry, g_rr, g_rh, g_rd, .int (-1), .int po])]) rfl ?_
    refine z_run X bl_X10_pound_13_14 kl_X10_pound_13_14 (lv' := [(0, .ref x), (1, .int a), (2, .int v)]) (st' := [.ref x]) rfl ?_
    refine z_get X fl_10_26 dl_X10_pound_14 0 rfl (v := .ref ring) rfl ?_
    refine z_run X bl_X10_pound_17_18 kl_X10_pound_17_18 (lv' := [(0, .ref x), (1, .int a), (2, .int v)]) (st' := [.int 0, .ref ring]) rfl ?_
    refine z_putN X fl_10_170 dl_X10_pound_18 1 rfl (ty := .int) (T := TX5) (N := 9) rfl rfl (by decide +kernel) rfl (by rfl) (Nat.le_of_ble_eq_true rfl) (ws' := [(x, ob 10 [x_told, x_reader, .ref ring, x_speeds, x_wheel, x_trials, x_span, x_search, x_kept, x_crosses, x_trueMasses, x_thought, x_up, x_low, x_fits, x_pulls]), (ring, ob 5 [.int hc, g_rp, g_rx, g_ry, g_rr, g_rh, g_rd, .int (-1), .int 0])]) rfl ?_
    refine z_run X bl_X10_pound_21_22 kl_X10_pound_21_22 (lv' := [(0, .ref x), (1, .int a), (2, .int v)]) (st' := [.int 1]) rfl ?_
    exact z_zret X rfl rfl dl_X10_pound_22 (Nat.le_of_ble_eq_true rfl) (Nat.le_of_ble_eq_true rfl) ⟨(1 : Int32), ((-1) : Int32), (0 : Int32), (by unfold mPound; first | (rw [if_pos (by omega)]; done) | (rw [if_neg (by omega)]; done) | (rw [if_neg (by omega), if_pos (by omega)]; done) | (rw [if_neg (by omega), if_neg (by omega)]; done)), (by unfold mPound; first | (rw [if_pos (by omega)]; done) | (rw [if_neg (by omega)]; done) | (rw [if_neg (by omega), if_pos (by omega)]; done) | (rw [if_neg (by omega), if_neg (by omega)]; done)), (by unfold mPound; first | (rw [if_pos (by omega)]; done) | (rw [if_neg (by omega)]; done) | (rw [if_neg (by omega), if_pos (by omega)]; done) | (rw [if_neg (by omega), if_neg (by omega)]; done)), rfl, rfl⟩

set_option maxHeartbeats 4000000 in
set_option maxRecDepth 100000 in
theorem cl_X11_isHoleP (l : Launch) (G : KG) (mo : Nat) (th : Int32) (g_rows : Value) (g_row : Value) (hc : Int32) (r_planeOf : Nat) (r_holeX : Nat) (r_holeY : Nat) (r_room : Nat) (r_ounces : Nat) (r_deepOf : Nat) (sc : Int32) (r_factor : Nat) (r_otherOf : Nat) (r_isApart : Nat) (g_apartX : Value) (g_apartY : Value) (cc : Int32) (r_weight : Nat) (r_tape : Nat) (n : Int32) (p : Int32) (lim : Int32) (fi : Int32) (g_crossOf : Value) (g_trueX : Value) (g_trueY : Value) (g_thoughtX : Value) (g_thoughtY : Value) (g_poundHole : Int32) (g_poundOunces : Int32) (g_lead : Value) (g_trials : Value) (g_trialSpeed : Value) (g_isWhole : Value) (g_trialX : Value) (g_trialY : Value) (g_trialGive : Value) (g_trialLead : Value) (g_baseX : Value) (g_baseY : Value) (g_timesPull : Value) (g_trialBaseX : Value) (g_trialBaseY : Value) (g_trialTimes : Value) (g_pulls : Value) (g_pullMany : Value) (g_sizes : Value) (g_merged : Value) (g_nextHole : Value) (g_nextOunces : Value) (g_leftBehind : Value) (g_manUp : Value) (g_manLow : Value) (g_asked : Value) (g_lowOf : Value) (g_highOf : Value) (g_tried : Value) (g_found : Value) (g_askedMany : Value) (g_mostHoles : Value) (g_isFound : Value) (g_foundRest : Value) (g_foundOunces : Value) (g_question : Value) (g_questionSpeed : Value) (g_ounceRest : Value) (g_parts : Value) (g_filled : Value) (g_cogAt : Value) (g_cogBest : Value) (g_isOrdered : Value) (g_orderSize : Value) (g_isKept : Value) (g_kept : Value) (g_keptAt : Value) (a : Int32) (hci : Int) (ai : Int) (hhc : hc.toInt = hci) (ha : a.toInt = ai) (hc0 : 0 ≤ hci ∧ hci ≤ 16) : Ct l G yX11_isHole cX11_isHole 2 (some .boolean) { frames := 1, cells := 0, slots := 0, locals := 25 } [.ref mo, .int a] [(mo, ob 11 [.int th, g_rows, g_row, .int hc, .ref r_planeOf, .ref r_holeX, .ref r_holeY, .ref r_room, .ref r_ounces, .ref r_deepOf, .int sc, .ref r_factor, .ref r_otherOf, .ref r_isApart, g_apartX, g_apartY, .int cc, .ref r_weight, .ref r_tape, .int n, .int p, .int lim, .int fi, g_crossOf, g_trueX, g_trueY, g_thoughtX, g_thoughtY, .int g_poundHole, .int g_poundOunces, g_lead, g_trials, g_trialSpeed, g_isWhole, g_trialX, g_trialY, g_trialGive, g_trialLead, g_baseX, g_baseY, g_timesPull, g_trialBaseX, g_trialBaseY, g_trialTimes, g_pulls, g_pullMany, g_sizes, g_merged, g_nextHole, g_nextOunces, g_leftBehind, g_manUp, g_manLow, g_asked, g_lowOf, g_highOf, g_tried, g_found, g_askedMany, g_mostHoles, g_isFound, g_foundRest, g_foundOunces, g_question, g_questionSpeed, g_ounceRest, g_parts, g_filled, g_cogAt, g_cogBest, g_isOrdered, g_orderSize, g_isKept, g_kept, g_keptAt])] (fun r w1 => r = some (.int (zb (decide (0 ≤ ai ∧ ai < hci)))) ∧ w1 = [(mo, ob 11 [.int th, g_rows, g_row, .int hc, .ref r_planeOf, .ref r_holeX, .ref r_holeY, .ref r_room, .ref r_ounces, .ref r_deepOf, .int sc, .ref r_factor, .ref r_otherOf, .ref r_isApart, g_apartX, g_apartY, .int cc, .ref r_weight, .ref r_tape, .int n, .int p, .int lim, .int fi, g_crossOf, g_trueX, g_trueY, g_thoughtX, g_thoughtY, .int g_poundHole, .int g_poundOunces, g_lead, g_trials, g_trialSpeed, g_isWhole, g_trialX, g_trialY, g_trialGive, g_trialLead, g_baseX, g_baseY, g_timesPull, g_trialBaseX, g_trialBaseY, g_trialTimes, g_pulls, g_pullMany, g_sizes, g_merged, g_nextHole, g_nextOunces, g_leftBehind, g_manUp, g_manLow, g_asked, g_lowOf, g_highOf, g_tried, g_found, g_askedMany, g_mostHoles, g_isFound, g_foundRest, g_foundOunces, g_question, g_questionSpeed, g_ounceRest, g_parts, g_filled, g_cogAt, g_cogBest, g_isOrdered, g_orderSize, g_isKept, g_kept, g_keptAt])]) := by
  refine ct_of [(0, .ref mo), (1, .int a)] (by decide) (Nat.le_of_ble_eq_true rfl) rfl ?_
  intro p0 e0 s0 m0 args0 below0 meth0 c0 A X
  refine z_run X bl_X11_isHole_0_4 kl_X11_isHole_0_4 (lv' := [(0, .ref mo), (1, .int a)]) (st' := [.ref mo, .long 0, .long a.toInt64]) rfl ?_
  refine z_get X fl_11_63 dl_X11_isHole_4 0 rfl (v := .int hc) rfl ?_
  refine z_run X bl_X11_isHole_7_10 kl_X11_isHole_7_10 (lv' := [(0, .ref mo), (1, .int a)]) (st' := [.long (hc - 1).toInt64, .long 0, .long a.toInt64]) rfl ?_
  refine z_callS X k_11_29 (cm_X11_in l G a.toInt64 0 (hc - 1).toInt64 ai 0 ((hci - 1)) (tI64 ha) (show (0 : Int64).toInt = 0 from by decide) (tI64 (tI_sub hhc (show (1 : Int32).toInt = 1 from by decide) (by omega)))) dl_X11_isHole_10 ⟨Nat.le_of_ble_eq_true rfl, Nat.le_of_ble_eq_true rfl⟩ ⟨Nat.le_of_ble_eq_true rfl, Nat.le_of_ble_eq_true rfl⟩ rfl (rest := []) (As := [.long a.toInt64, .long 0, .long (hc - 1).toInt64]) rfl (Nat.le_of_ble_eq_true rfl) [] [0] rfl (by decide) (wr := [(mo, ob 11 [.int th, g_rows, g_row, .int hc, .ref r_planeOf, .ref r_holeX, .ref r_holeY, .ref r_room, .ref r_ounces, .ref r_deepOf, .int sc, .ref r_factor, .ref r_otherOf, .ref r_isApart, g_apartX, g_apartY, .int cc, .ref r_weight, .ref r_tape, .int n, .int p, .int lim, .int fi, g_crossOf, g_trueX, g_trueY, g_thoughtX, g_thoughtY, .int g_poundHole, .int g_poundOunces, g_lead, g_trials, g_trialSpeed, g_isWhole, g_trialX, g_trialY, g_trialGive, g_trialLead, g_baseX, g_baseY, g_timesPull, g_trialBaseX, g_trialBaseY, g_trialTimes, g_pulls, g_pullMany, g_sizes, g_merged, g_nextHole, g_nextOunces, g_leftBehind, g_manUp, g_manLow, g_asked, g_lowOf, g_highOf, g_tried, g_found, g_askedMany, g_mostHoles, g_isFound, g_foundRest, g_foundOunces, g_question, g_questionSpeed, g_ounceRest, g_parts, g_filled, g_cogAt, g_cogBest, g_isOrdered, g_orderSize, g_isKept, g_kept, g_keptAt])]) rfl (by decide) (by decide) ?_
  rintro _ _ ⟨rfl, rfl⟩
  refine Z.at (pc' := 13) (st' := [.int (zb (decide (0 ≤ ai ∧ ai ≤ ((hci - 1)))))]) (ws' := [(mo, ob 11 [.int th, g_rows, g_row, .int hc, .ref r_planeOf, .ref r_holeX, .ref r_holeY, .ref r_room, .ref r_ounces, .ref r_deepOf, .int sc, .ref r_factor, .ref r_otherOf, .ref r_isApart, g_apartX, g_apartY, .int cc, .ref r_weight, .ref r_tape, .int n, .int p, .int lim, .int fi, g_crossOf, g_trueX, g_trueY, g_thoughtX, g_thoughtY, .int g_poundHole, .int g_poundOunces, g_lead, g_trials, g_trialSpeed, g_isWhole, g_trialX, g_trialY, g_trialGive, g_trialLead, g_baseX, g_baseY, g_timesPull, g_trialBaseX, g_trialBaseY, g_trialTimes, g_pulls, g_pullMany, g_sizes, g_merged, g_nextHole, g_nextOunces, g_leftBehind, g_manUp, g_manLow, g_asked, g_lowOf, g_highOf, g_tried, g_found, g_askedMany, g_mostHoles, g_isFound, g_foundRest, g_foundOunces, g_question, g_questionSpeed, g_ounceRest, g_parts, g_filled, g_cogAt, g_cogBest, g_isOrdered, g_orderSize, g_isKept, g_kept, g_keptAt])]) (kc' := 0) (ks' := 0) rfl rfl rfl rfl rfl ?_
  exact z_zret X rfl (zb_n _) dl_X11_isHole_13 (Nat.le_of_ble_eq_true rfl) (Nat.le_of_ble_eq_true rfl) ⟨(congrArg (fun z => some (Value.int z)) (zb_i (by omega))), rfl⟩

theorem dl_X11_pound_2 : decode cX11_pound 2 = .ok (.putfield 3, 3) := by decide +kernel
theorem dl_X11_pound_7 : decode cX11_pound 7 = .ok (.if_icmp .ne 15, 3) := by decide +kernel
theorem dl_X11_pound_24 : decode cX11_pound 24 = .ok (.invokevirtual 115, 3) := by decide +kernel
theorem dl_X11_pound_27 : decode cX11_pound 27 = .ok (.ifCond .eq 15, 3) := by decide +kernel
theorem dl_X11_pound_43 : decode cX11_pound 43 = .ok (.ireturn, 1) := by decide +kernel
theorem dl_X11_pound_33 : decode cX11_pound 33 = .ok (.ldc2_w 164, 3) := by decide +kernel
theorem dl_X11_pound_36 : decode cX11_pound 36 = .ok (.invokestatic 29, 3) := by decide +kernel
theorem dl_X11_pound_39 : decode cX11_pound 39 = .ok (.ifCond .ne 5, 3) := by decide +kernel
theorem dl_X11_pound_46 : decode cX11_pound 46 = .ok (.putfield 158, 3) := by decide +kernel
theorem dl_X11_pound_51 : decode cX11_pound 51 = .ok (.putfield 161, 3) := by decide +kernel
theorem dl_X11_pound_55 : decode cX11_pound 55 = .ok (.ireturn, 1) := by decide +kernel
theorem dl_X11_pound_12 : decode cX11_pound 12 = .ok (.putfield 158, 3) := by decide +kernel
theorem dl_X11_pound_17 : decode cX11_pound 17 = .ok (.putfield 161, 3) := by decide +kernel
theorem dl_X11_pound_21 : decode cX11_pound 21 = .ok (.ireturn, 1) := by decide +kernel
abbrev bl_X11_pound_0_2 : ZB := [(.aload_n 0, .null), (.iconst 0, .int 0)]
theorem kl_X11_pound_0_2 : zchk cX11_pound bl_X11_pound_0_2 0 = true ∧ zpc bl_X11_pound_0_2 0 = 2 := ⟨by decide +kernel, rfl⟩
abbrev bl_X11_pound_5_7 : ZB := [(.iload_n 1, .null), (.iconst (-1), .int (-1))]
theorem kl_X11_pound_5_7 : zchk cX11_pound bl_X11_pound_5_7 5 = true ∧ zpc bl_X11_pound_5_7 5 = 7 := ⟨by decide +kernel, rfl⟩
abbrev bl_X11_pound_22_24 : ZB := [(.aload_n 0, .null), (.iload_n 1, .null)]
theorem kl_X11_pound_22_24 : zchk cX11_pound bl_X11_pound_22_24 22 = true ∧ zpc bl_X11_pound_22_24 22 = 24 := ⟨by decide +kernel, rfl⟩
abbrev bl_X11_pound_42_43 : ZB := [(.iconst 0, .int 0)]
theorem kl_X11_pound_42_43 : zchk cX11_pound bl_X11_pound_42_43 42 = true ∧ zpc bl_X11_pound_42_43 42 = 43 := ⟨by decide +kernel, rfl⟩
abbrev bl_X11_pound_30_33 : ZB := [(.iload_n 2, .null), (.i2l, .null), (.lconst 1, .long 1)]
theorem kl_X11_pound_30_33 : zchk cX11_pound bl_X11_pound_30_33 30 = true ∧ zpc bl_X11_pound_30_33 30 = 33 := ⟨by decide +kernel, rfl⟩
abbrev bl_X11_pound_44_46 : ZB := [(.aload_n 0, .null), (.iload_n 1, .null)]
theorem kl_X11_pound_44_46 : zchk cX11_pound bl_X11_pound_44_46 44 = true ∧ zpc bl_X11_pound_44_46 44 = 46 := ⟨by decide +kernel, rfl⟩
abbrev bl_X11_pound_49_51 : ZB := [(.aload_n 0, .null), (.iload_n 2, .null)]
theorem kl_X11_pound_49_51 : zchk cX11_pound bl_X11_pound_49_51 49 = true ∧ zpc bl_X11_pound_49_51 49 = 51 := ⟨by decide +kernel, rfl⟩
abbrev bl_X11_pound_54_55 : ZB := [(.iconst 1, .int 1)]
theorem kl_X11_pound_54_55 : zchk cX11_pound bl_X11_pound_54_55 54 = true ∧ zpc bl_X11_pound_54_55 54 = 55 := ⟨by decide +kernel, rfl⟩
abbrev bl_X11_pound_10_12 : ZB := [(.aload_n 0, .null), (.iconst (-1), .int (-1))]
theorem kl_X11_pound_10_12 : zchk cX11_pound bl_X11_pound_10_12 10 = true ∧ zpc bl_X11_pound_10_12 10 = 12 := ⟨by decide +kernel, rfl⟩
abbrev bl_X11_pound_15_17 : ZB := [(.aload_n 0, .null), (.iconst 0, .int 0)]
theorem kl_X11_pound_15_17 : zchk cX11_pound bl_X11_pound_15_17 15 = true ∧ zpc bl_X11_pound_15_17 15 = 17 := ⟨by decide +kernel, rfl⟩
abbrev bl_X11_pound_20_21 : ZB := [(.iconst 1, .int 1)]
theorem kl_X11_pound_20_21 : zchk cX11_pound bl_X11_pound_20_21 20 = true ∧ zpc bl_X11_pound_20_21 20 = 21 := ⟨by decide +kernel, rfl⟩
set_option maxHeartbeats 4000000 in
set_option maxRecDepth 100000 in
theorem cl_X11_pound (l : Launch) (G : KG) (mo : Nat) (th : Int32) (g_rows : Value) (g_row : Value) (hc : Int32) (r_planeOf : Nat) (r_holeX : Nat) (r_holeY : Nat) (r_room : Nat) (r_ounces : Nat) (r_deepOf : Nat) (sc : Int32) (r_factor : Nat) (r_otherOf : Nat) (r_isApart : Nat) (g_apartX : Value) (g_apartY : Value) (cc : Int32) (r_weight : Nat) (r_tape : Nat) (n : Int32) (p : Int32) (lim : Int32) (fi : Int32) (g_crossOf : Value) (g_trueX : Value) (g_trueY : Value) (g_thoughtX : Value) (g_thoughtY : Value) (g_poundHole : Int32) (g_poundOunces : Int32) (g_lead : Value) (g_trials : Value) (g_trialSpeed : Value) (g_isWhole : Value) (g_trialX : Value) (g_trialY : Value) (g_trialGive : Value) (g_trialLead : Value) (g_baseX : Value) (g_baseY : Value) (g_timesPull : Value) (g_trialBaseX : Value) (g_trialBaseY : Value) (g_trialTimes : Value) (g_pulls : Value) (g_pullMany : Value) (g_sizes : Value) (g_merged : Value) (g_nextHole : Value) (g_nextOunces : Value) (g_leftBehind : Value) (g_manUp : Value) (g_manLow : Value) (g_asked : Value) (g_lowOf : Value) (g_highOf : Value) (g_tried : Value) (g_found : Value) (g_askedMany : Value) (g_mostHoles : Value) (g_isFound : Value) (g_foundRest : Value) (g_foundOunces : Value) (g_question : Value) (g_questionSpeed : Value) (g_ounceRest : Value) (g_parts : Value) (g_filled : Value) (g_cogAt : Value) (g_cogBest : Value) (g_isOrdered : Value) (g_orderSize : Value) (g_isKept : Value) (g_kept : Value) (g_keptAt : Value) (a : Int32) (v : Int32) (hci : Int) (ai : Int) (vi : Int) (hhc : hc.toInt = hci) (ha : a.toInt = ai) (hv : v.toInt = vi) (hc0 : 0 ≤ hci ∧ hci ≤ 16) : Ct l G yX11_pound cX11_pound 3 (some .boolean) { frames := 2, cells := 0, slots := 0, locals := 46 } [.ref mo, .int a, .int v] [(mo, ob 11 [.int th, g_rows, g_row, .int hc, .ref r_planeOf, .ref r_holeX, .ref r_holeY, .ref r_room, .ref r_ounces, .ref r_deepOf, .int sc, .ref r_factor, .ref r_otherOf, .ref r_isApart, g_apartX, g_apartY, .int cc, .ref r_weight, .ref r_tape, .int n, .int p, .int lim, .int fi, g_crossOf, g_trueX, g_trueY, g_thoughtX, g_thoughtY, .int g_poundHole, .int g_poundOunces, g_lead, g_trials, g_trialSpeed, g_isWhole, g_trialX, g_trialY, g_trialGive, g_trialLead, g_baseX, g_baseY, g_timesPull, g_trialBaseX, g_trialBaseY, g_trialTimes, g_pulls, g_pullMany, g_sizes, g_merged, g_nextHole, g_nextOunces, g_leftBehind, g_manUp, g_manLow, g_asked, g_lowOf, g_highOf, g_tried, g_found, g_askedMany, g_mostHoles, g_isFound, g_foundRest, g_foundOunces, g_question, g_questionSpeed, g_ounceRest, g_parts, g_filled, g_cogAt, g_cogBest, g_isOrdered, g_orderSize, g_isKept, g_kept, g_keptAt])] (fun r w1 => ∃ (rz : Int32), ∃ (ph2 : Int32), ∃ (po2 : Int32), (rz = (mPound hci g_poundHole g_poundOunces a v).1) ∧ (ph2 = (mPound hci g_poundHole g_poundOunces a v).2.1) ∧ (po2 = (mPound hci g_poundHole g_poundOunces a v).2.2) ∧ r = some (.int rz) ∧ w1 = [(mo, ob 11 [.int (0 : Int32), g_rows, g_row, .int hc, .ref r_planeOf, .ref r_holeX, .ref r_holeY, .ref r_room, .ref r_ounces, .ref r_deepOf, .int sc, .ref r_factor, .ref r_otherOf, .ref r_isApart, g_apartX, g_apartY, .int cc, .ref r_weight, .ref r_tape, .int n, .int p, .int lim, .int fi, g_crossOf, g_trueX, g_trueY, g_thoughtX, g_thoughtY, .int ph2, .int po2, g_lead, g_trials, g_trialSpeed, g_isWhole, g_trialX, g_trialY, g_trialGive, g_trialLead, g_baseX, g_baseY, g_timesPull, g_trialBaseX, g_trialBaseY, g_trialTimes, g_pulls, g_pullMany, g_sizes, g_merged, g_nextHole, g_nextOunces, g_leftBehind, g_manUp, g_manLow, g_asked, g_lowOf, g_highOf, g_tried, g_found, g_askedMany, g_mostHoles, g_isFound, g_foundRest, g_foundOunces, g_question, g_questionSpeed, g_ounceRest, g_parts, g_filled, g_cogAt, g_cogBest, g_isOrdered, g_orderSize, g_isKept, g_kept, g_keptAt])]) := by
  refine ct_of [(0, .ref mo), (1, .int a), (2, .int v)] (by decide) (Nat.le_of_ble_eq_true rfl) rfl ?_
  intro p0 e0 s0 m0 args0 below0 meth0 c0 A X
  refine z_run X bl_X11_pound_0_2 kl_X11_pound_0_2 (lv' := [(0, .ref mo), (1, .int a), (2, .int v)]) (st' := [.int 0, .ref mo]) rfl ?_
  refine z_put X fl_11_3 dl_X11_pound_2 0 rfl (ty := .int) (T := TX11) (N := 75) rfl (Or.inl rfl) (by decide +kernel) rfl (by rfl) (Nat.le_of_ble_eq_true rfl) (ws' := [(mo, ob 11 [.int 0, g_rows, g_row, .int hc, .ref r_planeOf, .ref r_holeX, .ref r_holeY, .ref r_room, .ref r_ounces, .ref r_deepOf, .int sc, .ref r_factor, .ref r_otherOf, .ref r_isApart, g_apartX, g_apartY, .int cc, .ref r_weight, .ref r_tape, .int n, .int p, .int lim, .int fi, g_crossOf, g_trueX, g_trueY, g_thoughtX, g_thoughtY, .int g_poundHole, .int g_poundOunces, g_lead, g_trials, g_trialSpeed, g_isWhole, g_trialX, g_trialY, g_trialGive, g_trialLead, g_baseX, g_baseY, g_timesPull, g_trialBaseX, g_trialBaseY, g_trialTimes, g_pulls, g_pullMany, g_sizes, g_merged, g_nextHole, g_nextOunces, g_leftBehind, g_manUp, g_manLow, g_asked, g_lowOf, g_highOf, g_tried, g_found, g_askedMany, g_mostHoles, g_isFound, g_foundRest, g_foundOunces, g_question, g_questionSpeed, g_ounceRest, g_parts, g_filled, g_cogAt, g_cogBest, g_isOrdered, g_orderSize, g_isKept, g_kept, g_keptAt])]) rfl ?_
  refine z_run X bl_X11_pound_5_7 kl_X11_pound_5_7 (lv' := [(0, .ref mo), (1, .int a), (2, .int v)]) (st' := [.int (-1), .int a]) rfl ?_
  refine zc_ne X dl_X11_pound_7 (tgt := 22) (by decide) (a := ai) (b := (-1)) ha (show ((-1) : Int32).toInt = (-1) from by decide) (fun c7_1 => ?_) (fun c7_1 => ?_)
  ·
    refine z_run X bl_X11_pound_22_24 kl_X11_pound_22_24 (lv' := [(0, .ref mo), (1, .int a), (2, .int v)]) (st' := [.int a, .ref mo]) rfl ?_
    refine z_callV X k_11_115 (cl_X11_isHoleP l G mo 0 g_rows g_row hc r_planeOf r_holeX r_holeY r_room r_ounces r_deepOf sc r_factor r_otherOf r_isApart g_apartX g_apartY cc r_weight r_tape n p lim fi g_crossOf g_trueX g_trueY g_thoughtX g_thoughtY g_poundHole g_poundOunces g_lead g_trials g_trialSpeed g_isWhole g_trialX g_trialY g_trialGive g_trialLead g_baseX g_baseY g_timesPull g_trialBaseX g_trialBaseY g_trialTimes g_pulls g_pullMany g_sizes g_merged g_nextHole g_nextOunces g_leftBehind g_manUp g_manLow g_asked g_lowOf g_highOf g_tried g_found g_askedMany g_mostHoles g_isFound g_foundRest g_foundOunces g_question g_questionSpeed g_ounceRest g_parts g_filled g_cogAt g_cogBest g_isOrdered g_orderSize g_isKept g_kept g_keptAt a hci ai hhc ha (by omega)) dl_X11_pound_24 0 rfl rfl rfl ⟨Nat.le_of_ble_eq_true rfl, Nat.le_of_ble_eq_true rfl⟩ ⟨Nat.le_of_ble_eq_true rfl, Nat.le_of_ble_eq_true rfl⟩ rfl (rest := []) (As := [.int a]) rfl (Nat.le_of_ble_eq_true rfl) [0] [] rfl (by decide) (wr := []) rfl (by decide) (by decide) ?_
    rintro _ _ ⟨rfl, rfl⟩
    refine Z.at (pc' := 27) (st' := [.int (zb (decide (0 ≤ ai ∧ ai < hci)))]) (ws' := [(mo, ob 11 [.int 0, g_rows, g_row, .int hc, .ref r_planeOf, .ref r_holeX, .ref r_holeY, .ref r_room, .ref r_ounces, .ref r_deepOf, .int sc, .ref r_factor, .ref r_otherOf, .ref r_isApart, g_apartX, g_apartY, .int cc, .ref r_weight, .ref r_tape, .int n, .int p, .int lim, .int fi, g_crossOf, g_trueX, g_trueY, g_thoughtX, g_thoughtY, .int g_poundHole, .int g_poundOunces, g_lead, g_trials, g_trialSpeed, g_isWhole, g_trialX, g_trialY, g_trialGive, g_trialLead, g_baseX, g_baseY, g_timesPull, g_trialBaseX, g_trialBaseY, g_trialTimes, g_pulls, g_pullMany, g_sizes, g_merged, g_nextHole, g_nextOunces, g_leftBehind, g_manUp, g_manLow, g_asked, g_lowOf, g_highOf, g_tried, g_found, g_askedMany, g_mostHoles, g_isFound, g_foundRest, g_foundOunces, g_question, g_questionSpeed, g_ounceRest, g_parts, g_filled, g_cogAt, g_cogBest, g_isOrdered, g_orderSize, g_isKept, g_kept, g_keptAt])]) (kc' := 0) (ks' := 0) rfl rfl rfl rfl rfl ?_
    refine zi_eq_zb X dl_X11_pound_27 (tgt := 42) (by decide) (fun c27_2 => ?_) (fun c27_2 => ?_)
    ·
      refine z_run X bl_X11_pound_42_43 kl_X11_pound_42_43 (lv' := [(0, .ref mo), (1, .int a), (2, .int v)]) (st' := [.int 0]) rfl ?_
      exact z_zret X rfl rfl dl_X11_pound_43 (Nat.le_of_ble_eq_true rfl) (Nat.le_of_ble_eq_true rfl) ⟨(0 : Int32), g_poundHole, g_poundOunces, (by unfold mPound; first | (rw [if_pos (by omega)]; done) | (rw [if_neg (by omega)]; done) | (rw [if_neg (by omega), if_pos (by omega)]; done) | (rw [if_neg (by omega), if_neg (by omega)]; done)), (by unfold mPound; first | (rw [if_pos (by omega)]; done) | (rw [if_neg (by omega)]; done) | (rw [if_neg (by omega), if_pos (by omega)]; done) | (rw [if_neg (by omega), if_neg (by omega)]; done)), (by unfold mPound; first | (rw [if_pos (by omega)]; done) | (rw [if_neg (by omega)]; done) | (rw [if_neg (by omega), if_pos (by omega)]; done) | (rw [if_neg (by omega), if_neg (by omega)]; done)), rfl, rfl⟩
    ·
      refine z_run X bl_X11_pound_30_33 kl_X11_pound_30_33 (lv' := [(0, .ref mo), (1, .int a), (2, .int v)]) (st' := [.long 1, .long v.toInt64]) rfl ?_
      refine z_ldc2 X dl_X11_pound_33 cn_11_164 ?_
      refine z_callS X k_11_29 (cm_X11_in l G v.toInt64 1 20 vi 1 20 (tI64 hv) (show (1 : Int64).toInt = 1 from by decide) (show (20 : Int64).toInt = 20 from by decide)) dl_X11_pound_36 ⟨Nat.le_of_ble_eq_true rfl, Nat.le_of_ble_eq_true rfl⟩ ⟨Nat.le_of_ble_eq_true rfl, Nat.le_of_ble_eq_true rfl⟩ rfl (rest := []) (As := [.long v.toInt64, .long 1, .long 20]) rfl (Nat.le_of_ble_eq_true rfl) [] [0] rfl (by decide) (wr := [(mo, ob 11 [.int 0, g_rows, g_row, .int hc, .ref r_planeOf, .ref r_holeX, .ref r_holeY, .ref r_room, .ref r_ounces, .ref r_deepOf, .int sc, .ref r_factor, .ref r_otherOf, .ref r_isApart, g_apartX, g_apartY, .int cc, .ref r_weight, .ref r_tape, .int n, .int p, .int lim, .int fi, g_crossOf, g_trueX, g_trueY, g_thoughtX, g_thoughtY, .int g_poundHole, .int g_poundOunces, g_lead, g_trials, g_trialSpeed, g_isWhole, g_trialX, g_trialY, g_trialGive, g_trialLead, g_baseX, g_baseY, g_timesPull, g_trialBaseX, g_trialBaseY, g_trialTimes, g_pulls, g_pullMany, g_sizes, g_merged, g_nextHole, g_nextOunces, g_leftBehind, g_manUp, g_manLow, g_asked, g_lowOf, g_highOf, g_tried, g_found, g_askedMany, g_mostHoles, g_isFound, g_foundRest, g_foundOunces, g_question, g_questionSpeed, g_ounceRest, g_parts, g_filled, g_cogAt, g_cogBest, g_isOrdered, g_orderSize, g_isKept, g_kept, g_keptAt])]) rfl (by decide) (by decide) ?_
      rintro _ _ ⟨rfl, rfl⟩
      refine Z.at (pc' := 39) (st' := [.int (zb (decide (1 ≤ vi ∧ vi ≤ 20)))]) (ws' := [(mo, ob 11 [.int 0, g_rows, g_row, .int hc, .ref r_planeOf, .ref r_holeX, .ref r_holeY, .ref r_room, .ref r_ounces, .ref r_deepOf, .int sc, .ref r_factor, .ref r_otherOf, .ref r_isApart, g_apartX, g_apartY, .int cc, .ref r_weight, .ref r_tape, .int n, .int p, .int lim, .int fi, g_crossOf, g_trueX, g_trueY, g_thoughtX, g_thoughtY, .int g_poundHole, .int g_poundOunces, g_lead, g_trials, g_trialSpeed, g_isWhole, g_trialX, g_trialY, g_trialGive, g_trialLead, g_baseX, g_baseY, g_timesPull, g_trialBaseX, g_trialBaseY, g_trialTimes, g_pulls, g_pullMany, g_sizes, g_merged, g_nextHole, g_nextOunces, g_leftBehind, g_manUp, g_manLow, g_asked, g_lowOf, g_highOf, g_tried, g_found, g_askedMany, g_mostHoles, g_isFound, g_foundRest, g_foundOunces, g_question, g_questionSpeed, g_ounceRest, g_parts, g_filled, g_cogAt, g_cogBest, g_isOrdered, g_orderSize, g_isKept, g_kept, g_keptAt])]) (kc' := 0) (ks' := 0) rfl rfl rfl rfl rfl ?_
      refine zi_ne_zb X dl_X11_pound_39 (tgt := 44) (by decide) (fun c39_3 => ?_) (fun c39_3 => ?_)
      ·
        refine z_run X bl_X11_pound_44_46 kl_X11_pound_44_46 (lv' := [(0, .ref mo), (1, .int a), (2, .int v)]) (st' := [.int a, .ref mo]) rfl ?_
        refine z_put X fl_11_158 dl_X11_pound_46 0 rfl (ty := .int) (T := TX11) (N := 75) rfl (Or.inl rfl) (by decide +kernel) rfl (by rfl) (Nat.le_of_ble_eq_true rfl) (ws' := [(mo, ob 11 [.int 0, g_rows, g_row, .int hc, .ref r_planeOf, .ref r_holeX, .ref r_holeY, .ref r_room, .ref r_ounces, .ref r_deepOf, .int sc, .ref r_factor, .ref r_otherOf, .ref r_isApart, g_apartX, g_apartY, .int cc, .ref r_weight, .ref r_tape, .int n, .int p, .int lim, .int fi, g_crossOf, g_trueX, g_trueY, g_thoughtX, g_thoughtY, .int a, .int g_poundOunces, g_lead, g_trials, g_trialSpeed, g_isWhole, g_trialX, g_trialY, g_trialGive, g_trialLead, g_baseX, g_baseY, g_timesPull, g_trialBaseX, g_trialBaseY, g_trialTimes, g_pulls, g_pullMany, g_sizes, g_merged, g_nextHole, g_nextOunces, g_leftBehind, g_manUp, g_manLow, g_asked, g_lowOf, g_highOf, g_tried, g_found, g_askedMany, g_mostHoles, g_isFound, g_foundRest, g_foundOunces, g_question, g_questionSpeed, g_ounceRest, g_parts, g_filled, g_cogAt, g_cogBest, g_isOrdered, g_orderSize, g_isKept, g_kept, g_keptAt])]) rfl ?_
        refine z_run X bl_X11_pound_49_51 kl_X11_pound_49_51 (lv' := [(0, .ref mo), (1, .int a), (2, .int v)]) (st' := [.int v, .ref mo]) rfl ?_
        refine z_put X fl_11_161 dl_X11_pound_51 0 rfl (ty := .int) (T := TX11) (N := 75) rfl (Or.inl rfl) (by decide +kernel) rfl (by rfl) (Nat.le_of_ble_eq_true rfl) (ws' := [(mo, ob 11 [.int 0, g_rows, g_row, .int hc, .ref r_planeOf, .ref r_holeX, .ref r_holeY, .ref r_room, .ref r_ounces, .ref r_deepOf, .int sc, .ref r_factor, .ref r_otherOf, .ref r_isApart, g_apartX, g_apartY, .int cc, .ref r_weight, .ref r_tape, .int n, .int p, .int lim, .int fi, g_crossOf, g_trueX, g_trueY, g_thoughtX, g_thoughtY, .int a, .int v, g_lead, g_trials, g_trialSpeed, g_isWhole, g_trialX, g_trialY, g_trialGive, g_trialLead, g_baseX, g_baseY, g_timesPull, g_trialBaseX, g_trialBaseY, g_trialTimes, g_pulls, g_pullMany, g_sizes, g_merged, g_nextHole, g_nextOunces, g_leftBehind, g_manUp, g_manLow, g_asked, g_lowOf, g_highOf, g_tried, g_found, g_askedMany, g_mostHoles, g_isFound, g_foundRest, g_foundOunces, g_question, g_questionSpeed, g_ounceRest, g_parts, g_filled, g_cogAt, g_cogBest, g_isOrdered, g_orderSize, g_isKept, g_kept, g_keptAt])]) rfl ?_
        refine z_run X bl_X11_pound_54_55 kl_X11_pound_54_55 (lv' := [(0, .ref mo), (1, .int a), (2, .int v)]) (st' := [.int 1]) rfl ?_
        exact z_zret X rfl rfl dl_X11_pound_55 (Nat.le_of_ble_eq_true rfl) (Nat.le_of_ble_eq_true rfl) ⟨(1 : Int32), a, v, (by unfold mPound; first | (rw [if_pos (by omega)]; done) | (rw [if_neg (by omega)]; done) | (rw [if_neg (by omega), if_pos (by omega)]; done) | (rw [if_neg (by omega), if_neg (by omega)]; done)), (by unfold mPound; first | (rw [if_pos (by omega)]; done) | (rw [if_neg (by omega)]; done) | (rw [if_neg (by omega), if_pos (by omega)]; done) | (rw [if_neg (by omega), if_neg (by omega)]; done)), (by unfold mPound; first | (rw [if_pos (by omega)]; done) | (rw [if_neg (by omega)]; done) | (rw [if_neg (by omega), if_pos (by omega)]; done) | (rw [if_neg (by omega), if_neg (by omega)]; done)), rfl, rfl⟩
      ·
        refine z_run X bl_X11_pound_42_43 kl_X11_pound_42_43 (lv' := [(0, .ref mo), (1, .int a), (2, .int v)]) (st' := [.int 0]) rfl ?_
        exact z_zret X rfl rfl dl_X11_pound_43 (Nat.le_of_ble_eq_true rfl) (Nat.le_of_ble_eq_true rfl) ⟨(0 : Int32), g_poundHole, g_poundOunces, (by unfold mPound; first | (rw [if_pos (by omega)]; done) | (rw [if_neg (by omega)]; done) | (rw [if_neg (by omega), if_pos (by omega)]; done) | (rw [if_neg (by omega), if_neg (by omega)]; done)), (by unfold mPound; first | (rw [if_pos (by omega)]; done) | (rw [if_neg (by omega)]; done) | (rw [if_neg (by omega), if_pos (by omega)]; done) | (rw [if_neg (by omega), if_neg (by omega)]; done)), (by unfold mPound; first | (rw [if_pos (by omega)]; done) | (rw [if_neg (by omega)]; done) | (rw [if_neg (by omega), if_pos (by omega)]; done) | (rw [if_neg (by omega), if_neg (by omega)]; done)), rfl, rfl⟩
  ·
    refine z_run X bl_X11_pound_10_12 kl_X11_pound_10_12 (lv' := [(0, .ref mo), (1, .int a), (2, .int v)]) (st' := [.int (-1), .ref mo]) rfl ?_
    refine z_put X fl_11_158 dl_X11_pound_12 0 rfl (ty := .int) (T := TX11) (N := 75) rfl (Or.inl rfl) (by decide +kernel) rfl (by rfl) (Nat.le_of_ble_eq_true rfl) (ws' := [(mo, ob 11 [.int 0, g_rows, g_row, .int hc, .ref r_planeOf, .ref r_holeX, .ref r_holeY, .ref r_room, .ref r_ounces, .ref r_deepOf, .int sc, .ref r_factor, .ref r_otherOf, .ref r_isApart, g_apartX, g_apartY, .int cc, .ref r_weight, .ref r_tape, .int n, .int p, .int lim, .int fi, g_crossOf, g_trueX, g_trueY, g_thoughtX, g_thoughtY, .int (-1), .int g_poundOunces, g_lead, g_trials, g_trialSpeed, g_isWhole, g_trialX, g_trialY, g_trialGive, g_trialLead, g_baseX, g_baseY, g_timesPull, g_trialBaseX, g_trialBaseY, g_trialTimes, g_pulls, g_pullMany, g_sizes, g_merged, g_nextHole, g_nextOunces, g_leftBehind, g_manUp, g_manLow, g_asked, g_lowOf, g_highOf, g_tried, g_found, g_askedMany, g_mostHoles, g_isFound, g_foundRest, g_foundOunces, g_question, g_questionSpeed, g_ounceRest, g_parts, g_filled, g_cogAt, g_cogBest, g_isOrdered, g_orderSize, g_isKept, g_kept, g_keptAt])]) rfl ?_
    refine z_run X bl_X11_pound_15_17 kl_X11_pound_15_17 (lv' := [(0, .ref mo), (1, .int a), (2, .int v)]) (st' := [.int 0, .ref mo]) rfl ?_
    refine z_put X fl_11_161 dl_X11_pound_17 0 rfl (ty := .int) (T := TX11) (N := 75) rfl (Or.inl rfl) (by decide +kernel) rfl (by rfl) (Nat.le_of_ble_eq_true rfl) (ws' := [(mo, ob 11 [.int 0, g_rows, g_row, .int hc, .ref r_planeOf, .ref r_holeX, .ref r_holeY, .ref r_room, .ref r_ounces, .ref r_deepOf, .int sc, .ref r_factor, .ref r_otherOf, .ref r_isApart, g_apartX, g_apartY, .int cc, .ref r_weight, .ref r_tape, .int n, .int p, .int lim, .int fi, g_crossOf, g_trueX, g_trueY, g_thoughtX, g_thoughtY, .int (-1), .int 0, g_lead, g_trials, g_trialSpeed, g_isWhole, g_trialX, g_trialY, g_trialGive, g_trialLead, g_baseX, g_baseY, g_timesPull, g_trialBaseX, g_trialBaseY, g_trialTimes, g_pulls, g_pullMany, g_sizes, g_merged, g_nextHole, g_nextOunces, g_leftBehind, g_manUp, g_manLow, g_asked, g_lowOf, g_highOf, g_tried, g_found, g_askedMany, g_mostHoles, g_isFound, g_foundRest, g_foundOunces, g_question, g_questionSpeed, g_ounceRest, g_parts, g_filled, g_cogAt, g_cogBest, g_isOrdered, g_orderSize, g_isKept, g_kept, g_keptAt])]) rfl ?_
    refine z_run X bl_X11_pound_20_21 kl_X11_pound_20_21 (lv' := [(0, .ref mo), (1, .int a), (2, .int v)]) (st' := [.int 1]) rfl ?_
    exact z_zret X rfl rfl dl_X11_pound_21 (Nat.le_of_ble_eq_true rfl) (Nat.le_of_ble_eq_true rfl) ⟨(1 : Int32), ((-1) : Int32), (0 : Int32), (by unfold mPound; first | (rw [if_pos (by omega)]; done) | (rw [if_neg (by omega)]; done) | (rw [if_neg (by omega), if_pos (by omega)]; done) | (rw [if_neg (by omega), if_neg (by omega)]; done)), (by unfold mPound; first | (rw [if_pos (by omega)]; done) | (rw [if_neg (by omega)]; done) | (rw [if_neg (by omega), if_pos (by omega)]; done) | (rw [if_neg (by omega), if_neg (by omega)]; done)), (by unfold mPound; first | (rw [if_pos (by omega)]; done) | (rw [if_neg (by omega)]; done) | (rw [if_neg (by omega), if_pos (by omega)]; done) | (rw [if_neg (by omega), if_neg (by omega)]; done)), rfl, rfl⟩
end
section
/-! think, truly: exactly -/
abbrev okMass (a b c : Int32) : Prop := 0 ≤ a.toInt ∧ a.toInt ≤ 3 ∧ -9999 ≤ b.toInt ∧ b.toInt ≤ 9999 ∧ -9999 ≤ c.toInt ∧ c.toInt ≤ 9999
def mMass (f : Nat → Int32) (a b c : Int32) : Nat → Int32 := if okMass a b c then upd (upd f (2 * a).toNatClampNeg b) (2 * a + 1).toNatClampNeg c else f
def mMx (f : Nat → Int32) (a b c : Int32) : Nat → Int32 := if okMass a b c then upd f a.toNatClampNeg b else f
def mMy (f : Nat → Int32) (a b c : Int32) : Nat → Int32 := if okMass a b c then upd f a.toNatClampNeg c else f
theorem dl_X10_setMass_1 : decode cX10_setMass 1 = .ok (.ifCond .lt 28, 3) := by decide +kernel
theorem dl_X10_setMass_30 : decode cX10_setMass 30 = .ok (.ireturn, 1) := by decide +kernel
theorem dl_X10_setMass_6 : decode cX10_setMass 6 = .ok (.if_icmp .gt 23, 3) := by decide +kernel
theorem dl_X10_setMass_13 : decode cX10_setMass 13 = .ok (.invokestatic 159, 3) := by decide +kernel
theorem dl_X10_setMass_16 : decode cX10_setMass 16 = .ok (.ifCond .eq 13, 3) := by decide +kernel
theorem dl_X10_setMass_23 : decode cX10_setMass 23 = .ok (.invokestatic 159, 3) := by decide +kernel
theorem dl_X10_setMass_26 : decode cX10_setMass 26 = .ok (.ifCond .ne 5, 3) := by decide +kernel
theorem dl_X10_setMass_36 : decode cX10_setMass 36 = .ok (.iastore, 1) := by decide +kernel
theorem dl_X10_setMass_44 : decode cX10_setMass 44 = .ok (.iastore, 1) := by decide +kernel
theorem dl_X10_setMass_46 : decode cX10_setMass 46 = .ok (.ireturn, 1) := by decide +kernel
abbrev bl_X10_setMass_0_1 : ZB := [(.iload_n 1, .null)]
theorem kl_X10_setMass_0_1 : zchk cX10_setMass bl_X10_setMass_0_1 0 = true ∧ zpc bl_X10_setMass_0_1 0 = 1 := ⟨by decide +kernel, rfl⟩
abbrev bl_X10_setMass_29_30 : ZB := [(.iconst 0, .int 0)]
theorem kl_X10_setMass_29_30 : zchk cX10_setMass bl_X10_setMass_29_30 29 = true ∧ zpc bl_X10_setMass_29_30 29 = 30 := ⟨by decide +kernel, rfl⟩
abbrev bl_X10_setMass_4_6 : ZB := [(.iload_n 1, .null), (.iconst 3, .int 3)]
theorem kl_X10_setMass_4_6 : zchk cX10_setMass bl_X10_setMass_4_6 4 = true ∧ zpc bl_X10_setMass_4_6 4 = 6 := ⟨by decide +kernel, rfl⟩
abbrev bl_X10_setMass_9_13 : ZB := [(.iload_n 2, .null), (.sipush 9999, .int 9999)]
theorem kl_X10_setMass_9_13 : zchk cX10_setMass bl_X10_setMass_9_13 9 = true ∧ zpc bl_X10_setMass_9_13 9 = 13 := ⟨by decide +kernel, rfl⟩
abbrev bl_X10_setMass_19_23 : ZB := [(.iload_n 3, .null), (.sipush 9999, .int 9999)]
theorem kl_X10_setMass_19_23 : zchk cX10_setMass bl_X10_setMass_19_23 19 = true ∧ zpc bl_X10_setMass_19_23 19 = 23 := ⟨by decide +kernel, rfl⟩
abbrev bl_X10_setMass_31_36 : ZB := [(.aload_n 0, .null), (.iconst 2, .int 2), (.iload_n 1, .null), (.imul, .null), (.iload_n 2, .null)]
theorem kl_X10_setMass_31_36 : zchk cX10_setMass bl_X10_setMass_31_36 31 = true ∧ zpc bl_X10_setMass_31_36 31 = 36 := ⟨by decide +kernel, rfl⟩
abbrev bl_X10_setMass_37_44 : ZB := [(.aload_n 0, .null), (.iconst 2, .int 2), (.iload_n 1, .null), (.imul, .null), (.iconst 1, .int 1), (.iadd, .null), (.iload_n 3, .null)]
theorem kl_X10_setMass_37_44 : zchk cX10_setMass bl_X10_setMass_37_44 37 = true ∧ zpc bl_X10_setMass_37_44 37 = 44 := ⟨by decide +kernel, rfl⟩
abbrev bl_X10_setMass_45_46 : ZB := [(.iconst 1, .int 1)]
theorem kl_X10_setMass_45_46 : zchk cX10_setMass bl_X10_setMass_45_46 45 = true ∧ zpc bl_X10_setMass_45_46 45 = 46 := ⟨by decide +kernel, rfl⟩
set_option maxHeartbeats 4000000 in
set_option maxRecDepth 100000 in
theorem cl_X10_setMass (l : Launch) (G : KG) (ms : Nat) (fm : Nat → Int32) (aq : Int32) (bq : Int32) (cq : Int32) (ai : Int) (bi : Int) (ci : Int) (haq : aq.toInt = ai) (hbq : bq.toInt = bi) (hcq : cq.toInt = ci) : Ct l G yX10_setMass cX10_setMass 4 (some .boolean) { frames := 1, cells := 0, slots := 0, locals := 21 } [.ref ms, .int aq, .int bq, .int cq] [(ms, aI G 8 fm)] (fun r w1 => ∃ (fm2 : Nat → Int32), (fm2 = mMass fm aq bq cq) ∧ r = some (.int (zb (decide (0 ≤ ai ∧ ai ≤ 3 ∧ -9999 ≤ bi ∧ bi ≤ 9999 ∧ -9999 ≤ ci ∧ ci ≤ 9999)))) ∧ w1 = [(ms, aI G 8 fm2)]) := by
  refine ct_of [(0, .ref ms), (1, .int aq), (2, .int bq), (3, .int cq)] (by decide) (Nat.le_of_ble_eq_true rfl) rfl ?_
  intro p0 e0 s0 m0 args0 below0 meth0 c0 A X
  refine z_run X bl_X10_setMass_0_1 kl_X10_setMass_0_1 (lv' := [(0, .ref ms), (1, .int aq), (2, .int bq), (3, .int cq)]) (st' := [.int aq]) rfl ?_
  refine zi_lt X dl_X10_setMass_1 (tgt := 29) (by decide) (a := ai) haq (fun c1_1 => ?_) (fun c1_1 => ?_)
  ·
    refine z_run X bl_X10_setMass_29_30 kl_X10_setMass_29_30 (lv' := [(0, .ref ms), (1, .int aq), (2, .int bq), (3, .int cq)]) (st' := [.int 0]) rfl ?_
    exact z_zret X rfl rfl dl_X10_setMass_30 (Nat.le_of_ble_eq_true rfl) (Nat.le_of_ble_eq_true rfl) ⟨fm, (by unfold mMass okMass; first | rw [if_pos (by omega)] | rw [if_neg (by omega)]), (congrArg (fun z => some (Value.int z)) (zb_f (by omega)).symm), rfl⟩
  ·
    refine z_run X bl_X10_setMass_4_6 kl_X10_setMass_4_6 (lv' := [(0, .ref ms), (1, .int aq), (2, .int bq), (3, .int cq)]) (st' := [.int 3, .int aq]) rfl ?_
    refine zc_gt X dl_X10_setMass_6 (tgt := 29) (by decide) (a := ai) (b := 3) haq (show (3 : Int32).toInt = 3 from by decide) (fun c6_2 => ?_) (fun c6_2 => ?_)
    ·
      refine z_run X bl_X10_setMass_29_30 kl_X10_setMass_29_30 (lv' := [(0, .ref ms), (1, .int aq), (2, .int bq), (3, .int cq)]) (st' := [.int 0]) rfl ?_
      exact z_zret X rfl rfl dl_X10_setMass_30 (Nat.le_of_ble_eq_true rfl) (Nat.le_of_ble_eq_true rfl) ⟨fm, (by unfold mMass okMass; first | rw [if_pos (by omega)] | rw [if_neg (by omega)]), (congrArg (fun z => some (Value.int z)) (zb_f (by omega)).symm), rfl⟩
    ·
      refine z_run X bl_X10_setMass_9_13 kl_X10_setMass_9_13 (lv' := [(0, .ref ms), (1, .int aq), (2, .int bq), (3, .int cq)]) (st' := [.int 9999, .int bq]) rfl ?_
      refine z_callS X k_10_159 (cl_X10_isWithin l G bq 9999 bi 9999 hbq (show (9999 : Int32).toInt = 9999 from by decide) (by omega)) dl_X10_setMass_13 ⟨Nat.le_of_ble_eq_true rfl, Nat.le_of_ble_eq_true rfl⟩ ⟨Nat.le_of_ble_eq_true rfl, Nat.le_of_ble_eq_true rfl⟩ rfl (rest := []) (As := [.int bq, .int 9999]) rfl (Nat.le_of_ble_eq_true rfl) [] [0] rfl (by decide) (wr := [(ms, aI G 8 fm)]) rfl (by decide) (by decide) ?_
      rintro _ _ ⟨rfl, rfl⟩
      refine Z.at (pc' := 16) (st' := [.int (zb (decide (-9999 ≤ bi ∧ bi ≤ 9999)))]) (ws' := [(ms, aI G 8 fm)]) (kc' := 0) (ks' := 0) rfl rfl rfl rfl rfl ?_
      refine zi_eq_zb X dl_X10_setMass_16 (tgt := 29) (by decide) (fun c16_3 => ?_) (fun c16_3 => ?_)
      ·
        refine z_run X bl_X10_setMass_29_30 kl_X10_setMass_29_30 (lv' := [(0, .ref ms), (1, .int aq), (2, .int bq), (3, .int cq)]) (st' := [.int 0]) rfl ?_
        exact z_zret X rfl rfl dl_X10_setMass_30 (Nat.le_of_ble_eq_true rfl) (Nat.le_of_ble_eq_true rfl) ⟨fm, (by unfold mMass okMass; first | rw [if_pos (by omega)] | rw [if_neg (by omega)]), (congrArg (fun z => some (Value.int z)) (zb_f (by omega)).symm), rfl⟩
      ·
        refine z_run X bl_X10_setMass_19_23 kl_X10_setMass_19_23 (lv' := [(0, .ref ms), (1, .int aq), (2, .int bq), (3, .int cq)]) (st' := [.int 9999, .int cq]) rfl ?_
        refine z_callS X k_10_159 (cl_X10_isWithin l G cq 9999 ci 9999 hcq (show (9999 : Int32).toInt = 9999 from by decide) (by omega)) dl_X10_setMass_23 ⟨Nat.le_of_ble_eq_true rfl, Nat.le_of_ble_eq_true rfl⟩ ⟨Nat.le_of_ble_eq_true rfl, Nat.le_of_ble_eq_true rfl⟩ rfl (rest := []) (As := [.int cq, .int 9999]) rfl (Nat.le_of_ble_eq_true rfl) [] [0] rfl (by decide) (wr := [(ms, aI G 8 fm)]) rfl (by decide) (by decide) ?_
        rintro _ _ ⟨rfl, rfl⟩
        refine Z.at (pc' := 26) (st' := [.int (zb (decide (-9999 ≤ ci ∧ ci ≤ 9999)))]) (ws' := [(ms, aI G 8 fm)]) (kc' := 0) (ks' := 0) rfl rfl rfl rfl rfl ?_
        refine zi_ne_zb X dl_X10_setMass_26 (tgt := 31) (by decide) (fun c26_4 => ?_) (fun c26_4 => ?_)
        ·
          refine z_run X bl_X10_setMass_31_36 kl_X10_setMass_31_36 (lv' := [(0, .ref ms), (1, .int aq), (2, .int bq), (3, .int cq)]) (st' := [.int bq, .int (2 * aq), .ref ms]) rfl ?_
          refine z_iast X dl_X10_setMass_36 0 rfl (vin (tI_mul (show (2 : Int32).toInt = 2 from by decide) haq (by omega)) (by omega) (by omega)) (ws' := [(ms, aI G 8 (upd fm (2 * aq).toNatClampNeg bq))]) rfl ?_
          refine z_run X bl_X10_setMass_37_44 kl_X10_setMass_37_44 (lv' := [(0, .ref ms), (1, .int aq), (2, .int bq), (3, .int cq)]) (st' := [.int cq, .int ((2 * aq) + 1), .ref ms]) rfl ?_
          refine z_iast X dl_X10_setMass_44 0 rfl (vin (tI_add (tI_mul (show (2 : Int32).toInt = 2 from by decide) haq (by omega)) (show (1 : Int32).toInt = 1 from by decide) (by omega)) (by omega) (by omega)) (ws' := [(ms, aI G 8 (upd (upd fm (2 * aq).toNatClampNeg bq) ((2 * aq) + 1).toNatClampNeg cq))]) rfl ?_
          refine z_run X bl_X10_setMass_45_46 kl_X10_setMass_45_46 (lv' := [(0, .ref ms), (1, .int aq), (2, .int bq), (3, .int cq)]) (st' := [.int 1]) rfl ?_
          exact z_zret X rfl rfl dl_X10_setMass_46 (Nat.le_of_ble_eq_true rfl) (Nat.le_of_ble_eq_true rfl) ⟨(upd (upd fm (2 * aq).toNatClampNeg bq) ((2 * aq) + 1).toNatClampNeg cq), (by unfold mMass okMass; first | rw [if_pos (by omega)] | rw [if_neg (by omega)]), (congrArg (fun z => some (Value.int z)) (zb_t (by omega)).symm), rfl⟩
        ·
          refine z_run X bl_X10_setMass_29_30 kl_X10_setMass_29_30 (lv' := [(0, .ref ms), (1, .int aq), (2, .int bq), (3, .int cq)]) (st' := [.int 0]) rfl ?_
          exact z_zret X rfl rfl dl_X10_setMass_30 (Nat.le_of_ble_eq_true rfl) (Nat.le_of_ble_eq_true rfl) ⟨fm, (by unfold mMass okMass; first | rw [if_pos (by omega)] | rw [if_neg (by omega)]), (congrArg (fun z => some (Value.int z)) (zb_f (by omega)).symm), rfl⟩

theorem dl_X10_think_1 : decode cX10_think 1 = .ok (.getfield 78, 3) := by decide +kernel
theorem dl_X10_think_7 : decode cX10_think 7 = .ok (.invokestatic 163, 3) := by decide +kernel
theorem dl_X10_think_10 : decode cX10_think 10 = .ok (.ireturn, 1) := by decide +kernel
abbrev bl_X10_think_0_1 : ZB := [(.aload_n 0, .null)]
theorem kl_X10_think_0_1 : zchk cX10_think bl_X10_think_0_1 0 = true ∧ zpc bl_X10_think_0_1 0 = 1 := ⟨by decide +kernel, rfl⟩
abbrev bl_X10_think_4_7 : ZB := [(.iload_n 1, .null), (.iload_n 2, .null), (.iload_n 3, .null)]
theorem kl_X10_think_4_7 : zchk cX10_think bl_X10_think_4_7 4 = true ∧ zpc bl_X10_think_4_7 4 = 7 := ⟨by decide +kernel, rfl⟩
set_option maxHeartbeats 4000000 in
set_option maxRecDepth 100000 in
theorem cl_X10_think (l : Launch) (G : KG) (x : Nat) (x_told : Value) (x_reader : Value) (x_ring : Value) (x_speeds : Value) (x_wheel : Value) (x_trials : Value) (x_span : Value) (x_search : Value) (x_kept : Value) (x_crosses : Value) (x_trueMasses : Value) (thought : Nat) (x_up : Value) (x_low : Value) (x_fits : Value) (x_pulls : Value) (fm : Nat → Int32) (aq : Int32) (bq : Int32) (cq : Int32) (ai : Int) (bi : Int) (ci : Int) (haq : aq.toInt = ai) (hbq : bq.toInt = bi) (hcq : cq.toInt = ci) : Ct l G yX10_think cX10_think 4 (some .boolean) { frames := 2, cells := 0, slots := 0, locals := 44 } [.ref x, .int aq, .int bq, .int cq] [(x, ob 10 [x_told, x_reader, x_ring, x_speeds, x_wheel, x_trials, x_span, x_search, x_kept, x_crosses, x_trueMasses, .ref thought, x_up, x_low, x_fits, x_pulls]), (thought, aI G 8 fm)] (fun r w1 => ∃ (fm2 : Nat → Int32), (fm2 = mMass fm aq bq cq) ∧ r = some (.int (zb (decide (0 ≤ ai ∧ ai ≤ 3 ∧ -9999 ≤ bi ∧ bi ≤ 9999 ∧ -9999 ≤ ci ∧ ci ≤ 9999)))) ∧ w1 = [(x, ob 10 [x_told, x_reader, x_ring, x_speeds, x_wheel, x_trials, x_span, x_search, x_kept, x_crosses, x_trueMasses, .ref thought, x_up, x_low, x_fits, x_pulls]), (thought, aI G 8 fm2)]) := by
  refine ct_of [(0, .ref x), (1, .int aq), (2, .int bq), (3, .int cq)] (by decide) (Nat.le_of_ble_eq_true rfl) rfl ?_
  intro p0 e0 s0 m0 args0 below0 meth0 c0 A X
  refine z_run X bl_X10_think_0_1 kl_X10_think_0_1 (lv' := [(0, .ref x), (1, .int aq), (2, .int bq), (3, .int cq)]) (st' := [.ref x]) rfl ?_
  refine z_get X fl_10_78 dl_X10_think_1 0 rfl (v := .ref thought) rfl ?_
  refine z_run X bl_X10_think_4_7 kl_X10_think_4_7 (lv' := [(0, .ref x), (1, .int aq), (2, .int bq), (3, .int cq)]) (st' := [.int cq, .int bq, .int aq, .ref thought]) rfl ?_
  refine z_callS X k_10_163 (cl_X10_setMass l G thought fm aq bq cq ai bi ci haq hbq hcq) dl_X10_think_7 ⟨Nat.le_of_ble_eq_true rfl, Nat.le_of_ble_eq_true rfl⟩ ⟨Nat.le_of_ble_eq_true rfl, Nat.le_of_ble_eq_true rfl⟩ rfl (rest := []) (As := [.ref thought, .int aq, .int bq, .int cq]) rfl (Nat.le_of_ble_eq_true rfl) [1] [0] rfl (by decide) (wr := [(x, ob 10 [x_told, x_reader, x_ring, x_speeds, x_wheel, x_trials, x_span, x_search, x_kept, x_crosses, x_trueMasses, .ref thought, x_up, x_low, x_fits, x_pulls])]) rfl (by decide) (by decide) ?_
  rintro _ _ ⟨fm2_1, f7_2, rfl, rfl⟩
  refine Z.at (pc' := 10) (st' := [.int (zb (decide (0 ≤ ai ∧ ai ≤ 3 ∧ -9999 ≤ bi ∧ bi ≤ 9999 ∧ -9999 ≤ ci ∧ ci ≤ 9999)))]) (ws' := [(x, ob 10 [x_told, x_reader, x_ring, x_speeds, x_wheel, x_trials, x_span, x_search, x_kept, x_crosses, x_trueMasses, .ref thought, x_up, x_low, x_fits, x_pulls]), (thought, aI G 8 fm2_1)]) (kc' := 0) (ks' := 0) rfl rfl rfl rfl rfl ?_
  exact z_zret X rfl (zb_n _) dl_X10_think_10 (Nat.le_of_ble_eq_true rfl) (Nat.le_of_ble_eq_true rfl) ⟨fm2_1, (by assumption), rfl, rfl⟩

set_option maxHeartbeats 4000000 in
set_option maxRecDepth 100000 in
theorem cl_X11_isMass_think (l : Launch) (G : KG) (aq : Int32) (bq : Int32) (cq : Int32) (ai : Int) (bi : Int) (ci : Int) (haq : aq.toInt = ai) (hbq : bq.toInt = bi) (hcq : cq.toInt = ci) : Ct l G yX11_isMass cX11_isMass 3 (some .boolean) { frames := 1, cells := 0, slots := 0, locals := 25 } [.int aq, .int bq, .int cq] [] (fun r w1 => r = some (.int (zb (decide (0 ≤ ai ∧ ai ≤ 3 ∧ -9999 ≤ bi ∧ bi ≤ 9999 ∧ -9999 ≤ ci ∧ ci ≤ 9999)))) ∧ w1 = []) := by
  refine ct_of [(0, .int aq), (1, .int bq), (2, .int cq)] (by decide) (Nat.le_of_ble_eq_true rfl) rfl ?_
  intro p0 e0 s0 m0 args0 below0 meth0 c0 A X
  refine z_run X bl_X11_isMass_0_3 kl_X11_isMass_0_3 (lv' := [(0, .int aq), (1, .int bq), (2, .int cq)]) (st' := [.long 0, .long aq.toInt64]) rfl ?_
  refine z_ldc2 X dl_X11_isMass_3 cn_11_122 ?_
  refine z_callS X k_11_29 (cm_X11_in l G aq.toInt64 0 3 ai 0 3 (tI64 haq) (show (0 : Int64).toInt = 0 from by decide) (show (3 : Int64).toInt = 3 from by decide)) dl_X11_isMass_6 ⟨Nat.le_of_ble_eq_true rfl, Nat.le_of_ble_eq_true rfl⟩ ⟨Nat.le_of_ble_eq_true rfl, Nat.le_of_ble_eq_true rfl⟩ rfl (rest := []) (As := [.long aq.toInt64, .long 0, .long 3]) rfl (Nat.le_of_ble_eq_true rfl) [] [] rfl (by decide) (wr := []) rfl (by decide) (by decide) ?_
  rintro _ _ ⟨rfl, rfl⟩
  refine Z.at (pc' := 9) (st' := [.int (zb (decide (0 ≤ ai ∧ ai ≤ 3)))]) (ws' := []) (kc' := 0) (ks' := 0) rfl rfl rfl rfl rfl ?_
  refine zi_eq_zb X dl_X11_isMass_9 (tgt := 44) (by decide) (fun c9_1 => ?_) (fun c9_1 => ?_)
  ·
    refine z_run X bl_X11_isMass_44_45 kl_X11_isMass_44_45 (lv' := [(0, .int aq), (1, .int bq), (2, .int cq)]) (st' := [.int 0]) rfl ?_
    exact z_zret X rfl rfl dl_X11_isMass_45 (Nat.le_of_ble_eq_true rfl) (Nat.le_of_ble_eq_true rfl) ⟨(congrArg (fun z => some (Value.int z)) (zb_f (by omega)).symm), rfl⟩
  ·
    refine z_run X bl_X11_isMass_12_14 kl_X11_isMass_12_14 (lv' := [(0, .int aq), (1, .int bq), (2, .int cq)]) (st' := [.long bq.toInt64]) rfl ?_
    refine z_ldc2 X dl_X11_isMass_14 cn_11_138 ?_
    refine z_ldc2 X dl_X11_isMass_17 cn_11_140 ?_
    refine z_callS X k_11_29 (cm_X11_in l G bq.toInt64 (-9999) 9999 bi ((-9999)) 9999 (tI64 hbq) (show ((-9999) : Int64).toInt = (-9999) from by decide) (show (9999 : Int64).toInt = 9999 from by decide)) dl_X11_isMass_20 ⟨Nat.le_of_ble_eq_true rfl, Nat.le_of_ble_eq_true rfl⟩ ⟨Nat.le_of_ble_eq_true rfl, Nat.le_of_ble_eq_true rfl⟩ rfl (rest := []) (As := [.long bq.toInt64, .long (-9999), .long 9999]) rfl (Nat.le_of_ble_eq_true rfl) [] [] rfl (by decide) (wr := []) rfl (by decide) (by decide) ?_
    rintro _ _ ⟨rfl, rfl⟩
    refine Z.at (pc' := 23) (st' := [.int (zb (decide (((-9999)) ≤ bi ∧ bi ≤ 9999)))]) (ws' := []) (kc' := 0) (ks' := 0) rfl rfl rfl rfl rfl ?_
    refine zi_eq_zb X dl_X11_isMass_23 (tgt := 44) (by decide) (fun c23_2 => ?_) (fun c23_2 => ?_)
    ·
      refine z_run X bl_X11_isMass_44_45 kl_X11_isMass_44_45 (lv' := [(0, .int aq), (1, .int bq), (2, .int cq)]) (st' := [.int 0]) rfl ?_
      exact z_zret X rfl rfl dl_X11_isMass_45 (Nat.le_of_ble_eq_true rfl) (Nat.le_of_ble_eq_true rfl) ⟨(congrArg (fun z => some (Value.int z)) (zb_f (by omega)).symm), rfl⟩
    ·
      refine z_run X bl_X11_isMass_26_28 kl_X11_isMass_26_28 (lv' := [(0, .int aq), (1, .int bq), (2, .int cq)]) (st' := [.long cq.toInt64]) rfl ?_
      refine z_ldc2 X dl_X11_isMass_28 cn_11_138 ?_
      refine z_ldc2 X dl_X11_isMass_31 cn_11_140 ?_
      refine z_callS X k_11_29 (cm_X11_in l G cq.toInt64 (-9999) 9999 ci ((-9999)) 9999 (tI64 hcq) (show ((-9999) : Int64).toInt = (-9999) from by decide) (show (9999 : Int64).toInt = 9999 from by decide)) dl_X11_isMass_34 ⟨Nat.le_of_ble_eq_true rfl, Nat.le_of_ble_eq_true rfl⟩ ⟨Nat.le_of_ble_eq_true rfl, Nat.le_of_ble_eq_true rfl⟩ rfl (rest := []) (As := [.long cq.toInt64, .long (-9999), .long 9999]) rfl (Nat.le_of_ble_eq_true rfl) [] [] rfl (by decide) (wr := []) rfl (by decide) (by decide) ?_
      rintro _ _ ⟨rfl, rfl⟩
      refine Z.at (pc' := 37) (st' := [.int (zb (decide (((-9999)) ≤ ci ∧ ci ≤ 9999)))]) (ws' := []) (kc' := 0) (ks' := 0) rfl rfl rfl rfl rfl ?_
      refine zi_eq_zb X dl_X11_isMass_37 (tgt := 44) (by decide) (fun c37_3 => ?_) (fun c37_3 => ?_)
      ·
        refine z_run X bl_X11_isMass_44_45 kl_X11_isMass_44_45 (lv' := [(0, .int aq), (1, .int bq), (2, .int cq)]) (st' := [.int 0]) rfl ?_
        exact z_zret X rfl rfl dl_X11_isMass_45 (Nat.le_of_ble_eq_true rfl) (Nat.le_of_ble_eq_true rfl) ⟨(congrArg (fun z => some (Value.int z)) (zb_f (by omega)).symm), rfl⟩
      ·
        refine z_run X bl_X11_isMass_40_41 kl_X11_isMass_40_41 (lv' := [(0, .int aq), (1, .int bq), (2, .int cq)]) (st' := [.int 1]) rfl ?_
        refine z_goto X dl_X11_isMass_41 (tgt := 45) (by decide) ?_
        exact z_zret X rfl rfl dl_X11_isMass_45 (Nat.le_of_ble_eq_true rfl) (Nat.le_of_ble_eq_true rfl) ⟨(congrArg (fun z => some (Value.int z)) (zb_t (by omega)).symm), rfl⟩

theorem dl_X11_think_2 : decode cX11_think 2 = .ok (.putfield 3, 3) := by decide +kernel
theorem dl_X11_think_8 : decode cX11_think 8 = .ok (.invokestatic 142, 3) := by decide +kernel
theorem dl_X11_think_11 : decode cX11_think 11 = .ok (.ifCond .ne 5, 3) := by decide +kernel
theorem dl_X11_think_17 : decode cX11_think 17 = .ok (.getfield 152, 3) := by decide +kernel
theorem dl_X11_think_22 : decode cX11_think 22 = .ok (.iastore, 1) := by decide +kernel
theorem dl_X11_think_24 : decode cX11_think 24 = .ok (.getfield 155, 3) := by decide +kernel
theorem dl_X11_think_29 : decode cX11_think 29 = .ok (.iastore, 1) := by decide +kernel
theorem dl_X11_think_31 : decode cX11_think 31 = .ok (.ireturn, 1) := by decide +kernel
theorem dl_X11_think_15 : decode cX11_think 15 = .ok (.ireturn, 1) := by decide +kernel
abbrev bl_X11_think_0_2 : ZB := [(.aload_n 0, .null), (.iconst 0, .int 0)]
theorem kl_X11_think_0_2 : zchk cX11_think bl_X11_think_0_2 0 = true ∧ zpc bl_X11_think_0_2 0 = 2 := ⟨by decide +kernel, rfl⟩
abbrev bl_X11_think_5_8 : ZB := [(.iload_n 1, .null), (.iload_n 2, .null), (.iload_n 3, .null)]
theorem kl_X11_think_5_8 : zchk cX11_think bl_X11_think_5_8 5 = true ∧ zpc bl_X11_think_5_8 5 = 8 := ⟨by decide +kernel, rfl⟩
abbrev bl_X11_think_16_17 : ZB := [(.aload_n 0, .null)]
theorem kl_X11_think_16_17 : zchk cX11_think bl_X11_think_16_17 16 = true ∧ zpc bl_X11_think_16_17 16 = 17 := ⟨by decide +kernel, rfl⟩
abbrev bl_X11_think_20_22 : ZB := [(.iload_n 1, .null), (.iload_n 2, .null)]
theorem kl_X11_think_20_22 : zchk cX11_think bl_X11_think_20_22 20 = true ∧ zpc bl_X11_think_20_22 20 = 22 := ⟨by decide +kernel, rfl⟩
abbrev bl_X11_think_23_24 : ZB := [(.aload_n 0, .null)]
theorem kl_X11_think_23_24 : zchk cX11_think bl_X11_think_23_24 23 = true ∧ zpc bl_X11_think_23_24 23 = 24 := ⟨by decide +kernel, rfl⟩
abbrev bl_X11_think_27_29 : ZB := [(.iload_n 1, .null), (.iload_n 3, .null)]
theorem kl_X11_think_27_29 : zchk cX11_think bl_X11_think_27_29 27 = true ∧ zpc bl_X11_think_27_29 27 = 29 := ⟨by decide +kernel, rfl⟩
abbrev bl_X11_think_30_31 : ZB := [(.iconst 1, .int 1)]
theorem kl_X11_think_30_31 : zchk cX11_think bl_X11_think_30_31 30 = true ∧ zpc bl_X11_think_30_31 30 = 31 := ⟨by decide +kernel, rfl⟩
abbrev bl_X11_think_14_15 : ZB := [(.iconst 0, .int 0)]
theorem kl_X11_think_14_15 : zchk cX11_think bl_X11_think_14_15 14 = true ∧ zpc bl_X11_think_14_15 14 = 15 := ⟨by decide +kernel, rfl⟩
set_option maxHeartbeats 4000000 in
set_option maxRecDepth 100000 in
theorem cl_X11_think (l : Launch) (G : KG) (mo : Nat) (th : Int32) (g_rows : Value) (g_row : Value) (hc : Int32) (r_planeOf : Nat) (r_holeX : Nat) (r_holeY : Nat) (r_room : Nat) (r_ounces : Nat) (r_deepOf : Nat) (sc : Int32) (r_factor : Nat) (r_otherOf : Nat) (r_isApart : Nat) (g_apartX : Value) (g_apartY : Value) (cc : Int32) (r_weight : Nat) (r_tape : Nat) (n : Int32) (p : Int32) (lim : Int32) (fi : Int32) (g_crossOf : Value) (g_trueX : Value) (g_trueY : Value) (r_thoughtX : Nat) (r_thoughtY : Nat) (g_poundHole : Value) (g_poundOunces : Value) (g_lead : Value) (g_trials : Value) (g_trialSpeed : Value) (g_isWhole : Value) (g_trialX : Value) (g_trialY : Value) (g_trialGive : Value) (g_trialLead : Value) (g_baseX : Value) (g_baseY : Value) (g_timesPull : Value) (g_trialBaseX : Value) (g_trialBaseY : Value) (g_trialTimes : Value) (g_pulls : Value) (g_pullMany : Value) (g_sizes : Value) (g_merged : Value) (g_nextHole : Value) (g_nextOunces : Value) (g_leftBehind : Value) (g_manUp : Value) (g_manLow : Value) (g_asked : Value) (g_lowOf : Value) (g_highOf : Value) (g_tried : Value) (g_found : Value) (g_askedMany : Value) (g_mostHoles : Value) (g_isFound : Value) (g_foundRest : Value) (g_foundOunces : Value) (g_question : Value) (g_questionSpeed : Value) (g_ounceRest : Value) (g_parts : Value) (g_filled : Value) (g_cogAt : Value) (g_cogBest : Value) (g_isOrdered : Value) (g_orderSize : Value) (g_isKept : Value) (g_kept : Value) (g_keptAt : Value) (f1 : Nat → Int32) (f2 : Nat → Int32) (aq : Int32) (bq : Int32) (cq : Int32) (ai : Int) (bi : Int) (ci : Int) (haq : aq.toInt = ai) (hbq : bq.toInt = bi) (hcq : cq.toInt = ci) : Ct l G yX11_think cX11_think 4 (some .boolean) { frames := 2, cells := 0, slots := 0, locals := 47 } [.ref mo, .int aq, .int bq, .int cq] [(mo, ob 11 [.int th, g_rows, g_row, .int hc, .ref r_planeOf, .ref r_holeX, .ref r_holeY, .ref r_room, .ref r_ounces, .ref r_deepOf, .int sc, .ref r_factor, .ref r_otherOf, .ref r_isApart, g_apartX, g_apartY, .int cc, .ref r_weight, .ref r_tape, .int n, .int p, .int lim, .int fi, g_crossOf, g_trueX, g_trueY, .ref r_thoughtX, .ref r_thoughtY, g_poundHole, g_poundOunces, g_lead, g_trials, g_trialSpeed, g_isWhole, g_trialX, g_trialY, g_trialGive, g_trialLead, g_baseX, g_baseY, g_timesPull, g_trialBaseX, g_trialBaseY, g_trialTimes, g_pulls, g_pullMany, g_sizes, g_merged, g_nextHole, g_nextOunces, g_leftBehind, g_manUp, g_manLow, g_asked, g_lowOf, g_highOf, g_tried, g_found, g_askedMany, g_mostHoles, g_isFound, g_foundRest, g_foundOunces, g_question, g_questionSpeed, g_ounceRest, g_parts, g_filled, g_cogAt, g_cogBest, g_isOrdered, g_orderSize, g_isKept, g_kept, g_keptAt]), (r_thoughtX, aI G 4 f1), (r_thoughtY, aI G 4 f2)] (fun r w1 => ∃ (k1 : Nat → Int32), ∃ (k2 : Nat → Int32), (k1 = mMx f1 aq bq cq) ∧ (k2 = mMy f2 aq bq cq) ∧ r = some (.int (zb (decide (0 ≤ ai ∧ ai ≤ 3 ∧ -9999 ≤ bi ∧ bi ≤ 9999 ∧ -9999 ≤ ci ∧ ci ≤ 9999)))) ∧ w1 = [(mo, ob 11 [.int (0 : Int32), g_rows, g_row, .int hc, .ref r_planeOf, .ref r_holeX, .ref r_holeY, .ref r_room, .ref r_ounces, .ref r_deepOf, .int sc, .ref r_factor, .ref r_otherOf, .ref r_isApart, g_apartX, g_apartY, .int cc, .ref r_weight, .ref r_tape, .int n, .int p, .int lim, .int fi, g_crossOf, g_trueX, g_trueY, .ref r_thoughtX, .ref r_thoughtY, g_poundHole, g_poundOunces, g_lead, g_trials, g_trialSpeed, g_isWhole, g_trialX, g_trialY, g_trialGive, g_trialLead, g_baseX, g_baseY, g_timesPull, g_trialBaseX, g_trialBaseY, g_trialTimes, g_pulls, g_pullMany, g_sizes, g_merged, g_nextHole, g_nextOunces, g_leftBehind, g_manUp, g_manLow, g_asked, g_lowOf, g_highOf, g_tried, g_found, g_askedMany, g_mostHoles, g_isFound, g_foundRest, g_foundOunces, g_question, g_questionSpeed, g_ounceRest, g_parts, g_filled, g_cogAt, g_cogBest, g_isOrdered, g_orderSize, g_isKept, g_kept, g_keptAt]), (r_thoughtX, aI G 4 k1), (r_thoughtY, aI G 4 k2)]) := by
  refine ct_of [(0, .ref mo), (1, .int aq), (2, .int bq), (3, .int cq)] (by decide) (Nat.le_of_ble_eq_true rfl) rfl ?_
  intro p0 e0 s0 m0 args0 below0 meth0 c0 A X
  refine z_run X bl_X11_think_0_2 kl_X11_think_0_2 (lv' := [(0, .ref mo), (1, .int aq), (2, .int bq), (3, .int cq)]) (st' := [.int 0, .ref mo]) rfl ?_
  refine z_put X fl_11_3 dl_X11_think_2 0 rfl (ty := .int) (T := TX11) (N := 75) rfl (Or.inl rfl) (by decide +kernel) rfl (by rfl) (Nat.le_of_ble_eq_true rfl) (ws' := [(mo, ob 11 [.int 0, g_rows, g_row, .int hc, .ref r_planeOf, .ref r_holeX, .ref r_holeY, .ref r_room, .ref r_ounces, .ref r_deepOf, .int sc, .ref r_factor, .ref r_otherOf, .ref r_isApart, g_apartX, g_apartY, .int cc, .ref r_weight, .ref r_tape, .int n, .int p, .int lim, .int fi, g_crossOf, g_trueX, g_trueY, .ref r_thoughtX, .ref r_thoughtY, g_poundHole, g_poundOunces, g_lead, g_trials, g_trialSpeed, g_isWhole, g_trialX, g_trialY, g_trialGive, g_trialLead, g_baseX, g_baseY, g_timesPull, g_trialBaseX, g_trialBaseY, g_trialTimes, g_pulls, g_pullMany, g_sizes, g_merged, g_nextHole, g_nextOunces, g_leftBehind, g_manUp, g_manLow, g_asked, g_lowOf, g_highOf, g_tried, g_found, g_askedMany, g_mostHoles, g_isFound, g_foundRest, g_foundOunces, g_question, g_questionSpeed, g_ounceRest, g_parts, g_filled, g_cogAt, g_cogBest, g_isOrdered, g_orderSize, g_isKept, g_kept, g_keptAt]), (r_thoughtX, aI G 4 f1), (r_thoughtY, aI G 4 f2)]) rfl ?_
  refine z_run X bl_X11_think_5_8 kl_X11_think_5_8 (lv' := [(0, .ref mo), (1, .int aq), (2, .int bq), (3, .int cq)]) (st' := [.int cq, .int bq, .int aq]) rfl ?_
  refine z_callS X k_11_142 (cl_X11_isMass l G aq bq cq ai bi ci haq hbq hcq) dl_X11_think_8 ⟨Nat.le_of_ble_eq_true rfl, Nat.le_of_ble_eq_true rfl⟩ ⟨Nat.le_of_ble_eq_true rfl, Nat.le_of_ble_eq_true rfl⟩ rfl (rest := []) (As := [.int aq, .int bq, .int cq]) rfl (Nat.le_of_ble_eq_true rfl) [] [0, 1, 2] rfl (by decide) (wr := [(mo, ob 11 [.int 0, g_rows, g_row, .int hc, .ref r_planeOf, .ref r_holeX, .ref r_holeY, .ref r_room, .ref r_ounces, .ref r_deepOf, .int sc, .ref r_factor, .ref r_otherOf, .ref r_isApart, g_apartX, g_apartY, .int cc, .ref r_weight, .ref r_tape, .int n, .int p, .int lim, .int fi, g_crossOf, g_trueX, g_trueY, .ref r_thoughtX, .ref r_thoughtY, g_poundHole, g_poundOunces, g_lead, g_trials, g_trialSpeed, g_isWhole, g_trialX, g_trialY, g_trialGive, g_trialLead, g_baseX, g_baseY, g_timesPull, g_trialBaseX, g_trialBaseY, g_trialTimes, g_pulls, g_pullMany, g_sizes, g_merged, g_nextHole, g_nextOunces, g_leftBehind, g_manUp, g_manLow, g_asked, g_lowOf, g_highOf, g_tried, g_found, g_askedMany, g_mostHoles, g_isFound, g_foundRest, g_foundOunces, g_question, g_questionSpeed, g_ounceRest, g_parts, g_filled, g_cogAt, g_cogBest, g_isOrdered, g_orderSize, g_isKept, g_kept, g_keptAt]), (r_thoughtX, aI G 4 f1), (r_thoughtY, aI G 4 f2)]) rfl (by decide) (by decide) ?_
  rintro _ _ ⟨rfl, rfl⟩
  refine Z.at (pc' := 11) (st' := [.int (zb (decide (0 ≤ ai ∧ ai ≤ 3 ∧ -9999 ≤ bi ∧ bi ≤ 9999 ∧ -9999 ≤ ci ∧ ci ≤ 9999)))]) (ws' := [(mo, ob 11 [.int 0, g_rows, g_row, .int hc, .ref r_planeOf, .ref r_holeX, .ref r_holeY, .ref r_room, .ref r_ounces, .ref r_deepOf, .int sc, .ref r_factor, .ref r_otherOf, .ref r_isApart, g_apartX, g_apartY, .int cc, .ref r_weight, .ref r_tape, .int n, .int p, .int lim, .int fi, g_crossOf, g_trueX, g_trueY, .ref r_thoughtX, .ref r_thoughtY, g_poundHole, g_poundOunces, g_lead, g_trials, g_trialSpeed, g_isWhole, g_trialX, g_trialY, g_trialGive, g_trialLead, g_baseX, g_baseY, g_timesPull, g_trialBaseX, g_trialBaseY, g_trialTimes, g_pulls, g_pullMany, g_sizes, g_merged, g_nextHole, g_nextOunces, g_leftBehind, g_manUp, g_manLow, g_asked, g_lowOf, g_highOf, g_tried, g_found, g_askedMany, g_mostHoles, g_isFound, g_foundRest, g_foundOunces, g_question, g_questionSpeed, g_ounceRest, g_parts, g_filled, g_cogAt, g_cogBest, g_isOrdered, g_orderSize, g_isKept, g_kept, g_keptAt]), (r_thoughtX, aI G 4 f1), (r_thoughtY, aI G 4 f2)]) (kc' := 0) (ks' := 0) rfl rfl rfl rfl rfl ?_
  refine zi_ne_zb X dl_X11_think_11 (tgt := 16) (by decide) (fun c11_1 => ?_) (fun c11_1 => ?_)
  ·
    refine z_run X bl_X11_think_16_17 kl_X11_think_16_17 (lv' := [(0, .ref mo), (1, .int aq), (2, .int bq), (3, .int cq)]) (st' := [.ref mo]) rfl ?_
    refine z_get X fl_11_152 dl_X11_think_17 0 rfl (v := .ref r_thoughtX) rfl ?_
    refine z_run X bl_X11_think_20_22 kl_X11_think_20_22 (lv' := [(0, .ref mo), (1, .int aq), (2, .int bq), (3, .int cq)]) (st' := [.int bq, .int aq, .ref r_thoughtX]) rfl ?_
    refine z_iast X dl_X11_think_22 1 rfl (vin haq (by omega) (by omega)) (ws' := [(mo, ob 11 [.int 0, g_rows, g_row, .int hc, .ref r_planeOf, .ref r_holeX, .ref r_holeY, .ref r_room, .ref r_ounces, .ref r_deepOf, .int sc, .ref r_factor, .ref r_otherOf, .ref r_isApart, g_apartX, g_apartY, .int cc, .ref r_weight, .ref r_tape, .int n, .int p, .int lim, .int fi, g_crossOf, g_trueX, g_trueY, .ref r_thoughtX, .ref r_thoughtY, g_poundHole, g_poundOunces, g_lead, g_trials, g_trialSpeed, g_isWhole, g_trialX, g_trialY, g_trialGive, g_trialLead, g_baseX, g_baseY, g_timesPull, g_trialBaseX, g_trialBaseY, g_trialTimes, g_pulls, g_pullMany, g_sizes, g_merged, g_nextHole, g_nextOunces, g_leftBehind, g_manUp, g_manLow, g_asked, g_lowOf, g_highOf, g_tried, g_found, g_askedMany, g_mostHoles, g_isFound, g_foundRest, g_foundOunces, g_question, g_questionSpeed, g_ounceRest, g_parts, g_filled, g_cogAt, g_cogBest, g_isOrdered, g_orderSize, g_isKept, g_kept, g_keptAt]), (r_thoughtX, aI G 4 (upd f1 aq.toNatClampNeg bq)), (r_thoughtY, aI G 4 f2)]) rfl ?_
    refine z_run X bl_X11_think_23_24 kl_X11_think_23_24 (lv' := [(0, .ref mo), (1, .int aq), (2, .int bq), (3, .int cq)]) (st' := [.ref mo]) rfl ?_
    refine z_get X fl_11_155 dl_X11_think_24 0 rfl (v := .ref r_thoughtY) rfl ?_
    refine z_run X bl_X11_think_27_29 kl_X11_think_27_29 (lv' := [(0, .ref mo), (1, .int aq), (2, .int bq), (3, .int cq)]) (st' := [.int cq, .int aq, .ref r_thoughtY]) rfl ?_
    refine z_iast X dl_X11_think_29 2 rfl (vin haq (by omega) (by omega)) (ws' := [(mo, ob 11 [.int 0, g_rows, g_row, .int hc, .ref r_planeOf, .ref r_holeX, .ref r_holeY, .ref r_room, .ref r_ounces, .ref r_deepOf, .int sc, .ref r_factor, .ref r_otherOf, .ref r_isApart, g_apartX, g_apartY, .int cc, .ref r_weight, .ref r_tape, .int n, .int p, .int lim, .int fi, g_crossOf, g_trueX, g_trueY, .ref r_thoughtX, .ref r_thoughtY, g_poundHole, g_poundOunces, g_lead, g_trials, g_trialSpeed, g_isWhole, g_trialX, g_trialY, g_trialGive, g_trialLead, g_baseX, g_baseY, g_timesPull, g_trialBaseX, g_trialBaseY, g_trialTimes, g_pulls, g_pullMany, g_sizes, g_merged, g_nextHole, g_nextOunces, g_leftBehind, g_manUp, g_manLow, g_asked, g_lowOf, g_highOf, g_tried, g_found, g_askedMany, g_mostHoles, g_isFound, g_foundRest, g_foundOunces, g_question, g_questionSpeed, g_ounceRest, g_parts, g_filled, g_cogAt, g_cogBest, g_isOrdered, g_orderSize, g_isKept, g_kept, g_keptAt]), (r_thoughtX, aI G 4 (upd f1 aq.toNatClampNeg bq)), (r_thoughtY, aI G 4 (upd f2 aq.toNatClampNeg cq))]) rfl ?_
    refine z_run X bl_X11_think_30_31 kl_X11_think_30_31 (lv' := [(0, .ref mo), (1, .int aq), (2, .int bq), (3, .int cq)]) (st' := [.int 1]) rfl ?_
    exact z_zret X rfl rfl dl_X11_think_31 (Nat.le_of_ble_eq_true rfl) (Nat.le_of_ble_eq_true rfl) ⟨(upd f1 aq.toNatClampNeg bq), (upd f2 aq.toNatClampNeg cq), (by first | (unfold mMx okMass; first | (rw [if_pos (by omega)]; done) | (rw [if_neg (by omega)]; done)) | (unfold mMy okMass; first | (rw [if_pos (by omega)]; done) | (rw [if_neg (by omega)]; done))), (by first | (unfold mMx okMass; first | (rw [if_pos (by omega)]; done) | (rw [if_neg (by omega)]; done)) | (unfold mMy okMass; first | (rw [if_pos (by omega)]; done) | (rw [if_neg (by omega)]; done))), (congrArg (fun z => some (Value.int z)) (zb_t (by omega)).symm), rfl⟩
  ·
    refine z_run X bl_X11_think_14_15 kl_X11_think_14_15 (lv' := [(0, .ref mo), (1, .int aq), (2, .int bq), (3, .int cq)]) (st' := [.int 0]) rfl ?_
    exact z_zret X rfl rfl dl_X11_think_15 (Nat.le_of_ble_eq_true rfl) (Nat.le_of_ble_eq_true rfl) ⟨f1, f2, (by first | (unfold mMx okMass; first | (rw [if_pos (by omega)]; done) | (rw [if_neg (by omega)]; done)) | (unfold mMy okMass; first | (rw [if_pos (by omega)]; done) | (rw [if_neg (by omega)]; done))), (by first | (unfold mMx okMass; first | (rw [if_pos (by omega)]; done) | (rw [if_neg (by omega)]; done)) | (unfold mMy okMass; first | (rw [if_pos (by omega)]; done) | (rw [if_neg (by omega)]; done))), (congrArg (fun z => some (Value.int z)) (zb_f (by omega)).symm), rfl⟩

theorem dl_X10_truly_1 : decode cX10_truly 1 = .ok (.getfield 75, 3) := by decide +kernel
theorem dl_X10_truly_7 : decode cX10_truly 7 = .ok (.invokestatic 163, 3) := by decide +kernel
theorem dl_X10_truly_10 : decode cX10_truly 10 = .ok (.ireturn, 1) := by decide +kernel
abbrev bl_X10_truly_0_1 : ZB := [(.aload_n 0, .null)]
theorem kl_X10_truly_0_1 : zchk cX10_truly bl_X10_truly_0_1 0 = true ∧ zpc bl_X10_truly_0_1 0 = 1 := ⟨by decide +kernel, rfl⟩
abbrev bl_X10_truly_4_7 : ZB := [(.iload_n 1, .null), (.iload_n 2, .null), (.iload_n 3, .null)]
theorem kl_X10_truly_4_7 : zchk cX10_truly bl_X10_truly_4_7 4 = true ∧ zpc bl_X10_truly_4_7 4 = 7 := ⟨by decide +kernel, rfl⟩
set_option maxHeartbeats 4000000 in
set_option maxRecDepth 100000 in
theorem cl_X10_truly (l : Launch) (G : KG) (x : Nat) (x_told : Value) (x_reader : Value) (x_ring : Value) (x_speeds : Value) (x_wheel : Value) (x_trials : Value) (x_span : Value) (x_search : Value) (x_kept : Value) (x_crosses : Value) (trueMasses : Nat) (x_thought : Value) (x_up : Value) (x_low : Value) (x_fits : Value) (x_pulls : Value) (fm : Nat → Int32) (aq : Int32) (bq : Int32) (cq : Int32) (ai : Int) (bi : Int) (ci : Int) (haq : aq.toInt = ai) (hbq : bq.toInt = bi) (hcq : cq.toInt = ci) : Ct l G yX10_truly cX10_truly 4 (some .boolean) { frames := 2, cells := 0, slots := 0, locals := 44 } [.ref x, .int aq, .int bq, .int cq] [(x, ob 10 [x_told, x_reader, x_ring, x_speeds, x_wheel, x_trials, x_span, x_search, x_kept, x_crosses, .ref trueMasses, x_thought, x_up, x_low, x_fits, x_pulls]), (trueMasses, aI G 8 fm)] (fun r w1 => ∃ (fm2 : Nat → Int32), (fm2 = mMass fm aq bq cq) ∧ r = some (.int (zb (decide (0 ≤ ai ∧ ai ≤ 3 ∧ -9999 ≤ bi ∧ bi ≤ 9999 ∧ -9999 ≤ ci ∧ ci ≤ 9999)))) ∧ w1 = [(x, ob 10 [x_told, x_reader, x_ring, x_speeds, x_wheel, x_trials, x_span, x_search, x_kept, x_crosses, .ref trueMasses, x_thought, x_up, x_low, x_fits, x_pulls]), (trueMasses, aI G 8 fm2)]) := by
  refine ct_of [(0, .ref x), (1, .int aq), (2, .int bq), (3, .int cq)] (by decide) (Nat.le_of_ble_eq_true rfl) rfl ?_
  intro p0 e0 s0 m0 args0 below0 meth0 c0 A X
  refine z_run X bl_X10_truly_0_1 kl_X10_truly_0_1 (lv' := [(0, .ref x), (1, .int aq), (2, .int bq), (3, .int cq)]) (st' := [.ref x]) rfl ?_
  refine z_get X fl_10_75 dl_X10_truly_1 0 rfl (v := .ref trueMasses) rfl ?_
  refine z_run X bl_X10_truly_4_7 kl_X10_truly_4_7 (lv' := [(0, .ref x), (1, .int aq), (2, .int bq), (3, .int cq)]) (st' := [.int cq, .int bq, .int aq, .ref trueMasses]) rfl ?_
  refine z_callS X k_10_163 (cl_X10_setMass l G trueMasses fm aq bq cq ai bi ci haq hbq hcq) dl_X10_truly_7 ⟨Nat.le_of_ble_eq_true rfl, Nat.le_of_ble_eq_true rfl⟩ ⟨Nat.le_of_ble_eq_true rfl, Nat.le_of_ble_eq_true rfl⟩ rfl (rest := []) (As := [.ref trueMasses, .int aq, .int bq, .int cq]) rfl (Nat.le_of_ble_eq_true rfl) [1] [0] rfl (by decide) (wr := [(x, ob 10 [x_told, x_reader, x_ring, x_speeds, x_wheel, x_trials, x_span, x_search, x_kept, x_crosses, .ref trueMasses, x_thought, x_up, x_low, x_fits, x_pulls])]) rfl (by decide) (by decide) ?_
  rintro _ _ ⟨fm2_1, f7_2, rfl, rfl⟩
  refine Z.at (pc' := 10) (st' := [.int (zb (decide (0 ≤ ai ∧ ai ≤ 3 ∧ -9999 ≤ bi ∧ bi ≤ 9999 ∧ -9999 ≤ ci ∧ ci ≤ 9999)))]) (ws' := [(x, ob 10 [x_told, x_reader, x_ring, x_speeds, x_wheel, x_trials, x_span, x_search, x_kept, x_crosses, .ref trueMasses, x_thought, x_up, x_low, x_fits, x_pulls]), (trueMasses, aI G 8 fm2_1)]) (kc' := 0) (ks' := 0) rfl rfl rfl rfl rfl ?_
  exact z_zret X rfl (zb_n _) dl_X10_truly_10 (Nat.le_of_ble_eq_true rfl) (Nat.le_of_ble_eq_true rfl) ⟨fm2_1, (by assumption), rfl, rfl⟩

set_option maxHeartbeats 4000000 in
set_option maxRecDepth 100000 in
theorem cl_X11_isMass_truly (l : Launch) (G : KG) (aq : Int32) (bq : Int32) (cq : Int32) (ai : Int) (bi : Int) (ci : Int) (haq : aq.toInt = ai) (hbq : bq.toInt = bi) (hcq : cq.toInt = ci) : Ct l G yX11_isMass cX11_isMass 3 (some .boolean) { frames := 1, cells := 0, slots := 0, locals := 25 } [.int aq, .int bq, .int cq] [] (fun r w1 => r = some (.int (zb (decide (0 ≤ ai ∧ ai ≤ 3 ∧ -9999 ≤ bi ∧ bi ≤ 9999 ∧ -9999 ≤ ci ∧ ci ≤ 9999)))) ∧ w1 = []) := by
  refine ct_of [(0, .int aq), (1, .int bq), (2, .int cq)] (by decide) (Nat.le_of_ble_eq_true rfl) rfl ?_
  intro p0 e0 s0 m0 args0 below0 meth0 c0 A X
  refine z_run X bl_X11_isMass_0_3 kl_X11_isMass_0_3 (lv' := [(0, .int aq), (1, .int bq), (2, .int cq)]) (st' := [.long 0, .long aq.toInt64]) rfl ?_
  refine z_ldc2 X dl_X11_isMass_3 cn_11_122 ?_
  refine z_callS X k_11_29 (cm_X11_in l G aq.toInt64 0 3 ai 0 3 (tI64 haq) (show (0 : Int64).toInt = 0 from by decide) (show (3 : Int64).toInt = 3 from by decide)) dl_X11_isMass_6 ⟨Nat.le_of_ble_eq_true rfl, Nat.le_of_ble_eq_true rfl⟩ ⟨Nat.le_of_ble_eq_true rfl, Nat.le_of_ble_eq_true rfl⟩ rfl (rest := []) (As := [.long aq.toInt64, .long 0, .long 3]) rfl (Nat.le_of_ble_eq_true rfl) [] [] rfl (by decide) (wr := []) rfl (by decide) (by decide) ?_
  rintro _ _ ⟨rfl, rfl⟩
  refine Z.at (pc' := 9) (st' := [.int (zb (decide (0 ≤ ai ∧ ai ≤ 3)))]) (ws' := []) (kc' := 0) (ks' := 0) rfl rfl rfl rfl rfl ?_
  refine zi_eq_zb X dl_X11_isMass_9 (tgt := 44) (by decide) (fun c9_1 => ?_) (fun c9_1 => ?_)
  ·
    refine z_run X bl_X11_isMass_44_45 kl_X11_isMass_44_45 (lv' := [(0, .int aq), (1, .int bq), (2, .int cq)]) (st' := [.int 0]) rfl ?_
    exact z_zret X rfl rfl dl_X11_isMass_45 (Nat.le_of_ble_eq_true rfl) (Nat.le_of_ble_eq_true rfl) ⟨(congrArg (fun z => some (Value.int z)) (zb_f (by omega)).symm), rfl⟩
  ·
    refine z_run X bl_X11_isMass_12_14 kl_X11_isMass_12_14 (lv' := [(0, .int aq), (1, .int bq), (2, .int cq)]) (st' := [.long bq.toInt64]) rfl ?_
    refine z_ldc2 X dl_X11_isMass_14 cn_11_138 ?_
    refine z_ldc2 X dl_X11_isMass_17 cn_11_140 ?_
    refine z_callS X k_11_29 (cm_X11_in l G bq.toInt64 (-9999) 9999 bi ((-9999)) 9999 (tI64 hbq) (show ((-9999) : Int64).toInt = (-9999) from by decide) (show (9999 : Int64).toInt = 9999 from by decide)) dl_X11_isMass_20 ⟨Nat.le_of_ble_eq_true rfl, Nat.le_of_ble_eq_true rfl⟩ ⟨Nat.le_of_ble_eq_true rfl, Nat.le_of_ble_eq_true rfl⟩ rfl (rest := []) (As := [.long bq.toInt64, .long (-9999), .long 9999]) rfl (Nat.le_of_ble_eq_true rfl) [] [] rfl (by decide) (wr := []) rfl (by decide) (by decide) ?_
    rintro _ _ ⟨rfl, rfl⟩
    refine Z.at (pc' := 23) (st' := [.int (zb (decide (((-9999)) ≤ bi ∧ bi ≤ 9999)))]) (ws' := []) (kc' := 0) (ks' := 0) rfl rfl rfl rfl rfl ?_
    refine zi_eq_zb X dl_X11_isMass_23 (tgt := 44) (by decide) (fun c23_2 => ?_) (fun c23_2 => ?_)
    ·
      refine z_run X bl_X11_isMass_44_45 kl_X11_isMass_44_45 (lv' := [(0, .int aq), (1, .int bq), (2, .int cq)]) (st' := [.int 0]) rfl ?_
      exact z_zret X rfl rfl dl_X11_isMass_45 (Nat.le_of_ble_eq_true rfl) (Nat.le_of_ble_eq_true rfl) ⟨(congrArg (fun z => some (Value.int z)) (zb_f (by omega)).symm), rfl⟩
    ·
      refine z_run X bl_X11_isMass_26_28 kl_X11_isMass_26_28 (lv' := [(0, .int aq), (1, .int bq), (2, .int cq)]) (st' := [.long cq.toInt64]) rfl ?_
      refine z_ldc2 X dl_X11_isMass_28 cn_11_138 ?_
      refine z_ldc2 X dl_X11_isMass_31 cn_11_140 ?_
      refine z_callS X k_11_29 (cm_X11_in l G cq.toInt64 (-9999) 9999 ci ((-9999)) 9999 (tI64 hcq) (show ((-9999) : Int64).toInt = (-9999) from by decide) (show (9999 : Int64).toInt = 9999 from by decide)) dl_X11_isMass_34 ⟨Nat.le_of_ble_eq_true rfl, Nat.le_of_ble_eq_true rfl⟩ ⟨Nat.le_of_ble_eq_true rfl, Nat.le_of_ble_eq_true rfl⟩ rfl (rest := []) (As := [.long cq.toInt64, .long (-9999), .long 9999]) rfl (Nat.le_of_ble_eq_true rfl) [] [] rfl (by decide) (wr := []) rfl (by decide) (by decide) ?_
      rintro _ _ ⟨rfl, rfl⟩
      refine Z.at (pc' := 37) (st' := [.int (zb (decide (((-9999)) ≤ ci ∧ ci ≤ 9999)))]) (ws' := []) (kc' := 0) (ks' := 0) rfl rfl rfl rfl rfl ?_
      refine zi_eq_zb X dl_X11_isMass_37 (tgt := 44) (by decide) (fun c37_3 => ?_) (fun c37_3 => ?_)
      ·
        refine z_run X bl_X11_isMass_44_45 kl_X11_isMass_44_45 (lv' := [(0, .int aq), (1, .int bq), (2, .int cq)]) (st' := [.int 0]) rfl ?_
        exact z_zret X rfl rfl dl_X11_isMass_45 (Nat.le_of_ble_eq_true rfl) (Nat.le_of_ble_eq_true rfl) ⟨(congrArg (fun z => some (Value.int z)) (zb_f (by omega)).symm), rfl⟩
      ·
        refine z_run X bl_X11_isMass_40_41 kl_X11_isMass_40_41 (lv' := [(0, .int aq), (1, .int bq), (2, .int cq)]) (st' := [.int 1]) rfl ?_
        refine z_goto X dl_X11_isMass_41 (tgt := 45) (by decide) ?_
        exact z_zret X rfl rfl dl_X11_isMass_45 (Nat.le_of_ble_eq_true rfl) (Nat.le_of_ble_eq_true rfl) ⟨(congrArg (fun z => some (Value.int z)) (zb_t (by omega)).symm), rfl⟩

theorem dl_X11_truly_2 : decode cX11_truly 2 = .ok (.putfield 3, 3) := by decide +kernel
theorem dl_X11_truly_8 : decode cX11_truly 8 = .ok (.invokestatic 142, 3) := by decide +kernel
theorem dl_X11_truly_11 : decode cX11_truly 11 = .ok (.ifCond .ne 5, 3) := by decide +kernel
theorem dl_X11_truly_17 : decode cX11_truly 17 = .ok (.getfield 146, 3) := by decide +kernel
theorem dl_X11_truly_22 : decode cX11_truly 22 = .ok (.iastore, 1) := by decide +kernel
theorem dl_X11_truly_24 : decode cX11_truly 24 = .ok (.getfield 149, 3) := by decide +kernel
theorem dl_X11_truly_29 : decode cX11_truly 29 = .ok (.iastore, 1) := by decide +kernel
theorem dl_X11_truly_31 : decode cX11_truly 31 = .ok (.ireturn, 1) := by decide +kernel
theorem dl_X11_truly_15 : decode cX11_truly 15 = .ok (.ireturn, 1) := by decide +kernel
abbrev bl_X11_truly_0_2 : ZB := [(.aload_n 0, .null), (.iconst 0, .int 0)]
theorem kl_X11_truly_0_2 : zchk cX11_truly bl_X11_truly_0_2 0 = true ∧ zpc bl_X11_truly_0_2 0 = 2 := ⟨by decide +kernel, rfl⟩
abbrev bl_X11_truly_5_8 : ZB := [(.iload_n 1, .null), (.iload_n 2, .null), (.iload_n 3, .null)]
theorem kl_X11_truly_5_8 : zchk cX11_truly bl_X11_truly_5_8 5 = true ∧ zpc bl_X11_truly_5_8 5 = 8 := ⟨by decide +kernel, rfl⟩
abbrev bl_X11_truly_16_17 : ZB := [(.aload_n 0, .null)]
theorem kl_X11_truly_16_17 : zchk cX11_truly bl_X11_truly_16_17 16 = true ∧ zpc bl_X11_truly_16_17 16 = 17 := ⟨by decide +kernel, rfl⟩
abbrev bl_X11_truly_20_22 : ZB := [(.iload_n 1, .null), (.iload_n 2, .null)]
theorem kl_X11_truly_20_22 : zchk cX11_truly bl_X11_truly_20_22 20 = true ∧ zpc bl_X11_truly_20_22 20 = 22 := ⟨by decide +kernel, rfl⟩
abbrev bl_X11_truly_23_24 : ZB := [(.aload_n 0, .null)]
theorem kl_X11_truly_23_24 : zchk cX11_truly bl_X11_truly_23_24 23 = true ∧ zpc bl_X11_truly_23_24 23 = 24 := ⟨by decide +kernel, rfl⟩
abbrev bl_X11_truly_27_29 : ZB := [(.iload_n 1, .null), (.iload_n 3, .null)]
theorem kl_X11_truly_27_29 : zchk cX11_truly bl_X11_truly_27_29 27 = true ∧ zpc bl_X11_truly_27_29 27 = 29 := ⟨by decide +kernel, rfl⟩
abbrev bl_X11_truly_30_31 : ZB := [(.iconst 1, .int 1)]
theorem kl_X11_truly_30_31 : zchk cX11_truly bl_X11_truly_30_31 30 = true ∧ zpc bl_X11_truly_30_31 30 = 31 := ⟨by decide +kernel, rfl⟩
abbrev bl_X11_truly_14_15 : ZB := [(.iconst 0, .int 0)]
theorem kl_X11_truly_14_15 : zchk cX11_truly bl_X11_truly_14_15 14 = true ∧ zpc bl_X11_truly_14_15 14 = 15 := ⟨by decide +kernel, rfl⟩
set_option maxHeartbeats 4000000 in
set_option maxRecDepth 100000 in
theorem cl_X11_truly (l : Launch) (G : KG) (mo : Nat) (th : Int32) (g_rows : Value) (g_row : Value) (hc : Int32) (r_planeOf : Nat) (r_holeX : Nat) (r_holeY : Nat) (r_room : Nat) (r_ounces : Nat) (r_deepOf : Nat) (sc : Int32) (r_factor : Nat) (r_otherOf : Nat) (r_isApart : Nat) (g_apartX : Value) (g_apartY : Value) (cc : Int32) (r_weight : Nat) (r_tape : Nat) (n : Int32) (p : Int32) (lim : Int32) (fi : Int32) (g_crossOf : Value) (r_trueX : Nat) (r_trueY : Nat) (g_thoughtX : Value) (g_thoughtY : Value) (g_poundHole : Value) (g_poundOunces : Value) (g_lead : Value) (g_trials : Value) (g_trialSpeed : Value) (g_isWhole : Value) (g_trialX : Value) (g_trialY : Value) (g_trialGive : Value) (g_trialLead : Value) (g_baseX : Value) (g_baseY : Value) (g_timesPull : Value) (g_trialBaseX : Value) (g_trialBaseY : Value) (g_trialTimes : Value) (g_pulls : Value) (g_pullMany : Value) (g_sizes : Value) (g_merged : Value) (g_nextHole : Value) (g_nextOunces : Value) (g_leftBehind : Value) (g_manUp : Value) (g_manLow : Value) (g_asked : Value) (g_lowOf : Value) (g_highOf : Value) (g_tried : Value) (g_found : Value) (g_askedMany : Value) (g_mostHoles : Value) (g_isFound : Value) (g_foundRest : Value) (g_foundOunces : Value) (g_question : Value) (g_questionSpeed : Value) (g_ounceRest : Value) (g_parts : Value) (g_filled : Value) (g_cogAt : Value) (g_cogBest : Value) (g_isOrdered : Value) (g_orderSize : Value) (g_isKept : Value) (g_kept : Value) (g_keptAt : Value) (f1 : Nat → Int32) (f2 : Nat → Int32) (aq : Int32) (bq : Int32) (cq : Int32) (ai : Int) (bi : Int) (ci : Int) (haq : aq.toInt = ai) (hbq : bq.toInt = bi) (hcq : cq.toInt = ci) : Ct l G yX11_truly cX11_truly 4 (some .boolean) { frames := 2, cells := 0, slots := 0, locals := 47 } [.ref mo, .int aq, .int bq, .int cq] [(mo, ob 11 [.int th, g_rows, g_row, .int hc, .ref r_planeOf, .ref r_holeX, .ref r_holeY, .ref r_room, .ref r_ounces, .ref r_deepOf, .int sc, .ref r_factor, .ref r_otherOf, .ref r_isApart, g_apartX, g_apartY, .int cc, .ref r_weight, .ref r_tape, .int n, .int p, .int lim, .int fi, g_crossOf, .ref r_trueX, .ref r_trueY, g_thoughtX, g_thoughtY, g_poundHole, g_poundOunces, g_lead, g_trials, g_trialSpeed, g_isWhole, g_trialX, g_trialY, g_trialGive, g_trialLead, g_baseX, g_baseY, g_timesPull, g_trialBaseX, g_trialBaseY, g_trialTimes, g_pulls, g_pullMany, g_sizes, g_merged, g_nextHole, g_nextOunces, g_leftBehind, g_manUp, g_manLow, g_asked, g_lowOf, g_highOf, g_tried, g_found, g_askedMany, g_mostHoles, g_isFound, g_foundRest, g_foundOunces, g_question, g_questionSpeed, g_ounceRest, g_parts, g_filled, g_cogAt, g_cogBest, g_isOrdered, g_orderSize, g_isKept, g_kept, g_keptAt]), (r_trueX, aI G 4 f1), (r_trueY, aI G 4 f2)] (fun r w1 => ∃ (k1 : Nat → Int32), ∃ (k2 : Nat → Int32), (k1 = mMx f1 aq bq cq) ∧ (k2 = mMy f2 aq bq cq) ∧ r = some (.int (zb (decide (0 ≤ ai ∧ ai ≤ 3 ∧ -9999 ≤ bi ∧ bi ≤ 9999 ∧ -9999 ≤ ci ∧ ci ≤ 9999)))) ∧ w1 = [(mo, ob 11 [.int (0 : Int32), g_rows, g_row, .int hc, .ref r_planeOf, .ref r_holeX, .ref r_holeY, .ref r_room, .ref r_ounces, .ref r_deepOf, .int sc, .ref r_factor, .ref r_otherOf, .ref r_isApart, g_apartX, g_apartY, .int cc, .ref r_weight, .ref r_tape, .int n, .int p, .int lim, .int fi, g_crossOf, .ref r_trueX, .ref r_trueY, g_thoughtX, g_thoughtY, g_poundHole, g_poundOunces, g_lead, g_trials, g_trialSpeed, g_isWhole, g_trialX, g_trialY, g_trialGive, g_trialLead, g_baseX, g_baseY, g_timesPull, g_trialBaseX, g_trialBaseY, g_trialTimes, g_pulls, g_pullMany, g_sizes, g_merged, g_nextHole, g_nextOunces, g_leftBehind, g_manUp, g_manLow, g_asked, g_lowOf, g_highOf, g_tried, g_found, g_askedMany, g_mostHoles, g_isFound, g_foundRest, g_foundOunces, g_question, g_questionSpeed, g_ounceRest, g_parts, g_filled, g_cogAt, g_cogBest, g_isOrdered, g_orderSize, g_isKept, g_kept, g_keptAt]), (r_trueX, aI G 4 k1), (r_trueY, aI G 4 k2)]) := by
  refine ct_of [(0, .ref mo), (1, .int aq), (2, .int bq), (3, .int cq)] (by decide) (Nat.le_of_ble_eq_true rfl) rfl ?_
  intro p0 e0 s0 m0 args0 below0 meth0 c0 A X
  refine z_run X bl_X11_truly_0_2 kl_X11_truly_0_2 (lv' := [(0, .ref mo), (1, .int aq), (2, .int bq), (3, .int cq)]) (st' := [.int 0, .ref mo]) rfl ?_
  refine z_put X fl_11_3 dl_X11_truly_2 0 rfl (ty := .int) (T := TX11) (N := 75) rfl (Or.inl rfl) (by decide +kernel) rfl (by rfl) (Nat.le_of_ble_eq_true rfl) (ws' := [(mo, ob 11 [.int 0, g_rows, g_row, .int hc, .ref r_planeOf, .ref r_holeX, .ref r_holeY, .ref r_room, .ref r_ounces, .ref r_deepOf, .int sc, .ref r_factor, .ref r_otherOf, .ref r_isApart, g_apartX, g_apartY, .int cc, .ref r_weight, .ref r_tape, .int n, .int p, .int lim, .int fi, g_crossOf, .ref r_trueX, .ref r_trueY, g_thoughtX, g_thoughtY, g_poundHole, g_poundOunces, g_lead, g_trials, g_trialSpeed, g_isWhole, g_trialX, g_trialY, g_trialGive, g_trialLead, g_baseX, g_baseY, g_timesPull, g_trialBaseX, g_trialBaseY, g_trialTimes, g_pulls, g_pullMany, g_sizes, g_merged, g_nextHole, g_nextOunces, g_leftBehind, g_manUp, g_manLow, g_asked, g_lowOf, g_highOf, g_tried, g_found, g_askedMany, g_mostHoles, g_isFound, g_foundRest, g_foundOunces, g_question, g_questionSpeed, g_ounceRest, g_parts, g_filled, g_cogAt, g_cogBest, g_isOrdered, g_orderSize, g_isKept, g_kept, g_keptAt]), (r_trueX, aI G 4 f1), (r_trueY, aI G 4 f2)]) rfl ?_
  refine z_run X bl_X11_truly_5_8 kl_X11_truly_5_8 (lv' := [(0, .ref mo), (1, .int aq), (2, .int bq), (3, .int cq)]) (st' := [.int cq, .int bq, .int aq]) rfl ?_
  refine z_callS X k_11_142 (cl_X11_isMass l G aq bq cq ai bi ci haq hbq hcq) dl_X11_truly_8 ⟨Nat.le_of_ble_eq_true rfl, Nat.le_of_ble_eq_true rfl⟩ ⟨Nat.le_of_ble_eq_true rfl, Nat.le_of_ble_eq_true rfl⟩ rfl (rest := []) (As := [.int aq, .int bq, .int cq]) rfl (Nat.le_of_ble_eq_true rfl) [] [0, 1, 2] rfl (by decide) (wr := [(mo, ob 11 [.int 0, g_rows, g_row, .int hc, .ref r_planeOf, .ref r_holeX, .ref r_holeY, .ref r_room, .ref r_ounces, .ref r_deepOf, .int sc, .ref r_factor, .ref r_otherOf, .ref r_isApart, g_apartX, g_apartY, .int cc, .ref r_weight, .ref r_tape, .int n, .int p, .int lim, .int fi, g_crossOf, .ref r_trueX, .ref r_trueY, g_thoughtX, g_thoughtY, g_poundHole, g_poundOunces, g_lead, g_trials, g_trialSpeed, g_isWhole, g_trialX, g_trialY, g_trialGive, g_trialLead, g_baseX, g_baseY, g_timesPull, g_trialBaseX, g_trialBaseY, g_trialTimes, g_pulls, g_pullMany, g_sizes, g_merged, g_nextHole, g_nextOunces, g_leftBehind, g_manUp, g_manLow, g_asked, g_lowOf, g_highOf, g_tried, g_found, g_askedMany, g_mostHoles, g_isFound, g_foundRest, g_foundOunces, g_question, g_questionSpeed, g_ounceRest, g_parts, g_filled, g_cogAt, g_cogBest, g_isOrdered, g_orderSize, g_isKept, g_kept, g_keptAt]), (r_trueX, aI G 4 f1), (r_trueY, aI G 4 f2)]) rfl (by decide) (by decide) ?_
  rintro _ _ ⟨rfl, rfl⟩
  refine Z.at (pc' := 11) (st' := [.int (zb (decide (0 ≤ ai ∧ ai ≤ 3 ∧ -9999 ≤ bi ∧ bi ≤ 9999 ∧ -9999 ≤ ci ∧ ci ≤ 9999)))]) (ws' := [(mo, ob 11 [.int 0, g_rows, g_row, .int hc, .ref r_planeOf, .ref r_holeX, .ref r_holeY, .ref r_room, .ref r_ounces, .ref r_deepOf, .int sc, .ref r_factor, .ref r_otherOf, .ref r_isApart, g_apartX, g_apartY, .int cc, .ref r_weight, .ref r_tape, .int n, .int p, .int lim, .int fi, g_crossOf, .ref r_trueX, .ref r_trueY, g_thoughtX, g_thoughtY, g_poundHole, g_poundOunces, g_lead, g_trials, g_trialSpeed, g_isWhole, g_trialX, g_trialY, g_trialGive, g_trialLead, g_baseX, g_baseY, g_timesPull, g_trialBaseX, g_trialBaseY, g_trialTimes, g_pulls, g_pullMany, g_sizes, g_merged, g_nextHole, g_nextOunces, g_leftBehind, g_manUp, g_manLow, g_asked, g_lowOf, g_highOf, g_tried, g_found, g_askedMany, g_mostHoles, g_isFound, g_foundRest, g_foundOunces, g_question, g_questionSpeed, g_ounceRest, g_parts, g_filled, g_cogAt, g_cogBest, g_isOrdered, g_orderSize, g_isKept, g_kept, g_keptAt]), (r_trueX, aI G 4 f1), (r_trueY, aI G 4 f2)]) (kc' := 0) (ks' := 0) rfl rfl rfl rfl rfl ?_
  refine zi_ne_zb X dl_X11_truly_11 (tgt := 16) (by decide) (fun c11_1 => ?_) (fun c11_1 => ?_)
  ·
    refine z_run X bl_X11_truly_16_17 kl_X11_truly_16_17 (lv' := [(0, .ref mo), (1, .int aq), (2, .int bq), (3, .int cq)]) (st' := [.ref mo]) rfl ?_
    refine z_get X fl_11_146 dl_X11_truly_17 0 rfl (v := .ref r_trueX) rfl ?_
    refine z_run X bl_X11_truly_20_22 kl_X11_truly_20_22 (lv' := [(0, .ref mo), (1, .int aq), (2, .int bq), (3, .int cq)]) (st' := [.int bq, .int aq, .ref r_trueX]) rfl ?_
    refine z_iast X dl_X11_truly_22 1 rfl (vin haq (by omega) (by omega)) (ws' := [(mo, ob 11 [.int 0, g_rows, g_row, .int hc, .ref r_planeOf, .ref r_holeX, .ref r_holeY, .ref r_room, .ref r_ounces, .ref r_deepOf, .int sc, .ref r_factor, .ref r_otherOf, .ref r_isApart, g_apartX, g_apartY, .int cc, .ref r_weight, .ref r_tape, .int n, .int p, .int lim, .int fi, g_crossOf, .ref r_trueX, .ref r_trueY, g_thoughtX, g_thoughtY, g_poundHole, g_poundOunces, g_lead, g_trials, g_trialSpeed, g_isWhole, g_trialX, g_trialY, g_trialGive, g_trialLead, g_baseX, g_baseY, g_timesPull, g_trialBaseX, g_trialBaseY, g_trialTimes, g_pulls, g_pullMany, g_sizes, g_merged, g_nextHole, g_nextOunces, g_leftBehind, g_manUp, g_manLow, g_asked, g_lowOf, g_highOf, g_tried, g_found, g_askedMany, g_mostHoles, g_isFound, g_foundRest, g_foundOunces, g_question, g_questionSpeed, g_ounceRest, g_parts, g_filled, g_cogAt, g_cogBest, g_isOrdered, g_orderSize, g_isKept, g_kept, g_keptAt]), (r_trueX, aI G 4 (upd f1 aq.toNatClampNeg bq)), (r_trueY, aI G 4 f2)]) rfl ?_
    refine z_run X bl_X11_truly_23_24 kl_X11_truly_23_24 (lv' := [(0, .ref mo), (1, .int aq), (2, .int bq), (3, .int cq)]) (st' := [.ref mo]) rfl ?_
    refine z_get X fl_11_149 dl_X11_truly_24 0 rfl (v := .ref r_trueY) rfl ?_
    refine z_run X bl_X11_truly_27_29 kl_X11_truly_27_29 (lv' := [(0, .ref mo), (1, .int aq), (2, .int bq), (3, .int cq)]) (st' := [.int cq, .int aq, .ref r_trueY]) rfl ?_
    refine z_iast X dl_X11_truly_29 2 rfl (vin haq (by omega) (by omega)) (ws' := [(mo, ob 11 [.int 0, g_rows, g_row, .int hc, .ref r_planeOf, .ref r_holeX, .ref r_holeY, .ref r_room, .ref r_ounces, .ref r_deepOf, .int sc, .ref r_factor, .ref r_otherOf, .ref r_isApart, g_apartX, g_apartY, .int cc, .ref r_weight, .ref r_tape, .int n, .int p, .int lim, .int fi, g_crossOf, .ref r_trueX, .ref r_trueY, g_thoughtX, g_thoughtY, g_poundHole, g_poundOunces, g_lead, g_trials, g_trialSpeed, g_isWhole, g_trialX, g_trialY, g_trialGive, g_trialLead, g_baseX, g_baseY, g_timesPull, g_trialBaseX, g_trialBaseY, g_trialTimes, g_pulls, g_pullMany, g_sizes, g_merged, g_nextHole, g_nextOunces, g_leftBehind, g_manUp, g_manLow, g_asked, g_lowOf, g_highOf, g_tried, g_found, g_askedMany, g_mostHoles, g_isFound, g_foundRest, g_foundOunces, g_question, g_questionSpeed, g_ounceRest, g_parts, g_filled, g_cogAt, g_cogBest, g_isOrdered, g_orderSize, g_isKept, g_kept, g_keptAt]), (r_trueX, aI G 4 (upd f1 aq.toNatClampNeg bq)), (r_trueY, aI G 4 (upd f2 aq.toNatClampNeg cq))]) rfl ?_
    refine z_run X bl_X11_truly_30_31 kl_X11_truly_30_31 (lv' := [(0, .ref mo), (1, .int aq), (2, .int bq), (3, .int cq)]) (st' := [.int 1]) rfl ?_
    exact z_zret X rfl rfl dl_X11_truly_31 (Nat.le_of_ble_eq_true rfl) (Nat.le_of_ble_eq_true rfl) ⟨(upd f1 aq.toNatClampNeg bq), (upd f2 aq.toNatClampNeg cq), (by first | (unfold mMx okMass; first | (rw [if_pos (by omega)]; done) | (rw [if_neg (by omega)]; done)) | (unfold mMy okMass; first | (rw [if_pos (by omega)]; done) | (rw [if_neg (by omega)]; done))), (by first | (unfold mMx okMass; first | (rw [if_pos (by omega)]; done) | (rw [if_neg (by omega)]; done)) | (unfold mMy okMass; first | (rw [if_pos (by omega)]; done) | (rw [if_neg (by omega)]; done))), (congrArg (fun z => some (Value.int z)) (zb_t (by omega)).symm), rfl⟩
  ·
    refine z_run X bl_X11_truly_14_15 kl_X11_truly_14_15 (lv' := [(0, .ref mo), (1, .int aq), (2, .int bq), (3, .int cq)]) (st' := [.int 0]) rfl ?_
    exact z_zret X rfl rfl dl_X11_truly_15 (Nat.le_of_ble_eq_true rfl) (Nat.le_of_ble_eq_true rfl) ⟨f1, f2, (by first | (unfold mMx okMass; first | (rw [if_pos (by omega)]; done) | (rw [if_neg (by omega)]; done)) | (unfold mMy okMass; first | (rw [if_pos (by omega)]; done) | (rw [if_neg (by omega)]; done))), (by first | (unfold mMx okMass; first | (rw [if_pos (by omega)]; done) | (rw [if_neg (by omega)]; done)) | (unfold mMy okMass; first | (rw [if_pos (by omega)]; done) | (rw [if_neg (by omega)]; done))), (congrArg (fun z => some (Value.int z)) (zb_f (by omega)).symm), rfl⟩
end
