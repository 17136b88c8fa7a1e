/-! hole: an answer or a throw, exactly -/
abbrev okHo (h i k : Int) : Prop := (0 ≤ i ∧ i < h) ∧ 0 ≤ k ∧ k ≤ 5
def vHo (fp fx fy fr fh fd : Nat → Int32) (k : Int) (j : Nat) : Int32 := if k = 0 then fp j else if k = 1 then fx j else if k = 2 then fy j else if k = 3 then fr j else if k = 4 then fh j else fd j
def mHo (fp fx fy fr fh fd : Nat → Int32) (h i k : Int) (j : Nat) : Int32 := if okHo h i k then vHo fp fx fy fr fh fd k j else 0
def tHo (h i k : Int) : Int32 := if okHo h i k then 0 else 1
theorem tHo_y {h i k : Int} (q : okHo h i k) : tHo h i k = 0 := if_pos q
theorem tHo_n {h i k : Int} (q : ¬ okHo h i k) : tHo h i k = 1 := if_neg q
theorem mHo_n {fp fx fy fr fh fd : Nat → Int32} {h i k : Int} {j : Nat} (q : ¬ okHo h i k) : mHo fp fx fy fr fh fd h i k j = 0 := if_neg q
theorem mHo_y {fp fx fy fr fh fd : Nat → Int32} {h i k : Int} {j : Nat} (q : okHo h i k) : mHo fp fx fy fr fh fd h i k j = vHo fp fx fy fr fh fd k j := if_pos q
theorem vHo_k {fp fx fy fr fh fd : Nat → Int32} {j : Nat} : vHo fp fx fy fr fh fd 0 j = fp j ∧ vHo fp fx fy fr fh fd 1 j = fx j ∧ vHo fp fx fy fr fh fd 2 j = fy j ∧ vHo fp fx fy fr fh fd 3 j = fr j ∧ vHo fp fx fy fr fh fd 4 j = fh j ∧ vHo fp fx fy fr fh fd 5 j = fd j := ⟨rfl, rfl, rfl, rfl, rfl, rfl⟩
theorem dp_X11_isHole_4 : decode cX11_isHole 4 = .ok (.getfield 63, 3) := by decide +kernel
theorem dp_X11_isHole_10 : decode cX11_isHole 10 = .ok (.invokestatic 29, 3) := by decide +kernel
theorem dp_X11_isHole_13 : decode cX11_isHole 13 = .ok (.ireturn, 1) := by decide +kernel
abbrev bp_X11_isHole_0_4 : ZB := [(.iload_n 1, .null), (.i2l, .null), (.lconst 0, .long 0), (.aload_n 0, .null)]
theorem kp_X11_isHole_0_4 : zchk cX11_isHole bp_X11_isHole_0_4 0 = true ∧ zpc bp_X11_isHole_0_4 0 = 4 := ⟨by decide +kernel, rfl⟩
abbrev bp_X11_isHole_7_10 : ZB := [(.iconst 1, .int 1), (.isub, .null), (.i2l, .null)]
theorem kp_X11_isHole_7_10 : zchk cX11_isHole bp_X11_isHole_7_10 7 = true ∧ zpc bp_X11_isHole_7_10 7 = 10 := ⟨by decide +kernel, rfl⟩
set_option maxHeartbeats 4000000 in
set_option maxRecDepth 100000 in
theorem cp_X11_isHoleO (l : Launch) (G : KG) (mo : Nat) (th : Int32) (g_rows : Value) (g_row : Value) (hc : Int32) (r_planeOf : Nat) (r_holeX : Nat) (r_holeY : Nat) (r_room : Nat) (r_ounces : Nat) (r_deepOf : Nat) (sc : Int32) (r_factor : Nat) (r_otherOf : Nat) (r_isApart : Nat) (g_apartX : Value) (g_apartY : Value) (cc : Int32) (r_weight : Nat) (r_tape : Nat) (n : Int32) (p : Int32) (lim : Int32) (fi : Int32) (g_crossOf : Value) (g_trueX : Value) (g_trueY : Value) (g_thoughtX : Value) (g_thoughtY : Value) (g_poundHole : Value) (g_poundOunces : Value) (g_lead : Value) (g_trials : Value) (g_trialSpeed : Value) (g_isWhole : Value) (g_trialX : Value) (g_trialY : Value) (g_trialGive : Value) (g_trialLead : Value) (g_baseX : Value) (g_baseY : Value) (g_timesPull : Value) (g_trialBaseX : Value) (g_trialBaseY : Value) (g_trialTimes : Value) (g_pulls : Value) (g_pullMany : Value) (g_sizes : Value) (g_merged : Value) (g_nextHole : Value) (g_nextOunces : Value) (g_leftBehind : Value) (g_manUp : Value) (g_manLow : Value) (g_asked : Value) (g_lowOf : Value) (g_highOf : Value) (g_tried : Value) (g_found : Value) (g_askedMany : Value) (g_mostHoles : Value) (g_isFound : Value) (g_foundRest : Value) (g_foundOunces : Value) (g_question : Value) (g_questionSpeed : Value) (g_ounceRest : Value) (g_parts : Value) (g_filled : Value) (g_cogAt : Value) (g_cogBest : Value) (g_isOrdered : Value) (g_orderSize : Value) (g_isKept : Value) (g_kept : Value) (g_keptAt : Value) (a : Int32) (hci : Int) (ai : Int) (hhc : hc.toInt = hci) (ha : a.toInt = ai) (hc0 : 0 ≤ hci ∧ hci ≤ 16) : Ct l G yX11_isHole cX11_isHole 2 (some .boolean) { frames := 1, cells := 0, slots := 0, locals := 25 } [.ref mo, .int a] [(mo, ob 11 [.int th, g_rows, g_row, .int hc, .ref r_planeOf, .ref r_holeX, .ref r_holeY, .ref r_room, .ref r_ounces, .ref r_deepOf, .int sc, .ref r_factor, .ref r_otherOf, .ref r_isApart, g_apartX, g_apartY, .int cc, .ref r_weight, .ref r_tape, .int n, .int p, .int lim, .int fi, g_crossOf, g_trueX, g_trueY, g_thoughtX, g_thoughtY, g_poundHole, g_poundOunces, g_lead, g_trials, g_trialSpeed, g_isWhole, g_trialX, g_trialY, g_trialGive, g_trialLead, g_baseX, g_baseY, g_timesPull, g_trialBaseX, g_trialBaseY, g_trialTimes, g_pulls, g_pullMany, g_sizes, g_merged, g_nextHole, g_nextOunces, g_leftBehind, g_manUp, g_manLow, g_asked, g_lowOf, g_highOf, g_tried, g_found, g_askedMany, g_mostHoles, g_isFound, g_foundRest, g_foundOunces, g_question, g_questionSpeed, g_ounceRest, g_parts, g_filled, g_cogAt, g_cogBest, g_isOrdered, g_orderSize, g_isKept, g_kept, g_keptAt])] (fun r w1 => r = some (.int (zb (decide (0 ≤ ai ∧ ai < hci)))) ∧ w1 = [(mo, ob 11 [.int th, g_rows, g_row, .int hc, .ref r_planeOf, .ref r_holeX, .ref r_holeY, .ref r_room, .ref r_ounces, .ref r_deepOf, .int sc, .ref r_factor, .ref r_otherOf, .ref r_isApart, g_apartX, g_apartY, .int cc, .ref r_weight, .ref r_tape, .int n, .int p, .int lim, .int fi, g_crossOf, g_trueX, g_trueY, g_thoughtX, g_thoughtY, g_poundHole, g_poundOunces, g_lead, g_trials, g_trialSpeed, g_isWhole, g_trialX, g_trialY, g_trialGive, g_trialLead, g_baseX, g_baseY, g_timesPull, g_trialBaseX, g_trialBaseY, g_trialTimes, g_pulls, g_pullMany, g_sizes, g_merged, g_nextHole, g_nextOunces, g_leftBehind, g_manUp, g_manLow, g_asked, g_lowOf, g_highOf, g_tried, g_found, g_askedMany, g_mostHoles, g_isFound, g_foundRest, g_foundOunces, g_question, g_questionSpeed, g_ounceRest, g_parts, g_filled, g_cogAt, g_cogBest, g_isOrdered, g_orderSize, g_isKept, g_kept, g_keptAt])]) := by
  refine ct_of [(0, .ref mo), (1, .int a)] (by decide) (Nat.le_of_ble_eq_true rfl) rfl ?_
  intro p0 e0 s0 m0 args0 below0 meth0 c0 A X
  refine z_run X bp_X11_isHole_0_4 kp_X11_isHole_0_4 (lv' := [(0, .ref mo), (1, .int a)]) (st' := [.ref mo, .long 0, .long a.toInt64]) rfl ?_
  refine z_get X fl_11_63 dp_X11_isHole_4 0 rfl (v := .int hc) rfl ?_
  refine z_run X bp_X11_isHole_7_10 kp_X11_isHole_7_10 (lv' := [(0, .ref mo), (1, .int a)]) (st' := [.long (hc - 1).toInt64, .long 0, .long a.toInt64]) rfl ?_
  refine z_callS X k_11_29 (cm_X11_in l G a.toInt64 0 (hc - 1).toInt64 ai 0 ((hci - 1)) (tI64 ha) (show (0 : Int64).toInt = 0 from by decide) (tI64 (tI_sub hhc (show (1 : Int32).toInt = 1 from by decide) (by omega)))) dp_X11_isHole_10 ⟨Nat.le_of_ble_eq_true rfl, Nat.le_of_ble_eq_true rfl⟩ ⟨Nat.le_of_ble_eq_true rfl, Nat.le_of_ble_eq_true rfl⟩ rfl (rest := []) (As := [.long a.toInt64, .long 0, .long (hc - 1).toInt64]) rfl (Nat.le_of_ble_eq_true rfl) [] [0] rfl (by decide) (wr := [(mo, ob 11 [.int th, g_rows, g_row, .int hc, .ref r_planeOf, .ref r_holeX, .ref r_holeY, .ref r_room, .ref r_ounces, .ref r_deepOf, .int sc, .ref r_factor, .ref r_otherOf, .ref r_isApart, g_apartX, g_apartY, .int cc, .ref r_weight, .ref r_tape, .int n, .int p, .int lim, .int fi, g_crossOf, g_trueX, g_trueY, g_thoughtX, g_thoughtY, g_poundHole, g_poundOunces, g_lead, g_trials, g_trialSpeed, g_isWhole, g_trialX, g_trialY, g_trialGive, g_trialLead, g_baseX, g_baseY, g_timesPull, g_trialBaseX, g_trialBaseY, g_trialTimes, g_pulls, g_pullMany, g_sizes, g_merged, g_nextHole, g_nextOunces, g_leftBehind, g_manUp, g_manLow, g_asked, g_lowOf, g_highOf, g_tried, g_found, g_askedMany, g_mostHoles, g_isFound, g_foundRest, g_foundOunces, g_question, g_questionSpeed, g_ounceRest, g_parts, g_filled, g_cogAt, g_cogBest, g_isOrdered, g_orderSize, g_isKept, g_kept, g_keptAt])]) rfl (by decide) (by decide) ?_
  rintro _ _ ⟨rfl, rfl⟩
  refine Z.at (pc' := 13) (st' := [.int (zb (decide (0 ≤ ai ∧ ai ≤ ((hci - 1)))))]) (ws' := [(mo, ob 11 [.int th, g_rows, g_row, .int hc, .ref r_planeOf, .ref r_holeX, .ref r_holeY, .ref r_room, .ref r_ounces, .ref r_deepOf, .int sc, .ref r_factor, .ref r_otherOf, .ref r_isApart, g_apartX, g_apartY, .int cc, .ref r_weight, .ref r_tape, .int n, .int p, .int lim, .int fi, g_crossOf, g_trueX, g_trueY, g_thoughtX, g_thoughtY, g_poundHole, g_poundOunces, g_lead, g_trials, g_trialSpeed, g_isWhole, g_trialX, g_trialY, g_trialGive, g_trialLead, g_baseX, g_baseY, g_timesPull, g_trialBaseX, g_trialBaseY, g_trialTimes, g_pulls, g_pullMany, g_sizes, g_merged, g_nextHole, g_nextOunces, g_leftBehind, g_manUp, g_manLow, g_asked, g_lowOf, g_highOf, g_tried, g_found, g_askedMany, g_mostHoles, g_isFound, g_foundRest, g_foundOunces, g_question, g_questionSpeed, g_ounceRest, g_parts, g_filled, g_cogAt, g_cogBest, g_isOrdered, g_orderSize, g_isKept, g_kept, g_keptAt])]) (kc' := 0) (ks' := 0) rfl rfl rfl rfl rfl ?_
  exact z_zret X rfl (zb_n _) dp_X11_isHole_13 (Nat.le_of_ble_eq_true rfl) (Nat.le_of_ble_eq_true rfl) ⟨(congrArg (fun z => some (Value.int z)) (zb_i (by omega))), rfl⟩

theorem dp_X11_hole_2 : decode cX11_hole 2 = .ok (.putfield 3, 3) := by decide +kernel
theorem dp_X11_hole_7 : decode cX11_hole 7 = .ok (.invokevirtual 115, 3) := by decide +kernel
theorem dp_X11_hole_10 : decode cX11_hole 10 = .ok (.ifCond .eq 15, 3) := by decide +kernel
theorem dp_X11_hole_27 : decode cX11_hole 27 = .ok (.putfield 3, 3) := by decide +kernel
theorem dp_X11_hole_31 : decode cX11_hole 31 = .ok (.ireturn, 1) := by decide +kernel
theorem dp_X11_hole_16 : decode cX11_hole 16 = .ok (.ldc2_w 118, 3) := by decide +kernel
theorem dp_X11_hole_19 : decode cX11_hole 19 = .ok (.invokestatic 29, 3) := by decide +kernel
theorem dp_X11_hole_22 : decode cX11_hole 22 = .ok (.ifCond .ne 10, 3) := by decide +kernel
theorem dp_X11_hole_33 : decode cX11_hole 33 = .ok (.tableswitch 70 0 4 #[35, 42, 49, 56, 63], 35) := by decide +kernel
theorem dp_X11_hole_69 : decode cX11_hole 69 = .ok (.getfield 66, 3) := by decide +kernel
theorem dp_X11_hole_73 : decode cX11_hole 73 = .ok (.iaload, 1) := by decide +kernel
theorem dp_X11_hole_74 : decode cX11_hole 74 = .ok (.ireturn, 1) := by decide +kernel
theorem dp_X11_hole_76 : decode cX11_hole 76 = .ok (.getfield 69, 3) := by decide +kernel
theorem dp_X11_hole_80 : decode cX11_hole 80 = .ok (.iaload, 1) := by decide +kernel
theorem dp_X11_hole_81 : decode cX11_hole 81 = .ok (.ireturn, 1) := by decide +kernel
theorem dp_X11_hole_83 : decode cX11_hole 83 = .ok (.getfield 76, 3) := by decide +kernel
theorem dp_X11_hole_87 : decode cX11_hole 87 = .ok (.iaload, 1) := by decide +kernel
theorem dp_X11_hole_88 : decode cX11_hole 88 = .ok (.ireturn, 1) := by decide +kernel
theorem dp_X11_hole_90 : decode cX11_hole 90 = .ok (.getfield 79, 3) := by decide +kernel
theorem dp_X11_hole_94 : decode cX11_hole 94 = .ok (.iaload, 1) := by decide +kernel
theorem dp_X11_hole_95 : decode cX11_hole 95 = .ok (.ireturn, 1) := by decide +kernel
theorem dp_X11_hole_97 : decode cX11_hole 97 = .ok (.getfield 82, 3) := by decide +kernel
theorem dp_X11_hole_101 : decode cX11_hole 101 = .ok (.iaload, 1) := by decide +kernel
theorem dp_X11_hole_102 : decode cX11_hole 102 = .ok (.ireturn, 1) := by decide +kernel
theorem dp_X11_hole_104 : decode cX11_hole 104 = .ok (.getfield 85, 3) := by decide +kernel
theorem dp_X11_hole_108 : decode cX11_hole 108 = .ok (.iaload, 1) := by decide +kernel
theorem dp_X11_hole_109 : decode cX11_hole 109 = .ok (.ireturn, 1) := by decide +kernel
abbrev bp_X11_hole_0_2 : ZB := [(.aload_n 0, .null), (.iconst 0, .int 0)]
theorem kp_X11_hole_0_2 : zchk cX11_hole bp_X11_hole_0_2 0 = true ∧ zpc bp_X11_hole_0_2 0 = 2 := ⟨by decide +kernel, rfl⟩
abbrev bp_X11_hole_5_7 : ZB := [(.aload_n 0, .null), (.iload_n 1, .null)]
theorem kp_X11_hole_5_7 : zchk cX11_hole bp_X11_hole_5_7 5 = true ∧ zpc bp_X11_hole_5_7 5 = 7 := ⟨by decide +kernel, rfl⟩
abbrev bp_X11_hole_25_27 : ZB := [(.aload_n 0, .null), (.iconst 1, .int 1)]
theorem kp_X11_hole_25_27 : zchk cX11_hole bp_X11_hole_25_27 25 = true ∧ zpc bp_X11_hole_25_27 25 = 27 := ⟨by decide +kernel, rfl⟩
abbrev bp_X11_hole_30_31 : ZB := [(.iconst 0, .int 0)]
theorem kp_X11_hole_30_31 : zchk cX11_hole bp_X11_hole_30_31 30 = true ∧ zpc bp_X11_hole_30_31 30 = 31 := ⟨by decide +kernel, rfl⟩
abbrev bp_X11_hole_13_16 : ZB := [(.iload_n 2, .null), (.i2l, .null), (.lconst 0, .long 0)]
theorem kp_X11_hole_13_16 : zchk cX11_hole bp_X11_hole_13_16 13 = true ∧ zpc bp_X11_hole_13_16 13 = 16 := ⟨by decide +kernel, rfl⟩
abbrev bp_X11_hole_32_33 : ZB := [(.iload_n 2, .null)]
theorem kp_X11_hole_32_33 : zchk cX11_hole bp_X11_hole_32_33 32 = true ∧ zpc bp_X11_hole_32_33 32 = 33 := ⟨by decide +kernel, rfl⟩
abbrev bp_X11_hole_68_69 : ZB := [(.aload_n 0, .null)]
theorem kp_X11_hole_68_69 : zchk cX11_hole bp_X11_hole_68_69 68 = true ∧ zpc bp_X11_hole_68_69 68 = 69 := ⟨by decide +kernel, rfl⟩
abbrev bp_X11_hole_72_73 : ZB := [(.iload_n 1, .null)]
theorem kp_X11_hole_72_73 : zchk cX11_hole bp_X11_hole_72_73 72 = true ∧ zpc bp_X11_hole_72_73 72 = 73 := ⟨by decide +kernel, rfl⟩
abbrev bp_X11_hole_75_76 : ZB := [(.aload_n 0, .null)]
theorem kp_X11_hole_75_76 : zchk cX11_hole bp_X11_hole_75_76 75 = true ∧ zpc bp_X11_hole_75_76 75 = 76 := ⟨by decide +kernel, rfl⟩
abbrev bp_X11_hole_79_80 : ZB := [(.iload_n 1, .null)]
theorem kp_X11_hole_79_80 : zchk cX11_hole bp_X11_hole_79_80 79 = true ∧ zpc bp_X11_hole_79_80 79 = 80 := ⟨by decide +kernel, rfl⟩
abbrev bp_X11_hole_82_83 : ZB := [(.aload_n 0, .null)]
theorem kp_X11_hole_82_83 : zchk cX11_hole bp_X11_hole_82_83 82 = true ∧ zpc bp_X11_hole_82_83 82 = 83 := ⟨by decide +kernel, rfl⟩
abbrev bp_X11_hole_86_87 : ZB := [(.iload_n 1, .null)]
theorem kp_X11_hole_86_87 : zchk cX11_hole bp_X11_hole_86_87 86 = true ∧ zpc bp_X11_hole_86_87 86 = 87 := ⟨by decide +kernel, rfl⟩
abbrev bp_X11_hole_89_90 : ZB := [(.aload_n 0, .null)]
theorem kp_X11_hole_89_90 : zchk cX11_hole bp_X11_hole_89_90 89 = true ∧ zpc bp_X11_hole_89_90 89 = 90 := ⟨by decide +kernel, rfl⟩
abbrev bp_X11_hole_93_94 : ZB := [(.iload_n 1, .null)]
theorem kp_X11_hole_93_94 : zchk cX11_hole bp_X11_hole_93_94 93 = true ∧ zpc bp_X11_hole_93_94 93 = 94 := ⟨by decide +kernel, rfl⟩
abbrev bp_X11_hole_96_97 : ZB := [(.aload_n 0, .null)]
theorem kp_X11_hole_96_97 : zchk cX11_hole bp_X11_hole_96_97 96 = true ∧ zpc bp_X11_hole_96_97 96 = 97 := ⟨by decide +kernel, rfl⟩
abbrev bp_X11_hole_100_101 : ZB := [(.iload_n 1, .null)]
theorem kp_X11_hole_100_101 : zchk cX11_hole bp_X11_hole_100_101 100 = true ∧ zpc bp_X11_hole_100_101 100 = 101 := ⟨by decide +kernel, rfl⟩
abbrev bp_X11_hole_103_104 : ZB := [(.aload_n 0, .null)]
theorem kp_X11_hole_103_104 : zchk cX11_hole bp_X11_hole_103_104 103 = true ∧ zpc bp_X11_hole_103_104 103 = 104 := ⟨by decide +kernel, rfl⟩
abbrev bp_X11_hole_107_108 : ZB := [(.iload_n 1, .null)]
theorem kp_X11_hole_107_108 : zchk cX11_hole bp_X11_hole_107_108 107 = true ∧ zpc bp_X11_hole_107_108 107 = 108 := ⟨by decide +kernel, rfl⟩
set_option maxHeartbeats 4000000 in
set_option maxRecDepth 100000 in
theorem cp_X11_hole (l : Launch) (G : KG) (mo : Nat) (th : Int32) (g_rows : Value) (g_row : Value) (hc : Int32) (r_planeOf : Nat) (r_holeX : Nat) (r_holeY : Nat) (r_room : Nat) (r_ounces : Nat) (r_deepOf : Nat) (sc : Int32) (r_factor : Nat) (r_otherOf : Nat) (r_isApart : Nat) (g_apartX : Value) (g_apartY : Value) (cc : Int32) (r_weight : Nat) (r_tape : Nat) (n : Int32) (p : Int32) (lim : Int32) (fi : Int32) (g_crossOf : Value) (g_trueX : Value) (g_trueY : Value) (g_thoughtX : Value) (g_thoughtY : Value) (g_poundHole : Value) (g_poundOunces : Value) (g_lead : Value) (g_trials : Value) (g_trialSpeed : Value) (g_isWhole : Value) (g_trialX : Value) (g_trialY : Value) (g_trialGive : Value) (g_trialLead : Value) (g_baseX : Value) (g_baseY : Value) (g_timesPull : Value) (g_trialBaseX : Value) (g_trialBaseY : Value) (g_trialTimes : Value) (g_pulls : Value) (g_pullMany : Value) (g_sizes : Value) (g_merged : Value) (g_nextHole : Value) (g_nextOunces : Value) (g_leftBehind : Value) (g_manUp : Value) (g_manLow : Value) (g_asked : Value) (g_lowOf : Value) (g_highOf : Value) (g_tried : Value) (g_found : Value) (g_askedMany : Value) (g_mostHoles : Value) (g_isFound : Value) (g_foundRest : Value) (g_foundOunces : Value) (g_question : Value) (g_questionSpeed : Value) (g_ounceRest : Value) (g_parts : Value) (g_filled : Value) (g_cogAt : Value) (g_cogBest : Value) (g_isOrdered : Value) (g_orderSize : Value) (g_isKept : Value) (g_kept : Value) (g_keptAt : Value) (fp : Nat → Int32) (fx : Nat → Int32) (fy : Nat → Int32) (fr : Nat → Int32) (fh : Nat → Int32) (fd : Nat → Int32) (iq : Int32) (kq : Int32) (hci : Int) (ii : Int) (ki : Int) (hhc : hc.toInt = hci) (hiq : iq.toInt = ii) (hkq : kq.toInt = ki) (hc0 : 0 ≤ hci ∧ hci ≤ 16) : Ct l G yX11_hole cX11_hole 3 (some .int) { frames := 2, cells := 0, slots := 0, locals := 46 } [.ref mo, .int iq, .int kq] [(mo, ob 11 [.int th, g_rows, g_row, .int hc, .ref r_planeOf, .ref r_holeX, .ref r_holeY, .ref r_room, .ref r_ounces, .ref r_deepOf, .int sc, .ref r_factor, .ref r_otherOf, .ref r_isApart, g_apartX, g_apartY, .int cc, .ref r_weight, .ref r_tape, .int n, .int p, .int lim, .int fi, g_crossOf, g_trueX, g_trueY, g_thoughtX, g_thoughtY, g_poundHole, g_poundOunces, g_lead, g_trials, g_trialSpeed, g_isWhole, g_trialX, g_trialY, g_trialGive, g_trialLead, g_baseX, g_baseY, g_timesPull, g_trialBaseX, g_trialBaseY, g_trialTimes, g_pulls, g_pullMany, g_sizes, g_merged, g_nextHole, g_nextOunces, g_leftBehind, g_manUp, g_manLow, g_asked, g_lowOf, g_highOf, g_tried, g_found, g_askedMany, g_mostHoles, g_isFound, g_foundRest, g_foundOunces, g_question, g_questionSpeed, g_ounceRest, g_parts, g_filled, g_cogAt, g_cogBest, g_isOrdered, g_orderSize, g_isKept, g_kept, g_keptAt]), (r_planeOf, aI G 16 fp), (r_holeX, aI G 16 fx), (r_holeY, aI G 16 fy), (r_room, aI G 16 fr), (r_ounces, aI G 16 fh), (r_deepOf, aI G 16 fd)] (fun r w1 => ∃ (rz : Int32), ∃ (th2 : Int32), (rz = mHo fp fx fy fr fh fd hci ii ki iq.toNatClampNeg) ∧ (th2 = tHo hci ii ki) ∧ r = some (.int rz) ∧ w1 = [(mo, ob 11 [.int th2, g_rows, g_row, .int hc, .ref r_planeOf, .ref r_holeX, .ref r_holeY, .ref r_room, .ref r_ounces, .ref r_deepOf, .int sc, .ref r_factor, .ref r_otherOf, .ref r_isApart, g_apartX, g_apartY, .int cc, .ref r_weight, .ref r_tape, .int n, .int p, .int lim, .int fi, g_crossOf, g_trueX, g_trueY, g_thoughtX, g_thoughtY, g_poundHole, g_poundOunces, g_lead, g_trials, g_trialSpeed, g_isWhole, g_trialX, g_trialY, g_trialGive, g_trialLead, g_baseX, g_baseY, g_timesPull, g_trialBaseX, g_trialBaseY, g_trialTimes, g_pulls, g_pullMany, g_sizes, g_merged, g_nextHole, g_nextOunces, g_leftBehind, g_manUp, g_manLow, g_asked, g_lowOf, g_highOf, g_tried, g_found, g_askedMany, g_mostHoles, g_isFound, g_foundRest, g_foundOunces, g_question, g_questionSpeed, g_ounceRest, g_parts, g_filled, g_cogAt, g_cogBest, g_isOrdered, g_orderSize, g_isKept, g_kept, g_keptAt]), (r_planeOf, aI G 16 fp), (r_holeX, aI G 16 fx), (r_holeY, aI G 16 fy), (r_room, aI G 16 fr), (r_ounces, aI G 16 fh), (r_deepOf, aI G 16 fd)]) := by
  refine ct_of [(0, .ref mo), (1, .int iq), (2, .int kq)] (by decide) (Nat.le_of_ble_eq_true rfl) rfl ?_
  intro p0 e0 s0 m0 args0 below0 meth0 c0 A X
  refine z_run X bp_X11_hole_0_2 kp_X11_hole_0_2 (lv' := [(0, .ref mo), (1, .int iq), (2, .int kq)]) (st' := [.int 0, .ref mo]) rfl ?_
  refine z_put X fl_11_3 dp_X11_hole_2 0 rfl (ty := .int) (T := TX11) (N := 75) rfl (Or.inl rfl) (by decide +kernel) rfl (by rfl) (Nat.le_of_ble_eq_true rfl) (ws' := [(mo, ob 11 [.int 0, g_rows, g_row, .int hc, .ref r_planeOf, .ref r_holeX, .ref r_holeY, .ref r_room, .ref r_ounces, .ref r_deepOf, .int sc, .ref r_factor, .ref r_otherOf, .ref r_isApart, g_apartX, g_apartY, .int cc, .ref r_weight, .ref r_tape, .int n, .int p, .int lim, .int fi, g_crossOf, g_trueX, g_trueY, g_thoughtX, g_thoughtY, g_poundHole, g_poundOunces, g_lead, g_trials, g_trialSpeed, g_isWhole, g_trialX, g_trialY, g_trialGive, g_trialLead, g_baseX, g_baseY, g_timesPull, g_trialBaseX, g_trialBaseY, g_trialTimes, g_pulls, g_pullMany, g_sizes, g_merged, g_nextHole, g_nextOunces, g_leftBehind, g_manUp, g_manLow, g_asked, g_lowOf, g_highOf, g_tried, g_found, g_askedMany, g_mostHoles, g_isFound, g_foundRest, g_foundOunces, g_question, g_questionSpeed, g_ounceRest, g_parts, g_filled, g_cogAt, g_cogBest, g_isOrdered, g_orderSize, g_isKept, g_kept, g_keptAt]), (r_planeOf, aI G 16 fp), (r_holeX, aI G 16 fx), (r_holeY, aI G 16 fy), (r_room, aI G 16 fr), (r_ounces, aI G 16 fh), (r_deepOf, aI G 16 fd)]) rfl ?_
  refine z_run X bp_X11_hole_5_7 kp_X11_hole_5_7 (lv' := [(0, .ref mo), (1, .int iq), (2, .int kq)]) (st' := [.int iq, .ref mo]) rfl ?_
  refine z_callV X k_11_115 (cp_X11_isHoleO l G mo 0 g_rows g_row hc r_planeOf r_holeX r_holeY r_room r_ounces r_deepOf sc r_factor r_otherOf r_isApart g_apartX g_apartY cc r_weight r_tape n p lim fi g_crossOf g_trueX g_trueY g_thoughtX g_thoughtY g_poundHole g_poundOunces g_lead g_trials g_trialSpeed g_isWhole g_trialX g_trialY g_trialGive g_trialLead g_baseX g_baseY g_timesPull g_trialBaseX g_trialBaseY g_trialTimes g_pulls g_pullMany g_sizes g_merged g_nextHole g_nextOunces g_leftBehind g_manUp g_manLow g_asked g_lowOf g_highOf g_tried g_found g_askedMany g_mostHoles g_isFound g_foundRest g_foundOunces g_question g_questionSpeed g_ounceRest g_parts g_filled g_cogAt g_cogBest g_isOrdered g_orderSize g_isKept g_kept g_keptAt iq hci ii hhc hiq (by omega)) dp_X11_hole_7 0 rfl rfl rfl ⟨Nat.le_of_ble_eq_true rfl, Nat.le_of_ble_eq_true rfl⟩ ⟨Nat.le_of_ble_eq_true rfl, Nat.le_of_ble_eq_true rfl⟩ rfl (rest := []) (As := [.int iq]) rfl (Nat.le_of_ble_eq_true rfl) [0] [1, 2, 3, 4, 5, 6] rfl (by decide) (wr := [(r_planeOf, aI G 16 fp), (r_holeX, aI G 16 fx), (r_holeY, aI G 16 fy), (r_room, aI G 16 fr), (r_ounces, aI G 16 fh), (r_deepOf, aI G 16 fd)]) rfl (by decide) (by decide) ?_
  rintro _ _ ⟨rfl, rfl⟩
  refine Z.at (pc' := 10) (st' := [.int (zb (decide (0 ≤ ii ∧ ii < hci)))]) (ws' := [(r_planeOf, aI G 16 fp), (r_holeX, aI G 16 fx), (r_holeY, aI G 16 fy), (r_room, aI G 16 fr), (r_ounces, aI G 16 fh), (r_deepOf, aI G 16 fd), (mo, ob 11 [.int 0, g_rows, g_row, .int hc, .ref r_planeOf, .ref r_holeX, .ref r_holeY, .ref r_room, .ref r_ounces, .ref r_deepOf, .int sc, .ref r_factor, .ref r_otherOf, .ref r_isApart, g_apartX, g_apartY, .int cc, .ref r_weight, .ref r_tape, .int n, .int p, .int lim, .int fi, g_crossOf, g_trueX, g_trueY, g_thoughtX, g_thoughtY, g_poundHole, g_poundOunces, g_lead, g_trials, g_trialSpeed, g_isWhole, g_trialX, g_trialY, g_trialGive, g_trialLead, g_baseX, g_baseY, g_timesPull, g_trialBaseX, g_trialBaseY, g_trialTimes, g_pulls, g_pullMany, g_sizes, g_merged, g_nextHole, g_nextOunces, g_leftBehind, g_manUp, g_manLow, g_asked, g_lowOf, g_highOf, g_tried, g_found, g_askedMany, g_mostHoles, g_isFound, g_foundRest, g_foundOunces, g_question, g_questionSpeed, g_ounceRest, g_parts, g_filled, g_cogAt, g_cogBest, g_isOrdered, g_orderSize, g_isKept, g_kept, g_keptAt])]) (kc' := 0) (ks' := 0) rfl rfl rfl rfl rfl ?_
  refine zi_eq_zb X dp_X11_hole_10 (tgt := 25) (by decide) (fun c10_1 => ?_) (fun c10_1 => ?_)
  ·
    refine z_run X bp_X11_hole_25_27 kp_X11_hole_25_27 (lv' := [(0, .ref mo), (1, .int iq), (2, .int kq)]) (st' := [.int 1, .ref mo]) rfl ?_
    refine z_put X fl_11_3 dp_X11_hole_27 6 rfl (ty := .int) (T := TX11) (N := 75) rfl (Or.inl rfl) (by decide +kernel) rfl (by rfl) (Nat.le_of_ble_eq_true rfl) (ws' := [(r_planeOf, aI G 16 fp), (r_holeX, aI G 16 fx), (r_holeY, aI G 16 fy), (r_room, aI G 16 fr), (r_ounces, aI G 16 fh), (r_deepOf, aI G 16 fd), (mo, ob 11 [.int 1, g_rows, g_row, .int hc, .ref r_planeOf, .ref r_holeX, .ref r_holeY, .ref r_room, .ref r_ounces, .ref r_deepOf, .int sc, .ref r_factor, .ref r_otherOf, .ref r_isApart, g_apartX, g_apartY, .int cc, .ref r_weight, .ref r_tape, .int n, .int p, .int lim, .int fi, g_crossOf, g_trueX, g_trueY, g_thoughtX, g_thoughtY, g_poundHole, g_poundOunces, g_lead, g_trials, g_trialSpeed, g_isWhole, g_trialX, g_trialY, g_trialGive, g_trialLead, g_baseX, g_baseY, g_timesPull, g_trialBaseX, g_trialBaseY, g_trialTimes, g_pulls, g_pullMany, g_sizes, g_merged, g_nextHole, g_nextOunces, g_leftBehind, g_manUp, g_manLow, g_asked, g_lowOf, g_highOf, g_tried, g_found, g_askedMany, g_mostHoles, g_isFound, g_foundRest, g_foundOunces, g_question, g_questionSpeed, g_ounceRest, g_parts, g_filled, g_cogAt, g_cogBest, g_isOrdered, g_orderSize, g_isKept, g_kept, g_keptAt])]) rfl ?_
    refine z_run X bp_X11_hole_30_31 kp_X11_hole_30_31 (lv' := [(0, .ref mo), (1, .int iq), (2, .int kq)]) (st' := [.int 0]) rfl ?_
    refine Z.sub (lv' := []) [] rfl [6, 0, 1, 2, 3, 4, 5] (ws' := [(mo, ob 11 [.int 1, g_rows, g_row, .int hc, .ref r_planeOf, .ref r_holeX, .ref r_holeY, .ref r_room, .ref r_ounces, .ref r_deepOf, .int sc, .ref r_factor, .ref r_otherOf, .ref r_isApart, g_apartX, g_apartY, .int cc, .ref r_weight, .ref r_tape, .int n, .int p, .int lim, .int fi, g_crossOf, g_trueX, g_trueY, g_thoughtX, g_thoughtY, g_poundHole, g_poundOunces, g_lead, g_trials, g_trialSpeed, g_isWhole, g_trialX, g_trialY, g_trialGive, g_trialLead, g_baseX, g_baseY, g_timesPull, g_trialBaseX, g_trialBaseY, g_trialTimes, g_pulls, g_pullMany, g_sizes, g_merged, g_nextHole, g_nextOunces, g_leftBehind, g_manUp, g_manLow, g_asked, g_lowOf, g_highOf, g_tried, g_found, g_askedMany, g_mostHoles, g_isFound, g_foundRest, g_foundOunces, g_question, g_questionSpeed, g_ounceRest, g_parts, g_filled, g_cogAt, g_cogBest, g_isOrdered, g_orderSize, g_isKept, g_kept, g_keptAt]), (r_planeOf, aI G 16 fp), (r_holeX, aI G 16 fx), (r_holeY, aI G 16 fy), (r_room, aI G 16 fr), (r_ounces, aI G 16 fh), (r_deepOf, aI G 16 fd)]) rfl (by decide) ?_
    exact z_iret X rfl dp_X11_hole_31 (Nat.le_of_ble_eq_true rfl) (Nat.le_of_ble_eq_true rfl) ⟨(0 : Int32), (1 : Int32), (mHo_n (show ¬ okHo hci ii ki by unfold okHo; omega)).symm, (tHo_n (show ¬ okHo hci ii ki by unfold okHo; omega)).symm, rfl, rfl⟩
  ·
    refine z_run X bp_X11_hole_13_16 kp_X11_hole_13_16 (lv' := [(0, .ref mo), (1, .int iq), (2, .int kq)]) (st' := [.long 0, .long kq.toInt64]) rfl ?_
    refine z_ldc2 X dp_X11_hole_16 cn_11_118 ?_
    refine z_callS X k_11_29 (cm_X11_in l G kq.toInt64 0 5 ki 0 5 (tI64 hkq) (show (0 : Int64).toInt = 0 from by decide) (show (5 : Int64).toInt = 5 from by decide)) dp_X11_hole_19 ⟨Nat.le_of_ble_eq_true rfl, Nat.le_of_ble_eq_true rfl⟩ ⟨Nat.le_of_ble_eq_true rfl, Nat.le_of_ble_eq_true rfl⟩ rfl (rest := []) (As := [.long kq.toInt64, .long 0, .long 5]) rfl (Nat.le_of_ble_eq_true rfl) [] [0, 1, 2, 3, 4, 5, 6] rfl (by decide) (wr := [(r_planeOf, aI G 16 fp), (r_holeX, aI G 16 fx), (r_holeY, aI G 16 fy), (r_room, aI G 16 fr), (r_ounces, aI G 16 fh), (r_deepOf, aI G 16 fd), (mo, ob 11 [.int 0, g_rows, g_row, .int hc, .ref r_planeOf, .ref r_holeX, .ref r_holeY, .ref r_room, .ref r_ounces, .ref r_deepOf, .int sc, .ref r_factor, .ref r_otherOf, .ref r_isApart, g_apartX, g_apartY, .int cc, .ref r_weight, .ref r_tape, .int n, .int p, .int lim, .int fi, g_crossOf, g_trueX, g_trueY, g_thoughtX, g_thoughtY, g_poundHole, g_poundOunces, g_lead, g_trials, g_trialSpeed, g_isWhole, g_trialX, g_trialY, g_trialGive, g_trialLead, g_baseX, g_baseY, g_timesPull, g_trialBaseX, g_trialBaseY, g_trialTimes, g_pulls, g_pullMany, g_sizes, g_merged, g_nextHole, g_nextOunces, g_leftBehind, g_manUp, g_manLow, g_asked, g_lowOf, g_highOf, g_tried, g_found, g_askedMany, g_mostHoles, g_isFound, g_foundRest, g_foundOunces, g_question, g_questionSpeed, g_ounceRest, g_parts, g_filled, g_cogAt, g_cogBest, g_isOrdered, g_orderSize, g_isKept, g_kept, g_keptAt])]) rfl (by decide) (by decide) ?_
    rintro _ _ ⟨rfl, rfl⟩
    refine Z.at (pc' := 22) (st' := [.int (zb (decide (0 ≤ ki ∧ ki ≤ 5)))]) (ws' := [(r_planeOf, aI G 16 fp), (r_holeX, aI G 16 fx), (r_holeY, aI G 16 fy), (r_room, aI G 16 fr), (r_ounces, aI G 16 fh), (r_deepOf, aI G 16 fd), (mo, ob 11 [.int 0, g_rows, g_row, .int hc, .ref r_planeOf, .ref r_holeX, .ref r_holeY, .ref r_room, .ref r_ounces, .ref r_deepOf, .int sc, .ref r_factor, .ref r_otherOf, .ref r_isApart, g_apartX, g_apartY, .int cc, .ref r_weight, .ref r_tape, .int n, .int p, .int lim, .int fi, g_crossOf, g_trueX, g_trueY, g_thoughtX, g_thoughtY, g_poundHole, g_poundOunces, g_lead, g_trials, g_trialSpeed, g_isWhole, g_trialX, g_trialY, g_trialGive, g_trialLead, g_baseX, g_baseY, g_timesPull, g_trialBaseX, g_trialBaseY, g_trialTimes, g_pulls, g_pullMany, g_sizes, g_merged, g_nextHole, g_nextOunces, g_leftBehind, g_manUp, g_manLow, g_asked, g_lowOf, g_highOf, g_tried, g_found, g_askedMany, g_mostHoles, g_isFound, g_foundRest, g_foundOunces, g_question, g_questionSpeed, g_ounceRest, g_parts, g_filled, g_cogAt, g_cogBest, g_isOrdered, g_orderSize, g_isKept, g_kept, g_keptAt])]) (kc' := 0) (ks' := 0) rfl rfl rfl rfl rfl ?_
    refine zi_ne_zb X dp_X11_hole_22 (tgt := 32) (by decide) (fun c22_2 => ?_) (fun c22_2 => ?_)
    ·
      refine z_run X bp_X11_hole_32_33 kp_X11_hole_32_33 (lv' := [(0, .ref mo), (1, .int iq), (2, .int kq)]) (st' := [.int kq]) rfl ?_
      by_cases t33_3 : ki = 0
      ·
        have t33_3_ := hkq.trans t33_3
        refine z_tableIn X dp_X11_hole_33 (by rw [t33_3_]; decide) (by rw [t33_3_]; decide) (off := 35) (by rw [t33_3_]; rfl) (tgt := 68) (by decide) ?_
        refine z_run X bp_X11_hole_68_69 kp_X11_hole_68_69 (lv' := [(0, .ref mo), (1, .int iq), (2, .int kq)]) (st' := [.ref mo]) rfl ?_
        refine z_get X fl_11_66 dp_X11_hole_69 6 rfl (v := .ref r_planeOf) rfl ?_
        refine z_run X bp_X11_hole_72_73 kp_X11_hole_72_73 (lv' := [(0, .ref mo), (1, .int iq), (2, .int kq)]) (st' := [.int iq, .ref r_planeOf]) rfl ?_
        refine z_iald X dp_X11_hole_73 0 rfl (vin hiq (by omega) (by omega)) (v := (fp iq.toNatClampNeg)) rfl ?_
        refine Z.sub (lv' := []) [] rfl [6, 0, 1, 2, 3, 4, 5] (ws' := [(mo, ob 11 [.int 0, g_rows, g_row, .int hc, .ref r_planeOf, .ref r_holeX, .ref r_holeY, .ref r_room, .ref r_ounces, .ref r_deepOf, .int sc, .ref r_factor, .ref r_otherOf, .ref r_isApart, g_apartX, g_apartY, .int cc, .ref r_weight, .ref r_tape, .int n, .int p, .int lim, .int fi, g_crossOf, g_trueX, g_trueY, g_thoughtX, g_thoughtY, g_poundHole, g_poundOunces, g_lead, g_trials, g_trialSpeed, g_isWhole, g_trialX, g_trialY, g_trialGive, g_trialLead, g_baseX, g_baseY, g_timesPull, g_trialBaseX, g_trialBaseY, g_trialTimes, g_pulls, g_pullMany, g_sizes, g_merged, g_nextHole, g_nextOunces, g_leftBehind, g_manUp, g_manLow, g_asked, g_lowOf, g_highOf, g_tried, g_found, g_askedMany, g_mostHoles, g_isFound, g_foundRest, g_foundOunces, g_question, g_questionSpeed, g_ounceRest, g_parts, g_filled, g_cogAt, g_cogBest, g_isOrdered, g_orderSize, g_isKept, g_kept, g_keptAt]), (r_planeOf, aI G 16 fp), (r_holeX, aI G 16 fx), (r_holeY, aI G 16 fy), (r_room, aI G 16 fr), (r_ounces, aI G 16 fh), (r_deepOf, aI G 16 fd)]) rfl (by decide) ?_
        exact z_iret X rfl dp_X11_hole_74 (Nat.le_of_ble_eq_true rfl) (Nat.le_of_ble_eq_true rfl) ⟨(fp iq.toNatClampNeg), (0 : Int32), (by rw [mHo_y (show okHo hci ii ki by unfold okHo; omega), show ki = 0 by omega]; exact vHo_k.1.symm), (tHo_y (show okHo hci ii ki by unfold okHo; omega)).symm, rfl, rfl⟩
      by_cases t33_4 : ki = 1
      ·
        have t33_4_ := hkq.trans t33_4
        refine z_tableIn X dp_X11_hole_33 (by rw [t33_4_]; decide) (by rw [t33_4_]; decide) (off := 42) (by rw [t33_4_]; rfl) (tgt := 75) (by decide) ?_
        refine z_run X bp_X11_hole_75_76 kp_X11_hole_75_76 (lv' := [(0, .ref mo), (1, .int iq), (2, .int kq)]) (st' := [.ref mo]) rfl ?_
        refine z_get X fl_11_69 dp_X11_hole_76 6 rfl (v := .ref r_holeX) rfl ?_
        refine z_run X bp_X11_hole_79_80 kp_X11_hole_79_80 (lv' := [(0, .ref mo), (1, .int iq), (2, .int kq)]) (st' := [.int iq, .ref r_holeX]) rfl ?_
        refine z_iald X dp_X11_hole_80 1 rfl (vin hiq (by omega) (by omega)) (v := (fx iq.toNatClampNeg)) rfl ?_
        refine Z.sub (lv' := []) [] rfl [6, 0, 1, 2, 3, 4, 5] (ws' := [(mo, ob 11 [.int 0, g_rows, g_row, .int hc, .ref r_planeOf, .ref r_holeX, .ref r_holeY, .ref r_room, .ref r_ounces, .ref r_deepOf, .int sc, .ref r_factor, .ref r_otherOf, .ref r_isApart, g_apartX, g_apartY, .int cc, .ref r_weight, .ref r_tape, .int n, .int p, .int lim, .int fi, g_crossOf, g_trueX, g_trueY, g_thoughtX, g_thoughtY, g_poundHole, g_poundOunces, g_lead, g_trials, g_trialSpeed, g_isWhole, g_trialX, g_trialY, g_trialGive, g_trialLead, g_baseX, g_baseY, g_timesPull, g_trialBaseX, g_trialBaseY, g_trialTimes, g_pulls, g_pullMany, g_sizes, g_merged, g_nextHole, g_nextOunces, g_leftBehind, g_manUp, g_manLow, g_asked, g_lowOf, g_highOf, g_tried, g_found, g_askedMany, g_mostHoles, g_isFound, g_foundRest, g_foundOunces, g_question, g_questionSpeed, g_ounceRest, g_parts, g_filled, g_cogAt, g_cogBest, g_isOrdered, g_orderSize, g_isKept, g_kept, g_keptAt]), (r_planeOf, aI G 16 fp), (r_holeX, aI G 16 fx), (r_holeY, aI G 16 fy), (r_room, aI G 16 fr), (r_ounces, aI G 16 fh), (r_deepOf, aI G 16 fd)]) rfl (by decide) ?_
        exact z_iret X rfl dp_X11_hole_81 (Nat.le_of_ble_eq_true rfl) (Nat.le_of_ble_eq_true rfl) ⟨(fx iq.toNatClampNeg), (0 : Int32), (by rw [mHo_y (show okHo hci ii ki by unfold okHo; omega), show ki = 1 by omega]; exact vHo_k.2.1.symm), (tHo_y (show okHo hci ii ki by unfold okHo; omega)).symm, rfl, rfl⟩
      by_cases t33_5 : ki = 2
      ·
        have t33_5_ := hkq.trans t33_5
        refine z_tableIn X dp_X11_hole_33 (by rw [t33_5_]; decide) (by rw [t33_5_]; decide) (off := 49) (by rw [t33_5_]; rfl) (tgt := 82) (by decide) ?_
        refine z_run X bp_X11_hole_82_83 kp_X11_hole_82_83 (lv' := [(0, .ref mo), (1, .int iq), (2, .int kq)]) (st' := [.ref mo]) rfl ?_
        refine z_get X fl_11_76 dp_X11_hole_83 6 rfl (v := .ref r_holeY) rfl ?_
        refine z_run X bp_X11_hole_86_87 kp_X11_hole_86_87 (lv' := [(0, .ref mo), (1, .int iq), (2, .int kq)]) (st' := [.int iq, .ref r_holeY]) rfl ?_
        refine z_iald X dp_X11_hole_87 2 rfl (vin hiq (by omega) (by omega)) (v := (fy iq.toNatClampNeg)) rfl ?_
        refine Z.sub (lv' := []) [] rfl [6, 0, 1, 2, 3, 4, 5] (ws' := [(mo, ob 11 [.int 0, g_rows, g_row, .int hc, .ref r_planeOf, .ref r_holeX, .ref r_holeY, .ref r_room, .ref r_ounces, .ref r_deepOf, .int sc, .ref r_factor, .ref r_otherOf, .ref r_isApart, g_apartX, g_apartY, .int cc, .ref r_weight, .ref r_tape, .int n, .int p, .int lim, .int fi, g_crossOf, g_trueX, g_trueY, g_thoughtX, g_thoughtY, g_poundHole, g_poundOunces, g_lead, g_trials, g_trialSpeed, g_isWhole, g_trialX, g_trialY, g_trialGive, g_trialLead, g_baseX, g_baseY, g_timesPull, g_trialBaseX, g_trialBaseY, g_trialTimes, g_pulls, g_pullMany, g_sizes, g_merged, g_nextHole, g_nextOunces, g_leftBehind, g_manUp, g_manLow, g_asked, g_lowOf, g_highOf, g_tried, g_found, g_askedMany, g_mostHoles, g_isFound, g_foundRest, g_foundOunces, g_question, g_questionSpeed, g_ounceRest, g_parts, g_filled, g_cogAt, g_cogBest, g_isOrdered, g_orderSize, g_isKept, g_kept, g_keptAt]), (r_planeOf, aI G 16 fp), (r_holeX, aI G 16 fx), (r_holeY, aI G 16 fy), (r_room, aI G 16 fr), (r_ounces, aI G 16 fh), (r_deepOf, aI G 16 fd)]) rfl (by decide) ?_
        exact z_iret X rfl dp_X11_hole_88 (Nat.le_of_ble_eq_true rfl) (Nat.le_of_ble_eq_true rfl) ⟨(fy iq.toNatClampNeg), (0 : Int32), (by rw [mHo_y (show okHo hci ii ki by unfold okHo; omega), show ki = 2 by omega]; exact vHo_k.2.2.1.symm), (tHo_y (show okHo hci ii ki by unfold okHo; omega)).symm, rfl, rfl⟩
      by_cases t33_6 : ki = 3
      ·
        have t33_6_ := hkq.trans t33_6
        refine z_tableIn X dp_X11_hole_33 (by rw [t33_6_]; decide) (by rw [t33_6_]; decide) (off := 56) (by rw [t33_6_]; rfl) (tgt := 89) (by decide) ?_
        refine z_run X bp_X11_hole_89_90 kp_X11_hole_89_90 (lv' := [(0, .ref mo), (1, .int iq), (2, .int kq)]) (st' := [.ref mo]) rfl ?_
        refine z_get X fl_11_79 dp_X11_hole_90 6 rfl (v := .ref r_room) rfl ?_
        refine z_run X bp_X11_hole_93_94 kp_X11_hole_93_94 (lv' := [(0, .ref mo), (1, .int iq), (2, .int kq)]) (st' := [.int iq, .ref r_room]) rfl ?_
        refine z_iald X dp_X11_hole_94 3 rfl (vin hiq (by omega) (by omega)) (v := (fr iq.toNatClampNeg)) rfl ?_
        refine Z.sub (lv' := []) [] rfl [6, 0, 1, 2, 3, 4, 5] (ws' := [(mo, ob 11 [.int 0, g_rows, g_row, .int hc, .ref r_planeOf, .ref r_holeX, .ref r_holeY, .ref r_room, .ref r_ounces, .ref r_deepOf, .int sc, .ref r_factor, .ref r_otherOf, .ref r_isApart, g_apartX, g_apartY, .int cc, .ref r_weight, .ref r_tape, .int n, .int p, .int lim, .int fi, g_crossOf, g_trueX, g_trueY, g_thoughtX, g_thoughtY, g_poundHole, g_poundOunces, g_lead, g_trials, g_trialSpeed, g_isWhole, g_trialX, g_trialY, g_trialGive, g_trialLead, g_baseX, g_baseY, g_timesPull, g_trialBaseX, g_trialBaseY, g_trialTimes, g_pulls, g_pullMany, g_sizes, g_merged, g_nextHole, g_nextOunces, g_leftBehind, g_manUp, g_manLow, g_asked, g_lowOf, g_highOf, g_tried, g_found, g_askedMany, g_mostHoles, g_isFound, g_foundRest, g_foundOunces, g_question, g_questionSpeed, g_ounceRest, g_parts, g_filled, g_cogAt, g_cogBest, g_isOrdered, g_orderSize, g_isKept, g_kept, g_keptAt]), (r_planeOf, aI G 16 fp), (r_holeX, aI G 16 fx), (r_holeY, aI G 16 fy), (r_room, aI G 16 fr), (r_ounces, aI G 16 fh), (r_deepOf, aI G 16 fd)]) rfl (by decide) ?_
        exact z_iret X rfl dp_X11_hole_95 (Nat.le_of_ble_eq_true rfl) (Nat.le_of_ble_eq_true rfl) ⟨(fr iq.toNatClampNeg), (0 : Int32), (by rw [mHo_y (show okHo hci ii ki by unfold okHo; omega), show ki = 3 by omega]; exact vHo_k.2.2.2.1.symm), (tHo_y (show okHo hci ii ki by unfold okHo; omega)).symm, rfl, rfl⟩
      by_cases t33_7 : ki = 4
      ·
        have t33_7_ := hkq.trans t33_7
        refine z_tableIn X dp_X11_hole_33 (by rw [t33_7_]; decide) (by rw [t33_7_]; decide) (off := 63) (by rw [t33_7_]; rfl) (tgt := 96) (by decide) ?_
        refine z_run X bp_X11_hole_96_97 kp_X11_hole_96_97 (lv' := [(0, .ref mo), (1, .int iq), (2, .int kq)]) (st' := [.ref mo]) rfl ?_
        refine z_get X fl_11_82 dp_X11_hole_97 6 rfl (v := .ref r_ounces) rfl ?_
        refine z_run X bp_X11_hole_100_101 kp_X11_hole_100_101 (lv' := [(0, .ref mo), (1, .int iq), (2, .int kq)]) (st' := [.int iq, .ref r_ounces]) rfl ?_
        refine z_iald X dp_X11_hole_101 4 rfl (vin hiq (by omega) (by omega)) (v := (fh iq.toNatClampNeg)) rfl ?_
        refine Z.sub (lv' := []) [] rfl [6, 0, 1, 2, 3, 4, 5] (ws' := [(mo, ob 11 [.int 0, g_rows, g_row, .int hc, .ref r_planeOf, .ref r_holeX, .ref r_holeY, .ref r_room, .ref r_ounces, .ref r_deepOf, .int sc, .ref r_factor, .ref r_otherOf, .ref r_isApart, g_apartX, g_apartY, .int cc, .ref r_weight, .ref r_tape, .int n, .int p, .int lim, .int fi, g_crossOf, g_trueX, g_trueY, g_thoughtX, g_thoughtY, g_poundHole, g_poundOunces, g_lead, g_trials, g_trialSpeed, g_isWhole, g_trialX, g_trialY, g_trialGive, g_trialLead, g_baseX, g_baseY, g_timesPull, g_trialBaseX, g_trialBaseY, g_trialTimes, g_pulls, g_pullMany, g_sizes, g_merged, g_nextHole, g_nextOunces, g_leftBehind, g_manUp, g_manLow, g_asked, g_lowOf, g_highOf, g_tried, g_found, g_askedMany, g_mostHoles, g_isFound, g_foundRest, g_foundOunces, g_question, g_questionSpeed, g_ounceRest, g_parts, g_filled, g_cogAt, g_cogBest, g_isOrdered, g_orderSize, g_isKept, g_kept, g_keptAt]), (r_planeOf, aI G 16 fp), (r_holeX, aI G 16 fx), (r_holeY, aI G 16 fy), (r_room, aI G 16 fr), (r_ounces, aI G 16 fh), (r_deepOf, aI G 16 fd)]) rfl (by decide) ?_
        exact z_iret X rfl dp_X11_hole_102 (Nat.le_of_ble_eq_true rfl) (Nat.le_of_ble_eq_true rfl) ⟨(fh iq.toNatClampNeg), (0 : Int32), (by rw [mHo_y (show okHo hci ii ki by unfold okHo; omega), show ki = 4 by omega]; exact vHo_k.2.2.2.2.1.symm), (tHo_y (show okHo hci ii ki by unfold okHo; omega)).symm, rfl, rfl⟩
      refine z_tableOut X dp_X11_hole_33 (by rw [hkq]; omega) (tgt := 103) (by decide) ?_
      refine z_run X bp_X11_hole_103_104 kp_X11_hole_103_104 (lv' := [(0, .ref mo), (1, .int iq), (2, .int kq)]) (st' := [.ref mo]) rfl ?_
      refine z_get X fl_11_85 dp_X11_hole_104 6 rfl (v := .ref r_deepOf) rfl ?_
      refine z_run X bp_X11_hole_107_108 kp_X11_hole_107_108 (lv' := [(0, .ref mo), (1, .int iq), (2, .int kq)]) (st' := [.int iq, .ref r_deepOf]) rfl ?_
      refine z_iald X dp_X11_hole_108 5 rfl (vin hiq (by omega) (by omega)) (v := (fd iq.toNatClampNeg)) rfl ?_
      refine Z.sub (lv' := []) [] rfl [6, 0, 1, 2, 3, 4, 5] (ws' := [(mo, ob 11 [.int 0, g_rows, g_row, .int hc, .ref r_planeOf, .ref r_holeX, .ref r_holeY, .ref r_room, .ref r_ounces, .ref r_deepOf, .int sc, .ref r_factor, .ref r_otherOf, .ref r_isApart, g_apartX, g_apartY, .int cc, .ref r_weight, .ref r_tape, .int n, .int p, .int lim, .int fi, g_crossOf, g_trueX, g_trueY, g_thoughtX, g_thoughtY, g_poundHole, g_poundOunces, g_lead, g_trials, g_trialSpeed, g_isWhole, g_trialX, g_trialY, g_trialGive, g_trialLead, g_baseX, g_baseY, g_timesPull, g_trialBaseX, g_trialBaseY, g_trialTimes, g_pulls, g_pullMany, g_sizes, g_merged, g_nextHole, g_nextOunces, g_leftBehind, g_manUp, g_manLow, g_asked, g_lowOf, g_highOf, g_tried, g_found, g_askedMany, g_mostHoles, g_isFound, g_foundRest, g_foundOunces, g_question, g_questionSpeed, g_ounceRest, g_parts, g_filled, g_cogAt, g_cogBest, g_isOrdered, g_orderSize, g_isKept, g_kept, g_keptAt]), (r_planeOf, aI G 16 fp), (r_holeX, aI G 16 fx), (r_holeY, aI G 16 fy), (r_room, aI G 16 fr), (r_ounces, aI G 16 fh), (r_deepOf, aI G 16 fd)]) rfl (by decide) ?_
      exact z_iret X rfl dp_X11_hole_109 (Nat.le_of_ble_eq_true rfl) (Nat.le_of_ble_eq_true rfl) ⟨(fd iq.toNatClampNeg), (0 : Int32), (by rw [mHo_y (show okHo hci ii ki by unfold okHo; omega), show ki = 5 by omega]; exact vHo_k.2.2.2.2.2.symm), (tHo_y (show okHo hci ii ki by unfold okHo; omega)).symm, rfl, rfl⟩
    ·
      refine z_run X bp_X11_hole_25_27 kp_X11_hole_25_27 (lv' := [(0, .ref mo), (1, .int iq), (2, .int kq)]) (st' := [.int 1, .ref mo]) rfl ?_
      refine z_put X fl_11_3 dp_X11_hole_27 6 rfl (ty := .int) (T := TX11) (N := 75) rfl (Or.inl rfl) (by decide +kernel) rfl (by rfl) (Nat.le_of_ble_eq_true rfl) (ws' := [(r_planeOf, aI G 16 fp), (r_holeX, aI G 16 fx), (r_holeY, aI G 16 fy), (r_room, aI G 16 fr), (r_ounces, aI G 16 fh), (r_deepOf, aI G 16 fd), (mo, ob 11 [.int 1, g_rows, g_row, .int hc, .ref r_planeOf, .ref r_holeX, .ref r_holeY, .ref r_room, .ref r_ounces, .ref r_deepOf, .int sc, .ref r_factor, .ref r_otherOf, .ref r_isApart, g_apartX, g_apartY, .int cc, .ref r_weight, .ref r_tape, .int n, .int p, .int lim, .int fi, g_crossOf, g_trueX, g_trueY, g_thoughtX, g_thoughtY, g_poundHole, g_poundOunces, g_lead, g_trials, g_trialSpeed, g_isWhole, g_trialX, g_trialY, g_trialGive, g_trialLead, g_baseX, g_baseY, g_timesPull, g_trialBaseX, g_trialBaseY, g_trialTimes, g_pulls, g_pullMany, g_sizes, g_merged, g_nextHole, g_nextOunces, g_leftBehind, g_manUp, g_manLow, g_asked, g_lowOf, g_highOf, g_tried, g_found, g_askedMany, g_mostHoles, g_isFound, g_foundRest, g_foundOunces, g_question, g_questionSpeed, g_ounceRest, g_parts, g_filled, g_cogAt, g_cogBest, g_isOrdered, g_orderSize, g_isKept, g_kept, g_keptAt])]) rfl ?_
      refine z_run X bp_X11_hole_30_31 kp_X11_hole_30_31 (lv' := [(0, .ref mo), (1, .int iq), (2, .int kq)]) (st' := [.int 0]) rfl ?_
      refine Z.sub (lv' := []) [] rfl [6, 0, 1, 2, 3, 4, 5] (ws' := [(mo, ob 11 [.int 1, g_rows, g_row, .int hc, .ref r_planeOf, .ref r_holeX, .ref r_holeY, .ref r_room, .ref r_ounces, .ref r_deepOf, .int sc, .ref r_factor, .ref r_otherOf, .ref r_isApart, g_apartX, g_apartY, .int cc, .ref r_weight, .ref r_tape, .int n, .int p, .int lim, .int fi, g_crossOf, g_trueX, g_trueY, g_thoughtX, g_thoughtY, g_poundHole, g_poundOunces, g_lead, g_trials, g_trialSpeed, g_isWhole, g_trialX, g_trialY, g_trialGive, g_trialLead, g_baseX, g_baseY, g_timesPull, g_trialBaseX, g_trialBaseY, g_trialTimes, g_pulls, g_pullMany, g_sizes, g_merged, g_nextHole, g_nextOunces, g_leftBehind, g_manUp, g_manLow, g_asked, g_lowOf, g_highOf, g_tried, g_found, g_askedMany, g_mostHoles, g_isFound, g_foundRest, g_foundOunces, g_question, g_questionSpeed, g_ounceRest, g_parts, g_filled, g_cogAt, g_cogBest, g_isOrdered, g_orderSize, g_isKept, g_kept, g_keptAt]), (r_planeOf, aI G 16 fp), (r_holeX, aI G 16 fx), (r_holeY, aI G 16 fy), (r_room, aI G 16 fr), (r_ounces, aI G 16 fh), (r_deepOf, aI G 16 fd)]) rfl (by decide) ?_
      exact z_iret X rfl dp_X11_hole_31 (Nat.le_of_ble_eq_true rfl) (Nat.le_of_ble_eq_true rfl) ⟨(0 : Int32), (1 : Int32), (mHo_n (show ¬ okHo hci ii ki by unfold okHo; omega)).symm, (tHo_n (show ¬ okHo hci ii ki by unfold okHo; omega)).symm, rfl, rfl⟩

set_option maxHeartbeats 4000000 in
set_option maxRecDepth 100000 in
theorem ac_hom (l : Launch) (G : KG) {ad : Nat → Nat} {w0 : va_W} {h iq kq : Int32} {zp zx zy zr zh zd : Nat → Int32} (hW : WT G ad TM w0) (eh : fget w0 0 3 = some (.int h)) (ezp : cget w0 2 0 = some (.inr (cyI G, 16, .inl zp))) (ezx : cget w0 3 0 = some (.inr (cyI G, 16, .inl zx))) (ezy : cget w0 4 0 = some (.inr (cyI G, 16, .inl zy))) (ezr : cget w0 5 0 = some (.inr (cyI G, 16, .inl zr))) (ezh : cget w0 6 0 = some (.inr (cyI G, 16, .inl zh))) (ezd : cget w0 7 0 = some (.inr (cyI G, 16, .inl zd))) : Ct l G yX11_hole cX11_hole 3 (some .int) { frames := 2, cells := 0, slots := 0, locals := 46 } [.ref (ad 0), .int iq, .int kq] w0 (fun r w1 => WT G ad TM w1 ∧ FRM C_X11_hole_0.2.2.2.2.1 w0 w1 ∧ (r = some (.int (mHo zp zx zy zr zh zd h.toInt iq.toInt kq.toInt iq.toNatClampNeg)) ∧ fget w1 0 0 = some (.int (tHo h.toInt iq.toInt kq.toInt)))) := by
  obtain ⟨g0, q0, t0⟩ := WT.tab hW (k := 0) rfl
  obtain ⟨y0_0, r0_0, -, -⟩ := vty0 (t0 0 _ rfl).1 rfl
  have r0_3 : g0 3 = .int h := Option.some.inj ((t0 3 _ rfl).2.symm.trans eh)
  have b0_3 : 0 ≤ h.toInt ∧ h.toInt ≤ 16 := by
    have h := (t0 3 _ rfl).1
    rw [r0_3] at h
    obtain ⟨y, e, l1, u1⟩ := vty0 h rfl
    obtain rfl := Value.int.inj e
    exact ⟨l1, u1⟩
  have r0_4 : g0 4 = .ref (ad 2) := vty2 (t0 4 _ rfl).1 rfl
  have r0_5 : g0 5 = .ref (ad 3) := vty2 (t0 5 _ rfl).1 rfl
  have r0_6 : g0 6 = .ref (ad 4) := vty2 (t0 6 _ rfl).1 rfl
  have r0_7 : g0 7 = .ref (ad 5) := vty2 (t0 7 _ rfl).1 rfl
  have r0_8 : g0 8 = .ref (ad 6) := vty2 (t0 8 _ rfl).1 rfl
  have r0_9 : g0 9 = .ref (ad 7) := vty2 (t0 9 _ rfl).1 rfl
  obtain ⟨y0_10, r0_10, -, -⟩ := vty0 (t0 10 _ rfl).1 rfl
  have r0_11 : g0 11 = .ref (ad 8) := vty2 (t0 11 _ rfl).1 rfl
  have r0_12 : g0 12 = .ref (ad 9) := vty2 (t0 12 _ rfl).1 rfl
  have r0_13 : g0 13 = .ref (ad 10) := vty2 (t0 13 _ rfl).1 rfl
  obtain ⟨y0_16, r0_16, -, -⟩ := vty0 (t0 16 _ rfl).1 rfl
  have r0_17 : g0 17 = .ref (ad 13) := vty2 (t0 17 _ rfl).1 rfl
  have r0_18 : g0 18 = .ref (ad 14) := vty2 (t0 18 _ rfl).1 rfl
  obtain ⟨y0_19, r0_19, -, -⟩ := vty0 (t0 19 _ rfl).1 rfl
  obtain ⟨y0_20, r0_20, -, -⟩ := vty0 (t0 20 _ rfl).1 rfl
  obtain ⟨y0_21, r0_21, -, -⟩ := vty0 (t0 21 _ rfl).1 rfl
  obtain ⟨y0_22, r0_22, -, -⟩ := vty0 (t0 22 _ rfl).1 rfl
  have c0 : w0[0]? = some ((ad 0), ob 11 [.int y0_0, (g0 1), (g0 2), .int h, .ref (ad 2), .ref (ad 3), .ref (ad 4), .ref (ad 5), .ref (ad 6), .ref (ad 7), .int y0_10, .ref (ad 8), .ref (ad 9), .ref (ad 10), (g0 14), (g0 15), .int y0_16, .ref (ad 13), .ref (ad 14), .int y0_19, .int y0_20, .int y0_21, .int y0_22, (g0 23), (g0 24), (g0 25), (g0 26), (g0 27), (g0 28), (g0 29), (g0 30), (g0 31), (g0 32), (g0 33), (g0 34), (g0 35), (g0 36), (g0 37), (g0 38), (g0 39), (g0 40), (g0 41), (g0 42), (g0 43), (g0 44), (g0 45), (g0 46), (g0 47), (g0 48), (g0 49), (g0 50), (g0 51), (g0 52), (g0 53), (g0 54), (g0 55), (g0 56), (g0 57), (g0 58), (g0 59), (g0 60), (g0 61), (g0 62), (g0 63), (g0 64), (g0 65), (g0 66), (g0 67), (g0 68), (g0 69), (g0 70), (g0 71), (g0 72), (g0 73), (g0 74)]) := by
    rw [q0]
    show some (ad 0, ob 11 [g0 0, g0 1, g0 2, g0 3, g0 4, g0 5, g0 6, g0 7, g0 8, g0 9, g0 10, g0 11, g0 12, g0 13, g0 14, g0 15, g0 16, g0 17, g0 18, g0 19, g0 20, g0 21, g0 22, g0 23, g0 24, g0 25, g0 26, g0 27, g0 28, g0 29, g0 30, g0 31, g0 32, g0 33, g0 34, g0 35, g0 36, g0 37, g0 38, g0 39, g0 40, g0 41, g0 42, g0 43, g0 44, g0 45, g0 46, g0 47, g0 48, g0 49, g0 50, g0 51, g0 52, g0 53, g0 54, g0 55, g0 56, g0 57, g0 58, g0 59, g0 60, g0 61, g0 62, g0 63, g0 64, g0 65, g0 66, g0 67, g0 68, g0 69, g0 70, g0 71, g0 72, g0 73, g0 74]) = _
    rw [r0_0, r0_3, r0_4, r0_5, r0_6, r0_7, r0_8, r0_9, r0_10, r0_11, r0_12, r0_13, r0_16, r0_17, r0_18, r0_19, r0_20, r0_21, r0_22]
  obtain ⟨f2, c2, -⟩ := WT.ints hW (k := 2) rfl
  have ef2 : f2 = zp := arrinj ((cgetI c2 0).symm.trans ezp)
  rw [ef2] at c2
  obtain ⟨f3, c3, -⟩ := WT.ints hW (k := 3) rfl
  have ef3 : f3 = zx := arrinj ((cgetI c3 0).symm.trans ezx)
  rw [ef3] at c3
  obtain ⟨f4, c4, -⟩ := WT.ints hW (k := 4) rfl
  have ef4 : f4 = zy := arrinj ((cgetI c4 0).symm.trans ezy)
  rw [ef4] at c4
  obtain ⟨f5, c5, -⟩ := WT.ints hW (k := 5) rfl
  have ef5 : f5 = zr := arrinj ((cgetI c5 0).symm.trans ezr)
  rw [ef5] at c5
  obtain ⟨f6, c6, -⟩ := WT.ints hW (k := 6) rfl
  have ef6 : f6 = zh := arrinj ((cgetI c6 0).symm.trans ezh)
  rw [ef6] at c6
  obtain ⟨f7, c7, -⟩ := WT.ints hW (k := 7) rfl
  have ef7 : f7 = zd := arrinj ((cgetI c7 0).symm.trans ezd)
  rw [ef7] at c7
  have h2 := cp_X11_hole l G (ad 0) y0_0 (g0 1) (g0 2) h (ad 2) (ad 3) (ad 4) (ad 5) (ad 6) (ad 7) y0_10 (ad 8) (ad 9) (ad 10) (g0 14) (g0 15) y0_16 (ad 13) (ad 14) y0_19 y0_20 y0_21 y0_22 (g0 23) (g0 24) (g0 25) (g0 26) (g0 27) (g0 28) (g0 29) (g0 30) (g0 31) (g0 32) (g0 33) (g0 34) (g0 35) (g0 36) (g0 37) (g0 38) (g0 39) (g0 40) (g0 41) (g0 42) (g0 43) (g0 44) (g0 45) (g0 46) (g0 47) (g0 48) (g0 49) (g0 50) (g0 51) (g0 52) (g0 53) (g0 54) (g0 55) (g0 56) (g0 57) (g0 58) (g0 59) (g0 60) (g0 61) (g0 62) (g0 63) (g0 64) (g0 65) (g0 66) (g0 67) (g0 68) (g0 69) (g0 70) (g0 71) (g0 72) (g0 73) (g0 74) zp zx zy zr zh zd iq kq h.toInt iq.toInt kq.toInt rfl rfl rfl (by omega)
  refine Ct.weak (Ct.and (show Ct l G yX11_hole cX11_hole 3 (some .int) { frames := 2, cells := 0, slots := 0, locals := 46 } [.ref (ad 0), .int iq, .int kq] w0 (fun r w1 => POST G ad TM C_X11_hole_0 (fun k => ((Value.ref (ad 0) :: [.int iq, .int kq])[k]?).getD .null) w0 r w1) from ac_X11_hole_0 l G ad w0 _ hW (pre_mu (C := C_X11_hole_0) (ts := [tI0, tI0]) (As := [.int iq, .int kq]) rfl rfl rfl rfl ⟨fun _ => vty_i0 _, fun _ => vty_i0 _, trivial⟩ ad w0 rfl)) h2 [0, 2, 3, 4, 5, 6, 7] (pk_cons c0 (pk_cons c2 (pk_cons c3 (pk_cons c4 (pk_cons c5 (pk_cons c6 (pk_cons c7 rfl))))))) (by decide)) ?_
  rintro r w1 ⟨hp, w2, ⟨rz, th2, hr, ht, rfl, rfl⟩, hS⟩
  obtain ⟨A1, hA1, μ2, -, -, -, -, -, -, hW1, hF1⟩ := hp
  obtain ⟨fs0, -, u0, ul0, -, -⟩ := WT.obj hW1 (k := 0) (j := 0) rfl rfl
  obtain ⟨p2, u2, -⟩ := WT.ints hW1 (k := 2) rfl
  obtain ⟨p3, u3, -⟩ := WT.ints hW1 (k := 3) rfl
  obtain ⟨p4, u4, -⟩ := WT.ints hW1 (k := 4) rfl
  obtain ⟨p5, u5, -⟩ := WT.ints hW1 (k := 5) rfl
  obtain ⟨p6, u6, -⟩ := WT.ints hW1 (k := 6) rfl
  obtain ⟨p7, u7, -⟩ := WT.ints hW1 (k := 7) rfl
  exact ⟨hW1, hF1, by rw [hr], (same_f hS (k := 0) (j := 0) (q := (RX11, TX11, 75)) rfl u0 rfl (by decide) ul0 rfl).trans (by rw [ht])⟩
theorem ihT (l : Launch) (G : KG) {ad : Nat → Nat} {w0 : va_W} (hW : WT G ad TX w0) (i : Int32) : Ct l G yX5_isHole cX5_isHole 2 (some .boolean) { frames := 0, cells := 0, slots := 0, locals := 0 } [.ref (ad 5), .int i] w0 (fun r w1 => POST G ad TX C_X5_isHole_0 (fun k => if k = 0 then Value.ref (ad 5) else .int i) w0 r w1) := by
  have hpre : PRE ad C_X5_isHole_0 (fun k => if k = 0 then Value.ref (ad 5) else .int i) w0 := by
    refine ⟨fun k t hk => ?_, fun k q hk => ?_, fun q hq => ?_⟩
    · match k, hk with
      | 0, hk => cases hk; exact Or.inr (Or.inr (Or.inl ⟨rfl, rfl⟩))
      | 1, hk => cases hk; exact vty_i0 _
      | N + 2, hk => cases hk
    · cases hk
    · cases hq
  exact ac_X5_isHole_0 l G ad w0 _ hW hpre
set_option maxHeartbeats 4000000 in
set_option maxRecDepth 100000 in
theorem ac_ihx (l : Launch) (G : KG) {ad : Nat → Nat} {w0 : va_W} {h i : Int32} (hW : WT G ad TX w0) (eh : fget w0 5 0 = some (.int h)) : Ct l G yX5_isHole cX5_isHole 2 (some .boolean) { frames := 0, cells := 0, slots := 0, locals := 0 } [.ref (ad 5), .int i] w0 (fun r w1 => WT G ad TX w1 ∧ FRM C_X5_isHole_0.2.2.2.2.1 w0 w1 ∧ (r = some (.int (zb (decide (0 ≤ i.toInt ∧ i.toInt < h.toInt)))))) := by
  obtain ⟨g5, q5, t5⟩ := WT.tab hW (k := 5) rfl
  have r5_0 : g5 0 = .int h := Option.some.inj ((t5 0 _ rfl).2.symm.trans eh)
  have b5_0 : 0 ≤ h.toInt ∧ h.toInt ≤ 16 := by
    have h := (t5 0 _ rfl).1
    rw [r5_0] at h
    obtain ⟨y, e, l1, u1⟩ := vty0 h rfl
    obtain rfl := Value.int.inj e
    exact ⟨l1, u1⟩
  have c5 : w0[5]? = some ((ad 5), ob 5 [.int h, (g5 1), (g5 2), (g5 3), (g5 4), (g5 5), (g5 6), (g5 7), (g5 8)]) := by
    rw [q5]
    show some (ad 5, ob 5 [g5 0, g5 1, g5 2, g5 3, g5 4, g5 5, g5 6, g5 7, g5 8]) = _
    rw [r5_0]
  have h2 := ce_X5_isHoleL l G (ad 5) h (g5 1) (g5 2) (g5 3) (g5 4) (g5 5) (g5 6) (g5 7) (g5 8) i h.toInt i.toInt rfl rfl 
  refine Ct.weak (Ct.and (ihT l G hW i) h2 [5] (pk_cons c5 rfl) (by decide)) ?_
  rintro r w1 ⟨hp, w2, ⟨rfl, rfl⟩, hS⟩
  obtain ⟨A1, hA1, μ2, -, -, -, -, -, -, hW1, hF1⟩ := hp
  obtain ⟨fs5, -, u5, ul5, -, -⟩ := WT.obj hW1 (k := 5) (j := 0) rfl rfl
  exact ⟨hW1, hF1, rfl⟩
theorem cu_holeE (l : Launch) (hst : l.stackTraces = false) (G : KG) {ad : Nat → Nat} {w0 : va_W} (hW : WT G ad TX w0) (i k : Int32) {h : Int32} {zp zx zy zr zh zd : Nat → Int32} (eh : fget w0 5 0 = some (.int h)) (e6 : cget w0 6 0 = some (.inr (cyI G, 16, .inl zp))) (e7 : cget w0 7 0 = some (.inr (cyI G, 16, .inl zx))) (e8 : cget w0 8 0 = some (.inr (cyI G, 16, .inl zy))) (e9 : cget w0 9 0 = some (.inr (cyI G, 16, .inl zr))) (e10 : cget w0 10 0 = some (.inr (cyI G, 16, .inl zh))) (e11 : cget w0 11 0 = some (.inr (cyI G, 16, .inl zd))) : CtU l G yX10_hole cX10_hole 3 (some .int) rm_h [.ref (ad 0), .int i, .int k] w0 (fun r w1 => (∃ v : Int32, r = some (.int v) ∧ okHo h.toInt i.toInt k.toInt ∧ v = vHo zp zx zy zr zh zd k.toInt i.toNatClampNeg) ∧ Wsame G ad w0 w1) (fun w1 => Wsame G ad w0 w1 ∧ ¬ okHo h.toInt i.toInt k.toInt) := by
  refine ctU_of [(0, .ref (ad 0)), (1, .int i), (2, .int k)] (by decide) (Nat.le_of_ble_eq_true rfl) rfl ?_
  intro p e s m args below meth c A X hE hno
  refine z_aload_n X d_ho_0 rfl 0 rfl ?_
  refine hget (T := TX) X hW (idx := 26) (fld_10_ok _ (by decide : (26, 10, 2) ∈ fld_10)) d_ho_1 rfl (fget_ref hW rfl rfl) ?_
  refine z_iload_n X d_ho_4 rfl 1 rfl ?_
  refine hcallV (T := TX) (k := 5) (rest := []) (avs := [.int i]) X k_10_106 (ac_ihx l G hW eh) d_ho_5 hW rfl rfl rfl rfl ⟨by decide, by decide⟩ ⟨by decide, by decide⟩ (by decide) rfl (fun r w1 hp => ?_)
  obtain ⟨q7, q8, rfl⟩ := hp
  have hRw : Wsame G ad w0 w1 := ⟨q7, q8⟩
  have kp : ∀ k j, cget w1 k j = cget w0 k j := fun k j => q8.2 k j rfl
  refine zi_ne_zb X d_ho_8 (tgt := 21) (by decide) (fun hne => ?_) (fun hno2 => ?_)
  rotate_left
  · exact z_throwU (Rw := fun w1 => Wsame G ad w0 w1 ∧ ¬ okHo h.toInt i.toInt k.toInt) ⟨hRw, fun z => hno2 z.1⟩ X hE hst hno hE.2.2.2.2.1 d_ho_11 d_ho_14 d_ho_15 d_ho_17 d_ho_20 ⟨by decide, by decide, by decide, by decide⟩ ⟨by decide, by decide⟩
  obtain ⟨i0, i1⟩ := hne
  have bh := fint_b hW (k := 5) (j := 0) (a := 0) (b := 16) rfl rfl eh
  have vi : vp_in i 16 := vp_of i0 (by omega)
  refine z_iload_n X d_ho_21 rfl 2 rfl ?_
  rcases (by omega : (k.toInt < 0 ∨ 5 < k.toInt) ∨ k.toInt = 0 ∨ k.toInt = 1 ∨ k.toInt = 2 ∨ k.toInt = 3 ∨ k.toInt = 4 ∨ k.toInt = 5) with hk | hk | hk | hk | hk | hk | hk
  · refine z_tableOut X d_ho_22 hk (tgt := 120) (by decide) ?_
    exact z_throwU (Rw := fun w1 => Wsame G ad w0 w1 ∧ ¬ okHo h.toInt i.toInt k.toInt) ⟨hRw, fun z => by have z2 := z.2; omega⟩ X hE hst hno hE.2.2.2.2.2.1 d_ho_120 d_ho_123 d_ho_124 d_ho_126 d_ho_129 ⟨by decide, by decide, by decide, by decide⟩ ⟨by decide, by decide⟩
  · refine z_tableIn X d_ho_22 (by rw [hk]; decide) (by rw [hk]; decide) (off := 38) (tgt := 60) (by rw [hk]; rfl) (by decide) ?_
    obtain ⟨f, hf, -⟩ := WT.ints (T := TX) (k := 6) (n := 16) q7 rfl
    have ef : f = zp := arrinj ((cgetI hf 0).symm.trans ((kp 6 0).trans e6))
    rw [ef] at hf
    refine z_aload_n X d_ho_60 rfl 0 rfl ?_
    refine hget (T := TX) X q7 (idx := 26) (fld_10_ok _ (by decide : (26, 10, 2) ∈ fld_10)) d_ho_61 rfl (fget_ref q7 rfl rfl) ?_
    refine hget (T := TX) X q7 (idx := 116) (fld_10_ok _ (by decide : (116, 5, 1) ∈ fld_10)) d_ho_64 rfl (fget_ref q7 rfl rfl) ?_
    refine z_iload_n X d_ho_67 rfl 1 rfl ?_
    refine z_iald X d_ho_68 6 (hf) (vi) rfl ?_
    exact z_lift (z_iret X rfl d_ho_69 (Nat.zero_le _) (Nat.zero_le _) ⟨⟨_, rfl, ⟨⟨i0, i1⟩, by omega⟩, by rw [show k.toInt = 0 from hk]; exact vHo_k.1.symm⟩, hRw⟩)
  · refine z_tableIn X d_ho_22 (by rw [hk]; decide) (by rw [hk]; decide) (off := 48) (tgt := 70) (by rw [hk]; rfl) (by decide) ?_
    obtain ⟨f, hf, -⟩ := WT.ints (T := TX) (k := 7) (n := 16) q7 rfl
    have ef : f = zx := arrinj ((cgetI hf 0).symm.trans ((kp 7 0).trans e7))
    rw [ef] at hf
    refine z_aload_n X d_ho_70 rfl 0 rfl ?_
    refine hget (T := TX) X q7 (idx := 26) (fld_10_ok _ (by decide : (26, 10, 2) ∈ fld_10)) d_ho_71 rfl (fget_ref q7 rfl rfl) ?_
    refine hget (T := TX) X q7 (idx := 119) (fld_10_ok _ (by decide : (119, 5, 2) ∈ fld_10)) d_ho_74 rfl (fget_ref q7 rfl rfl) ?_
    refine z_iload_n X d_ho_77 rfl 1 rfl ?_
    refine z_iald X d_ho_78 7 (hf) (vi) rfl ?_
    exact z_lift (z_iret X rfl d_ho_79 (Nat.zero_le _) (Nat.zero_le _) ⟨⟨_, rfl, ⟨⟨i0, i1⟩, by omega⟩, by rw [show k.toInt = 1 from hk]; exact vHo_k.2.1.symm⟩, hRw⟩)
  · refine z_tableIn X d_ho_22 (by rw [hk]; decide) (by rw [hk]; decide) (off := 58) (tgt := 80) (by rw [hk]; rfl) (by decide) ?_
    obtain ⟨f, hf, -⟩ := WT.ints (T := TX) (k := 8) (n := 16) q7 rfl
    have ef : f = zy := arrinj ((cgetI hf 0).symm.trans ((kp 8 0).trans e8))
    rw [ef] at hf
    refine z_aload_n X d_ho_80 rfl 0 rfl ?_
    refine hget (T := TX) X q7 (idx := 26) (fld_10_ok _ (by decide : (26, 10, 2) ∈ fld_10)) d_ho_81 rfl (fget_ref q7 rfl rfl) ?_
    refine hget (T := TX) X q7 (idx := 122) (fld_10_ok _ (by decide : (122, 5, 3) ∈ fld_10)) d_ho_84 rfl (fget_ref q7 rfl rfl) ?_
    refine z_iload_n X d_ho_87 rfl 1 rfl ?_
    refine z_iald X d_ho_88 8 (hf) (vi) rfl ?_
    exact z_lift (z_iret X rfl d_ho_89 (Nat.zero_le _) (Nat.zero_le _) ⟨⟨_, rfl, ⟨⟨i0, i1⟩, by omega⟩, by rw [show k.toInt = 2 from hk]; exact vHo_k.2.2.1.symm⟩, hRw⟩)
  · refine z_tableIn X d_ho_22 (by rw [hk]; decide) (by rw [hk]; decide) (off := 68) (tgt := 90) (by rw [hk]; rfl) (by decide) ?_
    obtain ⟨f, hf, -⟩ := WT.ints (T := TX) (k := 9) (n := 16) q7 rfl
    have ef : f = zr := arrinj ((cgetI hf 0).symm.trans ((kp 9 0).trans e9))
    rw [ef] at hf
    refine z_aload_n X d_ho_90 rfl 0 rfl ?_
    refine hget (T := TX) X q7 (idx := 26) (fld_10_ok _ (by decide : (26, 10, 2) ∈ fld_10)) d_ho_91 rfl (fget_ref q7 rfl rfl) ?_
    refine hget (T := TX) X q7 (idx := 125) (fld_10_ok _ (by decide : (125, 5, 4) ∈ fld_10)) d_ho_94 rfl (fget_ref q7 rfl rfl) ?_
    refine z_iload_n X d_ho_97 rfl 1 rfl ?_
    refine z_iald X d_ho_98 9 (hf) (vi) rfl ?_
    exact z_lift (z_iret X rfl d_ho_99 (Nat.zero_le _) (Nat.zero_le _) ⟨⟨_, rfl, ⟨⟨i0, i1⟩, by omega⟩, by rw [show k.toInt = 3 from hk]; exact vHo_k.2.2.2.1.symm⟩, hRw⟩)
  · refine z_tableIn X d_ho_22 (by rw [hk]; decide) (by rw [hk]; decide) (off := 78) (tgt := 100) (by rw [hk]; rfl) (by decide) ?_
    obtain ⟨f, hf, -⟩ := WT.ints (T := TX) (k := 10) (n := 16) q7 rfl
    have ef : f = zh := arrinj ((cgetI hf 0).symm.trans ((kp 10 0).trans e10))
    rw [ef] at hf
    refine z_aload_n X d_ho_100 rfl 0 rfl ?_
    refine hget (T := TX) X q7 (idx := 26) (fld_10_ok _ (by decide : (26, 10, 2) ∈ fld_10)) d_ho_101 rfl (fget_ref q7 rfl rfl) ?_
    refine hget (T := TX) X q7 (idx := 128) (fld_10_ok _ (by decide : (128, 5, 5) ∈ fld_10)) d_ho_104 rfl (fget_ref q7 rfl rfl) ?_
    refine z_iload_n X d_ho_107 rfl 1 rfl ?_
    refine z_iald X d_ho_108 10 (hf) (vi) rfl ?_
    exact z_lift (z_iret X rfl d_ho_109 (Nat.zero_le _) (Nat.zero_le _) ⟨⟨_, rfl, ⟨⟨i0, i1⟩, by omega⟩, by rw [show k.toInt = 4 from hk]; exact vHo_k.2.2.2.2.1.symm⟩, hRw⟩)
  · refine z_tableIn X d_ho_22 (by rw [hk]; decide) (by rw [hk]; decide) (off := 88) (tgt := 110) (by rw [hk]; rfl) (by decide) ?_
    obtain ⟨f, hf, -⟩ := WT.ints (T := TX) (k := 11) (n := 16) q7 rfl
    have ef : f = zd := arrinj ((cgetI hf 0).symm.trans ((kp 11 0).trans e11))
    rw [ef] at hf
    refine z_aload_n X d_ho_110 rfl 0 rfl ?_
    refine hget (T := TX) X q7 (idx := 26) (fld_10_ok _ (by decide : (26, 10, 2) ∈ fld_10)) d_ho_111 rfl (fget_ref q7 rfl rfl) ?_
    refine hget (T := TX) X q7 (idx := 131) (fld_10_ok _ (by decide : (131, 5, 6) ∈ fld_10)) d_ho_114 rfl (fget_ref q7 rfl rfl) ?_
    refine z_iload_n X d_ho_117 rfl 1 rfl ?_
    refine z_iald X d_ho_118 11 (hf) (vi) rfl ?_
    exact z_lift (z_iret X rfl d_ho_119 (Nat.zero_le _) (Nat.zero_le _) ⟨⟨_, rfl, ⟨⟨i0, i1⟩, by omega⟩, by rw [show k.toInt = 5 from hk]; exact vHo_k.2.2.2.2.2.symm⟩, hRw⟩)
def LHpoE (G : KG) (ad : Nat → Nat) (w0 : va_W) (oa : Nat) (Φ : Int32 → (Nat → Int64) → Prop) : Option Value → va_W → Prop := fun r w => ∃ v : Int32, r = some (.int v) ∧ ∃ (f : Nat → Int64) (w1 : va_W), w = [(oa, aJ G 1 f)] ++ w1 ∧ Wsame G ad w0 w1 ∧ Φ v f
theorem cl_holeE (l : Launch) (hst : l.stackTraces = false) (G : KG) {ad : Nat → Nat} {w0 : va_W} (hW : WT G ad TX w0) (hl : w0.length = 109) (i k : Int32) {h : Int32} {zp zx zy zr zh zd : Nat → Int32} (eh : fget w0 5 0 = some (.int h)) (e6 : cget w0 6 0 = some (.inr (cyI G, 16, .inl zp))) (e7 : cget w0 7 0 = some (.inr (cyI G, 16, .inl zx))) (e8 : cget w0 8 0 = some (.inr (cyI G, 16, .inl zy))) (e9 : cget w0 9 0 = some (.inr (cyI G, 16, .inl zr))) (e10 : cget w0 10 0 = some (.inr (cyI G, 16, .inl zh))) (e11 : cget w0 11 0 = some (.inr (cyI G, 16, .inl zd))) (oa : Nat) (f : Nat → Int64) : CtW l G yL_hole cL_hole 5 (some .int) hL_hole { frames := 7, cells := 1, slots := 6, locals := 104 } [.ref (ad 0), .int i, .int k, .ref oa] (w0 ++ [(oa, aJ G 1 f)]) (LHpoE G ad w0 oa (fun v f => (okHo h.toInt i.toInt k.toInt ∧ v = 0 ∧ f 0 = (vHo zp zx zy zr zh zd k.toInt i.toNatClampNeg).toInt64) ∨ (¬ okHo h.toInt i.toInt k.toInt ∧ v = 1))) := by
  refine ctW_of [(0, .ref (ad 0)), (1, .int i), (2, .int k), (3, .ref oa)] (by decide) (Nat.le_of_ble_eq_true rfl) rfl ?_
  intro p e s m args below meth c A X hE htab
  obtain ⟨en, w1, fs, rfl, -⟩ := hW.2.1 0 _ rfl
  refine z_aload_n X d_lh_0 rfl 3 rfl ?_
  refine z_iconst X d_lh_1 (v := 0) (by decide) ?_
  refine z_aload_n X d_lh_2 rfl 0 rfl ?_
  refine z_iload_n X d_lh_3 rfl 1 rfl ?_
  refine z_iload_n X d_lh_4 rfl 2 rfl ?_
  refine z_catchU X hE k_L_7 (cu_holeE l hst G hW i k eh e6 e7 e8 e9 e10 e11) d_lh_5 0 (by rw [List.getElem?_append_left (by omega)]; exact w1) rfl rfl ⟨Nat.le_of_ble_eq_true rfl, Nat.le_of_ble_eq_true rfl⟩ ⟨Nat.le_of_ble_eq_true rfl, Nat.le_of_ble_eq_true rfl⟩ rfl (rest := [.int 0, .ref oa]) (As := [.int i, .int k]) rfl (Nat.le_of_ble_eq_true rfl) (List.range 109) [109] (isc hl) (va_nd_range _) (wr := [(oa, aJ G 1 f)]) (isr hl) (by decide) (by decide) ⟨0, 10, 13, 13⟩ htab (by decide) (by decide) cl_L_13 (fun r w2 hp => ?_) (fun q9 w2 hp => ?_)
  · obtain ⟨⟨v, rfl, hok, hv⟩, hs⟩ := hp
    refine z_i2l X d_lh_8 rfl ?_
    refine z_last X d_lh_9 0 rfl (n := 1) (vp_of (by decide) (by decide)) rfl ?_
    refine z_goto X d_lh_10 (tgt := 17) (by decide) ?_
    refine z_iconst X d_lh_17 (v := 0) (by decide) ?_
    exact z_iret X rfl d_lh_18 (Nat.le_refl _) (Nat.le_refl _) ⟨_, rfl, _, w2, rfl, hs, Or.inl ⟨hok, rfl, by rw [← hv]; rfl⟩⟩
  · skip
    refine z_astore X d_lh_13 (by decide) (lv' := [(4, .ref (q9)), (0, .ref (ad 0)), (1, .int (i)), (2, .int (k)), (3, .ref (oa))]) rfl ?_
    refine z_iconst X d_lh_15 (v := 1) (by decide) ?_
    exact z_iret X rfl d_lh_16 (Nat.le_refl _) (Nat.le_refl _) ⟨_, rfl, f, w2, rfl, hp.1, Or.inr ⟨hp.2, rfl⟩⟩
section LAW3G
variable {p : Program} {l : Launch} {e : Env} {R : Room} {s : State} {m : MethodId} {args : Array Value} {below : List Frame} {meth : Method} {c : Code} {nL : Nat} {G : KG} {A : Nat → Prop} {Q : State → Prop} {cc : ByteArray} {own : String} {ret : Option FieldType} {nm : String} {kc ks pc : Nat} {lv : List (Nat × Value)} {st : List Value}
theorem sx_callG {idx mx n x oa : Nat} {y : MethodName} {cy : ByteArray} {rt : Option FieldType} {hh : List (Nat × Nat × Nat × Nat)} {rm : Room} {As rest : List Value} {wx wm : va_W} {f : Nat → Int64} {Φ : Int32 → (Nat → Int64) → Prop} (X : ZC p s m args meth c cc nL own G A ret nm) (K : LkSW own idx y cy mx rt hh n) (hE : EXs A s s.heap)
    (hM : ∀ (ad : Nat → Nat) (w0 : va_W), WT G ad TX w0 → w0.length = 109 → ad 0 = x → (∀ k j, k < 109 → cget w0 k j = cget wx k j) → CtW l G y cy mx rt hh rm As (w0 ++ [(oa, aJ G 1 f)]) (LHpoE G ad w0 oa Φ)) (hw : CWx G x wx) (hdg : decode cc pc = .ok (.invokestatic idx, 3)) (hR : rm.frames + 1 ≤ R.frames ∧ 8 + (mx + 11) + rm.locals ≤ R.locals) (hf : kc + rm.cells ≤ R.cells ∧ ks + rm.slots ≤ R.slots) (hn : As.length = n) (hst : st = As.reverse ++ rest) (hcat : (rest.map fun v => v.category).sum ≤ 8) (lz : lv_pick lv (List.range lv.length) = lv)
    (kk : ∀ (v : Int32) (wx' : va_W) (f' : Nat → Int64), CWx G x wx' → wx'.length = wx.length → FX [] 109 wx wx' → Φ v f' → Z p l e R s m args below meth c nL G A Q (pc + 3) lv (.int v :: rest) (wx' ++ wm ++ [(oa, aJ G 1 f')]) (kc + rm.cells) (ks + rm.slots)) : Z p l e R s m args below meth c nL G A Q pc lv st (wx ++ wm ++ [(oa, aJ G 1 f)]) kc ks := by
  obtain ⟨ad, e0, h⟩ := hw
  have main : ∀ (wb : va_W) (wt : va_W), WT G ad TX wt → wt.length = 109 → wx = wt ++ wb → (∀ w1, Wsame G ad wt w1 → CWx G x (w1 ++ wb)) → Z p l e R s m args below meth c nL G A Q pc lv st (wx ++ wm ++ [(oa, aJ G 1 f)]) kc ks := by
    intro wb wt hWt hlt ew hback
    have e1 : wx ++ wm ++ [(oa, aJ G 1 f)] = wt ++ (wb ++ wm) ++ [(oa, aJ G 1 f)] := by rw [ew]; simp only [List.append_assoc]
    rw [e1]
    refine z_callSX (wr := wb ++ wm) X K (hM ad wt hWt hlt e0 (fun k j hk => by rw [ew]; exact (cget_app (by omega)).symm)) hE hdg hR hf hn hst hcat (List.range wt.length ++ List.range' (wt.length + (wb ++ wm).length) [(oa, aJ G 1 f)].length) (List.range' wt.length (wb ++ wm).length) (sh_rest wt (wb ++ wm) _) (sh_nd _ _ _ (Nat.le_add_right _ _)) (sh_pick wt (wb ++ wm) _) (va_nd_of _ List.nodup_range') (sh_dis2 _ _ _) (fun r w hp => ?_)
    obtain ⟨v, rfl, f', w1, rfl, hs, hΦ⟩ := hp
    have h9 := kk v (w1 ++ wb) f' (hback w1 hs) (by rw [ew, List.length_append, List.length_append, hs.2.1]) (by rw [ew]; exact fx_app (FX.refl.frm hs.2 rfl) (by omega) (by rw [hs.2.1]; omega)) hΦ
    have e2 : w1 ++ wb ++ wm ++ [(oa, aJ G 1 f')] = [] ++ w1 ++ (wb ++ wm ++ [(oa, aJ G 1 f')]) := by simp only [List.append_assoc, List.nil_append]
    have e3 : wb ++ wm ++ ([(oa, aJ G 1 f')] ++ w1) = [] ++ (wb ++ wm ++ [(oa, aJ G 1 f')]) ++ w1 := by simp only [List.append_assoc, List.nil_append]
    rw [e2] at h9
    rw [e3]
    exact Z.mid lz h9
  rcases h with ⟨hW, hl, hnull⟩ | ⟨hW, hl, hG⟩
  · refine main [] wx hW hl (by rw [List.append_nil]) (fun w1 hs => ?_)
    rw [List.append_nil]
    exact ⟨ad, e0, Or.inl ⟨hs.1, hs.2.1.trans hl, fget_frame hs.2 rfl hnull⟩⟩
  · have hWt := wt_take hW hl
    have hlt : (wx.take 109).length = 109 := by rw [List.length_take, hl]; rfl
    refine main (wx.drop 109) (wx.take 109) hWt hlt (List.take_append_drop 109 wx).symm (fun w1 hs => ?_)
    have hl2 : w1.length = 109 := hs.2.1.trans hlt
    have hpl : fget (wx.take 109) 0 15 = some (.ref (ad 109)) := by
      have h5 : fget wx 0 15 = some (.ref (ad 109)) := fget_ref hW rfl rfl
      unfold fget at h5 ⊢
      rw [List.getElem?_take_of_lt (by decide)]
      exact h5
    have hj := wt_join hs.1 hl2 (fget_frame hs.2 rfl hpl) hW hl
    refine ⟨ad, e0, Or.inr ⟨hj, by rw [List.length_append, hl2, List.length_drop, hl], ?_⟩⟩
    obtain ⟨a, f9, g1, g2⟩ := hG
    exact ⟨a, f9, by rw [List.getElem?_append_right (by omega), hl2, List.getElem?_drop]; exact g1, g2⟩
end LAW3G
theorem vHo_same {fp fx fy fr fh fd gp gx gy gr gh gd : Nat → Int32} {h k : Int} {iq : Int32} (hi : 0 ≤ iq.toInt ∧ iq.toInt < h) (e1 : EH h fp gp) (e2 : EH h fx gx) (e3 : EH h fy gy) (e4 : EH h fr gr) (e5 : EH h fh gh) (e6 : EH h fd gd) : vHo fp fx fy fr fh fd k iq.toNatClampNeg = vHo gp gx gy gr gh gd k iq.toNatClampNeg := by
  have hj : ((iq.toNatClampNeg : Nat) : Int) < h := (show ((iq.toInt.toNat : Nat) : Int) < h by omega)
  unfold vHo
  rw [e1 _ hj, e2 _ hj, e3 _ hj, e4 _ hj, e5 _ hj, e6 _ hj]
