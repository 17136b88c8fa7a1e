/-! think, truly: exactly -/
abbrev okMass (a b c : Int32) : Prop := 0 ≤ a.toInt ∧ a.toInt ≤ 3 ∧ -9999 ≤ b.toInt ∧ b.toInt ≤ 9999 ∧ -9999 ≤ c.toInt ∧ c.toInt ≤ 9999
def mMass (f : Nat → Int32) (a b c : Int32) : Nat → Int32 := if okMass a b c then upd (upd f (2 * a).toNatClampNeg b) (2 * a + 1).toNatClampNeg c else f
def mMx (f : Nat → Int32) (a b c : Int32) : Nat → Int32 := if okMass a b c then upd f a.toNatClampNeg b else f
def mMy (f : Nat → Int32) (a b c : Int32) : Nat → Int32 := if okMass a b c then upd f a.toNatClampNeg c else f
theorem dl_X10_setMass_1 : decode cX10_setMass 1 = .ok (.ifCond .lt 28, 3) := by decide +kernel
theorem dl_X10_setMass_30 : decode cX10_setMass 30 = .ok (.ireturn, 1) := by decide +kernel
theorem dl_X10_setMass_6 : decode cX10_setMass 6 = .ok (.if_icmp .gt 23, 3) := by decide +kernel
theorem dl_X10_setMass_13 : decode cX10_setMass 13 = .ok (.invokestatic 159, 3) := by decide +kernel
theorem dl_X10_setMass_16 : decode cX10_setMass 16 = .ok (.ifCond .eq 13, 3) := by decide +kernel
theorem dl_X10_setMass_23 : decode cX10_setMass 23 = .ok (.invokestatic 159, 3) := by decide +kernel
theorem dl_X10_setMass_26 : decode cX10_setMass 26 = .ok (.ifCond .ne 5, 3) := by decide +kernel
theorem dl_X10_setMass_36 : decode cX10_setMass 36 = .ok (.iastore, 1) := by decide +kernel
theorem dl_X10_setMass_44 : decode cX10_setMass 44 = .ok (.iastore, 1) := by decide +kernel
theorem dl_X10_setMass_46 : decode cX10_setMass 46 = .ok (.ireturn, 1) := by decide +kernel
abbrev bl_X10_setMass_0_1 : ZB := [(.iload_n 1, .null)]
theorem kl_X10_setMass_0_1 : zchk cX10_setMass bl_X10_setMass_0_1 0 = true ∧ zpc bl_X10_setMass_0_1 0 = 1 := ⟨by decide +kernel, rfl⟩
abbrev bl_X10_setMass_29_30 : ZB := [(.iconst 0, .int 0)]
theorem kl_X10_setMass_29_30 : zchk cX10_setMass bl_X10_setMass_29_30 29 = true ∧ zpc bl_X10_setMass_29_30 29 = 30 := ⟨by decide +kernel, rfl⟩
abbrev bl_X10_setMass_4_6 : ZB := [(.iload_n 1, .null), (.iconst 3, .int 3)]
theorem kl_X10_setMass_4_6 : zchk cX10_setMass bl_X10_setMass_4_6 4 = true ∧ zpc bl_X10_setMass_4_6 4 = 6 := ⟨by decide +kernel, rfl⟩
abbrev bl_X10_setMass_9_13 : ZB := [(.iload_n 2, .null), (.sipush 9999, .int 9999)]
theorem kl_X10_setMass_9_13 : zchk cX10_setMass bl_X10_setMass_9_13 9 = true ∧ zpc bl_X10_setMass_9_13 9 = 13 := ⟨by decide +kernel, rfl⟩
abbrev bl_X10_setMass_19_23 : ZB := [(.iload_n 3, .null), (.sipush 9999, .int 9999)]
theorem kl_X10_setMass_19_23 : zchk cX10_setMass bl_X10_setMass_19_23 19 = true ∧ zpc bl_X10_setMass_19_23 19 = 23 := ⟨by decide +kernel, rfl⟩
abbrev bl_X10_setMass_31_36 : ZB := [(.aload_n 0, .null), (.iconst 2, .int 2), (.iload_n 1, .null), (.imul, .null), (.iload_n 2, .null)]
theorem kl_X10_setMass_31_36 : zchk cX10_setMass bl_X10_setMass_31_36 31 = true ∧ zpc bl_X10_setMass_31_36 31 = 36 := ⟨by decide +kernel, rfl⟩
abbrev bl_X10_setMass_37_44 : ZB := [(.aload_n 0, .null), (.iconst 2, .int 2), (.iload_n 1, .null), (.imul, .null), (.iconst 1, .int 1), (.iadd, .null), (.iload_n 3, .null)]
theorem kl_X10_setMass_37_44 : zchk cX10_setMass bl_X10_setMass_37_44 37 = true ∧ zpc bl_X10_setMass_37_44 37 = 44 := ⟨by decide +kernel, rfl⟩
abbrev bl_X10_setMass_45_46 : ZB := [(.iconst 1, .int 1)]
theorem kl_X10_setMass_45_46 : zchk cX10_setMass bl_X10_setMass_45_46 45 = true ∧ zpc bl_X10_setMass_45_46 45 = 46 := ⟨by decide +kernel, rfl⟩
set_option maxHeartbeats 4000000 in
set_option maxRecDepth 100000 in
theorem cl_X10_setMass (l : Launch) (G : KG) (ms : Nat) (fm : Nat → Int32) (aq : Int32) (bq : Int32) (cq : Int32) (ai : Int) (bi : Int) (ci : Int) (haq : aq.toInt = ai) (hbq : bq.toInt = bi) (hcq : cq.toInt = ci) : Ct l G yX10_setMass cX10_setMass 4 (some .boolean) { frames := 1, cells := 0, slots := 0, locals := 21 } [.ref ms, .int aq, .int bq, .int cq] [(ms, aI G 8 fm)] (fun r w1 => ∃ (fm2 : Nat → Int32), (fm2 = mMass fm aq bq cq) ∧ r = some (.int (zb (decide (0 ≤ ai ∧ ai ≤ 3 ∧ -9999 ≤ bi ∧ bi ≤ 9999 ∧ -9999 ≤ ci ∧ ci ≤ 9999)))) ∧ w1 = [(ms, aI G 8 fm2)]) := by
  refine ct_of [(0, .ref ms), (1, .int aq), (2, .int bq), (3, .int cq)] (by decide) (Nat.le_of_ble_eq_true rfl) rfl ?_
  intro p0 e0 s0 m0 args0 below0 meth0 c0 A X
  refine z_run X bl_X10_setMass_0_1 kl_X10_setMass_0_1 (lv' := [(0, .ref ms), (1, .int aq), (2, .int bq), (3, .int cq)]) (st' := [.int aq]) rfl ?_
  refine zi_lt X dl_X10_setMass_1 (tgt := 29) (by decide) (a := ai) haq (fun c1_1 => ?_) (fun c1_1 => ?_)
  ·
    refine z_run X bl_X10_setMass_29_30 kl_X10_setMass_29_30 (lv' := [(0, .ref ms), (1, .int aq), (2, .int bq), (3, .int cq)]) (st' := [.int 0]) rfl ?_
    exact z_zret X rfl rfl dl_X10_setMass_30 (Nat.le_of_ble_eq_true rfl) (Nat.le_of_ble_eq_true rfl) ⟨fm, (by unfold mMass okMass; first | rw [if_pos (by omega)] | rw [if_neg (by omega)]), (congrArg (fun z => some (Value.int z)) (zb_f (by omega)).symm), rfl⟩
  ·
    refine z_run X bl_X10_setMass_4_6 kl_X10_setMass_4_6 (lv' := [(0, .ref ms), (1, .int aq), (2, .int bq), (3, .int cq)]) (st' := [.int 3, .int aq]) rfl ?_
    refine zc_gt X dl_X10_setMass_6 (tgt := 29) (by decide) (a := ai) (b := 3) haq (show (3 : Int32).toInt = 3 from by decide) (fun c6_2 => ?_) (fun c6_2 => ?_)
    ·
      refine z_run X bl_X10_setMass_29_30 kl_X10_setMass_29_30 (lv' := [(0, .ref ms), (1, .int aq), (2, .int bq), (3, .int cq)]) (st' := [.int 0]) rfl ?_
      exact z_zret X rfl rfl dl_X10_setMass_30 (Nat.le_of_ble_eq_true rfl) (Nat.le_of_ble_eq_true rfl) ⟨fm, (by unfold mMass okMass; first | rw [if_pos (by omega)] | rw [if_neg (by omega)]), (congrArg (fun z => some (Value.int z)) (zb_f (by omega)).symm), rfl⟩
    ·
      refine z_run X bl_X10_setMass_9_13 kl_X10_setMass_9_13 (lv' := [(0, .ref ms), (1, .int aq), (2, .int bq), (3, .int cq)]) (st' := [.int 9999, .int bq]) rfl ?_
      refine z_callS X k_10_159 (cl_X10_isWithin l G bq 9999 bi 9999 hbq (show (9999 : Int32).toInt = 9999 from by decide) (by omega)) dl_X10_setMass_13 ⟨Nat.le_of_ble_eq_true rfl, Nat.le_of_ble_eq_true rfl⟩ ⟨Nat.le_of_ble_eq_true rfl, Nat.le_of_ble_eq_true rfl⟩ rfl (rest := []) (As := [.int bq, .int 9999]) rfl (Nat.le_of_ble_eq_true rfl) [] [0] rfl (by decide) (wr := [(ms, aI G 8 fm)]) rfl (by decide) (by decide) ?_
      rintro _ _ ⟨rfl, rfl⟩
      refine Z.at (pc' := 16) (st' := [.int (zb (decide (-9999 ≤ bi ∧ bi ≤ 9999)))]) (ws' := [(ms, aI G 8 fm)]) (kc' := 0) (ks' := 0) rfl rfl rfl rfl rfl ?_
      refine zi_eq_zb X dl_X10_setMass_16 (tgt := 29) (by decide) (fun c16_3 => ?_) (fun c16_3 => ?_)
      ·
        refine z_run X bl_X10_setMass_29_30 kl_X10_setMass_29_30 (lv' := [(0, .ref ms), (1, .int aq), (2, .int bq), (3, .int cq)]) (st' := [.int 0]) rfl ?_
        exact z_zret X rfl rfl dl_X10_setMass_30 (Nat.le_of_ble_eq_true rfl) (Nat.le_of_ble_eq_true rfl) ⟨fm, (by unfold mMass okMass; first | rw [if_pos (by omega)] | rw [if_neg (by omega)]), (congrArg (fun z => some (Value.int z)) (zb_f (by omega)).symm), rfl⟩
      ·
        refine z_run X bl_X10_setMass_19_23 kl_X10_setMass_19_23 (lv' := [(0, .ref ms), (1, .int aq), (2, .int bq), (3, .int cq)]) (st' := [.int 9999, .int cq]) rfl ?_
        refine z_callS X k_10_159 (cl_X10_isWithin l G cq 9999 ci 9999 hcq (show (9999 : Int32).toInt = 9999 from by decide) (by omega)) dl_X10_setMass_23 ⟨Nat.le_of_ble_eq_true rfl, Nat.le_of_ble_eq_true rfl⟩ ⟨Nat.le_of_ble_eq_true rfl, Nat.le_of_ble_eq_true rfl⟩ rfl (rest := []) (As := [.int cq, .int 9999]) rfl (Nat.le_of_ble_eq_true rfl) [] [0] rfl (by decide) (wr := [(ms, aI G 8 fm)]) rfl (by decide) (by decide) ?_
        rintro _ _ ⟨rfl, rfl⟩
        refine Z.at (pc' := 26) (st' := [.int (zb (decide (-9999 ≤ ci ∧ ci ≤ 9999)))]) (ws' := [(ms, aI G 8 fm)]) (kc' := 0) (ks' := 0) rfl rfl rfl rfl rfl ?_
        refine zi_ne_zb X dl_X10_setMass_26 (tgt := 31) (by decide) (fun c26_4 => ?_) (fun c26_4 => ?_)
        ·
          refine z_run X bl_X10_setMass_31_36 kl_X10_setMass_31_36 (lv' := [(0, .ref ms), (1, .int aq), (2, .int bq), (3, .int cq)]) (st' := [.int bq, .int (2 * aq), .ref ms]) rfl ?_
          refine z_iast X dl_X10_setMass_36 0 rfl (vin (tI_mul (show (2 : Int32).toInt = 2 from by decide) haq (by omega)) (by omega) (by omega)) (ws' := [(ms, aI G 8 (upd fm (2 * aq).toNatClampNeg bq))]) rfl ?_
          refine z_run X bl_X10_setMass_37_44 kl_X10_setMass_37_44 (lv' := [(0, .ref ms), (1, .int aq), (2, .int bq), (3, .int cq)]) (st' := [.int cq, .int ((2 * aq) + 1), .ref ms]) rfl ?_
          refine z_iast X dl_X10_setMass_44 0 rfl (vin (tI_add (tI_mul (show (2 : Int32).toInt = 2 from by decide) haq (by omega)) (show (1 : Int32).toInt = 1 from by decide) (by omega)) (by omega) (by omega)) (ws' := [(ms, aI G 8 (upd (upd fm (2 * aq).toNatClampNeg bq) ((2 * aq) + 1).toNatClampNeg cq))]) rfl ?_
          refine z_run X bl_X10_setMass_45_46 kl_X10_setMass_45_46 (lv' := [(0, .ref ms), (1, .int aq), (2, .int bq), (3, .int cq)]) (st' := [.int 1]) rfl ?_
          exact z_zret X rfl rfl dl_X10_setMass_46 (Nat.le_of_ble_eq_true rfl) (Nat.le_of_ble_eq_true rfl) ⟨(upd (upd fm (2 * aq).toNatClampNeg bq) ((2 * aq) + 1).toNatClampNeg cq), (by unfold mMass okMass; first | rw [if_pos (by omega)] | rw [if_neg (by omega)]), (congrArg (fun z => some (Value.int z)) (zb_t (by omega)).symm), rfl⟩
        ·
          refine z_run X bl_X10_setMass_29_30 kl_X10_setMass_29_30 (lv' := [(0, .ref ms), (1, .int aq), (2, .int bq), (3, .int cq)]) (st' := [.int 0]) rfl ?_
          exact z_zret X rfl rfl dl_X10_setMass_30 (Nat.le_of_ble_eq_true rfl) (Nat.le_of_ble_eq_true rfl) ⟨fm, (by unfold mMass okMass; first | rw [if_pos (by omega)] | rw [if_neg (by omega)]), (congrArg (fun z => some (Value.int z)) (zb_f (by omega)).symm), rfl⟩

theorem dl_X10_think_1 : decode cX10_think 1 = .ok (.getfield 78, 3) := by decide +kernel
theorem dl_X10_think_7 : decode cX10_think 7 = .ok (.invokestatic 163, 3) := by decide +kernel
theorem dl_X10_think_10 : decode cX10_think 10 = .ok (.ireturn, 1) := by decide +kernel
abbrev bl_X10_think_0_1 : ZB := [(.aload_n 0, .null)]
theorem kl_X10_think_0_1 : zchk cX10_think bl_X10_think_0_1 0 = true ∧ zpc bl_X10_think_0_1 0 = 1 := ⟨by decide +kernel, rfl⟩
abbrev bl_X10_think_4_7 : ZB := [(.iload_n 1, .null), (.iload_n 2, .null), (.iload_n 3, .null)]
theorem kl_X10_think_4_7 : zchk cX10_think bl_X10_think_4_7 4 = true ∧ zpc bl_X10_think_4_7 4 = 7 := ⟨by decide +kernel, rfl⟩
set_option maxHeartbeats 4000000 in
set_option maxRecDepth 100000 in
theorem cl_X10_think (l : Launch) (G : KG) (x : Nat) (x_told : Value) (x_reader : Value) (x_ring : Value) (x_speeds : Value) (x_wheel : Value) (x_trials : Value) (x_span : Value) (x_search : Value) (x_kept : Value) (x_crosses : Value) (x_trueMasses : Value) (thought : Nat) (x_up : Value) (x_low : Value) (x_fits : Value) (x_pulls : Value) (fm : Nat → Int32) (aq : Int32) (bq : Int32) (cq : Int32) (ai : Int) (bi : Int) (ci : Int) (haq : aq.toInt = ai) (hbq : bq.toInt = bi) (hcq : cq.toInt = ci) : Ct l G yX10_think cX10_think 4 (some .boolean) { frames := 2, cells := 0, slots := 0, locals := 44 } [.ref x, .int aq, .int bq, .int cq] [(x, ob 10 [x_told, x_reader, x_ring, x_speeds, x_wheel, x_trials, x_span, x_search, x_kept, x_crosses, x_trueMasses, .ref thought, x_up, x_low, x_fits, x_pulls]), (thought, aI G 8 fm)] (fun r w1 => ∃ (fm2 : Nat → Int32), (fm2 = mMass fm aq bq cq) ∧ r = some (.int (zb (decide (0 ≤ ai ∧ ai ≤ 3 ∧ -9999 ≤ bi ∧ bi ≤ 9999 ∧ -9999 ≤ ci ∧ ci ≤ 9999)))) ∧ w1 = [(x, ob 10 [x_told, x_reader, x_ring, x_speeds, x_wheel, x_trials, x_span, x_search, x_kept, x_crosses, x_trueMasses, .ref thought, x_up, x_low, x_fits, x_pulls]), (thought, aI G 8 fm2)]) := by
  refine ct_of [(0, .ref x), (1, .int aq), (2, .int bq), (3, .int cq)] (by decide) (Nat.le_of_ble_eq_true rfl) rfl ?_
  intro p0 e0 s0 m0 args0 below0 meth0 c0 A X
  refine z_run X bl_X10_think_0_1 kl_X10_think_0_1 (lv' := [(0, .ref x), (1, .int aq), (2, .int bq), (3, .int cq)]) (st' := [.ref x]) rfl ?_
  refine z_get X fl_10_78 dl_X10_think_1 0 rfl (v := .ref thought) rfl ?_
  refine z_run X bl_X10_think_4_7 kl_X10_think_4_7 (lv' := [(0, .ref x), (1, .int aq), (2, .int bq), (3, .int cq)]) (st' := [.int cq, .int bq, .int aq, .ref thought]) rfl ?_
  refine z_callS X k_10_163 (cl_X10_setMass l G thought fm aq bq cq ai bi ci haq hbq hcq) dl_X10_think_7 ⟨Nat.le_of_ble_eq_true rfl, Nat.le_of_ble_eq_true rfl⟩ ⟨Nat.le_of_ble_eq_true rfl, Nat.le_of_ble_eq_true rfl⟩ rfl (rest := []) (As := [.ref thought, .int aq, .int bq, .int cq]) rfl (Nat.le_of_ble_eq_true rfl) [1] [0] rfl (by decide) (wr := [(x, ob 10 [x_told, x_reader, x_ring, x_speeds, x_wheel, x_trials, x_span, x_search, x_kept, x_crosses, x_trueMasses, .ref thought, x_up, x_low, x_fits, x_pulls])]) rfl (by decide) (by decide) ?_
  rintro _ _ ⟨fm2_1, f7_2, rfl, rfl⟩
  refine Z.at (pc' := 10) (st' := [.int (zb (decide (0 ≤ ai ∧ ai ≤ 3 ∧ -9999 ≤ bi ∧ bi ≤ 9999 ∧ -9999 ≤ ci ∧ ci ≤ 9999)))]) (ws' := [(x, ob 10 [x_told, x_reader, x_ring, x_speeds, x_wheel, x_trials, x_span, x_search, x_kept, x_crosses, x_trueMasses, .ref thought, x_up, x_low, x_fits, x_pulls]), (thought, aI G 8 fm2_1)]) (kc' := 0) (ks' := 0) rfl rfl rfl rfl rfl ?_
  exact z_zret X rfl (zb_n _) dl_X10_think_10 (Nat.le_of_ble_eq_true rfl) (Nat.le_of_ble_eq_true rfl) ⟨fm2_1, (by assumption), rfl, rfl⟩

set_option maxHeartbeats 4000000 in
set_option maxRecDepth 100000 in
theorem cl_X11_isMass_think (l : Launch) (G : KG) (aq : Int32) (bq : Int32) (cq : Int32) (ai : Int) (bi : Int) (ci : Int) (haq : aq.toInt = ai) (hbq : bq.toInt = bi) (hcq : cq.toInt = ci) : Ct l G yX11_isMass cX11_isMass 3 (some .boolean) { frames := 1, cells := 0, slots := 0, locals := 25 } [.int aq, .int bq, .int cq] [] (fun r w1 => r = some (.int (zb (decide (0 ≤ ai ∧ ai ≤ 3 ∧ -9999 ≤ bi ∧ bi ≤ 9999 ∧ -9999 ≤ ci ∧ ci ≤ 9999)))) ∧ w1 = []) := by
  refine ct_of [(0, .int aq), (1, .int bq), (2, .int cq)] (by decide) (Nat.le_of_ble_eq_true rfl) rfl ?_
  intro p0 e0 s0 m0 args0 below0 meth0 c0 A X
  refine z_run X bl_X11_isMass_0_3 kl_X11_isMass_0_3 (lv' := [(0, .int aq), (1, .int bq), (2, .int cq)]) (st' := [.long 0, .long aq.toInt64]) rfl ?_
  refine z_ldc2 X dl_X11_isMass_3 cn_11_122 ?_
  refine z_callS X k_11_29 (cm_X11_in l G aq.toInt64 0 3 ai 0 3 (tI64 haq) (show (0 : Int64).toInt = 0 from by decide) (show (3 : Int64).toInt = 3 from by decide)) dl_X11_isMass_6 ⟨Nat.le_of_ble_eq_true rfl, Nat.le_of_ble_eq_true rfl⟩ ⟨Nat.le_of_ble_eq_true rfl, Nat.le_of_ble_eq_true rfl⟩ rfl (rest := []) (As := [.long aq.toInt64, .long 0, .long 3]) rfl (Nat.le_of_ble_eq_true rfl) [] [] rfl (by decide) (wr := []) rfl (by decide) (by decide) ?_
  rintro _ _ ⟨rfl, rfl⟩
  refine Z.at (pc' := 9) (st' := [.int (zb (decide (0 ≤ ai ∧ ai ≤ 3)))]) (ws' := []) (kc' := 0) (ks' := 0) rfl rfl rfl rfl rfl ?_
  refine zi_eq_zb X dl_X11_isMass_9 (tgt := 44) (by decide) (fun c9_1 => ?_) (fun c9_1 => ?_)
  ·
    refine z_run X bl_X11_isMass_44_45 kl_X11_isMass_44_45 (lv' := [(0, .int aq), (1, .int bq), (2, .int cq)]) (st' := [.int 0]) rfl ?_
    exact z_zret X rfl rfl dl_X11_isMass_45 (Nat.le_of_ble_eq_true rfl) (Nat.le_of_ble_eq_true rfl) ⟨(congrArg (fun z => some (Value.int z)) (zb_f (by omega)).symm), rfl⟩
  ·
    refine z_run X bl_X11_isMass_12_14 kl_X11_isMass_12_14 (lv' := [(0, .int aq), (1, .int bq), (2, .int cq)]) (st' := [.long bq.toInt64]) rfl ?_
    refine z_ldc2 X dl_X11_isMass_14 cn_11_138 ?_
    refine z_ldc2 X dl_X11_isMass_17 cn_11_140 ?_
    refine z_callS X k_11_29 (cm_X11_in l G bq.toInt64 (-9999) 9999 bi ((-9999)) 9999 (tI64 hbq) (show ((-9999) : Int64).toInt = (-9999) from by decide) (show (9999 : Int64).toInt = 9999 from by decide)) dl_X11_isMass_20 ⟨Nat.le_of_ble_eq_true rfl, Nat.le_of_ble_eq_true rfl⟩ ⟨Nat.le_of_ble_eq_true rfl, Nat.le_of_ble_eq_true rfl⟩ rfl (rest := []) (As := [.long bq.toInt64, .long (-9999), .long 9999]) rfl (Nat.le_of_ble_eq_true rfl) [] [] rfl (by decide) (wr := []) rfl (by decide) (by decide) ?_
    rintro _ _ ⟨rfl, rfl⟩
    refine Z.at (pc' := 23) (st' := [.int (zb (decide (((-9999)) ≤ bi ∧ bi ≤ 9999)))]) (ws' := []) (kc' := 0) (ks' := 0) rfl rfl rfl rfl rfl ?_
    refine zi_eq_zb X dl_X11_isMass_23 (tgt := 44) (by decide) (fun c23_2 => ?_) (fun c23_2 => ?_)
    ·
      refine z_run X bl_X11_isMass_44_45 kl_X11_isMass_44_45 (lv' := [(0, .int aq), (1, .int bq), (2, .int cq)]) (st' := [.int 0]) rfl ?_
      exact z_zret X rfl rfl dl_X11_isMass_45 (Nat.le_of_ble_eq_true rfl) (Nat.le_of_ble_eq_true rfl) ⟨(congrArg (fun z => some (Value.int z)) (zb_f (by omega)).symm), rfl⟩
    ·
      refine z_run X bl_X11_isMass_26_28 kl_X11_isMass_26_28 (lv' := [(0, .int aq), (1, .int bq), (2, .int cq)]) (st' := [.long cq.toInt64]) rfl ?_
      refine z_ldc2 X dl_X11_isMass_28 cn_11_138 ?_
      refine z_ldc2 X dl_X11_isMass_31 cn_11_140 ?_
      refine z_callS X k_11_29 (cm_X11_in l G cq.toInt64 (-9999) 9999 ci ((-9999)) 9999 (tI64 hcq) (show ((-9999) : Int64).toInt = (-9999) from by decide) (show (9999 : Int64).toInt = 9999 from by decide)) dl_X11_isMass_34 ⟨Nat.le_of_ble_eq_true rfl, Nat.le_of_ble_eq_true rfl⟩ ⟨Nat.le_of_ble_eq_true rfl, Nat.le_of_ble_eq_true rfl⟩ rfl (rest := []) (As := [.long cq.toInt64, .long (-9999), .long 9999]) rfl (Nat.le_of_ble_eq_true rfl) [] [] rfl (by decide) (wr := []) rfl (by decide) (by decide) ?_
      rintro _ _ ⟨rfl, rfl⟩
      refine Z.at (pc' := 37) (st' := [.int (zb (decide (((-9999)) ≤ ci ∧ ci ≤ 9999)))]) (ws' := []) (kc' := 0) (ks' := 0) rfl rfl rfl rfl rfl ?_
      refine zi_eq_zb X dl_X11_isMass_37 (tgt := 44) (by decide) (fun c37_3 => ?_) (fun c37_3 => ?_)
      ·
        refine z_run X bl_X11_isMass_44_45 kl_X11_isMass_44_45 (lv' := [(0, .int aq), (1, .int bq), (2, .int cq)]) (st' := [.int 0]) rfl ?_
        exact z_zret X rfl rfl dl_X11_isMass_45 (Nat.le_of_ble_eq_true rfl) (Nat.le_of_ble_eq_true rfl) ⟨(congrArg (fun z => some (Value.int z)) (zb_f (by omega)).symm), rfl⟩
      ·
        refine z_run X bl_X11_isMass_40_41 kl_X11_isMass_40_41 (lv' := [(0, .int aq), (1, .int bq), (2, .int cq)]) (st' := [.int 1]) rfl ?_
        refine z_goto X dl_X11_isMass_41 (tgt := 45) (by decide) ?_
        exact z_zret X rfl rfl dl_X11_isMass_45 (Nat.le_of_ble_eq_true rfl) (Nat.le_of_ble_eq_true rfl) ⟨(congrArg (fun z => some (Value.int z)) (zb_t (by omega)).symm), rfl⟩

theorem dl_X11_think_2 : decode cX11_think 2 = .ok (.putfield 3, 3) := by decide +kernel
theorem dl_X11_think_8 : decode cX11_think 8 = .ok (.invokestatic 142, 3) := by decide +kernel
theorem dl_X11_think_11 : decode cX11_think 11 = .ok (.ifCond .ne 5, 3) := by decide +kernel
theorem dl_X11_think_17 : decode cX11_think 17 = .ok (.getfield 152, 3) := by decide +kernel
theorem dl_X11_think_22 : decode cX11_think 22 = .ok (.iastore, 1) := by decide +kernel
theorem dl_X11_think_24 : decode cX11_think 24 = .ok (.getfield 155, 3) := by decide +kernel
theorem dl_X11_think_29 : decode cX11_think 29 = .ok (.iastore, 1) := by decide +kernel
theorem dl_X11_think_31 : decode cX11_think 31 = .ok (.ireturn, 1) := by decide +kernel
theorem dl_X11_think_15 : decode cX11_think 15 = .ok (.ireturn, 1) := by decide +kernel
abbrev bl_X11_think_0_2 : ZB := [(.aload_n 0, .null), (.iconst 0, .int 0)]
theorem kl_X11_think_0_2 : zchk cX11_think bl_X11_think_0_2 0 = true ∧ zpc bl_X11_think_0_2 0 = 2 := ⟨by decide +kernel, rfl⟩
abbrev bl_X11_think_5_8 : ZB := [(.iload_n 1, .null), (.iload_n 2, .null), (.iload_n 3, .null)]
theorem kl_X11_think_5_8 : zchk cX11_think bl_X11_think_5_8 5 = true ∧ zpc bl_X11_think_5_8 5 = 8 := ⟨by decide +kernel, rfl⟩
abbrev bl_X11_think_16_17 : ZB := [(.aload_n 0, .null)]
theorem kl_X11_think_16_17 : zchk cX11_think bl_X11_think_16_17 16 = true ∧ zpc bl_X11_think_16_17 16 = 17 := ⟨by decide +kernel, rfl⟩
abbrev bl_X11_think_20_22 : ZB := [(.iload_n 1, .null), (.iload_n 2, .null)]
theorem kl_X11_think_20_22 : zchk cX11_think bl_X11_think_20_22 20 = true ∧ zpc bl_X11_think_20_22 20 = 22 := ⟨by decide +kernel, rfl⟩
abbrev bl_X11_think_23_24 : ZB := [(.aload_n 0, .null)]
theorem kl_X11_think_23_24 : zchk cX11_think bl_X11_think_23_24 23 = true ∧ zpc bl_X11_think_23_24 23 = 24 := ⟨by decide +kernel, rfl⟩
abbrev bl_X11_think_27_29 : ZB := [(.iload_n 1, .null), (.iload_n 3, .null)]
theorem kl_X11_think_27_29 : zchk cX11_think bl_X11_think_27_29 27 = true ∧ zpc bl_X11_think_27_29 27 = 29 := ⟨by decide +kernel, rfl⟩
abbrev bl_X11_think_30_31 : ZB := [(.iconst 1, .int 1)]
theorem kl_X11_think_30_31 : zchk cX11_think bl_X11_think_30_31 30 = true ∧ zpc bl_X11_think_30_31 30 = 31 := ⟨by decide +kernel, rfl⟩
abbrev bl_X11_think_14_15 : ZB := [(.iconst 0, .int 0)]
theorem kl_X11_think_14_15 : zchk cX11_think bl_X11_think_14_15 14 = true ∧ zpc bl_X11_think_14_15 14 = 15 := ⟨by decide +kernel, rfl⟩
set_option maxHeartbeats 4000000 in
set_option maxRecDepth 100000 in
theorem cl_X11_think (l : Launch) (G : KG) (mo : Nat) (th : Int32) (g_rows : Value) (g_row : Value) (hc : Int32) (r_planeOf : Nat) (r_holeX : Nat) (r_holeY : Nat) (r_room : Nat) (r_ounces : Nat) (r_deepOf : Nat) (sc : Int32) (r_factor : Nat) (r_otherOf : Nat) (r_isApart : Nat) (g_apartX : Value) (g_apartY : Value) (cc : Int32) (r_weight : Nat) (r_tape : Nat) (n : Int32) (p : Int32) (lim : Int32) (fi : Int32) (g_crossOf : Value) (g_trueX : Value) (g_trueY : Value) (r_thoughtX : Nat) (r_thoughtY : Nat) (g_poundHole : Value) (g_poundOunces : Value) (g_lead : Value) (g_trials : Value) (g_trialSpeed : Value) (g_isWhole : Value) (g_trialX : Value) (g_trialY : Value) (g_trialGive : Value) (g_trialLead : Value) (g_baseX : Value) (g_baseY : Value) (g_timesPull : Value) (g_trialBaseX : Value) (g_trialBaseY : Value) (g_trialTimes : Value) (g_pulls : Value) (g_pullMany : Value) (g_sizes : Value) (g_merged : Value) (g_nextHole : Value) (g_nextOunces : Value) (g_leftBehind : Value) (g_manUp : Value) (g_manLow : Value) (g_asked : Value) (g_lowOf : Value) (g_highOf : Value) (g_tried : Value) (g_found : Value) (g_askedMany : Value) (g_mostHoles : Value) (g_isFound : Value) (g_foundRest : Value) (g_foundOunces : Value) (g_question : Value) (g_questionSpeed : Value) (g_ounceRest : Value) (g_parts : Value) (g_filled : Value) (g_cogAt : Value) (g_cogBest : Value) (g_isOrdered : Value) (g_orderSize : Value) (g_isKept : Value) (g_kept : Value) (g_keptAt : Value) (f1 : Nat → Int32) (f2 : Nat → Int32) (aq : Int32) (bq : Int32) (cq : Int32) (ai : Int) (bi : Int) (ci : Int) (haq : aq.toInt = ai) (hbq : bq.toInt = bi) (hcq : cq.toInt = ci) : Ct l G yX11_think cX11_think 4 (some .boolean) { frames := 2, cells := 0, slots := 0, locals := 47 } [.ref mo, .int aq, .int bq, .int cq] [(mo, ob 11 [.int th, g_rows, g_row, .int hc, .ref r_planeOf, .ref r_holeX, .ref r_holeY, .ref r_room, .ref r_ounces, .ref r_deepOf, .int sc, .ref r_factor, .ref r_otherOf, .ref r_isApart, g_apartX, g_apartY, .int cc, .ref r_weight, .ref r_tape, .int n, .int p, .int lim, .int fi, g_crossOf, g_trueX, g_trueY, .ref r_thoughtX, .ref r_thoughtY, g_poundHole, g_poundOunces, g_lead, g_trials, g_trialSpeed, g_isWhole, g_trialX, g_trialY, g_trialGive, g_trialLead, g_baseX, g_baseY, g_timesPull, g_trialBaseX, g_trialBaseY, g_trialTimes, g_pulls, g_pullMany, g_sizes, g_merged, g_nextHole, g_nextOunces, g_leftBehind, g_manUp, g_manLow, g_asked, g_lowOf, g_highOf, g_tried, g_found, g_askedMany, g_mostHoles, g_isFound, g_foundRest, g_foundOunces, g_question, g_questionSpeed, g_ounceRest, g_parts, g_filled, g_cogAt, g_cogBest, g_isOrdered, g_orderSize, g_isKept, g_kept, g_keptAt]), (r_thoughtX, aI G 4 f1), (r_thoughtY, aI G 4 f2)] (fun r w1 => ∃ (k1 : Nat → Int32), ∃ (k2 : Nat → Int32), (k1 = mMx f1 aq bq cq) ∧ (k2 = mMy f2 aq bq cq) ∧ r = some (.int (zb (decide (0 ≤ ai ∧ ai ≤ 3 ∧ -9999 ≤ bi ∧ bi ≤ 9999 ∧ -9999 ≤ ci ∧ ci ≤ 9999)))) ∧ w1 = [(mo, ob 11 [.int (0 : Int32), g_rows, g_row, .int hc, .ref r_planeOf, .ref r_holeX, .ref r_holeY, .ref r_room, .ref r_ounces, .ref r_deepOf, .int sc, .ref r_factor, .ref r_otherOf, .ref r_isApart, g_apartX, g_apartY, .int cc, .ref r_weight, .ref r_tape, .int n, .int p, .int lim, .int fi, g_crossOf, g_trueX, g_trueY, .ref r_thoughtX, .ref r_thoughtY, g_poundHole, g_poundOunces, g_lead, g_trials, g_trialSpeed, g_isWhole, g_trialX, g_trialY, g_trialGive, g_trialLead, g_baseX, g_baseY, g_timesPull, g_trialBaseX, g_trialBaseY, g_trialTimes, g_pulls, g_pullMany, g_sizes, g_merged, g_nextHole, g_nextOunces, g_leftBehind, g_manUp, g_manLow, g_asked, g_lowOf, g_highOf, g_tried, g_found, g_askedMany, g_mostHoles, g_isFound, g_foundRest, g_foundOunces, g_question, g_questionSpeed, g_ounceRest, g_parts, g_filled, g_cogAt, g_cogBest, g_isOrdered, g_orderSize, g_isKept, g_kept, g_keptAt]), (r_thoughtX, aI G 4 k1), (r_thoughtY, aI G 4 k2)]) := by
  refine ct_of [(0, .ref mo), (1, .int aq), (2, .int bq), (3, .int cq)] (by decide) (Nat.le_of_ble_eq_true rfl) rfl ?_
  intro p0 e0 s0 m0 args0 below0 meth0 c0 A X
  refine z_run X bl_X11_think_0_2 kl_X11_think_0_2 (lv' := [(0, .ref mo), (1, .int aq), (2, .int bq), (3, .int cq)]) (st' := [.int 0, .ref mo]) rfl ?_
  refine z_put X fl_11_3 dl_X11_think_2 0 rfl (ty := .int) (T := TX11) (N := 75) rfl (Or.inl rfl) (by decide +kernel) rfl (by rfl) (Nat.le_of_ble_eq_true rfl) (ws' := [(mo, ob 11 [.int 0, g_rows, g_row, .int hc, .ref r_planeOf, .ref r_holeX, .ref r_holeY, .ref r_room, .ref r_ounces, .ref r_deepOf, .int sc, .ref r_factor, .ref r_otherOf, .ref r_isApart, g_apartX, g_apartY, .int cc, .ref r_weight, .ref r_tape, .int n, .int p, .int lim, .int fi, g_crossOf, g_trueX, g_trueY, .ref r_thoughtX, .ref r_thoughtY, g_poundHole, g_poundOunces, g_lead, g_trials, g_trialSpeed, g_isWhole, g_trialX, g_trialY, g_trialGive, g_trialLead, g_baseX, g_baseY, g_timesPull, g_trialBaseX, g_trialBaseY, g_trialTimes, g_pulls, g_pullMany, g_sizes, g_merged, g_nextHole, g_nextOunces, g_leftBehind, g_manUp, g_manLow, g_asked, g_lowOf, g_highOf, g_tried, g_found, g_askedMany, g_mostHoles, g_isFound, g_foundRest, g_foundOunces, g_question, g_questionSpeed, g_ounceRest, g_parts, g_filled, g_cogAt, g_cogBest, g_isOrdered, g_orderSize, g_isKept, g_kept, g_keptAt]), (r_thoughtX, aI G 4 f1), (r_thoughtY, aI G 4 f2)]) rfl ?_
  refine z_run X bl_X11_think_5_8 kl_X11_think_5_8 (lv' := [(0, .ref mo), (1, .int aq), (2, .int bq), (3, .int cq)]) (st' := [.int cq, .int bq, .int aq]) rfl ?_
  refine z_callS X k_11_142 (cl_X11_isMass l G aq bq cq ai bi ci haq hbq hcq) dl_X11_think_8 ⟨Nat.le_of_ble_eq_true rfl, Nat.le_of_ble_eq_true rfl⟩ ⟨Nat.le_of_ble_eq_true rfl, Nat.le_of_ble_eq_true rfl⟩ rfl (rest := []) (As := [.int aq, .int bq, .int cq]) rfl (Nat.le_of_ble_eq_true rfl) [] [0, 1, 2] rfl (by decide) (wr := [(mo, ob 11 [.int 0, g_rows, g_row, .int hc, .ref r_planeOf, .ref r_holeX, .ref r_holeY, .ref r_room, .ref r_ounces, .ref r_deepOf, .int sc, .ref r_factor, .ref r_otherOf, .ref r_isApart, g_apartX, g_apartY, .int cc, .ref r_weight, .ref r_tape, .int n, .int p, .int lim, .int fi, g_crossOf, g_trueX, g_trueY, .ref r_thoughtX, .ref r_thoughtY, g_poundHole, g_poundOunces, g_lead, g_trials, g_trialSpeed, g_isWhole, g_trialX, g_trialY, g_trialGive, g_trialLead, g_baseX, g_baseY, g_timesPull, g_trialBaseX, g_trialBaseY, g_trialTimes, g_pulls, g_pullMany, g_sizes, g_merged, g_nextHole, g_nextOunces, g_leftBehind, g_manUp, g_manLow, g_asked, g_lowOf, g_highOf, g_tried, g_found, g_askedMany, g_mostHoles, g_isFound, g_foundRest, g_foundOunces, g_question, g_questionSpeed, g_ounceRest, g_parts, g_filled, g_cogAt, g_cogBest, g_isOrdered, g_orderSize, g_isKept, g_kept, g_keptAt]), (r_thoughtX, aI G 4 f1), (r_thoughtY, aI G 4 f2)]) rfl (by decide) (by decide) ?_
  rintro _ _ ⟨rfl, rfl⟩
  refine Z.at (pc' := 11) (st' := [.int (zb (decide (0 ≤ ai ∧ ai ≤ 3 ∧ -9999 ≤ bi ∧ bi ≤ 9999 ∧ -9999 ≤ ci ∧ ci ≤ 9999)))]) (ws' := [(mo, ob 11 [.int 0, g_rows, g_row, .int hc, .ref r_planeOf, .ref r_holeX, .ref r_holeY, .ref r_room, .ref r_ounces, .ref r_deepOf, .int sc, .ref r_factor, .ref r_otherOf, .ref r_isApart, g_apartX, g_apartY, .int cc, .ref r_weight, .ref r_tape, .int n, .int p, .int lim, .int fi, g_crossOf, g_trueX, g_trueY, .ref r_thoughtX, .ref r_thoughtY, g_poundHole, g_poundOunces, g_lead, g_trials, g_trialSpeed, g_isWhole, g_trialX, g_trialY, g_trialGive, g_trialLead, g_baseX, g_baseY, g_timesPull, g_trialBaseX, g_trialBaseY, g_trialTimes, g_pulls, g_pullMany, g_sizes, g_merged, g_nextHole, g_nextOunces, g_leftBehind, g_manUp, g_manLow, g_asked, g_lowOf, g_highOf, g_tried, g_found, g_askedMany, g_mostHoles, g_isFound, g_foundRest, g_foundOunces, g_question, g_questionSpeed, g_ounceRest, g_parts, g_filled, g_cogAt, g_cogBest, g_isOrdered, g_orderSize, g_isKept, g_kept, g_keptAt]), (r_thoughtX, aI G 4 f1), (r_thoughtY, aI G 4 f2)]) (kc' := 0) (ks' := 0) rfl rfl rfl rfl rfl ?_
  refine zi_ne_zb X dl_X11_think_11 (tgt := 16) (by decide) (fun c11_1 => ?_) (fun c11_1 => ?_)
  ·
    refine z_run X bl_X11_think_16_17 kl_X11_think_16_17 (lv' := [(0, .ref mo), (1, .int aq), (2, .int bq), (3, .int cq)]) (st' := [.ref mo]) rfl ?_
    refine z_get X fl_11_152 dl_X11_think_17 0 rfl (v := .ref r_thoughtX) rfl ?_
    refine z_run X bl_X11_think_20_22 kl_X11_think_20_22 (lv' := [(0, .ref mo), (1, .int aq), (2, .int bq), (3, .int cq)]) (st' := [.int bq, .int aq, .ref r_thoughtX]) rfl ?_
    refine z_iast X dl_X11_think_22 1 rfl (vin haq (by omega) (by omega)) (ws' := [(mo, ob 11 [.int 0, g_rows, g_row, .int hc, .ref r_planeOf, .ref r_holeX, .ref r_holeY, .ref r_room, .ref r_ounces, .ref r_deepOf, .int sc, .ref r_factor, .ref r_otherOf, .ref r_isApart, g_apartX, g_apartY, .int cc, .ref r_weight, .ref r_tape, .int n, .int p, .int lim, .int fi, g_crossOf, g_trueX, g_trueY, .ref r_thoughtX, .ref r_thoughtY, g_poundHole, g_poundOunces, g_lead, g_trials, g_trialSpeed, g_isWhole, g_trialX, g_trialY, g_trialGive, g_trialLead, g_baseX, g_baseY, g_timesPull, g_trialBaseX, g_trialBaseY, g_trialTimes, g_pulls, g_pullMany, g_sizes, g_merged, g_nextHole, g_nextOunces, g_leftBehind, g_manUp, g_manLow, g_asked, g_lowOf, g_highOf, g_tried, g_found, g_askedMany, g_mostHoles, g_isFound, g_foundRest, g_foundOunces, g_question, g_questionSpeed, g_ounceRest, g_parts, g_filled, g_cogAt, g_cogBest, g_isOrdered, g_orderSize, g_isKept, g_kept, g_keptAt]), (r_thoughtX, aI G 4 (upd f1 aq.toNatClampNeg bq)), (r_thoughtY, aI G 4 f2)]) rfl ?_
    refine z_run X bl_X11_think_23_24 kl_X11_think_23_24 (lv' := [(0, .ref mo), (1, .int aq), (2, .int bq), (3, .int cq)]) (st' := [.ref mo]) rfl ?_
    refine z_get X fl_11_155 dl_X11_think_24 0 rfl (v := .ref r_thoughtY) rfl ?_
    refine z_run X bl_X11_think_27_29 kl_X11_think_27_29 (lv' := [(0, .ref mo), (1, .int aq), (2, .int bq), (3, .int cq)]) (st' := [.int cq, .int aq, .ref r_thoughtY]) rfl ?_
    refine z_iast X dl_X11_think_29 2 rfl (vin haq (by omega) (by omega)) (ws' := [(mo, ob 11 [.int 0, g_rows, g_row, .int hc, .ref r_planeOf, .ref r_holeX, .ref r_holeY, .ref r_room, .ref r_ounces, .ref r_deepOf, .int sc, .ref r_factor, .ref r_otherOf, .ref r_isApart, g_apartX, g_apartY, .int cc, .ref r_weight, .ref r_tape, .int n, .int p, .int lim, .int fi, g_crossOf, g_trueX, g_trueY, .ref r_thoughtX, .ref r_thoughtY, g_poundHole, g_poundOunces, g_lead, g_trials, g_trialSpeed, g_isWhole, g_trialX, g_trialY, g_trialGive, g_trialLead, g_baseX, g_baseY, g_timesPull, g_trialBaseX, g_trialBaseY, g_trialTimes, g_pulls, g_pullMany, g_sizes, g_merged, g_nextHole, g_nextOunces, g_leftBehind, g_manUp, g_manLow, g_asked, g_lowOf, g_highOf, g_tried, g_found, g_askedMany, g_mostHoles, g_isFound, g_foundRest, g_foundOunces, g_question, g_questionSpeed, g_ounceRest, g_parts, g_filled, g_cogAt, g_cogBest, g_isOrdered, g_orderSize, g_isKept, g_kept, g_keptAt]), (r_thoughtX, aI G 4 (upd f1 aq.toNatClampNeg bq)), (r_thoughtY, aI G 4 (upd f2 aq.toNatClampNeg cq))]) rfl ?_
    refine z_run X bl_X11_think_30_31 kl_X11_think_30_31 (lv' := [(0, .ref mo), (1, .int aq), (2, .int bq), (3, .int cq)]) (st' := [.int 1]) rfl ?_
    exact z_zret X rfl rfl dl_X11_think_31 (Nat.le_of_ble_eq_true rfl) (Nat.le_of_ble_eq_true rfl) ⟨(upd f1 aq.toNatClampNeg bq), (upd f2 aq.toNatClampNeg cq), (by first | (unfold mMx okMass; first | (rw [if_pos (by omega)]; done) | (rw [if_neg (by omega)]; done)) | (unfold mMy okMass; first | (rw [if_pos (by omega)]; done) | (rw [if_neg (by omega)]; done))), (by first | (unfold mMx okMass; first | (rw [if_pos (by omega)]; done) | (rw [if_neg (by omega)]; done)) | (unfold mMy okMass; first | (rw [if_pos (by omega)]; done) | (rw [if_neg (by omega)]; done))), (congrArg (fun z => some (Value.int z)) (zb_t (by omega)).symm), rfl⟩
  ·
    refine z_run X bl_X11_think_14_15 kl_X11_think_14_15 (lv' := [(0, .ref mo), (1, .int aq), (2, .int bq), (3, .int cq)]) (st' := [.int 0]) rfl ?_
    exact z_zret X rfl rfl dl_X11_think_15 (Nat.le_of_ble_eq_true rfl) (Nat.le_of_ble_eq_true rfl) ⟨f1, f2, (by first | (unfold mMx okMass; first | (rw [if_pos (by omega)]; done) | (rw [if_neg (by omega)]; done)) | (unfold mMy okMass; first | (rw [if_pos (by omega)]; done) | (rw [if_neg (by omega)]; done))), (by first | (unfold mMx okMass; first | (rw [if_pos (by omega)]; done) | (rw [if_neg (by omega)]; done)) | (unfold mMy okMass; first | (rw [if_pos (by omega)]; done) | (rw [if_neg (by omega)]; done))), (congrArg (fun z => some (Value.int z)) (zb_f (by omega)).symm), rfl⟩

theorem dl_X10_truly_1 : decode cX10_truly 1 = .ok (.getfield 75, 3) := by decide +kernel
theorem dl_X10_truly_7 : decode cX10_truly 7 = .ok (.invokestatic 163, 3) := by decide +kernel
theorem dl_X10_truly_10 : decode cX10_truly 10 = .ok (.ireturn, 1) := by decide +kernel
abbrev bl_X10_truly_0_1 : ZB := [(.aload_n 0, .null)]
theorem kl_X10_truly_0_1 : zchk cX10_truly bl_X10_truly_0_1 0 = true ∧ zpc bl_X10_truly_0_1 0 = 1 := ⟨by decide +kernel, rfl⟩
abbrev bl_X10_truly_4_7 : ZB := [(.iload_n 1, .null), (.iload_n 2, .null), (.iload_n 3, .null)]
theorem kl_X10_truly_4_7 : zchk cX10_truly bl_X10_truly_4_7 4 = true ∧ zpc bl_X10_truly_4_7 4 = 7 := ⟨by decide +kernel, rfl⟩
set_option maxHeartbeats 4000000 in
set_option maxRecDepth 100000 in
theorem cl_X10_truly (l : Launch) (G : KG) (x : Nat) (x_told : Value) (x_reader : Value) (x_ring : Value) (x_speeds : Value) (x_wheel : Value) (x_trials : Value) (x_span : Value) (x_search : Value) (x_kept : Value) (x_crosses : Value) (trueMasses : Nat) (x_thought : Value) (x_up : Value) (x_low : Value) (x_fits : Value) (x_pulls : Value) (fm : Nat → Int32) (aq : Int32) (bq : Int32) (cq : Int32) (ai : Int) (bi : Int) (ci : Int) (haq : aq.toInt = ai) (hbq : bq.toInt = bi) (hcq : cq.toInt = ci) : Ct l G yX10_truly cX10_truly 4 (some .boolean) { frames := 2, cells := 0, slots := 0, locals := 44 } [.ref x, .int aq, .int bq, .int cq] [(x, ob 10 [x_told, x_reader, x_ring, x_speeds, x_wheel, x_trials, x_span, x_search, x_kept, x_crosses, .ref trueMasses, x_thought, x_up, x_low, x_fits, x_pulls]), (trueMasses, aI G 8 fm)] (fun r w1 => ∃ (fm2 : Nat → Int32), (fm2 = mMass fm aq bq cq) ∧ r = some (.int (zb (decide (0 ≤ ai ∧ ai ≤ 3 ∧ -9999 ≤ bi ∧ bi ≤ 9999 ∧ -9999 ≤ ci ∧ ci ≤ 9999)))) ∧ w1 = [(x, ob 10 [x_told, x_reader, x_ring, x_speeds, x_wheel, x_trials, x_span, x_search, x_kept, x_crosses, .ref trueMasses, x_thought, x_up, x_low, x_fits, x_pulls]), (trueMasses, aI G 8 fm2)]) := by
  refine ct_of [(0, .ref x), (1, .int aq), (2, .int bq), (3, .int cq)] (by decide) (Nat.le_of_ble_eq_true rfl) rfl ?_
  intro p0 e0 s0 m0 args0 below0 meth0 c0 A X
  refine z_run X bl_X10_truly_0_1 kl_X10_truly_0_1 (lv' := [(0, .ref x), (1, .int aq), (2, .int bq), (3, .int cq)]) (st' := [.ref x]) rfl ?_
  refine z_get X fl_10_75 dl_X10_truly_1 0 rfl (v := .ref trueMasses) rfl ?_
  refine z_run X bl_X10_truly_4_7 kl_X10_truly_4_7 (lv' := [(0, .ref x), (1, .int aq), (2, .int bq), (3, .int cq)]) (st' := [.int cq, .int bq, .int aq, .ref trueMasses]) rfl ?_
  refine z_callS X k_10_163 (cl_X10_setMass l G trueMasses fm aq bq cq ai bi ci haq hbq hcq) dl_X10_truly_7 ⟨Nat.le_of_ble_eq_true rfl, Nat.le_of_ble_eq_true rfl⟩ ⟨Nat.le_of_ble_eq_true rfl, Nat.le_of_ble_eq_true rfl⟩ rfl (rest := []) (As := [.ref trueMasses, .int aq, .int bq, .int cq]) rfl (Nat.le_of_ble_eq_true rfl) [1] [0] rfl (by decide) (wr := [(x, ob 10 [x_told, x_reader, x_ring, x_speeds, x_wheel, x_trials, x_span, x_search, x_kept, x_crosses, .ref trueMasses, x_thought, x_up, x_low, x_fits, x_pulls])]) rfl (by decide) (by decide) ?_
  rintro _ _ ⟨fm2_1, f7_2, rfl, rfl⟩
  refine Z.at (pc' := 10) (st' := [.int (zb (decide (0 ≤ ai ∧ ai ≤ 3 ∧ -9999 ≤ bi ∧ bi ≤ 9999 ∧ -9999 ≤ ci ∧ ci ≤ 9999)))]) (ws' := [(x, ob 10 [x_told, x_reader, x_ring, x_speeds, x_wheel, x_trials, x_span, x_search, x_kept, x_crosses, .ref trueMasses, x_thought, x_up, x_low, x_fits, x_pulls]), (trueMasses, aI G 8 fm2_1)]) (kc' := 0) (ks' := 0) rfl rfl rfl rfl rfl ?_
  exact z_zret X rfl (zb_n _) dl_X10_truly_10 (Nat.le_of_ble_eq_true rfl) (Nat.le_of_ble_eq_true rfl) ⟨fm2_1, (by assumption), rfl, rfl⟩

set_option maxHeartbeats 4000000 in
set_option maxRecDepth 100000 in
theorem cl_X11_isMass_truly (l : Launch) (G : KG) (aq : Int32) (bq : Int32) (cq : Int32) (ai : Int) (bi : Int) (ci : Int) (haq : aq.toInt = ai) (hbq : bq.toInt = bi) (hcq : cq.toInt = ci) : Ct l G yX11_isMass cX11_isMass 3 (some .boolean) { frames := 1, cells := 0, slots := 0, locals := 25 } [.int aq, .int bq, .int cq] [] (fun r w1 => r = some (.int (zb (decide (0 ≤ ai ∧ ai ≤ 3 ∧ -9999 ≤ bi ∧ bi ≤ 9999 ∧ -9999 ≤ ci ∧ ci ≤ 9999)))) ∧ w1 = []) := by
  refine ct_of [(0, .int aq), (1, .int bq), (2, .int cq)] (by decide) (Nat.le_of_ble_eq_true rfl) rfl ?_
  intro p0 e0 s0 m0 args0 below0 meth0 c0 A X
  refine z_run X bl_X11_isMass_0_3 kl_X11_isMass_0_3 (lv' := [(0, .int aq), (1, .int bq), (2, .int cq)]) (st' := [.long 0, .long aq.toInt64]) rfl ?_
  refine z_ldc2 X dl_X11_isMass_3 cn_11_122 ?_
  refine z_callS X k_11_29 (cm_X11_in l G aq.toInt64 0 3 ai 0 3 (tI64 haq) (show (0 : Int64).toInt = 0 from by decide) (show (3 : Int64).toInt = 3 from by decide)) dl_X11_isMass_6 ⟨Nat.le_of_ble_eq_true rfl, Nat.le_of_ble_eq_true rfl⟩ ⟨Nat.le_of_ble_eq_true rfl, Nat.le_of_ble_eq_true rfl⟩ rfl (rest := []) (As := [.long aq.toInt64, .long 0, .long 3]) rfl (Nat.le_of_ble_eq_true rfl) [] [] rfl (by decide) (wr := []) rfl (by decide) (by decide) ?_
  rintro _ _ ⟨rfl, rfl⟩
  refine Z.at (pc' := 9) (st' := [.int (zb (decide (0 ≤ ai ∧ ai ≤ 3)))]) (ws' := []) (kc' := 0) (ks' := 0) rfl rfl rfl rfl rfl ?_
  refine zi_eq_zb X dl_X11_isMass_9 (tgt := 44) (by decide) (fun c9_1 => ?_) (fun c9_1 => ?_)
  ·
    refine z_run X bl_X11_isMass_44_45 kl_X11_isMass_44_45 (lv' := [(0, .int aq), (1, .int bq), (2, .int cq)]) (st' := [.int 0]) rfl ?_
    exact z_zret X rfl rfl dl_X11_isMass_45 (Nat.le_of_ble_eq_true rfl) (Nat.le_of_ble_eq_true rfl) ⟨(congrArg (fun z => some (Value.int z)) (zb_f (by omega)).symm), rfl⟩
  ·
    refine z_run X bl_X11_isMass_12_14 kl_X11_isMass_12_14 (lv' := [(0, .int aq), (1, .int bq), (2, .int cq)]) (st' := [.long bq.toInt64]) rfl ?_
    refine z_ldc2 X dl_X11_isMass_14 cn_11_138 ?_
    refine z_ldc2 X dl_X11_isMass_17 cn_11_140 ?_
    refine z_callS X k_11_29 (cm_X11_in l G bq.toInt64 (-9999) 9999 bi ((-9999)) 9999 (tI64 hbq) (show ((-9999) : Int64).toInt = (-9999) from by decide) (show (9999 : Int64).toInt = 9999 from by decide)) dl_X11_isMass_20 ⟨Nat.le_of_ble_eq_true rfl, Nat.le_of_ble_eq_true rfl⟩ ⟨Nat.le_of_ble_eq_true rfl, Nat.le_of_ble_eq_true rfl⟩ rfl (rest := []) (As := [.long bq.toInt64, .long (-9999), .long 9999]) rfl (Nat.le_of_ble_eq_true rfl) [] [] rfl (by decide) (wr := []) rfl (by decide) (by decide) ?_
    rintro _ _ ⟨rfl, rfl⟩
    refine Z.at (pc' := 23) (st' := [.int (zb (decide (((-9999)) ≤ bi ∧ bi ≤ 9999)))]) (ws' := []) (kc' := 0) (ks' := 0) rfl rfl rfl rfl rfl ?_
    refine zi_eq_zb X dl_X11_isMass_23 (tgt := 44) (by decide) (fun c23_2 => ?_) (fun c23_2 => ?_)
    ·
      refine z_run X bl_X11_isMass_44_45 kl_X11_isMass_44_45 (lv' := [(0, .int aq), (1, .int bq), (2, .int cq)]) (st' := [.int 0]) rfl ?_
      exact z_zret X rfl rfl dl_X11_isMass_45 (Nat.le_of_ble_eq_true rfl) (Nat.le_of_ble_eq_true rfl) ⟨(congrArg (fun z => some (Value.int z)) (zb_f (by omega)).symm), rfl⟩
    ·
      refine z_run X bl_X11_isMass_26_28 kl_X11_isMass_26_28 (lv' := [(0, .int aq), (1, .int bq), (2, .int cq)]) (st' := [.long cq.toInt64]) rfl ?_
      refine z_ldc2 X dl_X11_isMass_28 cn_11_138 ?_
      refine z_ldc2 X dl_X11_isMass_31 cn_11_140 ?_
      refine z_callS X k_11_29 (cm_X11_in l G cq.toInt64 (-9999) 9999 ci ((-9999)) 9999 (tI64 hcq) (show ((-9999) : Int64).toInt = (-9999) from by decide) (show (9999 : Int64).toInt = 9999 from by decide)) dl_X11_isMass_34 ⟨Nat.le_of_ble_eq_true rfl, Nat.le_of_ble_eq_true rfl⟩ ⟨Nat.le_of_ble_eq_true rfl, Nat.le_of_ble_eq_true rfl⟩ rfl (rest := []) (As := [.long cq.toInt64, .long (-9999), .long 9999]) rfl (Nat.le_of_ble_eq_true rfl) [] [] rfl (by decide) (wr := []) rfl (by decide) (by decide) ?_
      rintro _ _ ⟨rfl, rfl⟩
      refine Z.at (pc' := 37) (st' := [.int (zb (decide (((-9999)) ≤ ci ∧ ci ≤ 9999)))]) (ws' := []) (kc' := 0) (ks' := 0) rfl rfl rfl rfl rfl ?_
      refine zi_eq_zb X dl_X11_isMass_37 (tgt := 44) (by decide) (fun c37_3 => ?_) (fun c37_3 => ?_)
      ·
        refine z_run X bl_X11_isMass_44_45 kl_X11_isMass_44_45 (lv' := [(0, .int aq), (1, .int bq), (2, .int cq)]) (st' := [.int 0]) rfl ?_
        exact z_zret X rfl rfl dl_X11_isMass_45 (Nat.le_of_ble_eq_true rfl) (Nat.le_of_ble_eq_true rfl) ⟨(congrArg (fun z => some (Value.int z)) (zb_f (by omega)).symm), rfl⟩
      ·
        refine z_run X bl_X11_isMass_40_41 kl_X11_isMass_40_41 (lv' := [(0, .int aq), (1, .int bq), (2, .int cq)]) (st' := [.int 1]) rfl ?_
        refine z_goto X dl_X11_isMass_41 (tgt := 45) (by decide) ?_
        exact z_zret X rfl rfl dl_X11_isMass_45 (Nat.le_of_ble_eq_true rfl) (Nat.le_of_ble_eq_true rfl) ⟨(congrArg (fun z => some (Value.int z)) (zb_t (by omega)).symm), rfl⟩

theorem dl_X11_truly_2 : decode cX11_truly 2 = .ok (.putfield 3, 3) := by decide +kernel
theorem dl_X11_truly_8 : decode cX11_truly 8 = .ok (.invokestatic 142, 3) := by decide +kernel
theorem dl_X11_truly_11 : decode cX11_truly 11 = .ok (.ifCond .ne 5, 3) := by decide +kernel
theorem dl_X11_truly_17 : decode cX11_truly 17 = .ok (.getfield 146, 3) := by decide +kernel
theorem dl_X11_truly_22 : decode cX11_truly 22 = .ok (.iastore, 1) := by decide +kernel
theorem dl_X11_truly_24 : decode cX11_truly 24 = .ok (.getfield 149, 3) := by decide +kernel
theorem dl_X11_truly_29 : decode cX11_truly 29 = .ok (.iastore, 1) := by decide +kernel
theorem dl_X11_truly_31 : decode cX11_truly 31 = .ok (.ireturn, 1) := by decide +kernel
theorem dl_X11_truly_15 : decode cX11_truly 15 = .ok (.ireturn, 1) := by decide +kernel
abbrev bl_X11_truly_0_2 : ZB := [(.aload_n 0, .null), (.iconst 0, .int 0)]
theorem kl_X11_truly_0_2 : zchk cX11_truly bl_X11_truly_0_2 0 = true ∧ zpc bl_X11_truly_0_2 0 = 2 := ⟨by decide +kernel, rfl⟩
abbrev bl_X11_truly_5_8 : ZB := [(.iload_n 1, .null), (.iload_n 2, .null), (.iload_n 3, .null)]
theorem kl_X11_truly_5_8 : zchk cX11_truly bl_X11_truly_5_8 5 = true ∧ zpc bl_X11_truly_5_8 5 = 8 := ⟨by decide +kernel, rfl⟩
abbrev bl_X11_truly_16_17 : ZB := [(.aload_n 0, .null)]
theorem kl_X11_truly_16_17 : zchk cX11_truly bl_X11_truly_16_17 16 = true ∧ zpc bl_X11_truly_16_17 16 = 17 := ⟨by decide +kernel, rfl⟩
abbrev bl_X11_truly_20_22 : ZB := [(.iload_n 1, .null), (.iload_n 2, .null)]
theorem kl_X11_truly_20_22 : zchk cX11_truly bl_X11_truly_20_22 20 = true ∧ zpc bl_X11_truly_20_22 20 = 22 := ⟨by decide +kernel, rfl⟩
abbrev bl_X11_truly_23_24 : ZB := [(.aload_n 0, .null)]
theorem kl_X11_truly_23_24 : zchk cX11_truly bl_X11_truly_23_24 23 = true ∧ zpc bl_X11_truly_23_24 23 = 24 := ⟨by decide +kernel, rfl⟩
abbrev bl_X11_truly_27_29 : ZB := [(.iload_n 1, .null), (.iload_n 3, .null)]
theorem kl_X11_truly_27_29 : zchk cX11_truly bl_X11_truly_27_29 27 = true ∧ zpc bl_X11_truly_27_29 27 = 29 := ⟨by decide +kernel, rfl⟩
abbrev bl_X11_truly_30_31 : ZB := [(.iconst 1, .int 1)]
theorem kl_X11_truly_30_31 : zchk cX11_truly bl_X11_truly_30_31 30 = true ∧ zpc bl_X11_truly_30_31 30 = 31 := ⟨by decide +kernel, rfl⟩
abbrev bl_X11_truly_14_15 : ZB := [(.iconst 0, .int 0)]
theorem kl_X11_truly_14_15 : zchk cX11_truly bl_X11_truly_14_15 14 = true ∧ zpc bl_X11_truly_14_15 14 = 15 := ⟨by decide +kernel, rfl⟩
set_option maxHeartbeats 4000000 in
set_option maxRecDepth 100000 in
theorem cl_X11_truly (l : Launch) (G : KG) (mo : Nat) (th : Int32) (g_rows : Value) (g_row : Value) (hc : Int32) (r_planeOf : Nat) (r_holeX : Nat) (r_holeY : Nat) (r_room : Nat) (r_ounces : Nat) (r_deepOf : Nat) (sc : Int32) (r_factor : Nat) (r_otherOf : Nat) (r_isApart : Nat) (g_apartX : Value) (g_apartY : Value) (cc : Int32) (r_weight : Nat) (r_tape : Nat) (n : Int32) (p : Int32) (lim : Int32) (fi : Int32) (g_crossOf : Value) (r_trueX : Nat) (r_trueY : Nat) (g_thoughtX : Value) (g_thoughtY : Value) (g_poundHole : Value) (g_poundOunces : Value) (g_lead : Value) (g_trials : Value) (g_trialSpeed : Value) (g_isWhole : Value) (g_trialX : Value) (g_trialY : Value) (g_trialGive : Value) (g_trialLead : Value) (g_baseX : Value) (g_baseY : Value) (g_timesPull : Value) (g_trialBaseX : Value) (g_trialBaseY : Value) (g_trialTimes : Value) (g_pulls : Value) (g_pullMany : Value) (g_sizes : Value) (g_merged : Value) (g_nextHole : Value) (g_nextOunces : Value) (g_leftBehind : Value) (g_manUp : Value) (g_manLow : Value) (g_asked : Value) (g_lowOf : Value) (g_highOf : Value) (g_tried : Value) (g_found : Value) (g_askedMany : Value) (g_mostHoles : Value) (g_isFound : Value) (g_foundRest : Value) (g_foundOunces : Value) (g_question : Value) (g_questionSpeed : Value) (g_ounceRest : Value) (g_parts : Value) (g_filled : Value) (g_cogAt : Value) (g_cogBest : Value) (g_isOrdered : Value) (g_orderSize : Value) (g_isKept : Value) (g_kept : Value) (g_keptAt : Value) (f1 : Nat → Int32) (f2 : Nat → Int32) (aq : Int32) (bq : Int32) (cq : Int32) (ai : Int) (bi : Int) (ci : Int) (haq : aq.toInt = ai) (hbq : bq.toInt = bi) (hcq : cq.toInt = ci) : Ct l G yX11_truly cX11_truly 4 (some .boolean) { frames := 2, cells := 0, slots := 0, locals := 47 } [.ref mo, .int aq, .int bq, .int cq] [(mo, ob 11 [.int th, g_rows, g_row, .int hc, .ref r_planeOf, .ref r_holeX, .ref r_holeY, .ref r_room, .ref r_ounces, .ref r_deepOf, .int sc, .ref r_factor, .ref r_otherOf, .ref r_isApart, g_apartX, g_apartY, .int cc, .ref r_weight, .ref r_tape, .int n, .int p, .int lim, .int fi, g_crossOf, .ref r_trueX, .ref r_trueY, g_thoughtX, g_thoughtY, g_poundHole, g_poundOunces, g_lead, g_trials, g_trialSpeed, g_isWhole, g_trialX, g_trialY, g_trialGive, g_trialLead, g_baseX, g_baseY, g_timesPull, g_trialBaseX, g_trialBaseY, g_trialTimes, g_pulls, g_pullMany, g_sizes, g_merged, g_nextHole, g_nextOunces, g_leftBehind, g_manUp, g_manLow, g_asked, g_lowOf, g_highOf, g_tried, g_found, g_askedMany, g_mostHoles, g_isFound, g_foundRest, g_foundOunces, g_question, g_questionSpeed, g_ounceRest, g_parts, g_filled, g_cogAt, g_cogBest, g_isOrdered, g_orderSize, g_isKept, g_kept, g_keptAt]), (r_trueX, aI G 4 f1), (r_trueY, aI G 4 f2)] (fun r w1 => ∃ (k1 : Nat → Int32), ∃ (k2 : Nat → Int32), (k1 = mMx f1 aq bq cq) ∧ (k2 = mMy f2 aq bq cq) ∧ r = some (.int (zb (decide (0 ≤ ai ∧ ai ≤ 3 ∧ -9999 ≤ bi ∧ bi ≤ 9999 ∧ -9999 ≤ ci ∧ ci ≤ 9999)))) ∧ w1 = [(mo, ob 11 [.int (0 : Int32), g_rows, g_row, .int hc, .ref r_planeOf, .ref r_holeX, .ref r_holeY, .ref r_room, .ref r_ounces, .ref r_deepOf, .int sc, .ref r_factor, .ref r_otherOf, .ref r_isApart, g_apartX, g_apartY, .int cc, .ref r_weight, .ref r_tape, .int n, .int p, .int lim, .int fi, g_crossOf, .ref r_trueX, .ref r_trueY, g_thoughtX, g_thoughtY, g_poundHole, g_poundOunces, g_lead, g_trials, g_trialSpeed, g_isWhole, g_trialX, g_trialY, g_trialGive, g_trialLead, g_baseX, g_baseY, g_timesPull, g_trialBaseX, g_trialBaseY, g_trialTimes, g_pulls, g_pullMany, g_sizes, g_merged, g_nextHole, g_nextOunces, g_leftBehind, g_manUp, g_manLow, g_asked, g_lowOf, g_highOf, g_tried, g_found, g_askedMany, g_mostHoles, g_isFound, g_foundRest, g_foundOunces, g_question, g_questionSpeed, g_ounceRest, g_parts, g_filled, g_cogAt, g_cogBest, g_isOrdered, g_orderSize, g_isKept, g_kept, g_keptAt]), (r_trueX, aI G 4 k1), (r_trueY, aI G 4 k2)]) := by
  refine ct_of [(0, .ref mo), (1, .int aq), (2, .int bq), (3, .int cq)] (by decide) (Nat.le_of_ble_eq_true rfl) rfl ?_
  intro p0 e0 s0 m0 args0 below0 meth0 c0 A X
  refine z_run X bl_X11_truly_0_2 kl_X11_truly_0_2 (lv' := [(0, .ref mo), (1, .int aq), (2, .int bq), (3, .int cq)]) (st' := [.int 0, .ref mo]) rfl ?_
  refine z_put X fl_11_3 dl_X11_truly_2 0 rfl (ty := .int) (T := TX11) (N := 75) rfl (Or.inl rfl) (by decide +kernel) rfl (by rfl) (Nat.le_of_ble_eq_true rfl) (ws' := [(mo, ob 11 [.int 0, g_rows, g_row, .int hc, .ref r_planeOf, .ref r_holeX, .ref r_holeY, .ref r_room, .ref r_ounces, .ref r_deepOf, .int sc, .ref r_factor, .ref r_otherOf, .ref r_isApart, g_apartX, g_apartY, .int cc, .ref r_weight, .ref r_tape, .int n, .int p, .int lim, .int fi, g_crossOf, .ref r_trueX, .ref r_trueY, g_thoughtX, g_thoughtY, g_poundHole, g_poundOunces, g_lead, g_trials, g_trialSpeed, g_isWhole, g_trialX, g_trialY, g_trialGive, g_trialLead, g_baseX, g_baseY, g_timesPull, g_trialBaseX, g_trialBaseY, g_trialTimes, g_pulls, g_pullMany, g_sizes, g_merged, g_nextHole, g_nextOunces, g_leftBehind, g_manUp, g_manLow, g_asked, g_lowOf, g_highOf, g_tried, g_found, g_askedMany, g_mostHoles, g_isFound, g_foundRest, g_foundOunces, g_question, g_questionSpeed, g_ounceRest, g_parts, g_filled, g_cogAt, g_cogBest, g_isOrdered, g_orderSize, g_isKept, g_kept, g_keptAt]), (r_trueX, aI G 4 f1), (r_trueY, aI G 4 f2)]) rfl ?_
  refine z_run X bl_X11_truly_5_8 kl_X11_truly_5_8 (lv' := [(0, .ref mo), (1, .int aq), (2, .int bq), (3, .int cq)]) (st' := [.int cq, .int bq, .int aq]) rfl ?_
  refine z_callS X k_11_142 (cl_X11_isMass l G aq bq cq ai bi ci haq hbq hcq) dl_X11_truly_8 ⟨Nat.le_of_ble_eq_true rfl, Nat.le_of_ble_eq_true rfl⟩ ⟨Nat.le_of_ble_eq_true rfl, Nat.le_of_ble_eq_true rfl⟩ rfl (rest := []) (As := [.int aq, .int bq, .int cq]) rfl (Nat.le_of_ble_eq_true rfl) [] [0, 1, 2] rfl (by decide) (wr := [(mo, ob 11 [.int 0, g_rows, g_row, .int hc, .ref r_planeOf, .ref r_holeX, .ref r_holeY, .ref r_room, .ref r_ounces, .ref r_deepOf, .int sc, .ref r_factor, .ref r_otherOf, .ref r_isApart, g_apartX, g_apartY, .int cc, .ref r_weight, .ref r_tape, .int n, .int p, .int lim, .int fi, g_crossOf, .ref r_trueX, .ref r_trueY, g_thoughtX, g_thoughtY, g_poundHole, g_poundOunces, g_lead, g_trials, g_trialSpeed, g_isWhole, g_trialX, g_trialY, g_trialGive, g_trialLead, g_baseX, g_baseY, g_timesPull, g_trialBaseX, g_trialBaseY, g_trialTimes, g_pulls, g_pullMany, g_sizes, g_merged, g_nextHole, g_nextOunces, g_leftBehind, g_manUp, g_manLow, g_asked, g_lowOf, g_highOf, g_tried, g_found, g_askedMany, g_mostHoles, g_isFound, g_foundRest, g_foundOunces, g_question, g_questionSpeed, g_ounceRest, g_parts, g_filled, g_cogAt, g_cogBest, g_isOrdered, g_orderSize, g_isKept, g_kept, g_keptAt]), (r_trueX, aI G 4 f1), (r_trueY, aI G 4 f2)]) rfl (by decide) (by decide) ?_
  rintro _ _ ⟨rfl, rfl⟩
  refine Z.at (pc' := 11) (st' := [.int (zb (decide (0 ≤ ai ∧ ai ≤ 3 ∧ -9999 ≤ bi ∧ bi ≤ 9999 ∧ -9999 ≤ ci ∧ ci ≤ 9999)))]) (ws' := [(mo, ob 11 [.int 0, g_rows, g_row, .int hc, .ref r_planeOf, .ref r_holeX, .ref r_holeY, .ref r_room, .ref r_ounces, .ref r_deepOf, .int sc, .ref r_factor, .ref r_otherOf, .ref r_isApart, g_apartX, g_apartY, .int cc, .ref r_weight, .ref r_tape, .int n, .int p, .int lim, .int fi, g_crossOf, .ref r_trueX, .ref r_trueY, g_thoughtX, g_thoughtY, g_poundHole, g_poundOunces, g_lead, g_trials, g_trialSpeed, g_isWhole, g_trialX, g_trialY, g_trialGive, g_trialLead, g_baseX, g_baseY, g_timesPull, g_trialBaseX, g_trialBaseY, g_trialTimes, g_pulls, g_pullMany, g_sizes, g_merged, g_nextHole, g_nextOunces, g_leftBehind, g_manUp, g_manLow, g_asked, g_lowOf, g_highOf, g_tried, g_found, g_askedMany, g_mostHoles, g_isFound, g_foundRest, g_foundOunces, g_question, g_questionSpeed, g_ounceRest, g_parts, g_filled, g_cogAt, g_cogBest, g_isOrdered, g_orderSize, g_isKept, g_kept, g_keptAt]), (r_trueX, aI G 4 f1), (r_trueY, aI G 4 f2)]) (kc' := 0) (ks' := 0) rfl rfl rfl rfl rfl ?_
  refine zi_ne_zb X dl_X11_truly_11 (tgt := 16) (by decide) (fun c11_1 => ?_) (fun c11_1 => ?_)
  ·
    refine z_run X bl_X11_truly_16_17 kl_X11_truly_16_17 (lv' := [(0, .ref mo), (1, .int aq), (2, .int bq), (3, .int cq)]) (st' := [.ref mo]) rfl ?_
    refine z_get X fl_11_146 dl_X11_truly_17 0 rfl (v := .ref r_trueX) rfl ?_
    refine z_run X bl_X11_truly_20_22 kl_X11_truly_20_22 (lv' := [(0, .ref mo), (1, .int aq), (2, .int bq), (3, .int cq)]) (st' := [.int bq, .int aq, .ref r_trueX]) rfl ?_
    refine z_iast X dl_X11_truly_22 1 rfl (vin haq (by omega) (by omega)) (ws' := [(mo, ob 11 [.int 0, g_rows, g_row, .int hc, .ref r_planeOf, .ref r_holeX, .ref r_holeY, .ref r_room, .ref r_ounces, .ref r_deepOf, .int sc, .ref r_factor, .ref r_otherOf, .ref r_isApart, g_apartX, g_apartY, .int cc, .ref r_weight, .ref r_tape, .int n, .int p, .int lim, .int fi, g_crossOf, .ref r_trueX, .ref r_trueY, g_thoughtX, g_thoughtY, g_poundHole, g_poundOunces, g_lead, g_trials, g_trialSpeed, g_isWhole, g_trialX, g_trialY, g_trialGive, g_trialLead, g_baseX, g_baseY, g_timesPull, g_trialBaseX, g_trialBaseY, g_trialTimes, g_pulls, g_pullMany, g_sizes, g_merged, g_nextHole, g_nextOunces, g_leftBehind, g_manUp, g_manLow, g_asked, g_lowOf, g_highOf, g_tried, g_found, g_askedMany, g_mostHoles, g_isFound, g_foundRest, g_foundOunces, g_question, g_questionSpeed, g_ounceRest, g_parts, g_filled, g_cogAt, g_cogBest, g_isOrdered, g_orderSize, g_isKept, g_kept, g_keptAt]), (r_trueX, aI G 4 (upd f1 aq.toNatClampNeg bq)), (r_trueY, aI G 4 f2)]) rfl ?_
    refine z_run X bl_X11_truly_23_24 kl_X11_truly_23_24 (lv' := [(0, .ref mo), (1, .int aq), (2, .int bq), (3, .int cq)]) (st' := [.ref mo]) rfl ?_
    refine z_get X fl_11_149 dl_X11_truly_24 0 rfl (v := .ref r_trueY) rfl ?_
    refine z_run X bl_X11_truly_27_29 kl_X11_truly_27_29 (lv' := [(0, .ref mo), (1, .int aq), (2, .int bq), (3, .int cq)]) (st' := [.int cq, .int aq, .ref r_trueY]) rfl ?_
    refine z_iast X dl_X11_truly_29 2 rfl (vin haq (by omega) (by omega)) (ws' := [(mo, ob 11 [.int 0, g_rows, g_row, .int hc, .ref r_planeOf, .ref r_holeX, .ref r_holeY, .ref r_room, .ref r_ounces, .ref r_deepOf, .int sc, .ref r_factor, .ref r_otherOf, .ref r_isApart, g_apartX, g_apartY, .int cc, .ref r_weight, .ref r_tape, .int n, .int p, .int lim, .int fi, g_crossOf, .ref r_trueX, .ref r_trueY, g_thoughtX, g_thoughtY, g_poundHole, g_poundOunces, g_lead, g_trials, g_trialSpeed, g_isWhole, g_trialX, g_trialY, g_trialGive, g_trialLead, g_baseX, g_baseY, g_timesPull, g_trialBaseX, g_trialBaseY, g_trialTimes, g_pulls, g_pullMany, g_sizes, g_merged, g_nextHole, g_nextOunces, g_leftBehind, g_manUp, g_manLow, g_asked, g_lowOf, g_highOf, g_tried, g_found, g_askedMany, g_mostHoles, g_isFound, g_foundRest, g_foundOunces, g_question, g_questionSpeed, g_ounceRest, g_parts, g_filled, g_cogAt, g_cogBest, g_isOrdered, g_orderSize, g_isKept, g_kept, g_keptAt]), (r_trueX, aI G 4 (upd f1 aq.toNatClampNeg bq)), (r_trueY, aI G 4 (upd f2 aq.toNatClampNeg cq))]) rfl ?_
    refine z_run X bl_X11_truly_30_31 kl_X11_truly_30_31 (lv' := [(0, .ref mo), (1, .int aq), (2, .int bq), (3, .int cq)]) (st' := [.int 1]) rfl ?_
    exact z_zret X rfl rfl dl_X11_truly_31 (Nat.le_of_ble_eq_true rfl) (Nat.le_of_ble_eq_true rfl) ⟨(upd f1 aq.toNatClampNeg bq), (upd f2 aq.toNatClampNeg cq), (by first | (unfold mMx okMass; first | (rw [if_pos (by omega)]; done) | (rw [if_neg (by omega)]; done)) | (unfold mMy okMass; first | (rw [if_pos (by omega)]; done) | (rw [if_neg (by omega)]; done))), (by first | (unfold mMx okMass; first | (rw [if_pos (by omega)]; done) | (rw [if_neg (by omega)]; done)) | (unfold mMy okMass; first | (rw [if_pos (by omega)]; done) | (rw [if_neg (by omega)]; done))), (congrArg (fun z => some (Value.int z)) (zb_t (by omega)).symm), rfl⟩
  ·
    refine z_run X bl_X11_truly_14_15 kl_X11_truly_14_15 (lv' := [(0, .ref mo), (1, .int aq), (2, .int bq), (3, .int cq)]) (st' := [.int 0]) rfl ?_
    exact z_zret X rfl rfl dl_X11_truly_15 (Nat.le_of_ble_eq_true rfl) (Nat.le_of_ble_eq_true rfl) ⟨f1, f2, (by first | (unfold mMx okMass; first | (rw [if_pos (by omega)]; done) | (rw [if_neg (by omega)]; done)) | (unfold mMy okMass; first | (rw [if_pos (by omega)]; done) | (rw [if_neg (by omega)]; done))), (by first | (unfold mMx okMass; first | (rw [if_pos (by omega)]; done) | (rw [if_neg (by omega)]; done)) | (unfold mMy okMass; first | (rw [if_pos (by omega)]; done) | (rw [if_neg (by omega)]; done))), (congrArg (fun z => some (Value.int z)) (zb_f (by omega)).symm), rfl⟩

