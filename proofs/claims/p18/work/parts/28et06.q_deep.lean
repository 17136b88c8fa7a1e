/-! deep: exactly -/
def mDeep (h : Int) (d : Nat → Int32) (a v : Int32) : Int32 × (Nat → Int32) := if 0 ≤ a.toInt ∧ a.toInt < h ∧ 0 ≤ v.toInt ∧ v.toInt ≤ 9 then (d a.toNatClampNeg, upd d a.toNatClampNeg v) else (-1, d)
def CQ (G : KG) (w : va_W) (k n : Nat) (F : Nat → Int32) : Prop := ∃ q : Nat → Int32, cget w k 0 = some (.inr (cyI G, n, .inl q)) ∧ ∀ j, j < n → q j = F j
theorem CQ.app {G : KG} {w wc : va_W} {k n : Nat} {F : Nat → Int32} (hk : k < w.length) (h : CQ G w k n F) : CQ G (w ++ wc) k n F := by
  obtain ⟨q, q1, q2⟩ := h
  exact ⟨q, by rw [cget_app hk]; exact q1, q2⟩
theorem dq_X5_isHole_1 : decode cX5_isHole 1 = .ok (.ifCond .lt 15, 3) := by decide +kernel
theorem dq_X5_isHole_17 : decode cX5_isHole 17 = .ok (.ireturn, 1) := by decide +kernel
theorem dq_X5_isHole_6 : decode cX5_isHole 6 = .ok (.getfield 34, 3) := by decide +kernel
theorem dq_X5_isHole_9 : decode cX5_isHole 9 = .ok (.if_icmp .ge 7, 3) := by decide +kernel
theorem dq_X5_isHole_13 : decode cX5_isHole 13 = .ok (.goto 4, 3) := by decide +kernel
abbrev bq_X5_isHole_0_1 : ZB := [(.iload_n 1, .null)]
theorem kq_X5_isHole_0_1 : zchk cX5_isHole bq_X5_isHole_0_1 0 = true ∧ zpc bq_X5_isHole_0_1 0 = 1 := ⟨by decide +kernel, rfl⟩
abbrev bq_X5_isHole_16_17 : ZB := [(.iconst 0, .int 0)]
theorem kq_X5_isHole_16_17 : zchk cX5_isHole bq_X5_isHole_16_17 16 = true ∧ zpc bq_X5_isHole_16_17 16 = 17 := ⟨by decide +kernel, rfl⟩
abbrev bq_X5_isHole_4_6 : ZB := [(.iload_n 1, .null), (.aload_n 0, .null)]
theorem kq_X5_isHole_4_6 : zchk cX5_isHole bq_X5_isHole_4_6 4 = true ∧ zpc bq_X5_isHole_4_6 4 = 6 := ⟨by decide +kernel, rfl⟩
abbrev bq_X5_isHole_12_13 : ZB := [(.iconst 1, .int 1)]
theorem kq_X5_isHole_12_13 : zchk cX5_isHole bq_X5_isHole_12_13 12 = true ∧ zpc bq_X5_isHole_12_13 12 = 13 := ⟨by decide +kernel, rfl⟩
set_option maxHeartbeats 4000000 in
set_option maxRecDepth 100000 in
theorem cq_X5_isHole (l : Launch) (G : KG) (ring : Nat) (hc : Int32) (g_rp : Value) (g_rx : Value) (g_ry : Value) (g_rr : Value) (g_rh : Value) (g_rd : Value) (g_ph : Value) (g_po : Value) (a : Int32) (hci : Int) (ai : Int) (hhc : hc.toInt = hci) (ha : a.toInt = ai) : Ct l G yX5_isHole cX5_isHole 2 (some .boolean) { frames := 0, cells := 0, slots := 0, locals := 0 } [.ref ring, .int a] [(ring, ob 5 [.int hc, g_rp, g_rx, g_ry, g_rr, g_rh, g_rd, g_ph, g_po])] (fun r w1 => r = some (.int (zb (decide (0 ≤ ai ∧ ai < hci)))) ∧ w1 = [(ring, ob 5 [.int hc, g_rp, g_rx, g_ry, g_rr, g_rh, g_rd, g_ph, g_po])]) := by
  refine ct_of [(0, .ref ring), (1, .int a)] (by decide) (Nat.le_of_ble_eq_true rfl) rfl ?_
  intro p0 e0 s0 m0 args0 below0 meth0 c0 A X
  refine z_run X bq_X5_isHole_0_1 kq_X5_isHole_0_1 (lv' := [(0, .ref ring), (1, .int a)]) (st' := [.int a]) rfl ?_
  refine zi_lt X dq_X5_isHole_1 (tgt := 16) (by decide) (a := ai) ha (fun c1_1 => ?_) (fun c1_1 => ?_)
  ·
    refine z_run X bq_X5_isHole_16_17 kq_X5_isHole_16_17 (lv' := [(0, .ref ring), (1, .int a)]) (st' := [.int 0]) rfl ?_
    exact z_zret X rfl rfl dq_X5_isHole_17 (Nat.le_of_ble_eq_true rfl) (Nat.le_of_ble_eq_true rfl) ⟨(congrArg (fun z => some (Value.int z)) (zb_f (by omega)).symm), rfl⟩
  ·
    refine z_run X bq_X5_isHole_4_6 kq_X5_isHole_4_6 (lv' := [(0, .ref ring), (1, .int a)]) (st' := [.ref ring, .int a]) rfl ?_
    refine z_get X fl_5_34 dq_X5_isHole_6 0 rfl (v := .int hc) rfl ?_
    refine zc_ge X dq_X5_isHole_9 (tgt := 16) (by decide) (a := ai) (b := hci) ha hhc (fun c9_2 => ?_) (fun c9_2 => ?_)
    ·
      refine z_run X bq_X5_isHole_16_17 kq_X5_isHole_16_17 (lv' := [(0, .ref ring), (1, .int a)]) (st' := [.int 0]) rfl ?_
      exact z_zret X rfl rfl dq_X5_isHole_17 (Nat.le_of_ble_eq_true rfl) (Nat.le_of_ble_eq_true rfl) ⟨(congrArg (fun z => some (Value.int z)) (zb_f (by omega)).symm), rfl⟩
    ·
      refine z_run X bq_X5_isHole_12_13 kq_X5_isHole_12_13 (lv' := [(0, .ref ring), (1, .int a)]) (st' := [.int 1]) rfl ?_
      refine z_goto X dq_X5_isHole_13 (tgt := 17) (by decide) ?_
      exact z_zret X rfl rfl dq_X5_isHole_17 (Nat.le_of_ble_eq_true rfl) (Nat.le_of_ble_eq_true rfl) ⟨(congrArg (fun z => some (Value.int z)) (zb_t (by omega)).symm), rfl⟩

theorem dq_X10_deep_1 : decode cX10_deep 1 = .ok (.getfield 26, 3) := by decide +kernel
theorem dq_X10_deep_5 : decode cX10_deep 5 = .ok (.invokevirtual 106, 3) := by decide +kernel
theorem dq_X10_deep_8 : decode cX10_deep 8 = .ok (.ifCond .eq 13, 3) := by decide +kernel
theorem dq_X10_deep_22 : decode cX10_deep 22 = .ok (.ireturn, 1) := by decide +kernel
theorem dq_X10_deep_12 : decode cX10_deep 12 = .ok (.ifCond .lt 9, 3) := by decide +kernel
theorem dq_X10_deep_18 : decode cX10_deep 18 = .ok (.if_icmp .le 5, 3) := by decide +kernel
theorem dq_X10_deep_24 : decode cX10_deep 24 = .ok (.getfield 26, 3) := by decide +kernel
theorem dq_X10_deep_27 : decode cX10_deep 27 = .ok (.getfield 131, 3) := by decide +kernel
theorem dq_X10_deep_31 : decode cX10_deep 31 = .ok (.iaload, 1) := by decide +kernel
theorem dq_X10_deep_34 : decode cX10_deep 34 = .ok (.getfield 26, 3) := by decide +kernel
theorem dq_X10_deep_37 : decode cX10_deep 37 = .ok (.getfield 131, 3) := by decide +kernel
theorem dq_X10_deep_42 : decode cX10_deep 42 = .ok (.iastore, 1) := by decide +kernel
theorem dq_X10_deep_44 : decode cX10_deep 44 = .ok (.ireturn, 1) := by decide +kernel
abbrev bq_X10_deep_0_1 : ZB := [(.aload_n 0, .null)]
theorem kq_X10_deep_0_1 : zchk cX10_deep bq_X10_deep_0_1 0 = true ∧ zpc bq_X10_deep_0_1 0 = 1 := ⟨by decide +kernel, rfl⟩
abbrev bq_X10_deep_4_5 : ZB := [(.iload_n 1, .null)]
theorem kq_X10_deep_4_5 : zchk cX10_deep bq_X10_deep_4_5 4 = true ∧ zpc bq_X10_deep_4_5 4 = 5 := ⟨by decide +kernel, rfl⟩
abbrev bq_X10_deep_21_22 : ZB := [(.iconst (-1), .int (-1))]
theorem kq_X10_deep_21_22 : zchk cX10_deep bq_X10_deep_21_22 21 = true ∧ zpc bq_X10_deep_21_22 21 = 22 := ⟨by decide +kernel, rfl⟩
abbrev bq_X10_deep_11_12 : ZB := [(.iload_n 2, .null)]
theorem kq_X10_deep_11_12 : zchk cX10_deep bq_X10_deep_11_12 11 = true ∧ zpc bq_X10_deep_11_12 11 = 12 := ⟨by decide +kernel, rfl⟩
abbrev bq_X10_deep_15_18 : ZB := [(.iload_n 2, .null), (.bipush 9, .int 9)]
theorem kq_X10_deep_15_18 : zchk cX10_deep bq_X10_deep_15_18 15 = true ∧ zpc bq_X10_deep_15_18 15 = 18 := ⟨by decide +kernel, rfl⟩
abbrev bq_X10_deep_23_24 : ZB := [(.aload_n 0, .null)]
theorem kq_X10_deep_23_24 : zchk cX10_deep bq_X10_deep_23_24 23 = true ∧ zpc bq_X10_deep_23_24 23 = 24 := ⟨by decide +kernel, rfl⟩
abbrev bq_X10_deep_30_31 : ZB := [(.iload_n 1, .null)]
theorem kq_X10_deep_30_31 : zchk cX10_deep bq_X10_deep_30_31 30 = true ∧ zpc bq_X10_deep_30_31 30 = 31 := ⟨by decide +kernel, rfl⟩
abbrev bq_X10_deep_32_34 : ZB := [(.istore_n 3, .null), (.aload_n 0, .null)]
theorem kq_X10_deep_32_34 : zchk cX10_deep bq_X10_deep_32_34 32 = true ∧ zpc bq_X10_deep_32_34 32 = 34 := ⟨by decide +kernel, rfl⟩
abbrev bq_X10_deep_40_42 : ZB := [(.iload_n 1, .null), (.iload_n 2, .null)]
theorem kq_X10_deep_40_42 : zchk cX10_deep bq_X10_deep_40_42 40 = true ∧ zpc bq_X10_deep_40_42 40 = 42 := ⟨by decide +kernel, rfl⟩
abbrev bq_X10_deep_43_44 : ZB := [(.iload_n 3, .null)]
theorem kq_X10_deep_43_44 : zchk cX10_deep bq_X10_deep_43_44 43 = true ∧ zpc bq_X10_deep_43_44 43 = 44 := ⟨by decide +kernel, rfl⟩
set_option maxHeartbeats 4000000 in
set_option maxRecDepth 100000 in
theorem cq_X10_deep (l : Launch) (G : KG) (x : Nat) (x_told : Value) (x_reader : Value) (ring : Nat) (x_speeds : Value) (x_wheel : Value) (x_trials : Value) (x_span : Value) (x_search : Value) (x_kept : Value) (x_crosses : Value) (x_trueMasses : Value) (x_thought : Value) (x_up : Value) (x_low : Value) (x_fits : Value) (x_pulls : Value) (ring : Nat) (hc : Int32) (g_rp : Value) (g_rx : Value) (g_ry : Value) (g_rr : Value) (g_rh : Value) (rd : Nat) (g_ph : Value) (g_po : Value) (fd : Nat → Int32) (a : Int32) (v : Int32) (hci : Int) (ai : Int) (vi : Int) (hhc : hc.toInt = hci) (ha : a.toInt = ai) (hv : v.toInt = vi) (hc0 : 0 ≤ hci ∧ hci ≤ 16) : Ct l G yX10_deep cX10_deep 4 (some .int) { frames := 1, cells := 0, slots := 0, locals := 21 } [.ref x, .int a, .int v] [(x, ob 10 [x_told, x_reader, .ref ring, x_speeds, x_wheel, x_trials, x_span, x_search, x_kept, x_crosses, x_trueMasses, x_thought, x_up, x_low, x_fits, x_pulls]), (ring, ob 5 [.int hc, g_rp, g_rx, g_ry, g_rr, g_rh, .ref rd, g_ph, g_po]), (rd, aI G 16 fd)] (fun r w1 => ∃ (rz : Int32), ∃ (fd2 : Nat → Int32), (rz = (mDeep hci fd a v).1) ∧ (fd2 = (mDeep hci fd a v).2) ∧ r = some (.int rz) ∧ w1 = [(x, ob 10 [x_told, x_reader, .ref ring, x_speeds, x_wheel, x_trials, x_span, x_search, x_kept, x_crosses, x_trueMasses, x_thought, x_up, x_low, x_fits, x_pulls]), (ring, ob 5 [.int hc, g_rp, g_rx, g_ry, g_rr, g_rh, .ref rd, g_ph, g_po]), (rd, aI G 16 fd2)]) := by
  refine ct_of [(0, .ref x), (1, .int a), (2, .int v)] (by decide) (Nat.le_of_ble_eq_true rfl) rfl ?_
  intro p0 e0 s0 m0 args0 below0 meth0 c0 A X
  refine z_run X bq_X10_deep_0_1 kq_X10_deep_0_1 (lv' := [(0, .ref x), (1, .int a), (2, .int v)]) (st' := [.ref x]) rfl ?_
  refine z_get X fl_10_26 dq_X10_deep_1 0 rfl (v := .ref ring) rfl ?_
  refine z_run X bq_X10_deep_4_5 kq_X10_deep_4_5 (lv' := [(0, .ref x), (1, .int a), (2, .int v)]) (st' := [.int a, .ref ring]) rfl ?_
  refine z_callV X k_10_106 (cq_X5_isHole l G ring hc g_rp g_rx g_ry g_rr g_rh (.ref rd) g_ph g_po a hci ai hhc ha) dq_X10_deep_5 1 rfl rfl rfl ⟨Nat.le_of_ble_eq_true rfl, Nat.le_of_ble_eq_true rfl⟩ ⟨Nat.le_of_ble_eq_true rfl, Nat.le_of_ble_eq_true rfl⟩ rfl (rest := []) (As := [.int a]) rfl (Nat.le_of_ble_eq_true rfl) [1] [0, 2] rfl (by decide) (wr := [(x, ob 10 [x_told, x_reader, .ref ring, x_speeds, x_wheel, x_trials, x_span, x_search, x_kept, x_crosses, x_trueMasses, x_thought, x_up, x_low, x_fits, x_pulls]), (rd, aI G 16 fd)]) rfl (by decide) (by decide) ?_
  rintro _ _ ⟨rfl, rfl⟩
  refine Z.at (pc' := 8) (st' := [.int (zb (decide (0 ≤ ai ∧ ai < hci)))]) (ws' := [(x, ob 10 [x_told, x_reader, .ref ring, x_speeds, x_wheel, x_trials, x_span, x_search, x_kept, x_crosses, x_trueMasses, x_thought, x_up, x_low, x_fits, x_pulls]), (rd, aI G 16 fd), (ring, ob 5 [.int hc, g_rp, g_rx, g_ry, g_rr, g_rh, .ref rd, g_ph, g_po])]) (kc' := 0) (ks' := 0) rfl rfl rfl rfl rfl ?_
  refine zi_eq_zb X dq_X10_deep_8 (tgt := 21) (by decide) (fun c8_1 => ?_) (fun c8_1 => ?_)
  ·
    refine z_run X bq_X10_deep_21_22 kq_X10_deep_21_22 (lv' := [(0, .ref x), (1, .int a), (2, .int v)]) (st' := [.int (-1)]) rfl ?_
    refine Z.sub (lv' := []) [] rfl [0, 2, 1] (ws' := [(x, ob 10 [x_told, x_reader, .ref ring, x_speeds, x_wheel, x_trials, x_span, x_search, x_kept, x_crosses, x_trueMasses, x_thought, x_up, x_low, x_fits, x_pulls]), (ring, ob 5 [.int hc, g_rp, g_rx, g_ry, g_rr, g_rh, .ref rd, g_ph, g_po]), (rd, aI G 16 fd)]) rfl (by decide) ?_
    exact z_iret X rfl dq_X10_deep_22 (Nat.le_of_ble_eq_true rfl) (Nat.le_of_ble_eq_true rfl) ⟨(-1), fd, (by unfold mDeep; first | rw [if_pos (by omega)] | rw [if_neg (by omega)]), (by unfold mDeep; first | rw [if_pos (by omega)] | rw [if_neg (by omega)]), rfl, rfl⟩
  ·
    refine z_run X bq_X10_deep_11_12 kq_X10_deep_11_12 (lv' := [(0, .ref x), (1, .int a), (2, .int v)]) (st' := [.int v]) rfl ?_
    refine zi_lt X dq_X10_deep_12 (tgt := 21) (by decide) (a := vi) hv (fun c12_2 => ?_) (fun c12_2 => ?_)
    ·
      refine z_run X bq_X10_deep_21_22 kq_X10_deep_21_22 (lv' := [(0, .ref x), (1, .int a), (2, .int v)]) (st' := [.int (-1)]) rfl ?_
      refine Z.sub (lv' := []) [] rfl [0, 2, 1] (ws' := [(x, ob 10 [x_told, x_reader, .ref ring, x_speeds, x_wheel, x_trials, x_span, x_search, x_kept, x_crosses, x_trueMasses, x_thought, x_up, x_low, x_fits, x_pulls]), (ring, ob 5 [.int hc, g_rp, g_rx, g_ry, g_rr, g_rh, .ref rd, g_ph, g_po]), (rd, aI G 16 fd)]) rfl (by decide) ?_
      exact z_iret X rfl dq_X10_deep_22 (Nat.le_of_ble_eq_true rfl) (Nat.le_of_ble_eq_true rfl) ⟨(-1), fd, (by unfold mDeep; first | rw [if_pos (by omega)] | rw [if_neg (by omega)]), (by unfold mDeep; first | rw [if_pos (by omega)] | rw [if_neg (by omega)]), rfl, rfl⟩
    ·
      refine z_run X bq_X10_deep_15_18 kq_X10_deep_15_18 (lv' := [(0, .ref x), (1, .int a), (2, .int v)]) (st' := [.int 9, .int v]) rfl ?_
      refine zc_le X dq_X10_deep_18 (tgt := 23) (by decide) (a := vi) (b := 9) hv (show (9 : Int32).toInt = 9 from by decide) (fun c18_3 => ?_) (fun c18_3 => ?_)
      ·
        refine z_run X bq_X10_deep_23_24 kq_X10_deep_23_24 (lv' := [(0, .ref x), (1, .int a), (2, .int v)]) (st' := [.ref x]) rfl ?_
        refine z_get X fl_10_26 dq_X10_deep_24 0 rfl (v := .ref ring) rfl ?_
        refine z_getN X fl_10_131 dq_X10_deep_27 2 rfl (v := .ref rd) rfl ?_
        refine z_run X bq_X10_deep_30_31 kq_X10_deep_30_31 (lv' := [(0, .ref x), (1, .int a), (2, .int v)]) (st' := [.int a, .ref rd]) rfl ?_
        refine z_iald X dq_X10_deep_31 1 rfl (vin ha (by omega) (by omega)) (v := (fd a.toNatClampNeg)) rfl ?_
        refine z_run X bq_X10_deep_32_34 kq_X10_deep_32_34 (lv' := [(3, .int (fd a.toNatClampNeg)), (0, .ref x), (1, .int a), (2, .int v)]) (st' := [.ref x]) rfl ?_
        refine z_get X fl_10_26 dq_X10_deep_34 0 rfl (v := .ref ring) rfl ?_
        refine z_getN X fl_10_131 dq_X10_deep_37 2 rfl (v := .ref rd) rfl ?_
        refine z_run X bq_X10_deep_40_42 kq_X10_deep_40_42 (lv' := [(3, .int (fd a.toNatClampNeg)), (0, .ref x), (1, .int a), (2, .int v)]) (st' := [.int v, .int a, .ref rd]) rfl ?_
        refine z_iast X dq_X10_deep_42 1 rfl (vin ha (by omega) (by omega)) (ws' := [(x, ob 10 [x_told, x_reader, .ref ring, x_speeds, x_wheel, x_trials, x_span, x_search, x_kept, x_crosses, x_trueMasses, x_thought, x_up, x_low, x_fits, x_pulls]), (rd, aI G 16 (upd fd a.toNatClampNeg v)), (ring, ob 5 [.int hc, g_rp, g_rx, g_ry, g_rr, g_rh, .ref rd, g_ph, g_po])]) rfl ?_
        refine z_run X bq_X10_deep_43_44 kq_X10_deep_43_44 (lv' := [(3, .int (fd a.toNatClampNeg)), (0, .ref x), (1, .int a), (2, .int v)]) (st' := [.int (fd a.toNatClampNeg)]) rfl ?_
        refine Z.sub (lv' := []) [] rfl [0, 2, 1] (ws' := [(x, ob 10 [x_told, x_reader, .ref ring, x_speeds, x_wheel, x_trials, x_span, x_search, x_kept, x_crosses, x_trueMasses, x_thought, x_up, x_low, x_fits, x_pulls]), (ring, ob 5 [.int hc, g_rp, g_rx, g_ry, g_rr, g_rh, .ref rd, g_ph, g_po]), (rd, aI G 16 (upd fd a.toNatClampNeg v))]) rfl (by decide) ?_
        exact z_iret X rfl dq_X10_deep_44 (Nat.le_of_ble_eq_true rfl) (Nat.le_of_ble_eq_true rfl) ⟨(fd a.toNatClampNeg), (upd fd a.toNatClampNeg v), (by unfold mDeep; first | rw [if_pos (by omega)] | rw [if_neg (by omega)]), (by unfold mDeep; first | rw [if_pos (by omega)] | rw [if_neg (by omega)]), rfl, rfl⟩
      ·
        refine z_run X bq_X10_deep_21_22 kq_X10_deep_21_22 (lv' := [(0, .ref x), (1, .int a), (2, .int v)]) (st' := [.int (-1)]) rfl ?_
        refine Z.sub (lv' := []) [] rfl [0, 2, 1] (ws' := [(x, ob 10 [x_told, x_reader, .ref ring, x_speeds, x_wheel, x_trials, x_span, x_search, x_kept, x_crosses, x_trueMasses, x_thought, x_up, x_low, x_fits, x_pulls]), (ring, ob 5 [.int hc, g_rp, g_rx, g_ry, g_rr, g_rh, .ref rd, g_ph, g_po]), (rd, aI G 16 fd)]) rfl (by decide) ?_
        exact z_iret X rfl dq_X10_deep_22 (Nat.le_of_ble_eq_true rfl) (Nat.le_of_ble_eq_true rfl) ⟨(-1), fd, (by unfold mDeep; first | rw [if_pos (by omega)] | rw [if_neg (by omega)]), (by unfold mDeep; first | rw [if_pos (by omega)] | rw [if_neg (by omega)]), rfl, rfl⟩

theorem dq_X11_isHole_4 : decode cX11_isHole 4 = .ok (.getfield 63, 3) := by decide +kernel
theorem dq_X11_isHole_10 : decode cX11_isHole 10 = .ok (.invokestatic 29, 3) := by decide +kernel
theorem dq_X11_isHole_13 : decode cX11_isHole 13 = .ok (.ireturn, 1) := by decide +kernel
abbrev bq_X11_isHole_0_4 : ZB := [(.iload_n 1, .null), (.i2l, .null), (.lconst 0, .long 0), (.aload_n 0, .null)]
theorem kq_X11_isHole_0_4 : zchk cX11_isHole bq_X11_isHole_0_4 0 = true ∧ zpc bq_X11_isHole_0_4 0 = 4 := ⟨by decide +kernel, rfl⟩
abbrev bq_X11_isHole_7_10 : ZB := [(.iconst 1, .int 1), (.isub, .null), (.i2l, .null)]
theorem kq_X11_isHole_7_10 : zchk cX11_isHole bq_X11_isHole_7_10 7 = true ∧ zpc bq_X11_isHole_7_10 7 = 10 := ⟨by decide +kernel, rfl⟩
set_option maxHeartbeats 4000000 in
set_option maxRecDepth 100000 in
theorem cq_X11_isHole (l : Launch) (G : KG) (mo : Nat) (th : Int32) (g_rows : Value) (g_row : Value) (hc : Int32) (r_planeOf : Nat) (r_holeX : Nat) (r_holeY : Nat) (r_room : Nat) (r_ounces : Nat) (r_deepOf : Nat) (sc : Int32) (r_factor : Nat) (r_otherOf : Nat) (r_isApart : Nat) (g_apartX : Value) (g_apartY : Value) (cc : Int32) (r_weight : Nat) (r_tape : Nat) (n : Int32) (p : Int32) (lim : Int32) (fi : Int32) (g_crossOf : Value) (g_trueX : Value) (g_trueY : Value) (g_thoughtX : Value) (g_thoughtY : Value) (g_poundHole : Value) (g_poundOunces : Value) (g_lead : Value) (g_trials : Value) (g_trialSpeed : Value) (g_isWhole : Value) (g_trialX : Value) (g_trialY : Value) (g_trialGive : Value) (g_trialLead : Value) (g_baseX : Value) (g_baseY : Value) (g_timesPull : Value) (g_trialBaseX : Value) (g_trialBaseY : Value) (g_trialTimes : Value) (g_pulls : Value) (g_pullMany : Value) (g_sizes : Value) (g_merged : Value) (g_nextHole : Value) (g_nextOunces : Value) (g_leftBehind : Value) (g_manUp : Value) (g_manLow : Value) (g_asked : Value) (g_lowOf : Value) (g_highOf : Value) (g_tried : Value) (g_found : Value) (g_askedMany : Value) (g_mostHoles : Value) (g_isFound : Value) (g_foundRest : Value) (g_foundOunces : Value) (g_question : Value) (g_questionSpeed : Value) (g_ounceRest : Value) (g_parts : Value) (g_filled : Value) (g_cogAt : Value) (g_cogBest : Value) (g_isOrdered : Value) (g_orderSize : Value) (g_isKept : Value) (g_kept : Value) (g_keptAt : Value) (a : Int32) (hci : Int) (ai : Int) (hhc : hc.toInt = hci) (ha : a.toInt = ai) (hc0 : 0 ≤ hci ∧ hci ≤ 16) : Ct l G yX11_isHole cX11_isHole 2 (some .boolean) { frames := 1, cells := 0, slots := 0, locals := 25 } [.ref mo, .int a] [(mo, ob 11 [.int th, g_rows, g_row, .int hc, .ref r_planeOf, .ref r_holeX, .ref r_holeY, .ref r_room, .ref r_ounces, .ref r_deepOf, .int sc, .ref r_factor, .ref r_otherOf, .ref r_isApart, g_apartX, g_apartY, .int cc, .ref r_weight, .ref r_tape, .int n, .int p, .int lim, .int fi, g_crossOf, g_trueX, g_trueY, g_thoughtX, g_thoughtY, g_poundHole, g_poundOunces, g_lead, g_trials, g_trialSpeed, g_isWhole, g_trialX, g_trialY, g_trialGive, g_trialLead, g_baseX, g_baseY, g_timesPull, g_trialBaseX, g_trialBaseY, g_trialTimes, g_pulls, g_pullMany, g_sizes, g_merged, g_nextHole, g_nextOunces, g_leftBehind, g_manUp, g_manLow, g_asked, g_lowOf, g_highOf, g_tried, g_found, g_askedMany, g_mostHoles, g_isFound, g_foundRest, g_foundOunces, g_question, g_questionSpeed, g_ounceRest, g_parts, g_filled, g_cogAt, g_cogBest, g_isOrdered, g_orderSize, g_isKept, g_kept, g_keptAt])] (fun r w1 => r = some (.int (zb (decide (0 ≤ ai ∧ ai < hci)))) ∧ w1 = [(mo, ob 11 [.int th, g_rows, g_row, .int hc, .ref r_planeOf, .ref r_holeX, .ref r_holeY, .ref r_room, .ref r_ounces, .ref r_deepOf, .int sc, .ref r_factor, .ref r_otherOf, .ref r_isApart, g_apartX, g_apartY, .int cc, .ref r_weight, .ref r_tape, .int n, .int p, .int lim, .int fi, g_crossOf, g_trueX, g_trueY, g_thoughtX, g_thoughtY, g_poundHole, g_poundOunces, g_lead, g_trials, g_trialSpeed, g_isWhole, g_trialX, g_trialY, g_trialGive, g_trialLead, g_baseX, g_baseY, g_timesPull, g_trialBaseX, g_trialBaseY, g_trialTimes, g_pulls, g_pullMany, g_sizes, g_merged, g_nextHole, g_nextOunces, g_leftBehind, g_manUp, g_manLow, g_asked, g_lowOf, g_highOf, g_tried, g_found, g_askedMany, g_mostHoles, g_isFound, g_foundRest, g_foundOunces, g_question, g_questionSpeed, g_ounceRest, g_parts, g_filled, g_cogAt, g_cogBest, g_isOrdered, g_orderSize, g_isKept, g_kept, g_keptAt])]) := by
  refine ct_of [(0, .ref mo), (1, .int a)] (by decide) (Nat.le_of_ble_eq_true rfl) rfl ?_
  intro p0 e0 s0 m0 args0 below0 meth0 c0 A X
  refine z_run X bq_X11_isHole_0_4 kq_X11_isHole_0_4 (lv' := [(0, .ref mo), (1, .int a)]) (st' := [.ref mo, .long 0, .long a.toInt64]) rfl ?_
  refine z_get X fl_11_63 dq_X11_isHole_4 0 rfl (v := .int hc) rfl ?_
  refine z_run X bq_X11_isHole_7_10 kq_X11_isHole_7_10 (lv' := [(0, .ref mo), (1, .int a)]) (st' := [.long (hc - 1).toInt64, .long 0, .long a.toInt64]) rfl ?_
  refine z_callS X k_11_29 (cm_X11_in l G a.toInt64 0 (hc - 1).toInt64 ai 0 ((hci - 1)) (tI64 ha) (show (0 : Int64).toInt = 0 from by decide) (tI64 (tI_sub hhc (show (1 : Int32).toInt = 1 from by decide) (by omega)))) dq_X11_isHole_10 ⟨Nat.le_of_ble_eq_true rfl, Nat.le_of_ble_eq_true rfl⟩ ⟨Nat.le_of_ble_eq_true rfl, Nat.le_of_ble_eq_true rfl⟩ rfl (rest := []) (As := [.long a.toInt64, .long 0, .long (hc - 1).toInt64]) rfl (Nat.le_of_ble_eq_true rfl) [] [0] rfl (by decide) (wr := [(mo, ob 11 [.int th, g_rows, g_row, .int hc, .ref r_planeOf, .ref r_holeX, .ref r_holeY, .ref r_room, .ref r_ounces, .ref r_deepOf, .int sc, .ref r_factor, .ref r_otherOf, .ref r_isApart, g_apartX, g_apartY, .int cc, .ref r_weight, .ref r_tape, .int n, .int p, .int lim, .int fi, g_crossOf, g_trueX, g_trueY, g_thoughtX, g_thoughtY, g_poundHole, g_poundOunces, g_lead, g_trials, g_trialSpeed, g_isWhole, g_trialX, g_trialY, g_trialGive, g_trialLead, g_baseX, g_baseY, g_timesPull, g_trialBaseX, g_trialBaseY, g_trialTimes, g_pulls, g_pullMany, g_sizes, g_merged, g_nextHole, g_nextOunces, g_leftBehind, g_manUp, g_manLow, g_asked, g_lowOf, g_highOf, g_tried, g_found, g_askedMany, g_mostHoles, g_isFound, g_foundRest, g_foundOunces, g_question, g_questionSpeed, g_ounceRest, g_parts, g_filled, g_cogAt, g_cogBest, g_isOrdered, g_orderSize, g_isKept, g_kept, g_keptAt])]) rfl (by decide) (by decide) ?_
  rintro _ _ ⟨rfl, rfl⟩
  refine Z.at (pc' := 13) (st' := [.int (zb (decide (0 ≤ ai ∧ ai ≤ ((hci - 1)))))]) (ws' := [(mo, ob 11 [.int th, g_rows, g_row, .int hc, .ref r_planeOf, .ref r_holeX, .ref r_holeY, .ref r_room, .ref r_ounces, .ref r_deepOf, .int sc, .ref r_factor, .ref r_otherOf, .ref r_isApart, g_apartX, g_apartY, .int cc, .ref r_weight, .ref r_tape, .int n, .int p, .int lim, .int fi, g_crossOf, g_trueX, g_trueY, g_thoughtX, g_thoughtY, g_poundHole, g_poundOunces, g_lead, g_trials, g_trialSpeed, g_isWhole, g_trialX, g_trialY, g_trialGive, g_trialLead, g_baseX, g_baseY, g_timesPull, g_trialBaseX, g_trialBaseY, g_trialTimes, g_pulls, g_pullMany, g_sizes, g_merged, g_nextHole, g_nextOunces, g_leftBehind, g_manUp, g_manLow, g_asked, g_lowOf, g_highOf, g_tried, g_found, g_askedMany, g_mostHoles, g_isFound, g_foundRest, g_foundOunces, g_question, g_questionSpeed, g_ounceRest, g_parts, g_filled, g_cogAt, g_cogBest, g_isOrdered, g_orderSize, g_isKept, g_kept, g_keptAt])]) (kc' := 0) (ks' := 0) rfl rfl rfl rfl rfl ?_
  exact z_zret X rfl (zb_n _) dq_X11_isHole_13 (Nat.le_of_ble_eq_true rfl) (Nat.le_of_ble_eq_true rfl) ⟨(congrArg (fun z => some (Value.int z)) (zb_i (by omega))), rfl⟩

theorem dq_X11_deep_2 : decode cX11_deep 2 = .ok (.putfield 3, 3) := by decide +kernel
theorem dq_X11_deep_7 : decode cX11_deep 7 = .ok (.invokevirtual 115, 3) := by decide +kernel
theorem dq_X11_deep_10 : decode cX11_deep 10 = .ok (.ifCond .eq 15, 3) := by decide +kernel
theorem dq_X11_deep_26 : decode cX11_deep 26 = .ok (.ireturn, 1) := by decide +kernel
theorem dq_X11_deep_16 : decode cX11_deep 16 = .ok (.ldc2_w 120, 3) := by decide +kernel
theorem dq_X11_deep_19 : decode cX11_deep 19 = .ok (.invokestatic 29, 3) := by decide +kernel
theorem dq_X11_deep_22 : decode cX11_deep 22 = .ok (.ifCond .ne 5, 3) := by decide +kernel
theorem dq_X11_deep_28 : decode cX11_deep 28 = .ok (.getfield 85, 3) := by decide +kernel
theorem dq_X11_deep_32 : decode cX11_deep 32 = .ok (.iaload, 1) := by decide +kernel
theorem dq_X11_deep_35 : decode cX11_deep 35 = .ok (.getfield 85, 3) := by decide +kernel
theorem dq_X11_deep_40 : decode cX11_deep 40 = .ok (.iastore, 1) := by decide +kernel
theorem dq_X11_deep_42 : decode cX11_deep 42 = .ok (.ireturn, 1) := by decide +kernel
abbrev bq_X11_deep_0_2 : ZB := [(.aload_n 0, .null), (.iconst 0, .int 0)]
theorem kq_X11_deep_0_2 : zchk cX11_deep bq_X11_deep_0_2 0 = true ∧ zpc bq_X11_deep_0_2 0 = 2 := ⟨by decide +kernel, rfl⟩
abbrev bq_X11_deep_5_7 : ZB := [(.aload_n 0, .null), (.iload_n 1, .null)]
theorem kq_X11_deep_5_7 : zchk cX11_deep bq_X11_deep_5_7 5 = true ∧ zpc bq_X11_deep_5_7 5 = 7 := ⟨by decide +kernel, rfl⟩
abbrev bq_X11_deep_25_26 : ZB := [(.iconst (-1), .int (-1))]
theorem kq_X11_deep_25_26 : zchk cX11_deep bq_X11_deep_25_26 25 = true ∧ zpc bq_X11_deep_25_26 25 = 26 := ⟨by decide +kernel, rfl⟩
abbrev bq_X11_deep_13_16 : ZB := [(.iload_n 2, .null), (.i2l, .null), (.lconst 0, .long 0)]
theorem kq_X11_deep_13_16 : zchk cX11_deep bq_X11_deep_13_16 13 = true ∧ zpc bq_X11_deep_13_16 13 = 16 := ⟨by decide +kernel, rfl⟩
abbrev bq_X11_deep_27_28 : ZB := [(.aload_n 0, .null)]
theorem kq_X11_deep_27_28 : zchk cX11_deep bq_X11_deep_27_28 27 = true ∧ zpc bq_X11_deep_27_28 27 = 28 := ⟨by decide +kernel, rfl⟩
abbrev bq_X11_deep_31_32 : ZB := [(.iload_n 1, .null)]
theorem kq_X11_deep_31_32 : zchk cX11_deep bq_X11_deep_31_32 31 = true ∧ zpc bq_X11_deep_31_32 31 = 32 := ⟨by decide +kernel, rfl⟩
abbrev bq_X11_deep_33_35 : ZB := [(.istore_n 3, .null), (.aload_n 0, .null)]
theorem kq_X11_deep_33_35 : zchk cX11_deep bq_X11_deep_33_35 33 = true ∧ zpc bq_X11_deep_33_35 33 = 35 := ⟨by decide +kernel, rfl⟩
abbrev bq_X11_deep_38_40 : ZB := [(.iload_n 1, .null), (.iload_n 2, .null)]
theorem kq_X11_deep_38_40 : zchk cX11_deep bq_X11_deep_38_40 38 = true ∧ zpc bq_X11_deep_38_40 38 = 40 := ⟨by decide +kernel, rfl⟩
abbrev bq_X11_deep_41_42 : ZB := [(.iload_n 3, .null)]
theorem kq_X11_deep_41_42 : zchk cX11_deep bq_X11_deep_41_42 41 = true ∧ zpc bq_X11_deep_41_42 41 = 42 := ⟨by decide +kernel, rfl⟩
set_option maxHeartbeats 4000000 in
set_option maxRecDepth 100000 in
theorem cq_X11_deep (l : Launch) (G : KG) (mo : Nat) (th : Int32) (g_rows : Value) (g_row : Value) (hc : Int32) (r_planeOf : Nat) (r_holeX : Nat) (r_holeY : Nat) (r_room : Nat) (r_ounces : Nat) (r_deepOf : Nat) (sc : Int32) (r_factor : Nat) (r_otherOf : Nat) (r_isApart : Nat) (g_apartX : Value) (g_apartY : Value) (cc : Int32) (r_weight : Nat) (r_tape : Nat) (n : Int32) (p : Int32) (lim : Int32) (fi : Int32) (g_crossOf : Value) (g_trueX : Value) (g_trueY : Value) (g_thoughtX : Value) (g_thoughtY : Value) (g_poundHole : Value) (g_poundOunces : Value) (g_lead : Value) (g_trials : Value) (g_trialSpeed : Value) (g_isWhole : Value) (g_trialX : Value) (g_trialY : Value) (g_trialGive : Value) (g_trialLead : Value) (g_baseX : Value) (g_baseY : Value) (g_timesPull : Value) (g_trialBaseX : Value) (g_trialBaseY : Value) (g_trialTimes : Value) (g_pulls : Value) (g_pullMany : Value) (g_sizes : Value) (g_merged : Value) (g_nextHole : Value) (g_nextOunces : Value) (g_leftBehind : Value) (g_manUp : Value) (g_manLow : Value) (g_asked : Value) (g_lowOf : Value) (g_highOf : Value) (g_tried : Value) (g_found : Value) (g_askedMany : Value) (g_mostHoles : Value) (g_isFound : Value) (g_foundRest : Value) (g_foundOunces : Value) (g_question : Value) (g_questionSpeed : Value) (g_ounceRest : Value) (g_parts : Value) (g_filled : Value) (g_cogAt : Value) (g_cogBest : Value) (g_isOrdered : Value) (g_orderSize : Value) (g_isKept : Value) (g_kept : Value) (g_keptAt : Value) (fd : Nat → Int32) (a : Int32) (v : Int32) (hci : Int) (ai : Int) (vi : Int) (hhc : hc.toInt = hci) (ha : a.toInt = ai) (hv : v.toInt = vi) (hc0 : 0 ≤ hci ∧ hci ≤ 16) : Ct l G yX11_deep cX11_deep 4 (some .int) { frames := 2, cells := 0, slots := 0, locals := 46 } [.ref mo, .int a, .int v] [(mo, ob 11 [.int th, g_rows, g_row, .int hc, .ref r_planeOf, .ref r_holeX, .ref r_holeY, .ref r_room, .ref r_ounces, .ref r_deepOf, .int sc, .ref r_factor, .ref r_otherOf, .ref r_isApart, g_apartX, g_apartY, .int cc, .ref r_weight, .ref r_tape, .int n, .int p, .int lim, .int fi, g_crossOf, g_trueX, g_trueY, g_thoughtX, g_thoughtY, g_poundHole, g_poundOunces, g_lead, g_trials, g_trialSpeed, g_isWhole, g_trialX, g_trialY, g_trialGive, g_trialLead, g_baseX, g_baseY, g_timesPull, g_trialBaseX, g_trialBaseY, g_trialTimes, g_pulls, g_pullMany, g_sizes, g_merged, g_nextHole, g_nextOunces, g_leftBehind, g_manUp, g_manLow, g_asked, g_lowOf, g_highOf, g_tried, g_found, g_askedMany, g_mostHoles, g_isFound, g_foundRest, g_foundOunces, g_question, g_questionSpeed, g_ounceRest, g_parts, g_filled, g_cogAt, g_cogBest, g_isOrdered, g_orderSize, g_isKept, g_kept, g_keptAt]), (r_deepOf, aI G 16 fd)] (fun r w1 => ∃ (rz : Int32), ∃ (fd2 : Nat → Int32), (rz = (mDeep hci fd a v).1) ∧ (fd2 = (mDeep hci fd a v).2) ∧ r = some (.int rz) ∧ w1 = [(mo, ob 11 [.int (0 : Int32), g_rows, g_row, .int hc, .ref r_planeOf, .ref r_holeX, .ref r_holeY, .ref r_room, .ref r_ounces, .ref r_deepOf, .int sc, .ref r_factor, .ref r_otherOf, .ref r_isApart, g_apartX, g_apartY, .int cc, .ref r_weight, .ref r_tape, .int n, .int p, .int lim, .int fi, g_crossOf, g_trueX, g_trueY, g_thoughtX, g_thoughtY, g_poundHole, g_poundOunces, g_lead, g_trials, g_trialSpeed, g_isWhole, g_trialX, g_trialY, g_trialGive, g_trialLead, g_baseX, g_baseY, g_timesPull, g_trialBaseX, g_trialBaseY, g_trialTimes, g_pulls, g_pullMany, g_sizes, g_merged, g_nextHole, g_nextOunces, g_leftBehind, g_manUp, g_manLow, g_asked, g_lowOf, g_highOf, g_tried, g_found, g_askedMany, g_mostHoles, g_isFound, g_foundRest, g_foundOunces, g_question, g_questionSpeed, g_ounceRest, g_parts, g_filled, g_cogAt, g_cogBest, g_isOrdered, g_orderSize, g_isKept, g_kept, g_keptAt]), (r_deepOf, aI G 16 fd2)]) := by
  refine ct_of [(0, .ref mo), (1, .int a), (2, .int v)] (by decide) (Nat.le_of_ble_eq_true rfl) rfl ?_
  intro p0 e0 s0 m0 args0 below0 meth0 c0 A X
  refine z_run X bq_X11_deep_0_2 kq_X11_deep_0_2 (lv' := [(0, .ref mo), (1, .int a), (2, .int v)]) (st' := [.int 0, .ref mo]) rfl ?_
  refine z_put X fl_11_3 dq_X11_deep_2 0 rfl (ty := .int) (T := TX11) (N := 75) rfl (Or.inl rfl) (by decide +kernel) rfl (by rfl) (Nat.le_of_ble_eq_true rfl) (ws' := [(mo, ob 11 [.int 0, g_rows, g_row, .int hc, .ref r_planeOf, .ref r_holeX, .ref r_holeY, .ref r_room, .ref r_ounces, .ref r_deepOf, .int sc, .ref r_factor, .ref r_otherOf, .ref r_isApart, g_apartX, g_apartY, .int cc, .ref r_weight, .ref r_tape, .int n, .int p, .int lim, .int fi, g_crossOf, g_trueX, g_trueY, g_thoughtX, g_thoughtY, g_poundHole, g_poundOunces, g_lead, g_trials, g_trialSpeed, g_isWhole, g_trialX, g_trialY, g_trialGive, g_trialLead, g_baseX, g_baseY, g_timesPull, g_trialBaseX, g_trialBaseY, g_trialTimes, g_pulls, g_pullMany, g_sizes, g_merged, g_nextHole, g_nextOunces, g_leftBehind, g_manUp, g_manLow, g_asked, g_lowOf, g_highOf, g_tried, g_found, g_askedMany, g_mostHoles, g_isFound, g_foundRest, g_foundOunces, g_question, g_questionSpeed, g_ounceRest, g_parts, g_filled, g_cogAt, g_cogBest, g_isOrdered, g_orderSize, g_isKept, g_kept, g_keptAt]), (r_deepOf, aI G 16 fd)]) rfl ?_
  refine z_run X bq_X11_deep_5_7 kq_X11_deep_5_7 (lv' := [(0, .ref mo), (1, .int a), (2, .int v)]) (st' := [.int a, .ref mo]) rfl ?_
  refine z_callV X k_11_115 (cq_X11_isHole l G mo 0 g_rows g_row hc r_planeOf r_holeX r_holeY r_room r_ounces r_deepOf sc r_factor r_otherOf r_isApart g_apartX g_apartY cc r_weight r_tape n p lim fi g_crossOf g_trueX g_trueY g_thoughtX g_thoughtY g_poundHole g_poundOunces g_lead g_trials g_trialSpeed g_isWhole g_trialX g_trialY g_trialGive g_trialLead g_baseX g_baseY g_timesPull g_trialBaseX g_trialBaseY g_trialTimes g_pulls g_pullMany g_sizes g_merged g_nextHole g_nextOunces g_leftBehind g_manUp g_manLow g_asked g_lowOf g_highOf g_tried g_found g_askedMany g_mostHoles g_isFound g_foundRest g_foundOunces g_question g_questionSpeed g_ounceRest g_parts g_filled g_cogAt g_cogBest g_isOrdered g_orderSize g_isKept g_kept g_keptAt a hci ai hhc ha (by omega)) dq_X11_deep_7 0 rfl rfl rfl ⟨Nat.le_of_ble_eq_true rfl, Nat.le_of_ble_eq_true rfl⟩ ⟨Nat.le_of_ble_eq_true rfl, Nat.le_of_ble_eq_true rfl⟩ rfl (rest := []) (As := [.int a]) rfl (Nat.le_of_ble_eq_true rfl) [0] [1] rfl (by decide) (wr := [(r_deepOf, aI G 16 fd)]) rfl (by decide) (by decide) ?_
  rintro _ _ ⟨rfl, rfl⟩
  refine Z.at (pc' := 10) (st' := [.int (zb (decide (0 ≤ ai ∧ ai < hci)))]) (ws' := [(r_deepOf, aI G 16 fd), (mo, ob 11 [.int 0, g_rows, g_row, .int hc, .ref r_planeOf, .ref r_holeX, .ref r_holeY, .ref r_room, .ref r_ounces, .ref r_deepOf, .int sc, .ref r_factor, .ref r_otherOf, .ref r_isApart, g_apartX, g_apartY, .int cc, .ref r_weight, .ref r_tape, .int n, .int p, .int lim, .int fi, g_crossOf, g_trueX, g_trueY, g_thoughtX, g_thoughtY, g_poundHole, g_poundOunces, g_lead, g_trials, g_trialSpeed, g_isWhole, g_trialX, g_trialY, g_trialGive, g_trialLead, g_baseX, g_baseY, g_timesPull, g_trialBaseX, g_trialBaseY, g_trialTimes, g_pulls, g_pullMany, g_sizes, g_merged, g_nextHole, g_nextOunces, g_leftBehind, g_manUp, g_manLow, g_asked, g_lowOf, g_highOf, g_tried, g_found, g_askedMany, g_mostHoles, g_isFound, g_foundRest, g_foundOunces, g_question, g_questionSpeed, g_ounceRest, g_parts, g_filled, g_cogAt, g_cogBest, g_isOrdered, g_orderSize, g_isKept, g_kept, g_keptAt])]) (kc' := 0) (ks' := 0) rfl rfl rfl rfl rfl ?_
  refine zi_eq_zb X dq_X11_deep_10 (tgt := 25) (by decide) (fun c10_1 => ?_) (fun c10_1 => ?_)
  ·
    refine z_run X bq_X11_deep_25_26 kq_X11_deep_25_26 (lv' := [(0, .ref mo), (1, .int a), (2, .int v)]) (st' := [.int (-1)]) rfl ?_
    refine Z.sub (lv' := []) [] rfl [1, 0] (ws' := [(mo, ob 11 [.int 0, g_rows, g_row, .int hc, .ref r_planeOf, .ref r_holeX, .ref r_holeY, .ref r_room, .ref r_ounces, .ref r_deepOf, .int sc, .ref r_factor, .ref r_otherOf, .ref r_isApart, g_apartX, g_apartY, .int cc, .ref r_weight, .ref r_tape, .int n, .int p, .int lim, .int fi, g_crossOf, g_trueX, g_trueY, g_thoughtX, g_thoughtY, g_poundHole, g_poundOunces, g_lead, g_trials, g_trialSpeed, g_isWhole, g_trialX, g_trialY, g_trialGive, g_trialLead, g_baseX, g_baseY, g_timesPull, g_trialBaseX, g_trialBaseY, g_trialTimes, g_pulls, g_pullMany, g_sizes, g_merged, g_nextHole, g_nextOunces, g_leftBehind, g_manUp, g_manLow, g_asked, g_lowOf, g_highOf, g_tried, g_found, g_askedMany, g_mostHoles, g_isFound, g_foundRest, g_foundOunces, g_question, g_questionSpeed, g_ounceRest, g_parts, g_filled, g_cogAt, g_cogBest, g_isOrdered, g_orderSize, g_isKept, g_kept, g_keptAt]), (r_deepOf, aI G 16 fd)]) rfl (by decide) ?_
    exact z_iret X rfl dq_X11_deep_26 (Nat.le_of_ble_eq_true rfl) (Nat.le_of_ble_eq_true rfl) ⟨(-1), fd, (by unfold mDeep; first | rw [if_pos (by omega)] | rw [if_neg (by omega)]), (by unfold mDeep; first | rw [if_pos (by omega)] | rw [if_neg (by omega)]), rfl, rfl⟩
  ·
    refine z_run X bq_X11_deep_13_16 kq_X11_deep_13_16 (lv' := [(0, .ref mo), (1, .int a), (2, .int v)]) (st' := [.long 0, .long v.toInt64]) rfl ?_
    refine z_ldc2 X dq_X11_deep_16 cn_11_120 ?_
    refine z_callS X k_11_29 (cm_X11_in l G v.toInt64 0 9 vi 0 9 (tI64 hv) (show (0 : Int64).toInt = 0 from by decide) (show (9 : Int64).toInt = 9 from by decide)) dq_X11_deep_19 ⟨Nat.le_of_ble_eq_true rfl, Nat.le_of_ble_eq_true rfl⟩ ⟨Nat.le_of_ble_eq_true rfl, Nat.le_of_ble_eq_true rfl⟩ rfl (rest := []) (As := [.long v.toInt64, .long 0, .long 9]) rfl (Nat.le_of_ble_eq_true rfl) [] [0, 1] rfl (by decide) (wr := [(r_deepOf, aI G 16 fd), (mo, ob 11 [.int 0, g_rows, g_row, .int hc, .ref r_planeOf, .ref r_holeX, .ref r_holeY, .ref r_room, .ref r_ounces, .ref r_deepOf, .int sc, .ref r_factor, .ref r_otherOf, .ref r_isApart, g_apartX, g_apartY, .int cc, .ref r_weight, .ref r_tape, .int n, .int p, .int lim, .int fi, g_crossOf, g_trueX, g_trueY, g_thoughtX, g_thoughtY, g_poundHole, g_poundOunces, g_lead, g_trials, g_trialSpeed, g_isWhole, g_trialX, g_trialY, g_trialGive, g_trialLead, g_baseX, g_baseY, g_timesPull, g_trialBaseX, g_trialBaseY, g_trialTimes, g_pulls, g_pullMany, g_sizes, g_merged, g_nextHole, g_nextOunces, g_leftBehind, g_manUp, g_manLow, g_asked, g_lowOf, g_highOf, g_tried, g_found, g_askedMany, g_mostHoles, g_isFound, g_foundRest, g_foundOunces, g_question, g_questionSpeed, g_ounceRest, g_parts, g_filled, g_cogAt, g_cogBest, g_isOrdered, g_orderSize, g_isKept, g_kept, g_keptAt])]) rfl (by decide) (by decide) ?_
    rintro _ _ ⟨rfl, rfl⟩
    refine Z.at (pc' := 22) (st' := [.int (zb (decide (0 ≤ vi ∧ vi ≤ 9)))]) (ws' := [(r_deepOf, aI G 16 fd), (mo, ob 11 [.int 0, g_rows, g_row, .int hc, .ref r_planeOf, .ref r_holeX, .ref r_holeY, .ref r_room, .ref r_ounces, .ref r_deepOf, .int sc, .ref r_factor, .ref r_otherOf, .ref r_isApart, g_apartX, g_apartY, .int cc, .ref r_weight, .ref r_tape, .int n, .int p, .int lim, .int fi, g_crossOf, g_trueX, g_trueY, g_thoughtX, g_thoughtY, g_poundHole, g_poundOunces, g_lead, g_trials, g_trialSpeed, g_isWhole, g_trialX, g_trialY, g_trialGive, g_trialLead, g_baseX, g_baseY, g_timesPull, g_trialBaseX, g_trialBaseY, g_trialTimes, g_pulls, g_pullMany, g_sizes, g_merged, g_nextHole, g_nextOunces, g_leftBehind, g_manUp, g_manLow, g_asked, g_lowOf, g_highOf, g_tried, g_found, g_askedMany, g_mostHoles, g_isFound, g_foundRest, g_foundOunces, g_question, g_questionSpeed, g_ounceRest, g_parts, g_filled, g_cogAt, g_cogBest, g_isOrdered, g_orderSize, g_isKept, g_kept, g_keptAt])]) (kc' := 0) (ks' := 0) rfl rfl rfl rfl rfl ?_
    refine zi_ne_zb X dq_X11_deep_22 (tgt := 27) (by decide) (fun c22_2 => ?_) (fun c22_2 => ?_)
    ·
      refine z_run X bq_X11_deep_27_28 kq_X11_deep_27_28 (lv' := [(0, .ref mo), (1, .int a), (2, .int v)]) (st' := [.ref mo]) rfl ?_
      refine z_get X fl_11_85 dq_X11_deep_28 1 rfl (v := .ref r_deepOf) rfl ?_
      refine z_run X bq_X11_deep_31_32 kq_X11_deep_31_32 (lv' := [(0, .ref mo), (1, .int a), (2, .int v)]) (st' := [.int a, .ref r_deepOf]) rfl ?_
      refine z_iald X dq_X11_deep_32 0 rfl (vin ha (by omega) (by omega)) (v := (fd a.toNatClampNeg)) rfl ?_
      refine z_run X bq_X11_deep_33_35 kq_X11_deep_33_35 (lv' := [(3, .int (fd a.toNatClampNeg)), (0, .ref mo), (1, .int a), (2, .int v)]) (st' := [.ref mo]) rfl ?_
      refine z_get X fl_11_85 dq_X11_deep_35 1 rfl (v := .ref r_deepOf) rfl ?_
      refine z_run X bq_X11_deep_38_40 kq_X11_deep_38_40 (lv' := [(3, .int (fd a.toNatClampNeg)), (0, .ref mo), (1, .int a), (2, .int v)]) (st' := [.int v, .int a, .ref r_deepOf]) rfl ?_
      refine z_iast X dq_X11_deep_40 0 rfl (vin ha (by omega) (by omega)) (ws' := [(r_deepOf, aI G 16 (upd fd a.toNatClampNeg v)), (mo, ob 11 [.int 0, g_rows, g_row, .int hc, .ref r_planeOf, .ref r_holeX, .ref r_holeY, .ref r_room, .ref r_ounces, .ref r_deepOf, .int sc, .ref r_factor, .ref r_otherOf, .ref r_isApart, g_apartX, g_apartY, .int cc, .ref r_weight, .ref r_tape, .int n, .int p, .int lim, .int fi, g_crossOf, g_trueX, g_trueY, g_thoughtX, g_thoughtY, g_poundHole, g_poundOunces, g_lead, g_trials, g_trialSpeed, g_isWhole, g_trialX, g_trialY, g_trialGive, g_trialLead, g_baseX, g_baseY, g_timesPull, g_trialBaseX, g_trialBaseY, g_trialTimes, g_pulls, g_pullMany, g_sizes, g_merged, g_nextHole, g_nextOunces, g_leftBehind, g_manUp, g_manLow, g_asked, g_lowOf, g_highOf, g_tried, g_found, g_askedMany, g_mostHoles, g_isFound, g_foundRest, g_foundOunces, g_question, g_questionSpeed, g_ounceRest, g_parts, g_filled, g_cogAt, g_cogBest, g_isOrdered, g_orderSize, g_isKept, g_kept, g_keptAt])]) rfl ?_
      refine z_run X bq_X11_deep_41_42 kq_X11_deep_41_42 (lv' := [(3, .int (fd a.toNatClampNeg)), (0, .ref mo), (1, .int a), (2, .int v)]) (st' := [.int (fd a.toNatClampNeg)]) rfl ?_
      refine Z.sub (lv' := []) [] rfl [1, 0] (ws' := [(mo, ob 11 [.int 0, g_rows, g_row, .int hc, .ref r_planeOf, .ref r_holeX, .ref r_holeY, .ref r_room, .ref r_ounces, .ref r_deepOf, .int sc, .ref r_factor, .ref r_otherOf, .ref r_isApart, g_apartX, g_apartY, .int cc, .ref r_weight, .ref r_tape, .int n, .int p, .int lim, .int fi, g_crossOf, g_trueX, g_trueY, g_thoughtX, g_thoughtY, g_poundHole, g_poundOunces, g_lead, g_trials, g_trialSpeed, g_isWhole, g_trialX, g_trialY, g_trialGive, g_trialLead, g_baseX, g_baseY, g_timesPull, g_trialBaseX, g_trialBaseY, g_trialTimes, g_pulls, g_pullMany, g_sizes, g_merged, g_nextHole, g_nextOunces, g_leftBehind, g_manUp, g_manLow, g_asked, g_lowOf, g_highOf, g_tried, g_found, g_askedMany, g_mostHoles, g_isFound, g_foundRest, g_foundOunces, g_question, g_questionSpeed, g_ounceRest, g_parts, g_filled, g_cogAt, g_cogBest, g_isOrdered, g_orderSize, g_isKept, g_kept, g_keptAt]), (r_deepOf, aI G 16 (upd fd a.toNatClampNeg v))]) rfl (by decide) ?_
      exact z_iret X rfl dq_X11_deep_42 (Nat.le_of_ble_eq_true rfl) (Nat.le_of_ble_eq_true rfl) ⟨(fd a.toNatClampNeg), (upd fd a.toNatClampNeg v), (by unfold mDeep; first | rw [if_pos (by omega)] | rw [if_neg (by omega)]), (by unfold mDeep; first | rw [if_pos (by omega)] | rw [if_neg (by omega)]), rfl, rfl⟩
    ·
      refine z_run X bq_X11_deep_25_26 kq_X11_deep_25_26 (lv' := [(0, .ref mo), (1, .int a), (2, .int v)]) (st' := [.int (-1)]) rfl ?_
      refine Z.sub (lv' := []) [] rfl [1, 0] (ws' := [(mo, ob 11 [.int 0, g_rows, g_row, .int hc, .ref r_planeOf, .ref r_holeX, .ref r_holeY, .ref r_room, .ref r_ounces, .ref r_deepOf, .int sc, .ref r_factor, .ref r_otherOf, .ref r_isApart, g_apartX, g_apartY, .int cc, .ref r_weight, .ref r_tape, .int n, .int p, .int lim, .int fi, g_crossOf, g_trueX, g_trueY, g_thoughtX, g_thoughtY, g_poundHole, g_poundOunces, g_lead, g_trials, g_trialSpeed, g_isWhole, g_trialX, g_trialY, g_trialGive, g_trialLead, g_baseX, g_baseY, g_timesPull, g_trialBaseX, g_trialBaseY, g_trialTimes, g_pulls, g_pullMany, g_sizes, g_merged, g_nextHole, g_nextOunces, g_leftBehind, g_manUp, g_manLow, g_asked, g_lowOf, g_highOf, g_tried, g_found, g_askedMany, g_mostHoles, g_isFound, g_foundRest, g_foundOunces, g_question, g_questionSpeed, g_ounceRest, g_parts, g_filled, g_cogAt, g_cogBest, g_isOrdered, g_orderSize, g_isKept, g_kept, g_keptAt]), (r_deepOf, aI G 16 fd)]) rfl (by decide) ?_
      exact z_iret X rfl dq_X11_deep_26 (Nat.le_of_ble_eq_true rfl) (Nat.le_of_ble_eq_true rfl) ⟨(-1), fd, (by unfold mDeep; first | rw [if_pos (by omega)] | rw [if_neg (by omega)]), (by unfold mDeep; first | rw [if_pos (by omega)] | rw [if_neg (by omega)]), rfl, rfl⟩

set_option maxHeartbeats 4000000 in
set_option maxRecDepth 100000 in
theorem ac_dpx (l : Launch) (G : KG) {ad : Nat → Nat} {w0 : va_W} {h a v : Int32} {d : Nat → Int32} (hW : WT G ad TX w0) (eh : fget w0 5 0 = some (.int h)) (ed : cget w0 11 0 = some (.inr (cyI G, 16, .inl d))) : Ct l G yX10_deep cX10_deep 4 (some .int) { frames := 1, cells := 0, slots := 0, locals := 21 } [.ref (ad 0), .int a, .int v] w0 (fun r w1 => WT G ad TX w1 ∧ FRM C_X10_deep_0.2.2.2.2.1 w0 w1 ∧ (r = some (.int (mDeep h.toInt d a v).1) ∧ CQ G w1 11 16 (mDeep h.toInt d a v).2)) := by
  obtain ⟨g0, q0, t0⟩ := WT.tab hW (k := 0) rfl
  have r0_2 : g0 2 = .ref (ad 5) := vty2 (t0 2 _ rfl).1 rfl
  have c0 : w0[0]? = some ((ad 0), ob 10 [(g0 0), (g0 1), .ref (ad 5), (g0 3), (g0 4), (g0 5), (g0 6), (g0 7), (g0 8), (g0 9), (g0 10), (g0 11), (g0 12), (g0 13), (g0 14), (g0 15)]) := by
    rw [q0]
    show some (ad 0, ob 10 [g0 0, g0 1, g0 2, g0 3, g0 4, g0 5, g0 6, g0 7, g0 8, g0 9, g0 10, g0 11, g0 12, g0 13, g0 14, g0 15]) = _
    rw [r0_2]
  obtain ⟨g5, q5, t5⟩ := WT.tab hW (k := 5) rfl
  have r5_0 : g5 0 = .int h := Option.some.inj ((t5 0 _ rfl).2.symm.trans eh)
  have b5_0 : 0 ≤ h.toInt ∧ h.toInt ≤ 16 := by
    have h := (t5 0 _ rfl).1
    rw [r5_0] at h
    obtain ⟨y, e, l1, u1⟩ := vty0 h rfl
    obtain rfl := Value.int.inj e
    exact ⟨l1, u1⟩
  have r5_6 : g5 6 = .ref (ad 11) := vty2 (t5 6 _ rfl).1 rfl
  have c5 : w0[5]? = some ((ad 5), ob 5 [.int h, (g5 1), (g5 2), (g5 3), (g5 4), (g5 5), .ref (ad 11), (g5 7), (g5 8)]) := by
    rw [q5]
    show some (ad 5, ob 5 [g5 0, g5 1, g5 2, g5 3, g5 4, g5 5, g5 6, g5 7, g5 8]) = _
    rw [r5_0, r5_6]
  obtain ⟨f11, c11, -⟩ := WT.ints hW (k := 11) rfl
  have ef11 : f11 = d := arrinj ((cgetI c11 0).symm.trans ed)
  rw [ef11] at c11
  have h2 := cq_X10_deep l G (ad 0) (g0 0) (g0 1) (ad 5) (g0 3) (g0 4) (g0 5) (g0 6) (g0 7) (g0 8) (g0 9) (g0 10) (g0 11) (g0 12) (g0 13) (g0 14) (g0 15) (ad 5) h (g5 1) (g5 2) (g5 3) (g5 4) (g5 5) (ad 11) (g5 7) (g5 8) d a v h.toInt a.toInt v.toInt rfl rfl rfl (by omega)
  refine Ct.weak (Ct.and (show Ct l G yX10_deep cX10_deep 4 (some .int) { frames := 1, cells := 0, slots := 0, locals := 21 } [.ref (ad 0), .int a, .int v] w0 (fun r w1 => POST G ad TX C_X10_deep_0 (fun k => ((Value.ref (ad 0) :: [.int a, .int v])[k]?).getD .null) w0 r w1) from ac_X10_deep_0 l G ad w0 _ hW (pre_mu (C := C_X10_deep_0) (ts := [tI0, tI0]) (As := [.int a, .int v]) rfl rfl rfl rfl ⟨fun _ => vty_i0 _, fun _ => vty_i0 _, trivial⟩ ad w0 rfl)) h2 [0, 5, 11] (pk_cons c0 (pk_cons c5 (pk_cons c11 rfl))) (by decide)) ?_
  rintro r w1 ⟨hp, w2, ⟨rz, fd2, hr, hd, rfl, rfl⟩, hS⟩
  obtain ⟨A1, hA1, μ2, -, -, -, -, -, -, hW1, hF1⟩ := hp
  obtain ⟨fs0, -, u0, ul0, -, -⟩ := WT.obj hW1 (k := 0) (j := 0) rfl rfl
  obtain ⟨fs5, -, u5, ul5, -, -⟩ := WT.obj hW1 (k := 5) (j := 0) rfl rfl
  obtain ⟨p11, u11, -⟩ := WT.ints hW1 (k := 11) rfl
  exact ⟨hW1, hF1, by rw [hr], p11, cgetI u11 0, fun k hk => by rw [← hd]; exact (same_I hS (k := 11) (j := 2) u11 rfl) k hk⟩
set_option maxHeartbeats 4000000 in
set_option maxRecDepth 100000 in
theorem ac_dpm (l : Launch) (G : KG) {ad : Nat → Nat} {w0 : va_W} {h a v : Int32} {d : Nat → Int32} (hW : WT G ad TM w0) (eh : fget w0 0 3 = some (.int h)) (ed : cget w0 7 0 = some (.inr (cyI G, 16, .inl d))) : Ct l G yX11_deep cX11_deep 4 (some .int) { frames := 2, cells := 0, slots := 0, locals := 46 } [.ref (ad 0), .int a, .int v] w0 (fun r w1 => WT G ad TM w1 ∧ FRM C_X11_deep_0.2.2.2.2.1 w0 w1 ∧ (r = some (.int (mDeep h.toInt d a v).1) ∧ CQ G w1 7 16 (mDeep h.toInt d a v).2)) := by
  obtain ⟨g0, q0, t0⟩ := WT.tab hW (k := 0) rfl
  obtain ⟨y0_0, r0_0, -, -⟩ := vty0 (t0 0 _ rfl).1 rfl
  have r0_3 : g0 3 = .int h := Option.some.inj ((t0 3 _ rfl).2.symm.trans eh)
  have b0_3 : 0 ≤ h.toInt ∧ h.toInt ≤ 16 := by
    have h := (t0 3 _ rfl).1
    rw [r0_3] at h
    obtain ⟨y, e, l1, u1⟩ := vty0 h rfl
    obtain rfl := Value.int.inj e
    exact ⟨l1, u1⟩
  have r0_4 : g0 4 = .ref (ad 2) := vty2 (t0 4 _ rfl).1 rfl
  have r0_5 : g0 5 = .ref (ad 3) := vty2 (t0 5 _ rfl).1 rfl
  have r0_6 : g0 6 = .ref (ad 4) := vty2 (t0 6 _ rfl).1 rfl
  have r0_7 : g0 7 = .ref (ad 5) := vty2 (t0 7 _ rfl).1 rfl
  have r0_8 : g0 8 = .ref (ad 6) := vty2 (t0 8 _ rfl).1 rfl
  have r0_9 : g0 9 = .ref (ad 7) := vty2 (t0 9 _ rfl).1 rfl
  obtain ⟨y0_10, r0_10, -, -⟩ := vty0 (t0 10 _ rfl).1 rfl
  have r0_11 : g0 11 = .ref (ad 8) := vty2 (t0 11 _ rfl).1 rfl
  have r0_12 : g0 12 = .ref (ad 9) := vty2 (t0 12 _ rfl).1 rfl
  have r0_13 : g0 13 = .ref (ad 10) := vty2 (t0 13 _ rfl).1 rfl
  obtain ⟨y0_16, r0_16, -, -⟩ := vty0 (t0 16 _ rfl).1 rfl
  have r0_17 : g0 17 = .ref (ad 13) := vty2 (t0 17 _ rfl).1 rfl
  have r0_18 : g0 18 = .ref (ad 14) := vty2 (t0 18 _ rfl).1 rfl
  obtain ⟨y0_19, r0_19, -, -⟩ := vty0 (t0 19 _ rfl).1 rfl
  obtain ⟨y0_20, r0_20, -, -⟩ := vty0 (t0 20 _ rfl).1 rfl
  obtain ⟨y0_21, r0_21, -, -⟩ := vty0 (t0 21 _ rfl).1 rfl
  obtain ⟨y0_22, r0_22, -, -⟩ := vty0 (t0 22 _ rfl).1 rfl
  have c0 : w0[0]? = some ((ad 0), ob 11 [.int y0_0, (g0 1), (g0 2), .int h, .ref (ad 2), .ref (ad 3), .ref (ad 4), .ref (ad 5), .ref (ad 6), .ref (ad 7), .int y0_10, .ref (ad 8), .ref (ad 9), .ref (ad 10), (g0 14), (g0 15), .int y0_16, .ref (ad 13), .ref (ad 14), .int y0_19, .int y0_20, .int y0_21, .int y0_22, (g0 23), (g0 24), (g0 25), (g0 26), (g0 27), (g0 28), (g0 29), (g0 30), (g0 31), (g0 32), (g0 33), (g0 34), (g0 35), (g0 36), (g0 37), (g0 38), (g0 39), (g0 40), (g0 41), (g0 42), (g0 43), (g0 44), (g0 45), (g0 46), (g0 47), (g0 48), (g0 49), (g0 50), (g0 51), (g0 52), (g0 53), (g0 54), (g0 55), (g0 56), (g0 57), (g0 58), (g0 59), (g0 60), (g0 61), (g0 62), (g0 63), (g0 64), (g0 65), (g0 66), (g0 67), (g0 68), (g0 69), (g0 70), (g0 71), (g0 72), (g0 73), (g0 74)]) := by
    rw [q0]
    show some (ad 0, ob 11 [g0 0, g0 1, g0 2, g0 3, g0 4, g0 5, g0 6, g0 7, g0 8, g0 9, g0 10, g0 11, g0 12, g0 13, g0 14, g0 15, g0 16, g0 17, g0 18, g0 19, g0 20, g0 21, g0 22, g0 23, g0 24, g0 25, g0 26, g0 27, g0 28, g0 29, g0 30, g0 31, g0 32, g0 33, g0 34, g0 35, g0 36, g0 37, g0 38, g0 39, g0 40, g0 41, g0 42, g0 43, g0 44, g0 45, g0 46, g0 47, g0 48, g0 49, g0 50, g0 51, g0 52, g0 53, g0 54, g0 55, g0 56, g0 57, g0 58, g0 59, g0 60, g0 61, g0 62, g0 63, g0 64, g0 65, g0 66, g0 67, g0 68, g0 69, g0 70, g0 71, g0 72, g0 73, g0 74]) = _
    rw [r0_0, r0_3, r0_4, r0_5, r0_6, r0_7, r0_8, r0_9, r0_10, r0_11, r0_12, r0_13, r0_16, r0_17, r0_18, r0_19, r0_20, r0_21, r0_22]
  obtain ⟨f7, c7, -⟩ := WT.ints hW (k := 7) rfl
  have ef7 : f7 = d := arrinj ((cgetI c7 0).symm.trans ed)
  rw [ef7] at c7
  have h2 := cq_X11_deep l G (ad 0) y0_0 (g0 1) (g0 2) h (ad 2) (ad 3) (ad 4) (ad 5) (ad 6) (ad 7) y0_10 (ad 8) (ad 9) (ad 10) (g0 14) (g0 15) y0_16 (ad 13) (ad 14) y0_19 y0_20 y0_21 y0_22 (g0 23) (g0 24) (g0 25) (g0 26) (g0 27) (g0 28) (g0 29) (g0 30) (g0 31) (g0 32) (g0 33) (g0 34) (g0 35) (g0 36) (g0 37) (g0 38) (g0 39) (g0 40) (g0 41) (g0 42) (g0 43) (g0 44) (g0 45) (g0 46) (g0 47) (g0 48) (g0 49) (g0 50) (g0 51) (g0 52) (g0 53) (g0 54) (g0 55) (g0 56) (g0 57) (g0 58) (g0 59) (g0 60) (g0 61) (g0 62) (g0 63) (g0 64) (g0 65) (g0 66) (g0 67) (g0 68) (g0 69) (g0 70) (g0 71) (g0 72) (g0 73) (g0 74) d a v h.toInt a.toInt v.toInt rfl rfl rfl (by omega)
  refine Ct.weak (Ct.and (show Ct l G yX11_deep cX11_deep 4 (some .int) { frames := 2, cells := 0, slots := 0, locals := 46 } [.ref (ad 0), .int a, .int v] w0 (fun r w1 => POST G ad TM C_X11_deep_0 (fun k => ((Value.ref (ad 0) :: [.int a, .int v])[k]?).getD .null) w0 r w1) from ac_X11_deep_0 l G ad w0 _ hW (pre_mu (C := C_X11_deep_0) (ts := [tI0, tI0]) (As := [.int a, .int v]) rfl rfl rfl rfl ⟨fun _ => vty_i0 _, fun _ => vty_i0 _, trivial⟩ ad w0 rfl)) h2 [0, 7] (pk_cons c0 (pk_cons c7 rfl)) (by decide)) ?_
  rintro r w1 ⟨hp, w2, ⟨rz, fd2, hr, hd, rfl, rfl⟩, hS⟩
  obtain ⟨A1, hA1, μ2, -, -, -, -, -, -, hW1, hF1⟩ := hp
  obtain ⟨fs0, -, u0, ul0, -, -⟩ := WT.obj hW1 (k := 0) (j := 0) rfl rfl
  obtain ⟨p7, u7, -⟩ := WT.ints hW1 (k := 7) rfl
  exact ⟨hW1, hF1, by rw [hr], p7, cgetI u7 0, fun k hk => by rw [← hd]; exact (same_I hS (k := 7) (j := 1) u7 rfl) k hk⟩
theorem RelD.deep {G : KG} {wx wm wx' wm' : va_W} {m m' : List (Nat × Nat)} {h a v v1 v2 : Int32} {d g : Nat → Int32} (hD : RelD G wx wm) (h1 : FX m 109 wx wx') (h2 : FX m' 47 wm wm') (hm : mkq m 5 0 = false) (hh : h.toInt ≤ 16) (he : fget wx 5 0 = some (.int h)) (hd : cget wx 11 0 = some (.inr (cyI G, 16, .inl d))) (hg : cget wm 7 0 = some (.inr (cyI G, 16, .inl g))) (A : (some (.int v1) : Option Value) = some (.int (mDeep h.toInt d a v).1) ∧ CQ G wx' 11 16 (mDeep h.toInt d a v).2) (B : (some (.int v2) : Option Value) = some (.int (mDeep h.toInt g a v).1) ∧ CQ G wm' 7 16 (mDeep h.toInt g a v).2) : v1 = v2 ∧ RelD G wx' wm' := by
  obtain ⟨h0, e0, ⟨d0, g0, k1, k2, k3⟩, q3, k4, k5⟩ := hD
  obtain rfl := some_int (he.symm.trans e0)
  obtain rfl := arrinj (hd.symm.trans k1)
  obtain rfl := arrinj (hg.symm.trans k2)
  obtain rfl := arrinj (hd.symm.trans k4)
  obtain ⟨A1, p, p1, p2⟩ := A
  obtain ⟨B1, q, q1, q2⟩ := B
  have A1 := some_int A1
  have B1 := some_int B1
  by_cases c : 0 ≤ a.toInt ∧ a.toInt < h.toInt ∧ 0 ≤ v.toInt ∧ v.toInt ≤ 9
  · have ea : ∀ z : Nat → Int32, mDeep h.toInt z a v = (z a.toNatClampNeg, upd z a.toNatClampNeg v) := fun z => if_pos c
    rw [ea] at A1 p2
    rw [ea] at B1 q2
    have ia : (a.toNatClampNeg : Int) = a.toInt := slot_of1 rfl c.1
    refine ⟨?_, h, h1.get (by decide) hm he, ⟨p, q, p1, q1, fun k hk hH => ?_⟩, p, p1, fun k hk hH => ?_⟩
    · rw [A1, B1]
      exact k3 _ (by omega) (by omega)
    · rw [p2 k hk, q2 k hk]
      show upd d a.toNatClampNeg v k = upd g a.toNatClampNeg v k
      by_cases e : k = a.toNatClampNeg
      · rw [e, upd_at, upd_at]
      · rw [upd_off e, upd_off e]
        exact k3 k hk hH
    · rw [p2 k hk]
      show upd d a.toNatClampNeg v k = 0
      rw [upd_off (by omega)]
      exact k5 k hk hH
  · have ea : ∀ z : Nat → Int32, mDeep h.toInt z a v = (-1, z) := fun z => if_neg c
    rw [ea] at A1 p2
    rw [ea] at B1 q2
    refine ⟨A1.trans B1.symm, h, h1.get (by decide) hm he, ⟨p, q, p1, q1, fun k hk hH => ?_⟩, p, p1, fun k hk hH => ?_⟩
    · rw [p2 k hk, q2 k hk]
      exact k3 k hk hH
    · rw [p2 k hk]
      exact k5 k hk hH
