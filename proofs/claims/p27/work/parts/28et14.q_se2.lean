section
/-! settle: exactly -/
theorem dg_X10_settleOunce_3 : decode cX10_settleOunce 3 = .ok (.invokevirtual 392, 3) := by decide +kernel
theorem dg_X10_settleOunce_10 : decode cX10_settleOunce 10 = .ok (.invokevirtual 392, 3) := by decide +kernel
theorem dg_X10_settleOunce_15 : decode cX10_settleOunce 15 = .ok (.ifCond .lt 12, 3) := by decide +kernel
theorem dg_X10_settleOunce_31 : decode cX10_settleOunce 31 = .ok (.ifCond .lt 12, 3) := by decide +kernel
theorem dg_X10_settleOunce_49 : decode cX10_settleOunce 49 = .ok (.lcmp, 1) := by decide +kernel
theorem dg_X10_settleOunce_50 : decode cX10_settleOunce 50 = .ok (.ifCond .lt 12, 3) := by decide +kernel
theorem dg_X10_settleOunce_56 : decode cX10_settleOunce 56 = .ok (.lcmp, 1) := by decide +kernel
theorem dg_X10_settleOunce_57 : decode cX10_settleOunce 57 = .ok (.ifCond .lt 5, 3) := by decide +kernel
theorem dg_X10_settleOunce_61 : decode cX10_settleOunce 61 = .ok (.ireturn, 1) := by decide +kernel
theorem dg_X10_settleOunce_37 : decode cX10_settleOunce 37 = .ok (.invokevirtual 395, 3) := by decide +kernel
theorem dg_X10_settleOunce_40 : decode cX10_settleOunce 40 = .ok (.goto 4, 3) := by decide +kernel
theorem dg_X10_settleOunce_66 : decode cX10_settleOunce 66 = .ok (.lcmp, 1) := by decide +kernel
theorem dg_X10_settleOunce_67 : decode cX10_settleOunce 67 = .ok (.ifCond .gt 19, 3) := by decide +kernel
theorem dg_X10_settleOunce_87 : decode cX10_settleOunce 87 = .ok (.getfield 26, 3) := by decide +kernel
theorem dg_X10_settleOunce_90 : decode cX10_settleOunce 90 = .ok (.getfield 128, 3) := by decide +kernel
theorem dg_X10_settleOunce_95 : decode cX10_settleOunce 95 = .ok (.iaload, 1) := by decide +kernel
theorem dg_X10_settleOunce_98 : decode cX10_settleOunce 98 = .ok (.iastore, 1) := by decide +kernel
theorem dg_X10_settleOunce_100 : decode cX10_settleOunce 100 = .ok (.ireturn, 1) := by decide +kernel
theorem dg_X10_settleOunce_71 : decode cX10_settleOunce 71 = .ok (.getfield 26, 3) := by decide +kernel
theorem dg_X10_settleOunce_74 : decode cX10_settleOunce 74 = .ok (.getfield 128, 3) := by decide +kernel
theorem dg_X10_settleOunce_79 : decode cX10_settleOunce 79 = .ok (.iaload, 1) := by decide +kernel
theorem dg_X10_settleOunce_82 : decode cX10_settleOunce 82 = .ok (.iastore, 1) := by decide +kernel
theorem dg_X10_settleOunce_83 : decode cX10_settleOunce 83 = .ok (.goto 16, 3) := by decide +kernel
theorem dg_X10_settleOunce_21 : decode cX10_settleOunce 21 = .ok (.invokevirtual 395, 3) := by decide +kernel
theorem dg_X10_settleOunce_24 : decode cX10_settleOunce 24 = .ok (.goto 4, 3) := by decide +kernel
abbrev bg_X10_settleOunce_0_3 : ZB := [(.aload_n 0, .null), (.iload_n 1, .null), (.iconst 0, .int 0)]
theorem kg_X10_settleOunce_0_3 : zchk cX10_settleOunce bg_X10_settleOunce_0_3 0 = true ∧ zpc bg_X10_settleOunce_0_3 0 = 3 := ⟨by decide +kernel, rfl⟩
abbrev bg_X10_settleOunce_6_10 : ZB := [(.istore_n 2, .null), (.aload_n 0, .null), (.iload_n 1, .null), (.iconst 1, .int 1)]
theorem kg_X10_settleOunce_6_10 : zchk cX10_settleOunce bg_X10_settleOunce_6_10 6 = true ∧ zpc bg_X10_settleOunce_6_10 6 = 10 := ⟨by decide +kernel, rfl⟩
abbrev bg_X10_settleOunce_13_15 : ZB := [(.istore_n 3, .null), (.iload_n 2, .null)]
theorem kg_X10_settleOunce_13_15 : zchk cX10_settleOunce bg_X10_settleOunce_13_15 13 = true ∧ zpc bg_X10_settleOunce_13_15 13 = 15 := ⟨by decide +kernel, rfl⟩
abbrev bg_X10_settleOunce_27_31 : ZB := [(.lconst 0, .long 0), (.lstore 4, .null), (.iload_n 3, .null)]
theorem kg_X10_settleOunce_27_31 : zchk cX10_settleOunce bg_X10_settleOunce_27_31 27 = true ∧ zpc bg_X10_settleOunce_27_31 27 = 31 := ⟨by decide +kernel, rfl⟩
abbrev bg_X10_settleOunce_43_49 : ZB := [(.lconst 0, .long 0), (.lstore 6, .null), (.lload 4, .null), (.lconst 0, .long 0)]
theorem kg_X10_settleOunce_43_49 : zchk cX10_settleOunce bg_X10_settleOunce_43_49 43 = true ∧ zpc bg_X10_settleOunce_43_49 43 = 49 := ⟨by decide +kernel, rfl⟩
abbrev bg_X10_settleOunce_53_56 : ZB := [(.lload 6, .null), (.lconst 0, .long 0)]
theorem kg_X10_settleOunce_53_56 : zchk cX10_settleOunce bg_X10_settleOunce_53_56 53 = true ∧ zpc bg_X10_settleOunce_53_56 53 = 56 := ⟨by decide +kernel, rfl⟩
abbrev bg_X10_settleOunce_60_61 : ZB := [(.iconst 0, .int 0)]
theorem kg_X10_settleOunce_60_61 : zchk cX10_settleOunce bg_X10_settleOunce_60_61 60 = true ∧ zpc bg_X10_settleOunce_60_61 60 = 61 := ⟨by decide +kernel, rfl⟩
abbrev bg_X10_settleOunce_34_37 : ZB := [(.aload_n 0, .null), (.iload_n 3, .null), (.iconst 1, .int 1)]
theorem kg_X10_settleOunce_34_37 : zchk cX10_settleOunce bg_X10_settleOunce_34_37 34 = true ∧ zpc bg_X10_settleOunce_34_37 34 = 37 := ⟨by decide +kernel, rfl⟩
abbrev bg_X10_settleOunce_44_49 : ZB := [(.lstore 6, .null), (.lload 4, .null), (.lconst 0, .long 0)]
theorem kg_X10_settleOunce_44_49 : zchk cX10_settleOunce bg_X10_settleOunce_44_49 44 = true ∧ zpc bg_X10_settleOunce_44_49 44 = 49 := ⟨by decide +kernel, rfl⟩
abbrev bg_X10_settleOunce_62_66 : ZB := [(.lload 4, .null), (.lload 6, .null)]
theorem kg_X10_settleOunce_62_66 : zchk cX10_settleOunce bg_X10_settleOunce_62_66 62 = true ∧ zpc bg_X10_settleOunce_62_66 62 = 66 := ⟨by decide +kernel, rfl⟩
abbrev bg_X10_settleOunce_86_87 : ZB := [(.aload_n 0, .null)]
theorem kg_X10_settleOunce_86_87 : zchk cX10_settleOunce bg_X10_settleOunce_86_87 86 = true ∧ zpc bg_X10_settleOunce_86_87 86 = 87 := ⟨by decide +kernel, rfl⟩
abbrev bg_X10_settleOunce_93_95 : ZB := [(.iload_n 3, .null), (.dup2, .null)]
theorem kg_X10_settleOunce_93_95 : zchk cX10_settleOunce bg_X10_settleOunce_93_95 93 = true ∧ zpc bg_X10_settleOunce_93_95 93 = 95 := ⟨by decide +kernel, rfl⟩
abbrev bg_X10_settleOunce_96_98 : ZB := [(.iconst 1, .int 1), (.isub, .null)]
theorem kg_X10_settleOunce_96_98 : zchk cX10_settleOunce bg_X10_settleOunce_96_98 96 = true ∧ zpc bg_X10_settleOunce_96_98 96 = 98 := ⟨by decide +kernel, rfl⟩
abbrev bg_X10_settleOunce_99_100 : ZB := [(.iconst 1, .int 1)]
theorem kg_X10_settleOunce_99_100 : zchk cX10_settleOunce bg_X10_settleOunce_99_100 99 = true ∧ zpc bg_X10_settleOunce_99_100 99 = 100 := ⟨by decide +kernel, rfl⟩
abbrev bg_X10_settleOunce_70_71 : ZB := [(.aload_n 0, .null)]
theorem kg_X10_settleOunce_70_71 : zchk cX10_settleOunce bg_X10_settleOunce_70_71 70 = true ∧ zpc bg_X10_settleOunce_70_71 70 = 71 := ⟨by decide +kernel, rfl⟩
abbrev bg_X10_settleOunce_77_79 : ZB := [(.iload_n 2, .null), (.dup2, .null)]
theorem kg_X10_settleOunce_77_79 : zchk cX10_settleOunce bg_X10_settleOunce_77_79 77 = true ∧ zpc bg_X10_settleOunce_77_79 77 = 79 := ⟨by decide +kernel, rfl⟩
abbrev bg_X10_settleOunce_80_82 : ZB := [(.iconst 1, .int 1), (.iadd, .null)]
theorem kg_X10_settleOunce_80_82 : zchk cX10_settleOunce bg_X10_settleOunce_80_82 80 = true ∧ zpc bg_X10_settleOunce_80_82 80 = 82 := ⟨by decide +kernel, rfl⟩
abbrev bg_X10_settleOunce_18_21 : ZB := [(.aload_n 0, .null), (.iload_n 2, .null), (.iconst 0, .int 0)]
theorem kg_X10_settleOunce_18_21 : zchk cX10_settleOunce bg_X10_settleOunce_18_21 18 = true ∧ zpc bg_X10_settleOunce_18_21 18 = 21 := ⟨by decide +kernel, rfl⟩
abbrev bg_X10_settleOunce_28_31 : ZB := [(.lstore 4, .null), (.iload_n 3, .null)]
theorem kg_X10_settleOunce_28_31 : zchk cX10_settleOunce bg_X10_settleOunce_28_31 28 = true ∧ zpc bg_X10_settleOunce_28_31 28 = 31 := ⟨by decide +kernel, rfl⟩
set_option maxHeartbeats 4000000 in
set_option maxRecDepth 100000 in
theorem cg_X10_settleOunce (l : Launch) (G : KG) (x : Nat) (x_told : Value) (x_reader : Value) (ring : Nat) (x_speeds : Value) (x_wheel : Value) (x_trials : Value) (x_span : Value) (x_search : Value) (x_kept : Value) (x_crosses : Value) (x_trueMasses : Value) (thought : Nat) (x_up : Value) (x_low : Value) (x_fits : Value) (x_pulls : Value) (hc : Int32) (rp : Nat) (rx : Nat) (ry : Nat) (rr : Nat) (rh : Nat) (g_rd : Value) (ph : Int32) (po : Int32) (fp : Nat → Int32) (fx : Nat → Int32) (fy : Nat → Int32) (fr : Nat → Int32) (fh : Nat → Int32) (ft : Nat → Int32) (pq : Int32) (hci : Int) (pi : Int) (hhc : hc.toInt = hci) (hpq : pq.toInt = pi) (hc0 : 0 ≤ hci ∧ hci ≤ 16) (hp0 : 0 ≤ pi ∧ pi ≤ 1) (hsb : SB hci fp fh fr fx fy (tX ft pq) (tY ft pq)) : Ct l G yX10_settleOunce cX10_settleOunce 8 (some .boolean) { frames := 4, cells := 0, slots := 0, locals := 102 } [.ref x, .int pq] [(x, ob 10 [x_told, x_reader, .ref ring, x_speeds, x_wheel, x_trials, x_span, x_search, x_kept, x_crosses, x_trueMasses, .ref thought, x_up, x_low, x_fits, x_pulls]), (ring, ob 5 [.int hc, .ref rp, .ref rx, .ref ry, .ref rr, .ref rh, g_rd, .int ph, .int po]), (rp, aI G 16 fp), (rx, aI G 16 fx), (ry, aI G 16 fy), (rr, aI G 16 fr), (rh, aI G 16 fh), (thought, aI G 8 ft)] (fun r w1 => ∃ (rz : Int32), ∃ (fh2 : Nat → Int32), (((nx1 hci fp fr fx fy (tX ft pq) (tY ft pq) pi) fh = none ∧ rz = 0 ∧ fh2 = fh) ∨ ((nx1 hci fp fr fx fy (tX ft pq) (tY ft pq) pi) fh = some fh2 ∧ rz = 1)) ∧ r = some (.int rz) ∧ w1 = [(x, ob 10 [x_told, x_reader, .ref ring, x_speeds, x_wheel, x_trials, x_span, x_search, x_kept, x_crosses, x_trueMasses, .ref thought, x_up, x_low, x_fits, x_pulls]), (ring, ob 5 [.int hc, .ref rp, .ref rx, .ref ry, .ref rr, .ref rh, g_rd, .int ph, .int po]), (rp, aI G 16 fp), (rx, aI G 16 fx), (ry, aI G 16 fy), (rr, aI G 16 fr), (rh, aI G 16 fh2), (thought, aI G 8 ft)]) := by
  refine ct_of [(0, .ref x), (1, .int pq)] (by decide) (Nat.le_of_ble_eq_true rfl) rfl ?_
  intro p0 e0 s0 m0 args0 below0 meth0 c0 A X
  refine z_run X bg_X10_settleOunce_0_3 kg_X10_settleOunce_0_3 (lv' := [(0, .ref x), (1, .int pq)]) (st' := [.int 0, .int pq, .ref x]) rfl ?_
  have hux : uX ft fp fh fx pq hci.toNat = tX ft pq + lw fp fh fx pi hci.toNat := by unfold uX; rw [hpq]
  have huy : uY ft fp fh fy pq hci.toNat = tY ft pq + lw fp fh fy pi hci.toNat := by unfold uY; rw [hpq]
  refine z_callV X k_10_392 (cg_X10_bestOunce l G x x_told x_reader ring x_speeds x_wheel x_trials x_span x_search x_kept x_crosses x_trueMasses thought x_up x_low x_fits x_pulls hc rp rx ry rr rh g_rd ph po fp fx fy fr fh ft pq 0 hci pi 0 hhc hpq (show (0 : Int32).toInt = 0 from by decide) (by omega) (by omega) hsb) dg_X10_settleOunce_3 0 rfl rfl rfl ⟨Nat.le_of_ble_eq_true rfl, Nat.le_of_ble_eq_true rfl⟩ ⟨Nat.le_of_ble_eq_true rfl, Nat.le_of_ble_eq_true rfl⟩ rfl (rest := []) (As := [.int pq, .int 0]) rfl (Nat.le_of_ble_eq_true rfl) [0, 1, 2, 3, 4, 5, 6, 7] [] rfl (by decide) (wr := []) rfl (by decide) (by decide) ?_
  rintro _ _ ⟨rz_1, f3_2, rfl, rfl⟩
  refine Z.at (pc' := 6) (st' := [.int rz_1]) (ws' := [(x, ob 10 [x_told, x_reader, .ref ring, x_speeds, x_wheel, x_trials, x_span, x_search, x_kept, x_crosses, x_trueMasses, .ref thought, x_up, x_low, x_fits, x_pulls]), (ring, ob 5 [.int hc, .ref rp, .ref rx, .ref ry, .ref rr, .ref rh, g_rd, .int ph, .int po]), (rp, aI G 16 fp), (rx, aI G 16 fx), (ry, aI G 16 fy), (rr, aI G 16 fr), (rh, aI G 16 fh), (thought, aI G 8 ft)]) (kc' := 0) (ks' := 0) rfl rfl rfl rfl rfl ?_
  rw [hux, huy] at f3_2
  refine z_run X bg_X10_settleOunce_6_10 kg_X10_settleOunce_6_10 (lv' := [(2, .int rz_1), (0, .ref x), (1, .int pq)]) (st' := [.int 1, .int pq, .ref x]) rfl ?_
  refine z_callV X k_10_392 (cg_X10_bestOunce l G x x_told x_reader ring x_speeds x_wheel x_trials x_span x_search x_kept x_crosses x_trueMasses thought x_up x_low x_fits x_pulls hc rp rx ry rr rh g_rd ph po fp fx fy fr fh ft pq 1 hci pi 1 hhc hpq (show (1 : Int32).toInt = 1 from by decide) (by omega) (by omega) hsb) dg_X10_settleOunce_10 0 rfl rfl rfl ⟨Nat.le_of_ble_eq_true rfl, Nat.le_of_ble_eq_true rfl⟩ ⟨Nat.le_of_ble_eq_true rfl, Nat.le_of_ble_eq_true rfl⟩ rfl (rest := []) (As := [.int pq, .int 1]) rfl (Nat.le_of_ble_eq_true rfl) [0, 1, 2, 3, 4, 5, 6, 7] [] rfl (by decide) (wr := []) rfl (by decide) (by decide) ?_
  rintro _ _ ⟨rz_3, f10_4, rfl, rfl⟩
  refine Z.at (pc' := 13) (st' := [.int rz_3]) (ws' := [(x, ob 10 [x_told, x_reader, .ref ring, x_speeds, x_wheel, x_trials, x_span, x_search, x_kept, x_crosses, x_trueMasses, .ref thought, x_up, x_low, x_fits, x_pulls]), (ring, ob 5 [.int hc, .ref rp, .ref rx, .ref ry, .ref rr, .ref rh, g_rd, .int ph, .int po]), (rp, aI G 16 fp), (rx, aI G 16 fx), (ry, aI G 16 fy), (rr, aI G 16 fr), (rh, aI G 16 fh), (thought, aI G 8 ft)]) (kc' := 0) (ks' := 0) rfl rfl rfl rfl rfl ?_
  rw [hux, huy] at f10_4
  refine z_run X bg_X10_settleOunce_13_15 kg_X10_settleOunce_13_15 (lv' := [(3, .int rz_3), (2, .int rz_1), (0, .ref x), (1, .int pq)]) (st' := [.int rz_1]) rfl ?_
  refine zi_lt X dg_X10_settleOunce_15 (tgt := 27) (by decide) (a := rz_1.toInt) rfl (fun c15_5 => ?_) (fun c15_5 => ?_)
  ·
    refine z_run X bg_X10_settleOunce_27_31 kg_X10_settleOunce_27_31 (lv' := [(4, .long 0), (3, .int rz_3), (2, .int rz_1), (0, .ref x), (1, .int pq)]) (st' := [.int rz_3]) rfl ?_
    refine zi_lt X dg_X10_settleOunce_31 (tgt := 43) (by decide) (a := rz_3.toInt) rfl (fun c31_6 => ?_) (fun c31_6 => ?_)
    ·
      refine z_run X bg_X10_settleOunce_43_49 kg_X10_settleOunce_43_49 (lv' := [(6, .long 0), (4, .long 0), (3, .int rz_3), (2, .int rz_1), (0, .ref x), (1, .int pq)]) (st' := [.long 0, .long 0]) rfl ?_
      refine zl_lt X dg_X10_settleOunce_49 dg_X10_settleOunce_50 (tgt := 62) (by decide) (a := 0) (b := 0) (show (0 : Int64).toInt = 0 from by decide) (show (0 : Int64).toInt = 0 from by decide) (fun c49_7 => absurd c49_7 (by decide)) (fun _ => ?_)
      refine z_run X bg_X10_settleOunce_53_56 kg_X10_settleOunce_53_56 (lv' := [(6, .long 0), (4, .long 0), (3, .int rz_3), (2, .int rz_1), (0, .ref x), (1, .int pq)]) (st' := [.long 0, .long 0]) rfl ?_
      refine zl_lt X dg_X10_settleOunce_56 dg_X10_settleOunce_57 (tgt := 62) (by decide) (a := 0) (b := 0) (show (0 : Int64).toInt = 0 from by decide) (show (0 : Int64).toInt = 0 from by decide) (fun c56_8 => absurd c56_8 (by decide)) (fun _ => ?_)
      refine z_run X bg_X10_settleOunce_60_61 kg_X10_settleOunce_60_61 (lv' := [(6, .long 0), (4, .long 0), (3, .int rz_3), (2, .int rz_1), (0, .ref x), (1, .int pq)]) (st' := [.int 0]) rfl ?_
      exact z_zret X rfl rfl dg_X10_settleOunce_61 (Nat.le_of_ble_eq_true rfl) (Nat.le_of_ble_eq_true rfl) ⟨(0 : Int32), fh, (Or.inl ⟨(nx1_of (h := hci) (fp := fp) (fr := fr) (fx := fx) (fy := fy) (tx := tX ft pq) (ty := tY ft pq) (p := pi) (fh := fh) (f0 := rz_1.toInt) (f1 := rz_3.toInt) (v0 := (0 : Int)) (v1 := (0 : Int)) (by rcases f3_2 with ⟨z1, z2⟩ | ⟨z1, z2⟩; (exact Or.inl ⟨z1, by omega⟩); (exact Or.inr ⟨z1, z2⟩)) (by rcases f10_4 with ⟨z1, z2⟩ | ⟨z1, z2⟩; (exact Or.inl ⟨z1, by omega⟩); (exact Or.inr ⟨z1, z2⟩)) (fun g => absurd g (by omega)) (fun _ => rfl) (fun g => absurd g (by omega)) (fun _ => rfl)).trans (if_pos (show 0 ≤ (0 : Int) ∧ 0 ≤ (0 : Int) by omega)), rfl, rfl⟩), rfl, rfl⟩
    ·
      refine z_run X bg_X10_settleOunce_34_37 kg_X10_settleOunce_34_37 (lv' := [(4, .long 0), (3, .int rz_3), (2, .int rz_1), (0, .ref x), (1, .int pq)]) (st' := [.int 1, .int rz_3, .ref x]) rfl ?_
      refine z_callV X k_10_395 (cg_X10_changeByOunce l G x x_told x_reader ring x_speeds x_wheel x_trials x_span x_search x_kept x_crosses x_trueMasses thought x_up x_low x_fits x_pulls hc rp rx ry (.ref rr) rh g_rd ph po fp fx fy fh ft rz_3 1 hci rz_3.toInt 1 hhc rfl (show (1 : Int32).toInt = 1 from by decide) (by omega) (by rcases f10_4 with ⟨z1, z2⟩ | ⟨z1, z2⟩; (exfalso; omega); (have z3 := (bO_ok z1).1; omega)) hsb.hp) dg_X10_settleOunce_37 0 rfl rfl rfl ⟨Nat.le_of_ble_eq_true rfl, Nat.le_of_ble_eq_true rfl⟩ ⟨Nat.le_of_ble_eq_true rfl, Nat.le_of_ble_eq_true rfl⟩ rfl (rest := []) (As := [.int rz_3, .int 1]) rfl (Nat.le_of_ble_eq_true rfl) [0, 1, 2, 3, 4, 6, 7] [5] rfl (by decide) (wr := [(rr, aI G 16 fr)]) rfl (by decide) (by decide) ?_
      rintro _ _ ⟨rz_9, f37_10, rfl, rfl⟩
      refine Z.at (pc' := 40) (st' := [.long rz_9]) (ws' := [(rr, aI G 16 fr), (x, ob 10 [x_told, x_reader, .ref ring, x_speeds, x_wheel, x_trials, x_span, x_search, x_kept, x_crosses, x_trueMasses, .ref thought, x_up, x_low, x_fits, x_pulls]), (ring, ob 5 [.int hc, .ref rp, .ref rx, .ref ry, .ref rr, .ref rh, g_rd, .int ph, .int po]), (rp, aI G 16 fp), (rx, aI G 16 fx), (ry, aI G 16 fy), (rh, aI G 16 fh), (thought, aI G 8 ft)]) (kc' := 0) (ks' := 0) rfl rfl rfl rfl rfl ?_
      refine z_goto X dg_X10_settleOunce_40 (tgt := 44) (by decide) ?_
      refine z_run X bg_X10_settleOunce_44_49 kg_X10_settleOunce_44_49 (lv' := [(6, .long rz_9), (4, .long 0), (3, .int rz_3), (2, .int rz_1), (0, .ref x), (1, .int pq)]) (st' := [.long 0, .long 0]) rfl ?_
      refine zl_lt X dg_X10_settleOunce_49 dg_X10_settleOunce_50 (tgt := 62) (by decide) (a := 0) (b := 0) (show (0 : Int64).toInt = 0 from by decide) (show (0 : Int64).toInt = 0 from by decide) (fun c49_11 => absurd c49_11 (by decide)) (fun _ => ?_)
      refine z_run X bg_X10_settleOunce_53_56 kg_X10_settleOunce_53_56 (lv' := [(6, .long rz_9), (4, .long 0), (3, .int rz_3), (2, .int rz_1), (0, .ref x), (1, .int pq)]) (st' := [.long 0, .long rz_9]) rfl ?_
      refine zl_lt X dg_X10_settleOunce_56 dg_X10_settleOunce_57 (tgt := 62) (by decide) (a := rz_9.toInt) (b := 0) rfl (show (0 : Int64).toInt = 0 from by decide) (fun c56_12 => ?_) (fun c56_12 => ?_)
      ·
        refine z_run X bg_X10_settleOunce_62_66 kg_X10_settleOunce_62_66 (lv' := [(6, .long rz_9), (4, .long 0), (3, .int rz_3), (2, .int rz_1), (0, .ref x), (1, .int pq)]) (st' := [.long rz_9, .long 0]) rfl ?_
        refine zl_gt X dg_X10_settleOunce_66 dg_X10_settleOunce_67 (tgt := 86) (by decide) (a := 0) (b := rz_9.toInt) (show (0 : Int64).toInt = 0 from by decide) rfl (fun c66_13 => ?_) (fun c66_13 => ?_)
        ·
          refine z_run X bg_X10_settleOunce_86_87 kg_X10_settleOunce_86_87 (lv' := [(6, .long rz_9), (4, .long 0), (3, .int rz_3), (2, .int rz_1), (0, .ref x), (1, .int pq)]) (st' := [.ref x]) rfl ?_
          refine z_get X fl_10_26 dg_X10_settleOunce_87 1 rfl (v := .ref ring) rfl ?_
          refine z_getN X fl_10_128 dg_X10_settleOunce_90 2 rfl (v := .ref rh) rfl ?_
          refine z_run X bg_X10_settleOunce_93_95 kg_X10_settleOunce_93_95 (lv' := [(6, .long rz_9), (4, .long 0), (3, .int rz_3), (2, .int rz_1), (0, .ref x), (1, .int pq)]) (st' := [.int rz_3, .ref rh, .int rz_3, .ref rh]) rfl ?_
          refine z_iald X dg_X10_settleOunce_95 6 rfl (vin rfl (by rcases f10_4 with ⟨z1, z2⟩ | ⟨z1, z2⟩; (exfalso; omega); omega) (by rcases f10_4 with ⟨z1, z2⟩ | ⟨z1, z2⟩; (exfalso; omega); (have z3 := (bO_ok z1).1; omega))) (v := (fh rz_3.toNatClampNeg)) rfl ?_
          refine z_run X bg_X10_settleOunce_96_98 kg_X10_settleOunce_96_98 (lv' := [(6, .long rz_9), (4, .long 0), (3, .int rz_3), (2, .int rz_1), (0, .ref x), (1, .int pq)]) (st' := [.int ((fh rz_3.toNatClampNeg) - 1), .int rz_3, .ref rh]) rfl ?_
          refine z_iast X dg_X10_settleOunce_98 6 rfl (vin rfl (by rcases f10_4 with ⟨z1, z2⟩ | ⟨z1, z2⟩; (exfalso; omega); omega) (by rcases f10_4 with ⟨z1, z2⟩ | ⟨z1, z2⟩; (exfalso; omega); (have z3 := (bO_ok z1).1; omega))) (ws' := [(rr, aI G 16 fr), (x, ob 10 [x_told, x_reader, .ref ring, x_speeds, x_wheel, x_trials, x_span, x_search, x_kept, x_crosses, x_trueMasses, .ref thought, x_up, x_low, x_fits, x_pulls]), (ring, ob 5 [.int hc, .ref rp, .ref rx, .ref ry, .ref rr, .ref rh, g_rd, .int ph, .int po]), (rp, aI G 16 fp), (rx, aI G 16 fx), (ry, aI G 16 fy), (rh, aI G 16 (upd fh rz_3.toNatClampNeg ((fh rz_3.toNatClampNeg) - 1))), (thought, aI G 8 ft)]) rfl ?_
          refine z_run X bg_X10_settleOunce_99_100 kg_X10_settleOunce_99_100 (lv' := [(6, .long rz_9), (4, .long 0), (3, .int rz_3), (2, .int rz_1), (0, .ref x), (1, .int pq)]) (st' := [.int 1]) rfl ?_
          refine Z.sub (lv' := []) [] rfl [1, 2, 3, 4, 5, 0, 6, 7] (ws' := [(x, ob 10 [x_told, x_reader, .ref ring, x_speeds, x_wheel, x_trials, x_span, x_search, x_kept, x_crosses, x_trueMasses, .ref thought, x_up, x_low, x_fits, x_pulls]), (ring, ob 5 [.int hc, .ref rp, .ref rx, .ref ry, .ref rr, .ref rh, g_rd, .int ph, .int po]), (rp, aI G 16 fp), (rx, aI G 16 fx), (ry, aI G 16 fy), (rr, aI G 16 fr), (rh, aI G 16 (upd fh rz_3.toNatClampNeg ((fh rz_3.toNatClampNeg) - 1))), (thought, aI G 8 ft)]) rfl (by decide) ?_
          exact z_zret X rfl rfl dg_X10_settleOunce_100 (Nat.le_of_ble_eq_true rfl) (Nat.le_of_ble_eq_true rfl) ⟨(1 : Int32), (upd fh rz_3.toNatClampNeg ((fh rz_3.toNatClampNeg) - 1)), (Or.inr ⟨((nx1_of (h := hci) (fp := fp) (fr := fr) (fx := fx) (fy := fy) (tx := tX ft pq) (ty := tY ft pq) (p := pi) (fh := fh) (f0 := rz_1.toInt) (f1 := rz_3.toInt) (v0 := (0 : Int)) (v1 := rz_9.toInt) (by rcases f3_2 with ⟨z1, z2⟩ | ⟨z1, z2⟩; (exact Or.inl ⟨z1, by omega⟩); (exact Or.inr ⟨z1, z2⟩)) (by rcases f10_4 with ⟨z1, z2⟩ | ⟨z1, z2⟩; (exact Or.inl ⟨z1, by omega⟩); (exact Or.inr ⟨z1, z2⟩)) (fun g => absurd g (by omega)) (fun _ => rfl) (fun _ => by have hpq_ : fp rz_3.toNatClampNeg = pq := Int32.toInt_inj.mp (by rcases f10_4 with ⟨z1, z2⟩ | ⟨z1, z2⟩; (exfalso; omega); (have z3 := (bO_ok z1).2.1; rw [← z2] at z3; exact z3.trans hpq.symm)); rw [f37_10, hpq_, hux, huy]; exact hsb.chg rz_3.toInt.toNat (by rcases f10_4 with ⟨z1, z2⟩ | ⟨z1, z2⟩; (exfalso; omega); (have z3 := (bO_ok z1).1; omega))) (fun g => absurd g (by omega))).trans (if_neg (show ¬ (0 ≤ (0 : Int) ∧ 0 ≤ rz_9.toInt) by omega))).trans ((if_neg  (show ¬ (0 : Int) ≤ rz_9.toInt by omega)).trans rfl), rfl⟩), rfl, rfl⟩
        ·
          refine z_run X bg_X10_settleOunce_70_71 kg_X10_settleOunce_70_71 (lv' := [(6, .long rz_9), (4, .long 0), (3, .int rz_3), (2, .int rz_1), (0, .ref x), (1, .int pq)]) (st' := [.ref x]) rfl ?_
          refine z_get X fl_10_26 dg_X10_settleOunce_71 1 rfl (v := .ref ring) rfl ?_
          refine z_getN X fl_10_128 dg_X10_settleOunce_74 2 rfl (v := .ref rh) rfl ?_
          refine z_run X bg_X10_settleOunce_77_79 kg_X10_settleOunce_77_79 (lv' := [(6, .long rz_9), (4, .long 0), (3, .int rz_3), (2, .int rz_1), (0, .ref x), (1, .int pq)]) (st' := [.int rz_1, .ref rh, .int rz_1, .ref rh]) rfl ?_
          refine z_iald X dg_X10_settleOunce_79 6 rfl (vin rfl (by rcases f3_2 with ⟨z1, z2⟩ | ⟨z1, z2⟩; (exfalso; omega); omega) (by rcases f3_2 with ⟨z1, z2⟩ | ⟨z1, z2⟩; (exfalso; omega); (have z3 := (bO_ok z1).1; omega))) (v := (fh rz_1.toNatClampNeg)) rfl ?_
          refine z_run X bg_X10_settleOunce_80_82 kg_X10_settleOunce_80_82 (lv' := [(6, .long rz_9), (4, .long 0), (3, .int rz_3), (2, .int rz_1), (0, .ref x), (1, .int pq)]) (st' := [.int ((fh rz_1.toNatClampNeg) + 1), .int rz_1, .ref rh]) rfl ?_
          refine z_iast X dg_X10_settleOunce_82 6 rfl (vin rfl (by rcases f3_2 with ⟨z1, z2⟩ | ⟨z1, z2⟩; (exfalso; omega); omega) (by rcases f3_2 with ⟨z1, z2⟩ | ⟨z1, z2⟩; (exfalso; omega); (have z3 := (bO_ok z1).1; omega))) (ws' := [(rr, aI G 16 fr), (x, ob 10 [x_told, x_reader, .ref ring, x_speeds, x_wheel, x_trials, x_span, x_search, x_kept, x_crosses, x_trueMasses, .ref thought, x_up, x_low, x_fits, x_pulls]), (ring, ob 5 [.int hc, .ref rp, .ref rx, .ref ry, .ref rr, .ref rh, g_rd, .int ph, .int po]), (rp, aI G 16 fp), (rx, aI G 16 fx), (ry, aI G 16 fy), (rh, aI G 16 (upd fh rz_1.toNatClampNeg ((fh rz_1.toNatClampNeg) + 1))), (thought, aI G 8 ft)]) rfl ?_
          refine z_goto X dg_X10_settleOunce_83 (tgt := 99) (by decide) ?_
          refine z_run X bg_X10_settleOunce_99_100 kg_X10_settleOunce_99_100 (lv' := [(6, .long rz_9), (4, .long 0), (3, .int rz_3), (2, .int rz_1), (0, .ref x), (1, .int pq)]) (st' := [.int 1]) rfl ?_
          refine Z.sub (lv' := []) [] rfl [1, 2, 3, 4, 5, 0, 6, 7] (ws' := [(x, ob 10 [x_told, x_reader, .ref ring, x_speeds, x_wheel, x_trials, x_span, x_search, x_kept, x_crosses, x_trueMasses, .ref thought, x_up, x_low, x_fits, x_pulls]), (ring, ob 5 [.int hc, .ref rp, .ref rx, .ref ry, .ref rr, .ref rh, g_rd, .int ph, .int po]), (rp, aI G 16 fp), (rx, aI G 16 fx), (ry, aI G 16 fy), (rr, aI G 16 fr), (rh, aI G 16 (upd fh rz_1.toNatClampNeg ((fh rz_1.toNatClampNeg) + 1))), (thought, aI G 8 ft)]) rfl (by decide) ?_
          exact z_zret X rfl rfl dg_X10_settleOunce_100 (Nat.le_of_ble_eq_true rfl) (Nat.le_of_ble_eq_true rfl) ⟨(1 : Int32), (upd fh rz_1.toNatClampNeg ((fh rz_1.toNatClampNeg) + 1)), (Or.inr ⟨((nx1_of (h := hci) (fp := fp) (fr := fr) (fx := fx) (fy := fy) (tx := tX ft pq) (ty := tY ft pq) (p := pi) (fh := fh) (f0 := rz_1.toInt) (f1 := rz_3.toInt) (v0 := (0 : Int)) (v1 := rz_9.toInt) (by rcases f3_2 with ⟨z1, z2⟩ | ⟨z1, z2⟩; (exact Or.inl ⟨z1, by omega⟩); (exact Or.inr ⟨z1, z2⟩)) (by rcases f10_4 with ⟨z1, z2⟩ | ⟨z1, z2⟩; (exact Or.inl ⟨z1, by omega⟩); (exact Or.inr ⟨z1, z2⟩)) (fun g => absurd g (by omega)) (fun _ => rfl) (fun _ => by have hpq_ : fp rz_3.toNatClampNeg = pq := Int32.toInt_inj.mp (by rcases f10_4 with ⟨z1, z2⟩ | ⟨z1, z2⟩; (exfalso; omega); (have z3 := (bO_ok z1).2.1; rw [← z2] at z3; exact z3.trans hpq.symm)); rw [f37_10, hpq_, hux, huy]; exact hsb.chg rz_3.toInt.toNat (by rcases f10_4 with ⟨z1, z2⟩ | ⟨z1, z2⟩; (exfalso; omega); (have z3 := (bO_ok z1).1; omega))) (fun g => absurd g (by omega))).trans (if_neg (show ¬ (0 ≤ (0 : Int) ∧ 0 ≤ rz_9.toInt) by omega))).trans ((if_pos  (show  (0 : Int) ≤ rz_9.toInt by omega)).trans rfl), rfl⟩), rfl, rfl⟩
      ·
        refine z_run X bg_X10_settleOunce_60_61 kg_X10_settleOunce_60_61 (lv' := [(6, .long rz_9), (4, .long 0), (3, .int rz_3), (2, .int rz_1), (0, .ref x), (1, .int pq)]) (st' := [.int 0]) rfl ?_
        refine Z.sub (lv' := []) [] rfl [1, 2, 3, 4, 5, 0, 6, 7] (ws' := [(x, ob 10 [x_told, x_reader, .ref ring, x_speeds, x_wheel, x_trials, x_span, x_search, x_kept, x_crosses, x_trueMasses, .ref thought, x_up, x_low, x_fits, x_pulls]), (ring, ob 5 [.int hc, .ref rp, .ref rx, .ref ry, .ref rr, .ref rh, g_rd, .int ph, .int po]), (rp, aI G 16 fp), (rx, aI G 16 fx), (ry, aI G 16 fy), (rr, aI G 16 fr), (rh, aI G 16 fh), (thought, aI G 8 ft)]) rfl (by decide) ?_
        exact z_zret X rfl rfl dg_X10_settleOunce_61 (Nat.le_of_ble_eq_true rfl) (Nat.le_of_ble_eq_true rfl) ⟨(0 : Int32), fh, (Or.inl ⟨(nx1_of (h := hci) (fp := fp) (fr := fr) (fx := fx) (fy := fy) (tx := tX ft pq) (ty := tY ft pq) (p := pi) (fh := fh) (f0 := rz_1.toInt) (f1 := rz_3.toInt) (v0 := (0 : Int)) (v1 := rz_9.toInt) (by rcases f3_2 with ⟨z1, z2⟩ | ⟨z1, z2⟩; (exact Or.inl ⟨z1, by omega⟩); (exact Or.inr ⟨z1, z2⟩)) (by rcases f10_4 with ⟨z1, z2⟩ | ⟨z1, z2⟩; (exact Or.inl ⟨z1, by omega⟩); (exact Or.inr ⟨z1, z2⟩)) (fun g => absurd g (by omega)) (fun _ => rfl) (fun _ => by have hpq_ : fp rz_3.toNatClampNeg = pq := Int32.toInt_inj.mp (by rcases f10_4 with ⟨z1, z2⟩ | ⟨z1, z2⟩; (exfalso; omega); (have z3 := (bO_ok z1).2.1; rw [← z2] at z3; exact z3.trans hpq.symm)); rw [f37_10, hpq_, hux, huy]; exact hsb.chg rz_3.toInt.toNat (by rcases f10_4 with ⟨z1, z2⟩ | ⟨z1, z2⟩; (exfalso; omega); (have z3 := (bO_ok z1).1; omega))) (fun g => absurd g (by omega))).trans (if_pos (show 0 ≤ (0 : Int) ∧ 0 ≤ rz_9.toInt by omega)), rfl, rfl⟩), rfl, rfl⟩
  ·
    refine z_run X bg_X10_settleOunce_18_21 kg_X10_settleOunce_18_21 (lv' := [(3, .int rz_3), (2, .int rz_1), (0, .ref x), (1, .int pq)]) (st' := [.int 0, .int rz_1, .ref x]) rfl ?_
    refine z_callV X k_10_395 (cg_X10_changeByOunce l G x x_told x_reader ring x_speeds x_wheel x_trials x_span x_search x_kept x_crosses x_trueMasses thought x_up x_low x_fits x_pulls hc rp rx ry (.ref rr) rh g_rd ph po fp fx fy fh ft rz_1 0 hci rz_1.toInt 0 hhc rfl (show (0 : Int32).toInt = 0 from by decide) (by omega) (by rcases f3_2 with ⟨z1, z2⟩ | ⟨z1, z2⟩; (exfalso; omega); (have z3 := (bO_ok z1).1; omega)) hsb.hp) dg_X10_settleOunce_21 0 rfl rfl rfl ⟨Nat.le_of_ble_eq_true rfl, Nat.le_of_ble_eq_true rfl⟩ ⟨Nat.le_of_ble_eq_true rfl, Nat.le_of_ble_eq_true rfl⟩ rfl (rest := []) (As := [.int rz_1, .int 0]) rfl (Nat.le_of_ble_eq_true rfl) [0, 1, 2, 3, 4, 6, 7] [5] rfl (by decide) (wr := [(rr, aI G 16 fr)]) rfl (by decide) (by decide) ?_
    rintro _ _ ⟨rz_14, f21_15, rfl, rfl⟩
    refine Z.at (pc' := 24) (st' := [.long rz_14]) (ws' := [(rr, aI G 16 fr), (x, ob 10 [x_told, x_reader, .ref ring, x_speeds, x_wheel, x_trials, x_span, x_search, x_kept, x_crosses, x_trueMasses, .ref thought, x_up, x_low, x_fits, x_pulls]), (ring, ob 5 [.int hc, .ref rp, .ref rx, .ref ry, .ref rr, .ref rh, g_rd, .int ph, .int po]), (rp, aI G 16 fp), (rx, aI G 16 fx), (ry, aI G 16 fy), (rh, aI G 16 fh), (thought, aI G 8 ft)]) (kc' := 0) (ks' := 0) rfl rfl rfl rfl rfl ?_
    refine z_goto X dg_X10_settleOunce_24 (tgt := 28) (by decide) ?_
    refine z_run X bg_X10_settleOunce_28_31 kg_X10_settleOunce_28_31 (lv' := [(4, .long rz_14), (3, .int rz_3), (2, .int rz_1), (0, .ref x), (1, .int pq)]) (st' := [.int rz_3]) rfl ?_
    refine zi_lt X dg_X10_settleOunce_31 (tgt := 43) (by decide) (a := rz_3.toInt) rfl (fun c31_16 => ?_) (fun c31_16 => ?_)
    ·
      refine z_run X bg_X10_settleOunce_43_49 kg_X10_settleOunce_43_49 (lv' := [(6, .long 0), (4, .long rz_14), (3, .int rz_3), (2, .int rz_1), (0, .ref x), (1, .int pq)]) (st' := [.long 0, .long rz_14]) rfl ?_
      refine zl_lt X dg_X10_settleOunce_49 dg_X10_settleOunce_50 (tgt := 62) (by decide) (a := rz_14.toInt) (b := 0) rfl (show (0 : Int64).toInt = 0 from by decide) (fun c49_17 => ?_) (fun c49_17 => ?_)
      ·
        refine z_run X bg_X10_settleOunce_62_66 kg_X10_settleOunce_62_66 (lv' := [(6, .long 0), (4, .long rz_14), (3, .int rz_3), (2, .int rz_1), (0, .ref x), (1, .int pq)]) (st' := [.long 0, .long rz_14]) rfl ?_
        refine zl_gt X dg_X10_settleOunce_66 dg_X10_settleOunce_67 (tgt := 86) (by decide) (a := rz_14.toInt) (b := 0) rfl (show (0 : Int64).toInt = 0 from by decide) (fun c66_18 => ?_) (fun c66_18 => ?_)
        ·
          refine z_run X bg_X10_settleOunce_86_87 kg_X10_settleOunce_86_87 (lv' := [(6, .long 0), (4, .long rz_14), (3, .int rz_3), (2, .int rz_1), (0, .ref x), (1, .int pq)]) (st' := [.ref x]) rfl ?_
          refine z_get X fl_10_26 dg_X10_settleOunce_87 1 rfl (v := .ref ring) rfl ?_
          refine z_getN X fl_10_128 dg_X10_settleOunce_90 2 rfl (v := .ref rh) rfl ?_
          refine z_run X bg_X10_settleOunce_93_95 kg_X10_settleOunce_93_95 (lv' := [(6, .long 0), (4, .long rz_14), (3, .int rz_3), (2, .int rz_1), (0, .ref x), (1, .int pq)]) (st' := [.int rz_3, .ref rh, .int rz_3, .ref rh]) rfl ?_
          refine z_iald X dg_X10_settleOunce_95 6 rfl (vin rfl (by rcases f10_4 with ⟨z1, z2⟩ | ⟨z1, z2⟩; (exfalso; omega); omega) (by rcases f10_4 with ⟨z1, z2⟩ | ⟨z1, z2⟩; (exfalso; omega); (have z3 := (bO_ok z1).1; omega))) (v := (fh rz_3.toNatClampNeg)) rfl ?_
          refine z_run X bg_X10_settleOunce_96_98 kg_X10_settleOunce_96_98 (lv' := [(6, .long 0), (4, .long rz_14), (3, .int rz_3), (2, .int rz_1), (0, .ref x), (1, .int pq)]) (st' := [.int ((fh rz_3.toNatClampNeg) - 1), .int rz_3, .ref rh]) rfl ?_
          refine z_iast X dg_X10_settleOunce_98 6 rfl (vin rfl (by rcases f10_4 with ⟨z1, z2⟩ | ⟨z1, z2⟩; (exfalso; omega); omega) (by rcases f10_4 with ⟨z1, z2⟩ | ⟨z1, z2⟩; (exfalso; omega); (have z3 := (bO_ok z1).1; omega))) (ws' := [(rr, aI G 16 fr), (x, ob 10 [x_told, x_reader, .ref ring, x_speeds, x_wheel, x_trials, x_span, x_search, x_kept, x_crosses, x_trueMasses, .ref thought, x_up, x_low, x_fits, x_pulls]), (ring, ob 5 [.int hc, .ref rp, .ref rx, .ref ry, .ref rr, .ref rh, g_rd, .int ph, .int po]), (rp, aI G 16 fp), (rx, aI G 16 fx), (ry, aI G 16 fy), (rh, aI G 16 (upd fh rz_3.toNatClampNeg ((fh rz_3.toNatClampNeg) - 1))), (thought, aI G 8 ft)]) rfl ?_
          refine z_run X bg_X10_settleOunce_99_100 kg_X10_settleOunce_99_100 (lv' := [(6, .long 0), (4, .long rz_14), (3, .int rz_3), (2, .int rz_1), (0, .ref x), (1, .int pq)]) (st' := [.int 1]) rfl ?_
          refine Z.sub (lv' := []) [] rfl [1, 2, 3, 4, 5, 0, 6, 7] (ws' := [(x, ob 10 [x_told, x_reader, .ref ring, x_speeds, x_wheel, x_trials, x_span, x_search, x_kept, x_crosses, x_trueMasses, .ref thought, x_up, x_low, x_fits, x_pulls]), (ring, ob 5 [.int hc, .ref rp, .ref rx, .ref ry, .ref rr, .ref rh, g_rd, .int ph, .int po]), (rp, aI G 16 fp), (rx, aI G 16 fx), (ry, aI G 16 fy), (rr, aI G 16 fr), (rh, aI G 16 (upd fh rz_3.toNatClampNeg ((fh rz_3.toNatClampNeg) - 1))), (thought, aI G 8 ft)]) rfl (by decide) ?_
          exact z_zret X rfl rfl dg_X10_settleOunce_100 (Nat.le_of_ble_eq_true rfl) (Nat.le_of_ble_eq_true rfl) ⟨(1 : Int32), (upd fh rz_3.toNatClampNeg ((fh rz_3.toNatClampNeg) - 1)), (Or.inr ⟨((nx1_of (h := hci) (fp := fp) (fr := fr) (fx := fx) (fy := fy) (tx := tX ft pq) (ty := tY ft pq) (p := pi) (fh := fh) (f0 := rz_1.toInt) (f1 := rz_3.toInt) (v0 := rz_14.toInt) (v1 := (0 : Int)) (by rcases f3_2 with ⟨z1, z2⟩ | ⟨z1, z2⟩; (exact Or.inl ⟨z1, by omega⟩); (exact Or.inr ⟨z1, z2⟩)) (by rcases f10_4 with ⟨z1, z2⟩ | ⟨z1, z2⟩; (exact Or.inl ⟨z1, by omega⟩); (exact Or.inr ⟨z1, z2⟩)) (fun _ => by have hpq_ : fp rz_1.toNatClampNeg = pq := Int32.toInt_inj.mp (by rcases f3_2 with ⟨z1, z2⟩ | ⟨z1, z2⟩; (exfalso; omega); (have z3 := (bO_ok z1).2.1; rw [← z2] at z3; exact z3.trans hpq.symm)); rw [f21_15, hpq_, hux, huy]; exact hsb.chg rz_1.toInt.toNat (by rcases f3_2 with ⟨z1, z2⟩ | ⟨z1, z2⟩; (exfalso; omega); (have z3 := (bO_ok z1).1; omega))) (fun g => absurd g (by omega)) (fun g => absurd g (by omega)) (fun _ => rfl)).trans (if_neg (show ¬ (0 ≤ rz_14.toInt ∧ 0 ≤ (0 : Int)) by omega))).trans ((if_neg  (show ¬ rz_14.toInt ≤ (0 : Int) by omega)).trans rfl), rfl⟩), rfl, rfl⟩
        ·
          refine z_run X bg_X10_settleOunce_70_71 kg_X10_settleOunce_70_71 (lv' := [(6, .long 0), (4, .long rz_14), (3, .int rz_3), (2, .int rz_1), (0, .ref x), (1, .int pq)]) (st' := [.ref x]) rfl ?_
          refine z_get X fl_10_26 dg_X10_settleOunce_71 1 rfl (v := .ref ring) rfl ?_
          refine z_getN X fl_10_128 dg_X10_settleOunce_74 2 rfl (v := .ref rh) rfl ?_
          refine z_run X bg_X10_settleOunce_77_79 kg_X10_settleOunce_77_79 (lv' := [(6, .long 0), (4, .long rz_14), (3, .int rz_3), (2, .int rz_1), (0, .ref x), (1, .int pq)]) (st' := [.int rz_1, .ref rh, .int rz_1, .ref rh]) rfl ?_
          refine z_iald X dg_X10_settleOunce_79 6 rfl (vin rfl (by rcases f3_2 with ⟨z1, z2⟩ | ⟨z1, z2⟩; (exfalso; omega); omega) (by rcases f3_2 with ⟨z1, z2⟩ | ⟨z1, z2⟩; (exfalso; omega); (have z3 := (bO_ok z1).1; omega))) (v := (fh rz_1.toNatClampNeg)) rfl ?_
          refine z_run X bg_X10_settleOunce_80_82 kg_X10_settleOunce_80_82 (lv' := [(6, .long 0), (4, .long rz_14), (3, .int rz_3), (2, .int rz_1), (0, .ref x), (1, .int pq)]) (st' := [.int ((fh rz_1.toNatClampNeg) + 1), .int rz_1, .ref rh]) rfl ?_
          refine z_iast X dg_X10_settleOunce_82 6 rfl (vin rfl (by rcases f3_2 with ⟨z1, z2⟩ | ⟨z1, z2⟩; (exfalso; omega); omega) (by rcases f3_2 with ⟨z1, z2⟩ | ⟨z1, z2⟩; (exfalso; omega); (have z3 := (bO_ok z1).1; omega))) (ws' := [(rr, aI G 16 fr), (x, ob 10 [x_told, x_reader, .ref ring, x_speeds, x_wheel, x_trials, x_span, x_search, x_kept, x_crosses, x_trueMasses, .ref thought, x_up, x_low, x_fits, x_pulls]), (ring, ob 5 [.int hc, .ref rp, .ref rx, .ref ry, .ref rr, .ref rh, g_rd, .int ph, .int po]), (rp, aI G 16 fp), (rx, aI G 16 fx), (ry, aI G 16 fy), (rh, aI G 16 (upd fh rz_1.toNatClampNeg ((fh rz_1.toNatClampNeg) + 1))), (thought, aI G 8 ft)]) rfl ?_
          refine z_goto X dg_X10_settleOunce_83 (tgt := 99) (by decide) ?_
          refine z_run X bg_X10_settleOunce_99_100 kg_X10_settleOunce_99_100 (lv' := [(6, .long 0), (4, .long rz_14), (3, .int rz_3), (2, .int rz_1), (0, .ref x), (1, .int pq)]) (st' := [.int 1]) rfl ?_
          refine Z.sub (lv' := []) [] rfl [1, 2, 3, 4, 5, 0, 6, 7] (ws' := [(x, ob 10 [x_told, x_reader, .ref ring, x_speeds, x_wheel, x_trials, x_span, x_search, x_kept, x_crosses, x_trueMasses, .ref thought, x_up, x_low, x_fits, x_pulls]), (ring, ob 5 [.int hc, .ref rp, .ref rx, .ref ry, .ref rr, .ref rh, g_rd, .int ph, .int po]), (rp, aI G 16 fp), (rx, aI G 16 fx), (ry, aI G 16 fy), (rr, aI G 16 fr), (rh, aI G 16 (upd fh rz_1.toNatClampNeg ((fh rz_1.toNatClampNeg) + 1))), (thought, aI G 8 ft)]) rfl (by decide) ?_
          exact z_zret X rfl rfl dg_X10_settleOunce_100 (Nat.le_of_ble_eq_true rfl) (Nat.le_of_ble_eq_true rfl) ⟨(1 : Int32), (upd fh rz_1.toNatClampNeg ((fh rz_1.toNatClampNeg) + 1)), (Or.inr ⟨((nx1_of (h := hci) (fp := fp) (fr := fr) (fx := fx) (fy := fy) (tx := tX ft pq) (ty := tY ft pq) (p := pi) (fh := fh) (f0 := rz_1.toInt) (f1 := rz_3.toInt) (v0 := rz_14.toInt) (v1 := (0 : Int)) (by rcases f3_2 with ⟨z1, z2⟩ | ⟨z1, z2⟩; (exact Or.inl ⟨z1, by omega⟩); (exact Or.inr ⟨z1, z2⟩)) (by rcases f10_4 with ⟨z1, z2⟩ | ⟨z1, z2⟩; (exact Or.inl ⟨z1, by omega⟩); (exact Or.inr ⟨z1, z2⟩)) (fun _ => by have hpq_ : fp rz_1.toNatClampNeg = pq := Int32.toInt_inj.mp (by rcases f3_2 with ⟨z1, z2⟩ | ⟨z1, z2⟩; (exfalso; omega); (have z3 := (bO_ok z1).2.1; rw [← z2] at z3; exact z3.trans hpq.symm)); rw [f21_15, hpq_, hux, huy]; exact hsb.chg rz_1.toInt.toNat (by rcases f3_2 with ⟨z1, z2⟩ | ⟨z1, z2⟩; (exfalso; omega); (have z3 := (bO_ok z1).1; omega))) (fun g => absurd g (by omega)) (fun g => absurd g (by omega)) (fun _ => rfl)).trans (if_neg (show ¬ (0 ≤ rz_14.toInt ∧ 0 ≤ (0 : Int)) by omega))).trans ((if_pos  (show  rz_14.toInt ≤ (0 : Int) by omega)).trans rfl), rfl⟩), rfl, rfl⟩
      ·
        refine z_run X bg_X10_settleOunce_53_56 kg_X10_settleOunce_53_56 (lv' := [(6, .long 0), (4, .long rz_14), (3, .int rz_3), (2, .int rz_1), (0, .ref x), (1, .int pq)]) (st' := [.long 0, .long 0]) rfl ?_
        refine zl_lt X dg_X10_settleOunce_56 dg_X10_settleOunce_57 (tgt := 62) (by decide) (a := 0) (b := 0) (show (0 : Int64).toInt = 0 from by decide) (show (0 : Int64).toInt = 0 from by decide) (fun c56_19 => absurd c56_19 (by decide)) (fun _ => ?_)
        refine z_run X bg_X10_settleOunce_60_61 kg_X10_settleOunce_60_61 (lv' := [(6, .long 0), (4, .long rz_14), (3, .int rz_3), (2, .int rz_1), (0, .ref x), (1, .int pq)]) (st' := [.int 0]) rfl ?_
        refine Z.sub (lv' := []) [] rfl [1, 2, 3, 4, 5, 0, 6, 7] (ws' := [(x, ob 10 [x_told, x_reader, .ref ring, x_speeds, x_wheel, x_trials, x_span, x_search, x_kept, x_crosses, x_trueMasses, .ref thought, x_up, x_low, x_fits, x_pulls]), (ring, ob 5 [.int hc, .ref rp, .ref rx, .ref ry, .ref rr, .ref rh, g_rd, .int ph, .int po]), (rp, aI G 16 fp), (rx, aI G 16 fx), (ry, aI G 16 fy), (rr, aI G 16 fr), (rh, aI G 16 fh), (thought, aI G 8 ft)]) rfl (by decide) ?_
        exact z_zret X rfl rfl dg_X10_settleOunce_61 (Nat.le_of_ble_eq_true rfl) (Nat.le_of_ble_eq_true rfl) ⟨(0 : Int32), fh, (Or.inl ⟨(nx1_of (h := hci) (fp := fp) (fr := fr) (fx := fx) (fy := fy) (tx := tX ft pq) (ty := tY ft pq) (p := pi) (fh := fh) (f0 := rz_1.toInt) (f1 := rz_3.toInt) (v0 := rz_14.toInt) (v1 := (0 : Int)) (by rcases f3_2 with ⟨z1, z2⟩ | ⟨z1, z2⟩; (exact Or.inl ⟨z1, by omega⟩); (exact Or.inr ⟨z1, z2⟩)) (by rcases f10_4 with ⟨z1, z2⟩ | ⟨z1, z2⟩; (exact Or.inl ⟨z1, by omega⟩); (exact Or.inr ⟨z1, z2⟩)) (fun _ => by have hpq_ : fp rz_1.toNatClampNeg = pq := Int32.toInt_inj.mp (by rcases f3_2 with ⟨z1, z2⟩ | ⟨z1, z2⟩; (exfalso; omega); (have z3 := (bO_ok z1).2.1; rw [← z2] at z3; exact z3.trans hpq.symm)); rw [f21_15, hpq_, hux, huy]; exact hsb.chg rz_1.toInt.toNat (by rcases f3_2 with ⟨z1, z2⟩ | ⟨z1, z2⟩; (exfalso; omega); (have z3 := (bO_ok z1).1; omega))) (fun g => absurd g (by omega)) (fun g => absurd g (by omega)) (fun _ => rfl)).trans (if_pos (show 0 ≤ rz_14.toInt ∧ 0 ≤ (0 : Int) by omega)), rfl, rfl⟩), rfl, rfl⟩
    ·
      refine z_run X bg_X10_settleOunce_34_37 kg_X10_settleOunce_34_37 (lv' := [(4, .long rz_14), (3, .int rz_3), (2, .int rz_1), (0, .ref x), (1, .int pq)]) (st' := [.int 1, .int rz_3, .ref x]) rfl ?_
      refine z_callV X k_10_395 (cg_X10_changeByOunce l G x x_told x_reader ring x_speeds x_wheel x_trials x_span x_search x_kept x_crosses x_trueMasses thought x_up x_low x_fits x_pulls hc rp rx ry (.ref rr) rh g_rd ph po fp fx fy fh ft rz_3 1 hci rz_3.toInt 1 hhc rfl (show (1 : Int32).toInt = 1 from by decide) (by omega) (by rcases f10_4 with ⟨z1, z2⟩ | ⟨z1, z2⟩; (exfalso; omega); (have z3 := (bO_ok z1).1; omega)) hsb.hp) dg_X10_settleOunce_37 1 rfl rfl rfl ⟨Nat.le_of_ble_eq_true rfl, Nat.le_of_ble_eq_true rfl⟩ ⟨Nat.le_of_ble_eq_true rfl, Nat.le_of_ble_eq_true rfl⟩ rfl (rest := []) (As := [.int rz_3, .int 1]) rfl (Nat.le_of_ble_eq_true rfl) [1, 2, 3, 4, 5, 6, 7] [0] rfl (by decide) (wr := [(rr, aI G 16 fr)]) rfl (by decide) (by decide) ?_
      rintro _ _ ⟨rz_20, f37_21, rfl, rfl⟩
      refine Z.at (pc' := 40) (st' := [.long rz_20]) (ws' := [(rr, aI G 16 fr), (x, ob 10 [x_told, x_reader, .ref ring, x_speeds, x_wheel, x_trials, x_span, x_search, x_kept, x_crosses, x_trueMasses, .ref thought, x_up, x_low, x_fits, x_pulls]), (ring, ob 5 [.int hc, .ref rp, .ref rx, .ref ry, .ref rr, .ref rh, g_rd, .int ph, .int po]), (rp, aI G 16 fp), (rx, aI G 16 fx), (ry, aI G 16 fy), (rh, aI G 16 fh), (thought, aI G 8 ft)]) (kc' := 0) (ks' := 0) rfl rfl rfl rfl rfl ?_
      refine z_goto X dg_X10_settleOunce_40 (tgt := 44) (by decide) ?_
      refine z_run X bg_X10_settleOunce_44_49 kg_X10_settleOunce_44_49 (lv' := [(6, .long rz_20), (4, .long rz_14), (3, .int rz_3), (2, .int rz_1), (0, .ref x), (1, .int pq)]) (st' := [.long 0, .long rz_14]) rfl ?_
      refine zl_lt X dg_X10_settleOunce_49 dg_X10_settleOunce_50 (tgt := 62) (by decide) (a := rz_14.toInt) (b := 0) rfl (show (0 : Int64).toInt = 0 from by decide) (fun c49_22 => ?_) (fun c49_22 => ?_)
      ·
        refine z_run X bg_X10_settleOunce_62_66 kg_X10_settleOunce_62_66 (lv' := [(6, .long rz_20), (4, .long rz_14), (3, .int rz_3), (2, .int rz_1), (0, .ref x), (1, .int pq)]) (st' := [.long rz_20, .long rz_14]) rfl ?_
        refine zl_gt X dg_X10_settleOunce_66 dg_X10_settleOunce_67 (tgt := 86) (by decide) (a := rz_14.toInt) (b := rz_20.toInt) rfl rfl (fun c66_23 => ?_) (fun c66_23 => ?_)
        ·
          refine z_run X bg_X10_settleOunce_86_87 kg_X10_settleOunce_86_87 (lv' := [(6, .long rz_20), (4, .long rz_14), (3, .int rz_3), (2, .int rz_1), (0, .ref x), (1, .int pq)]) (st' := [.ref x]) rfl ?_
          refine z_get X fl_10_26 dg_X10_settleOunce_87 1 rfl (v := .ref ring) rfl ?_
          refine z_getN X fl_10_128 dg_X10_settleOunce_90 2 rfl (v := .ref rh) rfl ?_
          refine z_run X bg_X10_settleOunce_93_95 kg_X10_settleOunce_93_95 (lv' := [(6, .long rz_20), (4, .long rz_14), (3, .int rz_3), (2, .int rz_1), (0, .ref x), (1, .int pq)]) (st' := [.int rz_3, .ref rh, .int rz_3, .ref rh]) rfl ?_
          refine z_iald X dg_X10_settleOunce_95 6 rfl (vin rfl (by rcases f10_4 with ⟨z1, z2⟩ | ⟨z1, z2⟩; (exfalso; omega); omega) (by rcases f10_4 with ⟨z1, z2⟩ | ⟨z1, z2⟩; (exfalso; omega); (have z3 := (bO_ok z1).1; omega))) (v := (fh rz_3.toNatClampNeg)) rfl ?_
          refine z_run X bg_X10_settleOunce_96_98 kg_X10_settleOunce_96_98 (lv' := [(6, .long rz_20), (4, .long rz_14), (3, .int rz_3), (2, .int rz_1), (0, .ref x), (1, .int pq)]) (st' := [.int ((fh rz_3.toNatClampNeg) - 1), .int rz_3, .ref rh]) rfl ?_
          refine z_iast X dg_X10_settleOunce_98 6 rfl (vin rfl (by rcases f10_4 with ⟨z1, z2⟩ | ⟨z1, z2⟩; (exfalso; omega); omega) (by rcases f10_4 with ⟨z1, z2⟩ | ⟨z1, z2⟩; (exfalso; omega); (have z3 := (bO_ok z1).1; omega))) (ws' := [(rr, aI G 16 fr), (x, ob 10 [x_told, x_reader, .ref ring, x_speeds, x_wheel, x_trials, x_span, x_search, x_kept, x_crosses, x_trueMasses, .ref thought, x_up, x_low, x_fits, x_pulls]), (ring, ob 5 [.int hc, .ref rp, .ref rx, .ref ry, .ref rr, .ref rh, g_rd, .int ph, .int po]), (rp, aI G 16 fp), (rx, aI G 16 fx), (ry, aI G 16 fy), (rh, aI G 16 (upd fh rz_3.toNatClampNeg ((fh rz_3.toNatClampNeg) - 1))), (thought, aI G 8 ft)]) rfl ?_
          refine z_run X bg_X10_settleOunce_99_100 kg_X10_settleOunce_99_100 (lv' := [(6, .long rz_20), (4, .long rz_14), (3, .int rz_3), (2, .int rz_1), (0, .ref x), (1, .int pq)]) (st' := [.int 1]) rfl ?_
          refine Z.sub (lv' := []) [] rfl [1, 2, 3, 4, 5, 0, 6, 7] (ws' := [(x, ob 10 [x_told, x_reader, .ref ring, x_speeds, x_wheel, x_trials, x_span, x_search, x_kept, x_crosses, x_trueMasses, .ref thought, x_up, x_low, x_fits, x_pulls]), (ring, ob 5 [.int hc, .ref rp, .ref rx, .ref ry, .ref rr, .ref rh, g_rd, .int ph, .int po]), (rp, aI G 16 fp), (rx, aI G 16 fx), (ry, aI G 16 fy), (rr, aI G 16 fr), (rh, aI G 16 (upd fh rz_3.toNatClampNeg ((fh rz_3.toNatClampNeg) - 1))), (thought, aI G 8 ft)]) rfl (by decide) ?_
          exact z_zret X rfl rfl dg_X10_settleOunce_100 (Nat.le_of_ble_eq_true rfl) (Nat.le_of_ble_eq_true rfl) ⟨(1 : Int32), (upd fh rz_3.toNatClampNeg ((fh rz_3.toNatClampNeg) - 1)), (Or.inr ⟨((nx1_of (h := hci) (fp := fp) (fr := fr) (fx := fx) (fy := fy) (tx := tX ft pq) (ty := tY ft pq) (p := pi) (fh := fh) (f0 := rz_1.toInt) (f1 := rz_3.toInt) (v0 := rz_14.toInt) (v1 := rz_20.toInt) (by rcases f3_2 with ⟨z1, z2⟩ | ⟨z1, z2⟩; (exact Or.inl ⟨z1, by omega⟩); (exact Or.inr ⟨z1, z2⟩)) (by rcases f10_4 with ⟨z1, z2⟩ | ⟨z1, z2⟩; (exact Or.inl ⟨z1, by omega⟩); (exact Or.inr ⟨z1, z2⟩)) (fun _ => by have hpq_ : fp rz_1.toNatClampNeg = pq := Int32.toInt_inj.mp (by rcases f3_2 with ⟨z1, z2⟩ | ⟨z1, z2⟩; (exfalso; omega); (have z3 := (bO_ok z1).2.1; rw [← z2] at z3; exact z3.trans hpq.symm)); rw [f21_15, hpq_, hux, huy]; exact hsb.chg rz_1.toInt.toNat (by rcases f3_2 with ⟨z1, z2⟩ | ⟨z1, z2⟩; (exfalso; omega); (have z3 := (bO_ok z1).1; omega))) (fun g => absurd g (by omega)) (fun _ => by have hpq_ : fp rz_3.toNatClampNeg = pq := Int32.toInt_inj.mp (by rcases f10_4 with ⟨z1, z2⟩ | ⟨z1, z2⟩; (exfalso; omega); (have z3 := (bO_ok z1).2.1; rw [← z2] at z3; exact z3.trans hpq.symm)); rw [f37_21, hpq_, hux, huy]; exact hsb.chg rz_3.toInt.toNat (by rcases f10_4 with ⟨z1, z2⟩ | ⟨z1, z2⟩; (exfalso; omega); (have z3 := (bO_ok z1).1; omega))) (fun g => absurd g (by omega))).trans (if_neg (show ¬ (0 ≤ rz_14.toInt ∧ 0 ≤ rz_20.toInt) by omega))).trans ((if_neg  (show ¬ rz_14.toInt ≤ rz_20.toInt by omega)).trans rfl), rfl⟩), rfl, rfl⟩
        ·
          refine z_run X bg_X10_settleOunce_70_71 kg_X10_settleOunce_70_71 (lv' := [(6, .long rz_20), (4, .long rz_14), (3, .int rz_3), (2, .int rz_1), (0, .ref x), (1, .int pq)]) (st' := [.ref x]) rfl ?_
          refine z_get X fl_10_26 dg_X10_settleOunce_71 1 rfl (v := .ref ring) rfl ?_
          refine z_getN X fl_10_128 dg_X10_settleOunce_74 2 rfl (v := .ref rh) rfl ?_
          refine z_run X bg_X10_settleOunce_77_79 kg_X10_settleOunce_77_79 (lv' := [(6, .long rz_20), (4, .long rz_14), (3, .int rz_3), (2, .int rz_1), (0, .ref x), (1, .int pq)]) (st' := [.int rz_1, .ref rh, .int rz_1, .ref rh]) rfl ?_
          refine z_iald X dg_X10_settleOunce_79 6 rfl (vin rfl (by rcases f3_2 with ⟨z1, z2⟩ | ⟨z1, z2⟩; (exfalso; omega); omega) (by rcases f3_2 with ⟨z1, z2⟩ | ⟨z1, z2⟩; (exfalso; omega); (have z3 := (bO_ok z1).1; omega))) (v := (fh rz_1.toNatClampNeg)) rfl ?_
          refine z_run X bg_X10_settleOunce_80_82 kg_X10_settleOunce_80_82 (lv' := [(6, .long rz_20), (4, .long rz_14), (3, .int rz_3), (2, .int rz_1), (0, .ref x), (1, .int pq)]) (st' := [.int ((fh rz_1.toNatClampNeg) + 1), .int rz_1, .ref rh]) rfl ?_
          refine z_iast X dg_X10_settleOunce_82 6 rfl (vin rfl (by rcases f3_2 with ⟨z1, z2⟩ | ⟨z1, z2⟩; (exfalso; omega); omega) (by rcases f3_2 with ⟨z1, z2⟩ | ⟨z1, z2⟩; (exfalso; omega); (have z3 := (bO_ok z1).1; omega))) (ws' := [(rr, aI G 16 fr), (x, ob 10 [x_told, x_reader, .ref ring, x_speeds, x_wheel, x_trials, x_span, x_search, x_kept, x_crosses, x_trueMasses, .ref thought, x_up, x_low, x_fits, x_pulls]), (ring, ob 5 [.int hc, .ref rp, .ref rx, .ref ry, .ref rr, .ref rh, g_rd, .int ph, .int po]), (rp, aI G 16 fp), (rx, aI G 16 fx), (ry, aI G 16 fy), (rh, aI G 16 (upd fh rz_1.toNatClampNeg ((fh rz_1.toNatClampNeg) + 1))), (thought, aI G 8 ft)]) rfl ?_
          refine z_goto X dg_X10_settleOunce_83 (tgt := 99) (by decide) ?_
          refine z_run X bg_X10_settleOunce_99_100 kg_X10_settleOunce_99_100 (lv' := [(6, .long rz_20), (4, .long rz_14), (3, .int rz_3), (2, .int rz_1), (0, .ref x), (1, .int pq)]) (st' := [.int 1]) rfl ?_
          refine Z.sub (lv' := []) [] rfl [1, 2, 3, 4, 5, 0, 6, 7] (ws' := [(x, ob 10 [x_told, x_reader, .ref ring, x_speeds, x_wheel, x_trials, x_span, x_search, x_kept, x_crosses, x_trueMasses, .ref thought, x_up, x_low, x_fits, x_pulls]), (ring, ob 5 [.int hc, .ref rp, .ref rx, .ref ry, .ref rr, .ref rh, g_rd, .int ph, .int po]), (rp, aI G 16 fp), (rx, aI G 16 fx), (ry, aI G 16 fy), (rr, aI G 16 fr), (rh, aI G 16 (upd fh rz_1.toNatClampNeg ((fh rz_1.toNatClampNeg) + 1))), (thought, aI G 8 ft)]) rfl (by decide) ?_
          exact z_zret X rfl rfl dg_X10_settleOunce_100 (Nat.le_of_ble_eq_true rfl) (Nat.le_of_ble_eq_true rfl) ⟨(1 : Int32), (upd fh rz_1.toNatClampNeg ((fh rz_1.toNatClampNeg) + 1)), (Or.inr ⟨((nx1_of (h := hci) (fp := fp) (fr := fr) (fx := fx) (fy := fy) (tx := tX ft pq) (ty := tY ft pq) (p := pi) (fh := fh) (f0 := rz_1.toInt) (f1 := rz_3.toInt) (v0 := rz_14.toInt) (v1 := rz_20.toInt) (by rcases f3_2 with ⟨z1, z2⟩ | ⟨z1, z2⟩; (exact Or.inl ⟨z1, by omega⟩); (exact Or.inr ⟨z1, z2⟩)) (by rcases f10_4 with ⟨z1, z2⟩ | ⟨z1, z2⟩; (exact Or.inl ⟨z1, by omega⟩); (exact Or.inr ⟨z1, z2⟩)) (fun _ => by have hpq_ : fp rz_1.toNatClampNeg = pq := Int32.toInt_inj.mp (by rcases f3_2 with ⟨z1, z2⟩ | ⟨z1, z2⟩; (exfalso; omega); (have z3 := (bO_ok z1).2.1; rw [← z2] at z3; exact z3.trans hpq.symm)); rw [f21_15, hpq_, hux, huy]; exact hsb.chg rz_1.toInt.toNat (by rcases f3_2 with ⟨z1, z2⟩ | ⟨z1, z2⟩; (exfalso; omega); (have z3 := (bO_ok z1).1; omega))) (fun g => absurd g (by omega)) (fun _ => by have hpq_ : fp rz_3.toNatClampNeg = pq := Int32.toInt_inj.mp (by rcases f10_4 with ⟨z1, z2⟩ | ⟨z1, z2⟩; (exfalso; omega); (have z3 := (bO_ok z1).2.1; rw [← z2] at z3; exact z3.trans hpq.symm)); rw [f37_21, hpq_, hux, huy]; exact hsb.chg rz_3.toInt.toNat (by rcases f10_4 with ⟨z1, z2⟩ | ⟨z1, z2⟩; (exfalso; omega); (have z3 := (bO_ok z1).1; omega))) (fun g => absurd g (by omega))).trans (if_neg (show ¬ (0 ≤ rz_14.toInt ∧ 0 ≤ rz_20.toInt) by omega))).trans ((if_pos  (show  rz_14.toInt ≤ rz_20.toInt by omega)).trans rfl), rfl⟩), rfl, rfl⟩
      ·
        refine z_run X bg_X10_settleOunce_53_56 kg_X10_settleOunce_53_56 (lv' := [(6, .long rz_20), (4, .long rz_14), (3, .int rz_3), (2, .int rz_1), (0, .ref x), (1, .int pq)]) (st' := [.long 0, .long rz_20]) rfl ?_
        refine zl_lt X dg_X10_settleOunce_56 dg_X10_settleOunce_57 (tgt := 62) (by decide) (a := rz_20.toInt) (b := 0) rfl (show (0 : Int64).toInt = 0 from by decide) (fun c56_24 => ?_) (fun c56_24 => ?_)
        ·
          refine z_run X bg_X10_settleOunce_62_66 kg_X10_settleOunce_62_66 (lv' := [(6, .long rz_20), (4, .long rz_14), (3, .int rz_3), (2, .int rz_1), (0, .ref x), (1, .int pq)]) (st' := [.long rz_20, .long rz_14]) rfl ?_
          refine zl_gt X dg_X10_settleOunce_66 dg_X10_settleOunce_67 (tgt := 86) (by decide) (a := rz_14.toInt) (b := rz_20.toInt) rfl rfl (fun c66_25 => ?_) (fun c66_25 => ?_)
          ·
            refine z_run X bg_X10_settleOunce_86_87 kg_X10_settleOunce_86_87 (lv' := [(6, .long rz_20), (4, .long rz_14), (3, .int rz_3), (2, .int rz_1), (0, .ref x), (1, .int pq)]) (st' := [.ref x]) rfl ?_
            refine z_get X fl_10_26 dg_X10_settleOunce_87 1 rfl (v := .ref ring) rfl ?_
            refine z_getN X fl_10_128 dg_X10_settleOunce_90 2 rfl (v := .ref rh) rfl ?_
            refine z_run X bg_X10_settleOunce_93_95 kg_X10_settleOunce_93_95 (lv' := [(6, .long rz_20), (4, .long rz_14), (3, .int rz_3), (2, .int rz_1), (0, .ref x), (1, .int pq)]) (st' := [.int rz_3, .ref rh, .int rz_3, .ref rh]) rfl ?_
            refine z_iald X dg_X10_settleOunce_95 6 rfl (vin rfl (by rcases f10_4 with ⟨z1, z2⟩ | ⟨z1, z2⟩; (exfalso; omega); omega) (by rcases f10_4 with ⟨z1, z2⟩ | ⟨z1, z2⟩; (exfalso; omega); (have z3 := (bO_ok z1).1; omega))) (v := (fh rz_3.toNatClampNeg)) rfl ?_
            refine z_run X bg_X10_settleOunce_96_98 kg_X10_settleOunce_96_98 (lv' := [(6, .long rz_20), (4, .long rz_14), (3, .int rz_3), (2, .int rz_1), (0, .ref x), (1, .int pq)]) (st' := [.int ((fh rz_3.toNatClampNeg) - 1), .int rz_3, .ref rh]) rfl ?_
            refine z_iast X dg_X10_settleOunce_98 6 rfl (vin rfl (by rcases f10_4 with ⟨z1, z2⟩ | ⟨z1, z2⟩; (exfalso; omega); omega) (by rcases f10_4 with ⟨z1, z2⟩ | ⟨z1, z2⟩; (exfalso; omega); (have z3 := (bO_ok z1).1; omega))) (ws' := [(rr, aI G 16 fr), (x, ob 10 [x_told, x_reader, .ref ring, x_speeds, x_wheel, x_trials, x_span, x_search, x_kept, x_crosses, x_trueMasses, .ref thought, x_up, x_low, x_fits, x_pulls]), (ring, ob 5 [.int hc, .ref rp, .ref rx, .ref ry, .ref rr, .ref rh, g_rd, .int ph, .int po]), (rp, aI G 16 fp), (rx, aI G 16 fx), (ry, aI G 16 fy), (rh, aI G 16 (upd fh rz_3.toNatClampNeg ((fh rz_3.toNatClampNeg) - 1))), (thought, aI G 8 ft)]) rfl ?_
            refine z_run X bg_X10_settleOunce_99_100 kg_X10_settleOunce_99_100 (lv' := [(6, .long rz_20), (4, .long rz_14), (3, .int rz_3), (2, .int rz_1), (0, .ref x), (1, .int pq)]) (st' := [.int 1]) rfl ?_
            refine Z.sub (lv' := []) [] rfl [1, 2, 3, 4, 5, 0, 6, 7] (ws' := [(x, ob 10 [x_told, x_reader, .ref ring, x_speeds, x_wheel, x_trials, x_span, x_search, x_kept, x_crosses, x_trueMasses, .ref thought, x_up, x_low, x_fits, x_pulls]), (ring, ob 5 [.int hc, .ref rp, .ref rx, .ref ry, .ref rr, .ref rh, g_rd, .int ph, .int po]), (rp, aI G 16 fp), (rx, aI G 16 fx), (ry, aI G 16 fy), (rr, aI G 16 fr), (rh, aI G 16 (upd fh rz_3.toNatClampNeg ((fh rz_3.toNatClampNeg) - 1))), (thought, aI G 8 ft)]) rfl (by decide) ?_
            exact z_zret X rfl rfl dg_X10_settleOunce_100 (Nat.le_of_ble_eq_true rfl) (Nat.le_of_ble_eq_true rfl) ⟨(1 : Int32), (upd fh rz_3.toNatClampNeg ((fh rz_3.toNatClampNeg) - 1)), (Or.inr ⟨((nx1_of (h := hci) (fp := fp) (fr := fr) (fx := fx) (fy := fy) (tx := tX ft pq) (ty := tY ft pq) (p := pi) (fh := fh) (f0 := rz_1.toInt) (f1 := rz_3.toInt) (v0 := rz_14.toInt) (v1 := rz_20.toInt) (by rcases f3_2 with ⟨z1, z2⟩ | ⟨z1, z2⟩; (exact Or.inl ⟨z1, by omega⟩); (exact Or.inr ⟨z1, z2⟩)) (by rcases f10_4 with ⟨z1, z2⟩ | ⟨z1, z2⟩; (exact Or.inl ⟨z1, by omega⟩); (exact Or.inr ⟨z1, z2⟩)) (fun _ => by have hpq_ : fp rz_1.toNatClampNeg = pq := Int32.toInt_inj.mp (by rcases f3_2 with ⟨z1, z2⟩ | ⟨z1, z2⟩; (exfalso; omega); (have z3 := (bO_ok z1).2.1; rw [← z2] at z3; exact z3.trans hpq.symm)); rw [f21_15, hpq_, hux, huy]; exact hsb.chg rz_1.toInt.toNat (by rcases f3_2 with ⟨z1, z2⟩ | ⟨z1, z2⟩; (exfalso; omega); (have z3 := (bO_ok z1).1; omega))) (fun g => absurd g (by omega)) (fun _ => by have hpq_ : fp rz_3.toNatClampNeg = pq := Int32.toInt_inj.mp (by rcases f10_4 with ⟨z1, z2⟩ | ⟨z1, z2⟩; (exfalso; omega); (have z3 := (bO_ok z1).2.1; rw [← z2] at z3; exact z3.trans hpq.symm)); rw [f37_21, hpq_, hux, huy]; exact hsb.chg rz_3.toInt.toNat (by rcases f10_4 with ⟨z1, z2⟩ | ⟨z1, z2⟩; (exfalso; omega); (have z3 := (bO_ok z1).1; omega))) (fun g => absurd g (by omega))).trans (if_neg (show ¬ (0 ≤ rz_14.toInt ∧ 0 ≤ rz_20.toInt) by omega))).trans ((if_neg  (show ¬ rz_14.toInt ≤ rz_20.toInt by omega)).trans rfl), rfl⟩), rfl, rfl⟩
          ·
            refine z_run X bg_X10_settleOunce_70_71 kg_X10_settleOunce_70_71 (lv' := [(6, .long rz_20), (4, .long rz_14), (3, .int rz_3), (2, .int rz_1), (0, .ref x), (1, .int pq)]) (st' := [.ref x]) rfl ?_
            refine z_get X fl_10_26 dg_X10_settleOunce_71 1 rfl (v := .ref ring) rfl ?_
            refine z_getN X fl_10_128 dg_X10_settleOunce_74 2 rfl (v := .ref rh) rfl ?_
            refine z_run X bg_X10_settleOunce_77_79 kg_X10_settleOunce_77_79 (lv' := [(6, .long rz_20), (4, .long rz_14), (3, .int rz_3), (2, .int rz_1), (0, .ref x), (1, .int pq)]) (st' := [.int rz_1, .ref rh, .int rz_1, .ref rh]) rfl ?_
            refine z_iald X dg_X10_settleOunce_79 6 rfl (vin rfl (by rcases f3_2 with ⟨z1, z2⟩ | ⟨z1, z2⟩; (exfalso; omega); omega) (by rcases f3_2 with ⟨z1, z2⟩ | ⟨z1, z2⟩; (exfalso; omega); (have z3 := (bO_ok z1).1; omega))) (v := (fh rz_1.toNatClampNeg)) rfl ?_
            refine z_run X bg_X10_settleOunce_80_82 kg_X10_settleOunce_80_82 (lv' := [(6, .long rz_20), (4, .long rz_14), (3, .int rz_3), (2, .int rz_1), (0, .ref x), (1, .int pq)]) (st' := [.int ((fh rz_1.toNatClampNeg) + 1), .int rz_1, .ref rh]) rfl ?_
            refine z_iast X dg_X10_settleOunce_82 6 rfl (vin rfl (by rcases f3_2 with ⟨z1, z2⟩ | ⟨z1, z2⟩; (exfalso; omega); omega) (by rcases f3_2 with ⟨z1, z2⟩ | ⟨z1, z2⟩; (exfalso; omega); (have z3 := (bO_ok z1).1; omega))) (ws' := [(rr, aI G 16 fr), (x, ob 10 [x_told, x_reader, .ref ring, x_speeds, x_wheel, x_trials, x_span, x_search, x_kept, x_crosses, x_trueMasses, .ref thought, x_up, x_low, x_fits, x_pulls]), (ring, ob 5 [.int hc, .ref rp, .ref rx, .ref ry, .ref rr, .ref rh, g_rd, .int ph, .int po]), (rp, aI G 16 fp), (rx, aI G 16 fx), (ry, aI G 16 fy), (rh, aI G 16 (upd fh rz_1.toNatClampNeg ((fh rz_1.toNatClampNeg) + 1))), (thought, aI G 8 ft)]) rfl ?_
            refine z_goto X dg_X10_settleOunce_83 (tgt := 99) (by decide) ?_
            refine z_run X bg_X10_settleOunce_99_100 kg_X10_settleOunce_99_100 (lv' := [(6, .long rz_20), (4, .long rz_14), (3, .int rz_3), (2, .int rz_1), (0, .ref x), (1, .int pq)]) (st' := [.int 1]) rfl ?_
            refine Z.sub (lv' := []) [] rfl [1, 2, 3, 4, 5, 0, 6, 7] (ws' := [(x, ob 10 [x_told, x_reader, .ref ring, x_speeds, x_wheel, x_trials, x_span, x_search, x_kept, x_crosses, x_trueMasses, .ref thought, x_up, x_low, x_fits, x_pulls]), (ring, ob 5 [.int hc, .ref rp, .ref rx, .ref ry, .ref rr, .ref rh, g_rd, .int ph, .int po]), (rp, aI G 16 fp), (rx, aI G 16 fx), (ry, aI G 16 fy), (rr, aI G 16 fr), (rh, aI G 16 (upd fh rz_1.toNatClampNeg ((fh rz_1.toNatClampNeg) + 1))), (thought, aI G 8 ft)]) rfl (by decide) ?_
            exact z_zret X rfl rfl dg_X10_settleOunce_100 (Nat.le_of_ble_eq_true rfl) (Nat.le_of_ble_eq_true rfl) ⟨(1 : Int32), (upd fh rz_1.toNatClampNeg ((fh rz_1.toNatClampNeg) + 1)), (Or.inr ⟨((nx1_of (h := hci) (fp := fp) (fr := fr) (fx := fx) (fy := fy) (tx := tX ft pq) (ty := tY ft pq) (p := pi) (fh := fh) (f0 := rz_1.toInt) (f1 := rz_3.toInt) (v0 := rz_14.toInt) (v1 := rz_20.toInt) (by rcases f3_2 with ⟨z1, z2⟩ | ⟨z1, z2⟩; (exact Or.inl ⟨z1, by omega⟩); (exact Or.inr ⟨z1, z2⟩)) (by rcases f10_4 with ⟨z1, z2⟩ | ⟨z1, z2⟩; (exact Or.inl ⟨z1, by omega⟩); (exact Or.inr ⟨z1, z2⟩)) (fun _ => by have hpq_ : fp rz_1.toNatClampNeg = pq := Int32.toInt_inj.mp (by rcases f3_2 with ⟨z1, z2⟩ | ⟨z1, z2⟩; (exfalso; omega); (have z3 := (bO_ok z1).2.1; rw [← z2] at z3; exact z3.trans hpq.symm)); rw [f21_15, hpq_, hux, huy]; exact hsb.chg rz_1.toInt.toNat (by rcases f3_2 with ⟨z1, z2⟩ | ⟨z1, z2⟩; (exfalso; omega); (have z3 := (bO_ok z1).1; omega))) (fun g => absurd g (by omega)) (fun _ => by have hpq_ : fp rz_3.toNatClampNeg = pq := Int32.toInt_inj.mp (by rcases f10_4 with ⟨z1, z2⟩ | ⟨z1, z2⟩; (exfalso; omega); (have z3 := (bO_ok z1).2.1; rw [← z2] at z3; exact z3.trans hpq.symm)); rw [f37_21, hpq_, hux, huy]; exact hsb.chg rz_3.toInt.toNat (by rcases f10_4 with ⟨z1, z2⟩ | ⟨z1, z2⟩; (exfalso; omega); (have z3 := (bO_ok z1).1; omega))) (fun g => absurd g (by omega))).trans (if_neg (show ¬ (0 ≤ rz_14.toInt ∧ 0 ≤ rz_20.toInt) by omega))).trans ((if_pos  (show  rz_14.toInt ≤ rz_20.toInt by omega)).trans rfl), rfl⟩), rfl, rfl⟩
        ·
          refine z_run X bg_X10_settleOunce_60_61 kg_X10_settleOunce_60_61 (lv' := [(6, .long rz_20), (4, .long rz_14), (3, .int rz_3), (2, .int rz_1), (0, .ref x), (1, .int pq)]) (st' := [.int 0]) rfl ?_
          refine Z.sub (lv' := []) [] rfl [1, 2, 3, 4, 5, 0, 6, 7] (ws' := [(x, ob 10 [x_told, x_reader, .ref ring, x_speeds, x_wheel, x_trials, x_span, x_search, x_kept, x_crosses, x_trueMasses, .ref thought, x_up, x_low, x_fits, x_pulls]), (ring, ob 5 [.int hc, .ref rp, .ref rx, .ref ry, .ref rr, .ref rh, g_rd, .int ph, .int po]), (rp, aI G 16 fp), (rx, aI G 16 fx), (ry, aI G 16 fy), (rr, aI G 16 fr), (rh, aI G 16 fh), (thought, aI G 8 ft)]) rfl (by decide) ?_
          exact z_zret X rfl rfl dg_X10_settleOunce_61 (Nat.le_of_ble_eq_true rfl) (Nat.le_of_ble_eq_true rfl) ⟨(0 : Int32), fh, (Or.inl ⟨(nx1_of (h := hci) (fp := fp) (fr := fr) (fx := fx) (fy := fy) (tx := tX ft pq) (ty := tY ft pq) (p := pi) (fh := fh) (f0 := rz_1.toInt) (f1 := rz_3.toInt) (v0 := rz_14.toInt) (v1 := rz_20.toInt) (by rcases f3_2 with ⟨z1, z2⟩ | ⟨z1, z2⟩; (exact Or.inl ⟨z1, by omega⟩); (exact Or.inr ⟨z1, z2⟩)) (by rcases f10_4 with ⟨z1, z2⟩ | ⟨z1, z2⟩; (exact Or.inl ⟨z1, by omega⟩); (exact Or.inr ⟨z1, z2⟩)) (fun _ => by have hpq_ : fp rz_1.toNatClampNeg = pq := Int32.toInt_inj.mp (by rcases f3_2 with ⟨z1, z2⟩ | ⟨z1, z2⟩; (exfalso; omega); (have z3 := (bO_ok z1).2.1; rw [← z2] at z3; exact z3.trans hpq.symm)); rw [f21_15, hpq_, hux, huy]; exact hsb.chg rz_1.toInt.toNat (by rcases f3_2 with ⟨z1, z2⟩ | ⟨z1, z2⟩; (exfalso; omega); (have z3 := (bO_ok z1).1; omega))) (fun g => absurd g (by omega)) (fun _ => by have hpq_ : fp rz_3.toNatClampNeg = pq := Int32.toInt_inj.mp (by rcases f10_4 with ⟨z1, z2⟩ | ⟨z1, z2⟩; (exfalso; omega); (have z3 := (bO_ok z1).2.1; rw [← z2] at z3; exact z3.trans hpq.symm)); rw [f37_21, hpq_, hux, huy]; exact hsb.chg rz_3.toInt.toNat (by rcases f10_4 with ⟨z1, z2⟩ | ⟨z1, z2⟩; (exfalso; omega); (have z3 := (bO_ok z1).1; omega))) (fun g => absurd g (by omega))).trans (if_pos (show 0 ≤ rz_14.toInt ∧ 0 ≤ rz_20.toInt by omega)), rfl, rfl⟩), rfl, rfl⟩

theorem dg_X10_isOneOfTwo_1 : decode cX10_isOneOfTwo 1 = .ok (.ifCond .eq 8, 3) := by decide +kernel
theorem dg_X10_isOneOfTwo_10 : decode cX10_isOneOfTwo 10 = .ok (.goto 4, 3) := by decide +kernel
theorem dg_X10_isOneOfTwo_14 : decode cX10_isOneOfTwo 14 = .ok (.ireturn, 1) := by decide +kernel
theorem dg_X10_isOneOfTwo_6 : decode cX10_isOneOfTwo 6 = .ok (.if_icmp .ne 7, 3) := by decide +kernel
abbrev bg_X10_isOneOfTwo_0_1 : ZB := [(.iload_n 0, .null)]
theorem kg_X10_isOneOfTwo_0_1 : zchk cX10_isOneOfTwo bg_X10_isOneOfTwo_0_1 0 = true ∧ zpc bg_X10_isOneOfTwo_0_1 0 = 1 := ⟨by decide +kernel, rfl⟩
abbrev bg_X10_isOneOfTwo_9_10 : ZB := [(.iconst 1, .int 1)]
theorem kg_X10_isOneOfTwo_9_10 : zchk cX10_isOneOfTwo bg_X10_isOneOfTwo_9_10 9 = true ∧ zpc bg_X10_isOneOfTwo_9_10 9 = 10 := ⟨by decide +kernel, rfl⟩
abbrev bg_X10_isOneOfTwo_4_6 : ZB := [(.iload_n 0, .null), (.iconst 1, .int 1)]
theorem kg_X10_isOneOfTwo_4_6 : zchk cX10_isOneOfTwo bg_X10_isOneOfTwo_4_6 4 = true ∧ zpc bg_X10_isOneOfTwo_4_6 4 = 6 := ⟨by decide +kernel, rfl⟩
abbrev bg_X10_isOneOfTwo_13_14 : ZB := [(.iconst 0, .int 0)]
theorem kg_X10_isOneOfTwo_13_14 : zchk cX10_isOneOfTwo bg_X10_isOneOfTwo_13_14 13 = true ∧ zpc bg_X10_isOneOfTwo_13_14 13 = 14 := ⟨by decide +kernel, rfl⟩
set_option maxHeartbeats 4000000 in
set_option maxRecDepth 100000 in
theorem cg_X10_isOneOfTwo (l : Launch) (G : KG) (a : Int32) (ai : Int) (ha : a.toInt = ai) : Ct l G yX10_isOneOfTwo cX10_isOneOfTwo 1 (some .boolean) { frames := 0, cells := 0, slots := 0, locals := 0 } [.int a] [] (fun r w1 => r = some (.int (zb (decide (0 ≤ ai ∧ ai ≤ 1)))) ∧ w1 = []) := by
  refine ct_of [(0, .int a)] (by decide) (Nat.le_of_ble_eq_true rfl) rfl ?_
  intro p0 e0 s0 m0 args0 below0 meth0 c0 A X
  refine z_run X bg_X10_isOneOfTwo_0_1 kg_X10_isOneOfTwo_0_1 (lv' := [(0, .int a)]) (st' := [.int a]) rfl ?_
  refine zi_eq X dg_X10_isOneOfTwo_1 (tgt := 9) (by decide) (a := ai) ha (fun c1_1 => ?_) (fun c1_1 => ?_)
  ·
    refine z_run X bg_X10_isOneOfTwo_9_10 kg_X10_isOneOfTwo_9_10 (lv' := [(0, .int a)]) (st' := [.int 1]) rfl ?_
    refine z_goto X dg_X10_isOneOfTwo_10 (tgt := 14) (by decide) ?_
    exact z_zret X rfl rfl dg_X10_isOneOfTwo_14 (Nat.le_of_ble_eq_true rfl) (Nat.le_of_ble_eq_true rfl) ⟨(congrArg (fun z => some (Value.int z)) (zb_t (by omega)).symm), rfl⟩
  ·
    refine z_run X bg_X10_isOneOfTwo_4_6 kg_X10_isOneOfTwo_4_6 (lv' := [(0, .int a)]) (st' := [.int 1, .int a]) rfl ?_
    refine zc_ne X dg_X10_isOneOfTwo_6 (tgt := 13) (by decide) (a := ai) (b := 1) ha (show (1 : Int32).toInt = 1 from by decide) (fun c6_2 => ?_) (fun c6_2 => ?_)
    ·
      refine z_run X bg_X10_isOneOfTwo_13_14 kg_X10_isOneOfTwo_13_14 (lv' := [(0, .int a)]) (st' := [.int 0]) rfl ?_
      exact z_zret X rfl rfl dg_X10_isOneOfTwo_14 (Nat.le_of_ble_eq_true rfl) (Nat.le_of_ble_eq_true rfl) ⟨(congrArg (fun z => some (Value.int z)) (zb_f (by omega)).symm), rfl⟩
    ·
      refine z_run X bg_X10_isOneOfTwo_9_10 kg_X10_isOneOfTwo_9_10 (lv' := [(0, .int a)]) (st' := [.int 1]) rfl ?_
      refine z_goto X dg_X10_isOneOfTwo_10 (tgt := 14) (by decide) ?_
      exact z_zret X rfl rfl dg_X10_isOneOfTwo_14 (Nat.le_of_ble_eq_true rfl) (Nat.le_of_ble_eq_true rfl) ⟨(congrArg (fun z => some (Value.int z)) (zb_t (by omega)).symm), rfl⟩

theorem dg_X10_settle_1 : decode cX10_settle 1 = .ok (.invokestatic 156, 3) := by decide +kernel
theorem dg_X10_settle_4 : decode cX10_settle 4 = .ok (.ifCond .ne 5, 3) := by decide +kernel
theorem dg_X10_settle_15 : decode cX10_settle 15 = .ok (.if_icmp .ge 17, 3) := by decide +kernel
theorem dg_X10_settle_33 : decode cX10_settle 33 = .ok (.ireturn, 1) := by decide +kernel
theorem dg_X10_settle_20 : decode cX10_settle 20 = .ok (.invokevirtual 398, 3) := by decide +kernel
theorem dg_X10_settle_23 : decode cX10_settle 23 = .ok (.ifCond .eq 9, 3) := by decide +kernel
theorem dg_X10_settle_29 : decode cX10_settle 29 = .ok (.goto (-18), 3) := by decide +kernel
theorem dg_X10_settle_8 : decode cX10_settle 8 = .ok (.ireturn, 1) := by decide +kernel
abbrev bg_X10_settle_0_1 : ZB := [(.iload_n 1, .null)]
theorem kg_X10_settle_0_1 : zchk cX10_settle bg_X10_settle_0_1 0 = true ∧ zpc bg_X10_settle_0_1 0 = 1 := ⟨by decide +kernel, rfl⟩
abbrev bg_X10_settle_9_11 : ZB := [(.iconst 0, .int 0), (.istore_n 2, .null)]
theorem kg_X10_settle_9_11 : zchk cX10_settle bg_X10_settle_9_11 9 = true ∧ zpc bg_X10_settle_9_11 9 = 11 := ⟨by decide +kernel, rfl⟩
abbrev bg_X10_settle_11_15 : ZB := [(.iload_n 2, .null), (.sipush 200, .int 200)]
theorem kg_X10_settle_11_15 : zchk cX10_settle bg_X10_settle_11_15 11 = true ∧ zpc bg_X10_settle_11_15 11 = 15 := ⟨by decide +kernel, rfl⟩
abbrev bg_X10_settle_32_33 : ZB := [(.iload_n 2, .null)]
theorem kg_X10_settle_32_33 : zchk cX10_settle bg_X10_settle_32_33 32 = true ∧ zpc bg_X10_settle_32_33 32 = 33 := ⟨by decide +kernel, rfl⟩
abbrev bg_X10_settle_18_20 : ZB := [(.aload_n 0, .null), (.iload_n 1, .null)]
theorem kg_X10_settle_18_20 : zchk cX10_settle bg_X10_settle_18_20 18 = true ∧ zpc bg_X10_settle_18_20 18 = 20 := ⟨by decide +kernel, rfl⟩
abbrev bg_X10_settle_26_29 : ZB := [(.iinc 2 1, .int 1)]
theorem kg_X10_settle_26_29 : zchk cX10_settle bg_X10_settle_26_29 26 = true ∧ zpc bg_X10_settle_26_29 26 = 29 := ⟨by decide +kernel, rfl⟩
abbrev bg_X10_settle_7_8 : ZB := [(.iconst (-1), .int (-1))]
theorem kg_X10_settle_7_8 : zchk cX10_settle bg_X10_settle_7_8 7 = true ∧ zpc bg_X10_settle_7_8 7 = 8 := ⟨by decide +kernel, rfl⟩
set_option maxHeartbeats 4000000 in
set_option maxRecDepth 100000 in
theorem cg_X10_settle (l : Launch) (G : KG) (x : Nat) (x_told : Value) (x_reader : Value) (ring : Nat) (x_speeds : Value) (x_wheel : Value) (x_trials : Value) (x_span : Value) (x_search : Value) (x_kept : Value) (x_crosses : Value) (x_trueMasses : Value) (thought : Nat) (x_up : Value) (x_low : Value) (x_fits : Value) (x_pulls : Value) (hc : Int32) (rp : Nat) (rx : Nat) (ry : Nat) (rr : Nat) (rh : Nat) (g_rd : Value) (ph : Int32) (po : Int32) (fp : Nat → Int32) (fx : Nat → Int32) (fy : Nat → Int32) (fr : Nat → Int32) (fh : Nat → Int32) (ft : Nat → Int32) (pq : Int32) (hci : Int) (pi : Int) (hhc : hc.toInt = hci) (hpq : pq.toInt = pi) (hc0 : 0 ≤ hci ∧ hci ≤ 16) (hsb : 0 ≤ pi ∧ pi ≤ 1 → SB hci fp fh fr fx fy (tX ft pq) (tY ft pq)) : Ct l G yX10_settle cX10_settle 3 (some .int) { frames := 5, cells := 0, slots := 0, locals := 129 } [.ref x, .int pq] [(x, ob 10 [x_told, x_reader, .ref ring, x_speeds, x_wheel, x_trials, x_span, x_search, x_kept, x_crosses, x_trueMasses, .ref thought, x_up, x_low, x_fits, x_pulls]), (ring, ob 5 [.int hc, .ref rp, .ref rx, .ref ry, .ref rr, .ref rh, g_rd, .int ph, .int po]), (rp, aI G 16 fp), (rx, aI G 16 fx), (ry, aI G 16 fy), (rr, aI G 16 fr), (rh, aI G 16 fh), (thought, aI G 8 ft)] (fun r w1 => ∃ (rz : Int32), ∃ (fh2 : Nat → Int32), ((¬ (0 ≤ pi ∧ pi ≤ 1) ∧ rz = -1 ∧ fh2 = fh) ∨ ((0 ≤ pi ∧ pi ≤ 1) ∧ (0 ≤ rz.toInt ∧ rz.toInt ≤ 200) ∧ itr (nx1 hci fp fr fx fy (tX ft pq) (tY ft pq) pi) fh rz.toInt.toNat = some fh2 ∧ (rz.toInt.toNat = 200 ∨ (nx1 hci fp fr fx fy (tX ft pq) (tY ft pq) pi) fh2 = none))) ∧ r = some (.int rz) ∧ w1 = [(x, ob 10 [x_told, x_reader, .ref ring, x_speeds, x_wheel, x_trials, x_span, x_search, x_kept, x_crosses, x_trueMasses, .ref thought, x_up, x_low, x_fits, x_pulls]), (ring, ob 5 [.int hc, .ref rp, .ref rx, .ref ry, .ref rr, .ref rh, g_rd, .int ph, .int po]), (rp, aI G 16 fp), (rx, aI G 16 fx), (ry, aI G 16 fy), (rr, aI G 16 fr), (rh, aI G 16 fh2), (thought, aI G 8 ft)]) := by
  refine ct_of [(0, .ref x), (1, .int pq)] (by decide) (Nat.le_of_ble_eq_true rfl) rfl ?_
  intro p0 e0 s0 m0 args0 below0 meth0 c0 A X
  refine z_run X bg_X10_settle_0_1 kg_X10_settle_0_1 (lv' := [(0, .ref x), (1, .int pq)]) (st' := [.int pq]) rfl ?_
  refine z_callS X k_10_156 (cg_X10_isOneOfTwo l G pq pi hpq) dg_X10_settle_1 ⟨Nat.le_of_ble_eq_true rfl, Nat.le_of_ble_eq_true rfl⟩ ⟨Nat.le_of_ble_eq_true rfl, Nat.le_of_ble_eq_true rfl⟩ rfl (rest := []) (As := [.int pq]) rfl (Nat.le_of_ble_eq_true rfl) [] [0, 1, 2, 3, 4, 5, 6, 7] rfl (by decide) (wr := [(x, ob 10 [x_told, x_reader, .ref ring, x_speeds, x_wheel, x_trials, x_span, x_search, x_kept, x_crosses, x_trueMasses, .ref thought, x_up, x_low, x_fits, x_pulls]), (ring, ob 5 [.int hc, .ref rp, .ref rx, .ref ry, .ref rr, .ref rh, g_rd, .int ph, .int po]), (rp, aI G 16 fp), (rx, aI G 16 fx), (ry, aI G 16 fy), (rr, aI G 16 fr), (rh, aI G 16 fh), (thought, aI G 8 ft)]) rfl (by decide) (by decide) ?_
  rintro _ _ ⟨rfl, rfl⟩
  refine Z.at (pc' := 4) (st' := [.int (zb (decide (0 ≤ pi ∧ pi ≤ 1)))]) (ws' := [(x, ob 10 [x_told, x_reader, .ref ring, x_speeds, x_wheel, x_trials, x_span, x_search, x_kept, x_crosses, x_trueMasses, .ref thought, x_up, x_low, x_fits, x_pulls]), (ring, ob 5 [.int hc, .ref rp, .ref rx, .ref ry, .ref rr, .ref rh, g_rd, .int ph, .int po]), (rp, aI G 16 fp), (rx, aI G 16 fx), (ry, aI G 16 fy), (rr, aI G 16 fr), (rh, aI G 16 fh), (thought, aI G 8 ft)]) (kc' := 0) (ks' := 0) rfl rfl rfl rfl rfl ?_
  refine zi_ne_zb X dg_X10_settle_4 (tgt := 9) (by decide) (fun c4_1 => ?_) (fun c4_1 => ?_)
  ·
    refine z_run X bg_X10_settle_9_11 kg_X10_settle_9_11 (lv' := [(2, .int 0), (0, .ref x), (1, .int pq)]) (st' := []) rfl ?_
    refine zloop (σ := Int32 × (Nat → Int32)) (fun z => [(2, .int z.1), (0, .ref x), (1, .int pq)]) (fun z => []) (fun z => [(x, ob 10 [x_told, x_reader, .ref ring, x_speeds, x_wheel, x_trials, x_span, x_search, x_kept, x_crosses, x_trueMasses, .ref thought, x_up, x_low, x_fits, x_pulls]), (ring, ob 5 [.int hc, .ref rp, .ref rx, .ref ry, .ref rr, .ref rh, g_rd, .int ph, .int po]), (rp, aI G 16 fp), (rx, aI G 16 fx), (ry, aI G 16 fy), (rr, aI G 16 fr), (rh, aI G 16 z.2), (thought, aI G 8 ft)]) (fun z => (0 ≤ z.1.toInt ∧ z.1.toInt ≤ 200) ∧ (itr (nx1 hci fp fr fx fy (tX ft pq) (tY ft pq) pi) fh z.1.toInt.toNat = some z.2) ∧ (SB hci fp z.2 fr fx fy (tX ft pq) (tY ft pq))) (fun z => (200 - z.1.toInt).toNat) (0, fh) ?_ ?_
    ·
      rintro ⟨n_, g⟩ ⟨hi, hk, hq⟩ ih11
      dsimp only at *
      refine z_run X bg_X10_settle_11_15 kg_X10_settle_11_15 (lv' := [(2, .int n_), (0, .ref x), (1, .int pq)]) (st' := [.int 200, .int n_]) rfl ?_
      refine zc_ge X dg_X10_settle_15 (tgt := 32) (by decide) (a := n_.toInt) (b := 200) rfl (show (200 : Int32).toInt = 200 from by decide) (fun c15_2 => ?_) (fun c15_2 => ?_)
      ·
        refine z_run X bg_X10_settle_32_33 kg_X10_settle_32_33 (lv' := [(2, .int n_), (0, .ref x), (1, .int pq)]) (st' := [.int n_]) rfl ?_
        exact z_iret X rfl dg_X10_settle_33 (Nat.le_of_ble_eq_true rfl) (Nat.le_of_ble_eq_true rfl) ⟨n_, g, (Or.inr ⟨by omega, by omega, hk, Or.inl (by omega)⟩), rfl, rfl⟩
      ·
        refine z_run X bg_X10_settle_18_20 kg_X10_settle_18_20 (lv' := [(2, .int n_), (0, .ref x), (1, .int pq)]) (st' := [.int pq, .ref x]) rfl ?_
        refine z_callV X k_10_398 (cg_X10_settleOunce l G x x_told x_reader ring x_speeds x_wheel x_trials x_span x_search x_kept x_crosses x_trueMasses thought x_up x_low x_fits x_pulls hc rp rx ry rr rh g_rd ph po fp fx fy fr g ft pq hci pi hhc hpq (by omega) (by omega) hq) dg_X10_settle_20 0 rfl rfl rfl ⟨Nat.le_of_ble_eq_true rfl, Nat.le_of_ble_eq_true rfl⟩ ⟨Nat.le_of_ble_eq_true rfl, Nat.le_of_ble_eq_true rfl⟩ rfl (rest := []) (As := [.int pq]) rfl (Nat.le_of_ble_eq_true rfl) [0, 1, 2, 3, 4, 5, 6, 7] [] rfl (by decide) (wr := []) rfl (by decide) (by decide) ?_
        rintro _ _ ⟨rz_3, fh2_4, f20_5, rfl, rfl⟩
        refine Z.at (pc' := 23) (st' := [.int rz_3]) (ws' := [(x, ob 10 [x_told, x_reader, .ref ring, x_speeds, x_wheel, x_trials, x_span, x_search, x_kept, x_crosses, x_trueMasses, .ref thought, x_up, x_low, x_fits, x_pulls]), (ring, ob 5 [.int hc, .ref rp, .ref rx, .ref ry, .ref rr, .ref rh, g_rd, .int ph, .int po]), (rp, aI G 16 fp), (rx, aI G 16 fx), (ry, aI G 16 fy), (rr, aI G 16 fr), (rh, aI G 16 fh2_4), (thought, aI G 8 ft)]) (kc' := 0) (ks' := 0) rfl rfl rfl rfl rfl ?_
        refine zi_eq X dg_X10_settle_23 (tgt := 32) (by decide) (a := rz_3.toInt) rfl (fun c23_6 => ?_) (fun c23_6 => ?_)
        ·
          refine z_run X bg_X10_settle_32_33 kg_X10_settle_32_33 (lv' := [(2, .int n_), (0, .ref x), (1, .int pq)]) (st' := [.int n_]) rfl ?_
          exact z_iret X rfl dg_X10_settle_33 (Nat.le_of_ble_eq_true rfl) (Nat.le_of_ble_eq_true rfl) ⟨n_, fh2_4, (Or.inr ⟨by omega, by omega, by rw [(show fh2_4 = g ∧ (nx1 hci fp fr fx fy (tX ft pq) (tY ft pq) pi) g = none from by rcases f20_5 with ⟨z1, z2, z3⟩ | ⟨z1, z2⟩; (exact ⟨z3, z1⟩); (exact absurd c23_6 (by rw [z2]; decide))).1]; exact hk, Or.inr (by rw [(show fh2_4 = g ∧ (nx1 hci fp fr fx fy (tX ft pq) (tY ft pq) pi) g = none from by rcases f20_5 with ⟨z1, z2, z3⟩ | ⟨z1, z2⟩; (exact ⟨z3, z1⟩); (exact absurd c23_6 (by rw [z2]; decide))).1]; exact (show fh2_4 = g ∧ (nx1 hci fp fr fx fy (tX ft pq) (tY ft pq) pi) g = none from by rcases f20_5 with ⟨z1, z2, z3⟩ | ⟨z1, z2⟩; (exact ⟨z3, z1⟩); (exact absurd c23_6 (by rw [z2]; decide))).2)⟩), rfl, rfl⟩
        ·
          refine z_run X bg_X10_settle_26_29 kg_X10_settle_26_29 (lv' := [(2, .int (n_ + 1)), (0, .ref x), (1, .int pq)]) (st' := []) rfl ?_
          refine z_goto X dg_X10_settle_29 (tgt := 11) (by decide) ?_
          exact ih11 ((n_ + 1), fh2_4) ⟨(by dsimp only; have e : (n_ + 1).toInt = n_.toInt + 1 := tI_add rfl (show (1 : Int32).toInt = 1 from by decide) (by omega); omega), (by dsimp only; have e : (n_ + 1).toInt = n_.toInt + 1 := tI_add rfl (show (1 : Int32).toInt = 1 from by decide) (by omega); rw [e, show (n_.toInt + 1).toNat = n_.toInt.toNat + 1 by omega]; show (itr (nx1 hci fp fr fx fy (tX ft pq) (tY ft pq) pi) fh n_.toInt.toNat).bind (nx1 hci fp fr fx fy (tX ft pq) (tY ft pq) pi) = some fh2_4; rw [hk]; exact (show (nx1 hci fp fr fx fy (tX ft pq) (tY ft pq) pi) g = some fh2_4 from by rcases f20_5 with ⟨z1, z2, z3⟩ | ⟨z1, z2⟩; (exact absurd z2 (fun q => c23_6 (by rw [q]; rfl))); (exact z1))), (hq.nx (show (nx1 hci fp fr fx fy (tX ft pq) (tY ft pq) pi) g = some fh2_4 from by rcases f20_5 with ⟨z1, z2, z3⟩ | ⟨z1, z2⟩; (exact absurd z2 (fun q => c23_6 (by rw [q]; rfl))); (exact z1)))⟩ (by dsimp only; have e : (n_ + 1).toInt = n_.toInt + 1 := tI_add rfl (show (1 : Int32).toInt = 1 from by decide) (by omega); omega)
    · exact ⟨(by dsimp only; have e0 : (0 : Int32).toInt = 0 := (by decide); omega), (by dsimp only; rfl), (hsb (by omega))⟩
  ·
    refine z_run X bg_X10_settle_7_8 kg_X10_settle_7_8 (lv' := [(0, .ref x), (1, .int pq)]) (st' := [.int (-1)]) rfl ?_
    exact z_iret X rfl dg_X10_settle_8 (Nat.le_of_ble_eq_true rfl) (Nat.le_of_ble_eq_true rfl) ⟨((-1) : Int32), fh, (Or.inl ⟨by omega, rfl, rfl⟩), rfl, rfl⟩
end
section
/-! settle of the reference: exactly -/
theorem dg_X11_isPlane_4 : decode cX11_isPlane 4 = .ok (.invokestatic 29, 3) := by decide +kernel
theorem dg_X11_isPlane_7 : decode cX11_isPlane 7 = .ok (.ireturn, 1) := by decide +kernel
abbrev bg_X11_isPlane_0_4 : ZB := [(.iload_n 0, .null), (.i2l, .null), (.lconst 0, .long 0), (.lconst 1, .long 1)]
theorem kg_X11_isPlane_0_4 : zchk cX11_isPlane bg_X11_isPlane_0_4 0 = true ∧ zpc bg_X11_isPlane_0_4 0 = 4 := ⟨by decide +kernel, rfl⟩
set_option maxHeartbeats 4000000 in
set_option maxRecDepth 100000 in
theorem cg_X11_isPlane (l : Launch) (G : KG) (a : Int32) (ai : Int) (ha : a.toInt = ai) : Ct l G yX11_isPlane cX11_isPlane 1 (some .boolean) { frames := 1, cells := 0, slots := 0, locals := 25 } [.int a] [] (fun r w1 => r = some (.int (zb (decide (0 ≤ ai ∧ ai ≤ 1)))) ∧ w1 = []) := by
  refine ct_of [(0, .int a)] (by decide) (Nat.le_of_ble_eq_true rfl) rfl ?_
  intro p0 e0 s0 m0 args0 below0 meth0 c0 A X
  refine z_run X bg_X11_isPlane_0_4 kg_X11_isPlane_0_4 (lv' := [(0, .int a)]) (st' := [.long 1, .long 0, .long a.toInt64]) rfl ?_
  refine z_callS X k_11_29 (cm_X11_in l G a.toInt64 0 1 ai 0 1 (tI64 ha) (show (0 : Int64).toInt = 0 from by decide) (show (1 : Int64).toInt = 1 from by decide)) dg_X11_isPlane_4 ⟨Nat.le_of_ble_eq_true rfl, Nat.le_of_ble_eq_true rfl⟩ ⟨Nat.le_of_ble_eq_true rfl, Nat.le_of_ble_eq_true rfl⟩ rfl (rest := []) (As := [.long a.toInt64, .long 0, .long 1]) rfl (Nat.le_of_ble_eq_true rfl) [] [] rfl (by decide) (wr := []) rfl (by decide) (by decide) ?_
  rintro _ _ ⟨rfl, rfl⟩
  refine Z.at (pc' := 7) (st' := [.int (zb (decide (0 ≤ ai ∧ ai ≤ 1)))]) (ws' := []) (kc' := 0) (ks' := 0) rfl rfl rfl rfl rfl ?_
  exact z_zret X rfl (zb_n _) dg_X11_isPlane_7 (Nat.le_of_ble_eq_true rfl) (Nat.le_of_ble_eq_true rfl) ⟨rfl, rfl⟩

set_option maxHeartbeats 4000000 in
set_option maxRecDepth 100000 in
theorem cg_X11_leadsS (l : Launch) (G : KG) (mo : Nat) (th : Int32) (g_rows : Value) (g_row : Value) (hc : Int32) (r_planeOf : Nat) (r_holeX : Nat) (r_holeY : Nat) (r_room : Nat) (r_ounces : Nat) (r_deepOf : Nat) (sc : Int32) (r_factor : Nat) (r_otherOf : Nat) (r_isApart : Nat) (g_apartX : Value) (g_apartY : Value) (cc : Int32) (r_weight : Nat) (r_tape : Nat) (n : Int32) (p : Int32) (lim : Int32) (fi : Int32) (g_crossOf : Value) (g_trueX : Value) (g_trueY : Value) (r_thoughtX : Nat) (r_thoughtY : Nat) (g_poundHole : Int32) (g_poundOunces : Int32) (r_lead : Nat) (g_trials : Value) (g_trialSpeed : Value) (g_isWhole : Value) (g_trialX : Value) (g_trialY : Value) (g_trialGive : Value) (g_trialLead : Value) (g_baseX : Value) (g_baseY : Value) (g_timesPull : Value) (g_trialBaseX : Value) (g_trialBaseY : Value) (g_trialTimes : Value) (g_pulls : Value) (g_pullMany : Value) (g_sizes : Value) (g_merged : Value) (g_nextHole : Value) (g_nextOunces : Value) (g_leftBehind : Value) (g_manUp : Value) (g_manLow : Value) (g_asked : Value) (g_lowOf : Value) (g_highOf : Value) (g_tried : Value) (g_found : Value) (g_askedMany : Value) (g_mostHoles : Value) (g_isFound : Value) (g_foundRest : Value) (g_foundOunces : Value) (g_question : Value) (g_questionSpeed : Value) (g_ounceRest : Int64) (g_parts : Value) (g_filled : Value) (g_cogAt : Value) (g_cogBest : Value) (g_isOrdered : Value) (g_orderSize : Value) (g_isKept : Value) (g_kept : Value) (g_keptAt : Value) (fp : Nat → Int32) (fx : Nat → Int32) (fy : Nat → Int32) (fo : Nat → Int32) (fl : Nat → Int32) (uq : Int32) (mq : Int32) (hci : Int) (ui : Int) (hhc : hc.toInt = hci) (huq : uq.toInt = ui) (hc0 : 0 ≤ hci ∧ hci ≤ 16) (hpl : ∀ j : Nat, (j : Int) < hci → 0 ≤ (fp j).toInt ∧ (fp j).toInt ≤ 1) : Ct l G yX11_leads cX11_leads 5 none { frames := 0, cells := 0, slots := 0, locals := 0 } [.ref mo, .int uq, .int mq] [(mo, ob 11 [.int th, g_rows, g_row, .int hc, .ref r_planeOf, .ref r_holeX, .ref r_holeY, .ref r_room, .ref r_ounces, .ref r_deepOf, .int sc, .ref r_factor, .ref r_otherOf, .ref r_isApart, g_apartX, g_apartY, .int cc, .ref r_weight, .ref r_tape, .int n, .int p, .int lim, .int fi, g_crossOf, g_trueX, g_trueY, .ref r_thoughtX, .ref r_thoughtY, .int g_poundHole, .int g_poundOunces, .ref r_lead, g_trials, g_trialSpeed, g_isWhole, g_trialX, g_trialY, g_trialGive, g_trialLead, g_baseX, g_baseY, g_timesPull, g_trialBaseX, g_trialBaseY, g_trialTimes, g_pulls, g_pullMany, g_sizes, g_merged, g_nextHole, g_nextOunces, g_leftBehind, g_manUp, g_manLow, g_asked, g_lowOf, g_highOf, g_tried, g_found, g_askedMany, g_mostHoles, g_isFound, g_foundRest, g_foundOunces, g_question, g_questionSpeed, .long g_ounceRest, g_parts, g_filled, g_cogAt, g_cogBest, g_isOrdered, g_orderSize, g_isKept, g_kept, g_keptAt]), (r_lead, aI G 4 fl), (r_planeOf, aI G 16 fp), (r_holeX, aI G 16 fx), (r_holeY, aI G 16 fy), (r_ounces, aI G 16 fo)] (fun r w1 => ∃ (fl2 : Nat → Int32), (∀ j : Nat, j < 4 → fl2 j = ldq fp (its fo uq mq) fx fy hci.toNat j) ∧ r = none ∧ w1 = [(mo, ob 11 [.int th, g_rows, g_row, .int hc, .ref r_planeOf, .ref r_holeX, .ref r_holeY, .ref r_room, .ref r_ounces, .ref r_deepOf, .int sc, .ref r_factor, .ref r_otherOf, .ref r_isApart, g_apartX, g_apartY, .int cc, .ref r_weight, .ref r_tape, .int n, .int p, .int lim, .int fi, g_crossOf, g_trueX, g_trueY, .ref r_thoughtX, .ref r_thoughtY, .int g_poundHole, .int g_poundOunces, .ref r_lead, g_trials, g_trialSpeed, g_isWhole, g_trialX, g_trialY, g_trialGive, g_trialLead, g_baseX, g_baseY, g_timesPull, g_trialBaseX, g_trialBaseY, g_trialTimes, g_pulls, g_pullMany, g_sizes, g_merged, g_nextHole, g_nextOunces, g_leftBehind, g_manUp, g_manLow, g_asked, g_lowOf, g_highOf, g_tried, g_found, g_askedMany, g_mostHoles, g_isFound, g_foundRest, g_foundOunces, g_question, g_questionSpeed, .long g_ounceRest, g_parts, g_filled, g_cogAt, g_cogBest, g_isOrdered, g_orderSize, g_isKept, g_kept, g_keptAt]), (r_lead, aI G 4 fl2), (r_planeOf, aI G 16 fp), (r_holeX, aI G 16 fx), (r_holeY, aI G 16 fy), (r_ounces, aI G 16 fo)]) := by
  refine ct_of [(0, .ref mo), (1, .int uq), (2, .int mq)] (by decide) (Nat.le_of_ble_eq_true rfl) rfl ?_
  intro p0 e0 s0 m0 args0 below0 meth0 c0 A X
  refine z_run X be_X11_leads_0_2 ke_X11_leads_0_2 (lv' := [(3, .int 0), (0, .ref mo), (1, .int uq), (2, .int mq)]) (st' := []) rfl ?_
  refine zloop (σ := Int32 × (Nat → Int32)) (fun z => [(3, .int z.1), (0, .ref mo), (1, .int uq), (2, .int mq)]) (fun z => []) (fun z => [(mo, ob 11 [.int th, g_rows, g_row, .int hc, .ref r_planeOf, .ref r_holeX, .ref r_holeY, .ref r_room, .ref r_ounces, .ref r_deepOf, .int sc, .ref r_factor, .ref r_otherOf, .ref r_isApart, g_apartX, g_apartY, .int cc, .ref r_weight, .ref r_tape, .int n, .int p, .int lim, .int fi, g_crossOf, g_trueX, g_trueY, .ref r_thoughtX, .ref r_thoughtY, .int g_poundHole, .int g_poundOunces, .ref r_lead, g_trials, g_trialSpeed, g_isWhole, g_trialX, g_trialY, g_trialGive, g_trialLead, g_baseX, g_baseY, g_timesPull, g_trialBaseX, g_trialBaseY, g_trialTimes, g_pulls, g_pullMany, g_sizes, g_merged, g_nextHole, g_nextOunces, g_leftBehind, g_manUp, g_manLow, g_asked, g_lowOf, g_highOf, g_tried, g_found, g_askedMany, g_mostHoles, g_isFound, g_foundRest, g_foundOunces, g_question, g_questionSpeed, .long g_ounceRest, g_parts, g_filled, g_cogAt, g_cogBest, g_isOrdered, g_orderSize, g_isKept, g_kept, g_keptAt]), (r_lead, aI G 4 z.2), (r_planeOf, aI G 16 fp), (r_holeX, aI G 16 fx), (r_holeY, aI G 16 fy), (r_ounces, aI G 16 fo)]) (fun z => (0 ≤ z.1.toInt ∧ z.1.toInt ≤ 4) ∧ (∀ j : Nat, (j : Int) < z.1.toInt → z.2 j = (fun _ => (0 : Int32)) j)) (fun z => (4 - z.1.toInt).toNat) (0, fl) ?_ ?_
  ·
    rintro ⟨i_, g⟩ ⟨hi, hg⟩ ih2
    dsimp only at *
    refine z_run X be_X11_leads_2_4 ke_X11_leads_2_4 (lv' := [(3, .int i_), (0, .ref mo), (1, .int uq), (2, .int mq)]) (st' := [.int 4, .int i_]) rfl ?_
    refine zc_ge X de_X11_leads_4 (tgt := 20) (by decide) (a := i_.toInt) (b := 4) rfl (show (4 : Int32).toInt = 4 from by decide) (fun c4_1 => ?_) (fun c4_1 => ?_)
    ·
      refine z_run X be_X11_leads_20_22 ke_X11_leads_20_22 (lv' := [(3, .int 0), (0, .ref mo), (1, .int uq), (2, .int mq)]) (st' := []) rfl ?_
      refine zloop (σ := Int32 × (Nat → Int32)) (fun z => [(3, .int z.1), (0, .ref mo), (1, .int uq), (2, .int mq)]) (fun z => []) (fun z => [(mo, ob 11 [.int th, g_rows, g_row, .int hc, .ref r_planeOf, .ref r_holeX, .ref r_holeY, .ref r_room, .ref r_ounces, .ref r_deepOf, .int sc, .ref r_factor, .ref r_otherOf, .ref r_isApart, g_apartX, g_apartY, .int cc, .ref r_weight, .ref r_tape, .int n, .int p, .int lim, .int fi, g_crossOf, g_trueX, g_trueY, .ref r_thoughtX, .ref r_thoughtY, .int g_poundHole, .int g_poundOunces, .ref r_lead, g_trials, g_trialSpeed, g_isWhole, g_trialX, g_trialY, g_trialGive, g_trialLead, g_baseX, g_baseY, g_timesPull, g_trialBaseX, g_trialBaseY, g_trialTimes, g_pulls, g_pullMany, g_sizes, g_merged, g_nextHole, g_nextOunces, g_leftBehind, g_manUp, g_manLow, g_asked, g_lowOf, g_highOf, g_tried, g_found, g_askedMany, g_mostHoles, g_isFound, g_foundRest, g_foundOunces, g_question, g_questionSpeed, .long g_ounceRest, g_parts, g_filled, g_cogAt, g_cogBest, g_isOrdered, g_orderSize, g_isKept, g_kept, g_keptAt]), (r_lead, aI G 4 z.2), (r_planeOf, aI G 16 fp), (r_holeX, aI G 16 fx), (r_holeY, aI G 16 fy), (r_ounces, aI G 16 fo)]) (fun z => (0 ≤ z.1.toInt ∧ z.1.toInt ≤ hci) ∧ (∀ j : Nat, j < 4 → z.2 j = ldq fp (its fo uq mq) fx fy z.1.toInt.toNat j)) (fun z => (hci - z.1.toInt).toNat) (0, g) ?_ ?_
      ·
        rintro ⟨i_, g⟩ ⟨hi, hg⟩ ih22
        dsimp only at *
        refine z_run X be_X11_leads_22_24 ke_X11_leads_22_24 (lv' := [(3, .int i_), (0, .ref mo), (1, .int uq), (2, .int mq)]) (st' := [.ref mo, .int i_]) rfl ?_
        refine z_get X fl_11_63 de_X11_leads_24 0 rfl (v := .int hc) rfl ?_
        refine zc_ge X de_X11_leads_27 (tgt := 107) (by decide) (a := i_.toInt) (b := hci) rfl hhc (fun c27_2 => ?_) (fun c27_2 => ?_)
        ·
          exact z_vret X rfl de_X11_leads_107 (Nat.le_of_ble_eq_true rfl) (Nat.le_of_ble_eq_true rfl) ⟨g, (by intro j hj; rw [hg j hj, show i_.toInt.toNat = hci.toNat by omega]), rfl, rfl⟩
        ·
          refine z_run X be_X11_leads_30_31 ke_X11_leads_30_31 (lv' := [(3, .int i_), (0, .ref mo), (1, .int uq), (2, .int mq)]) (st' := [.ref mo]) rfl ?_
          refine z_get X fl_11_82 de_X11_leads_31 0 rfl (v := .ref r_ounces) rfl ?_
          refine z_run X be_X11_leads_34_35 ke_X11_leads_34_35 (lv' := [(3, .int i_), (0, .ref mo), (1, .int uq), (2, .int mq)]) (st' := [.int i_, .ref r_ounces]) rfl ?_
          refine z_iald X de_X11_leads_35 5 rfl (vin rfl (by omega) (by omega)) (v := (fo i_.toNatClampNeg)) rfl ?_
          refine z_run X be_X11_leads_36_38 ke_X11_leads_36_38 (lv' := [(3, .int i_), (0, .ref mo), (1, .int uq), (2, .int mq)]) (st' := [.int uq, .int i_, .int (fo i_.toNatClampNeg)]) rfl ?_
          refine zc_ne X de_X11_leads_38 (tgt := 45) (by decide) (a := i_.toInt) (b := ui) rfl huq (fun c38_3 => ?_) (fun c38_3 => ?_)
          ·
            have hpq_ : 0 ≤ (fp i_.toNatClampNeg).toInt ∧ (fp i_.toNatClampNeg).toInt ≤ 1 := hpl i_.toNatClampNeg (show ((i_.toInt.toNat : Nat) : Int) < hci by omega)
            refine z_run X be_X11_leads_45_50 ke_X11_leads_45_50 (lv' := [(4, .int ((fo i_.toNatClampNeg) + 0)), (3, .int i_), (0, .ref mo), (1, .int uq), (2, .int mq)]) (st' := [.ref mo]) rfl ?_
            refine z_get X fl_11_166 de_X11_leads_50 0 rfl (v := .ref r_lead) rfl ?_
            refine z_run X be_X11_leads_53_55 ke_X11_leads_53_55 (lv' := [(4, .int ((fo i_.toNatClampNeg) + 0)), (3, .int i_), (0, .ref mo), (1, .int uq), (2, .int mq)]) (st' := [.ref mo, .int 2, .ref r_lead]) rfl ?_
            refine z_get X fl_11_66 de_X11_leads_55 0 rfl (v := .ref r_planeOf) rfl ?_
            refine z_run X be_X11_leads_58_59 ke_X11_leads_58_59 (lv' := [(4, .int ((fo i_.toNatClampNeg) + 0)), (3, .int i_), (0, .ref mo), (1, .int uq), (2, .int mq)]) (st' := [.int i_, .ref r_planeOf, .int 2, .ref r_lead]) rfl ?_
            refine z_iald X de_X11_leads_59 2 rfl (vin rfl (by omega) (by omega)) (v := (fp i_.toNatClampNeg)) rfl ?_
            refine z_run X be_X11_leads_60_62 ke_X11_leads_60_62 (lv' := [(4, .int ((fo i_.toNatClampNeg) + 0)), (3, .int i_), (0, .ref mo), (1, .int uq), (2, .int mq)]) (st' := [.int (2 * (fp i_.toNatClampNeg)), .ref r_lead, .int (2 * (fp i_.toNatClampNeg)), .ref r_lead]) rfl ?_
            refine z_iald X de_X11_leads_62 1 rfl (vin (tI_mul (show (2 : Int32).toInt = 2 from by decide) rfl (by omega)) (by omega) (by omega)) (v := (g (2 * (fp i_.toNatClampNeg)).toNatClampNeg)) rfl ?_
            refine z_run X be_X11_leads_63_66 ke_X11_leads_63_66 (lv' := [(4, .int ((fo i_.toNatClampNeg) + 0)), (3, .int i_), (0, .ref mo), (1, .int uq), (2, .int mq)]) (st' := [.ref mo, .int ((fo i_.toNatClampNeg) + 0), .int (g (2 * (fp i_.toNatClampNeg)).toNatClampNeg), .int (2 * (fp i_.toNatClampNeg)), .ref r_lead]) rfl ?_
            refine z_get X fl_11_69 de_X11_leads_66 0 rfl (v := .ref r_holeX) rfl ?_
            refine z_run X be_X11_leads_69_70 ke_X11_leads_69_70 (lv' := [(4, .int ((fo i_.toNatClampNeg) + 0)), (3, .int i_), (0, .ref mo), (1, .int uq), (2, .int mq)]) (st' := [.int i_, .ref r_holeX, .int ((fo i_.toNatClampNeg) + 0), .int (g (2 * (fp i_.toNatClampNeg)).toNatClampNeg), .int (2 * (fp i_.toNatClampNeg)), .ref r_lead]) rfl ?_
            refine z_iald X de_X11_leads_70 3 rfl (vin rfl (by omega) (by omega)) (v := (fx i_.toNatClampNeg)) rfl ?_
            refine z_run X be_X11_leads_71_73 ke_X11_leads_71_73 (lv' := [(4, .int ((fo i_.toNatClampNeg) + 0)), (3, .int i_), (0, .ref mo), (1, .int uq), (2, .int mq)]) (st' := [.int ((g (2 * (fp i_.toNatClampNeg)).toNatClampNeg) + (((fo i_.toNatClampNeg) + 0) * (fx i_.toNatClampNeg))), .int (2 * (fp i_.toNatClampNeg)), .ref r_lead]) rfl ?_
            refine z_iast X de_X11_leads_73 1 rfl (vin (tI_mul (show (2 : Int32).toInt = 2 from by decide) rfl (by omega)) (by omega) (by omega)) (ws' := [(mo, ob 11 [.int th, g_rows, g_row, .int hc, .ref r_planeOf, .ref r_holeX, .ref r_holeY, .ref r_room, .ref r_ounces, .ref r_deepOf, .int sc, .ref r_factor, .ref r_otherOf, .ref r_isApart, g_apartX, g_apartY, .int cc, .ref r_weight, .ref r_tape, .int n, .int p, .int lim, .int fi, g_crossOf, g_trueX, g_trueY, .ref r_thoughtX, .ref r_thoughtY, .int g_poundHole, .int g_poundOunces, .ref r_lead, g_trials, g_trialSpeed, g_isWhole, g_trialX, g_trialY, g_trialGive, g_trialLead, g_baseX, g_baseY, g_timesPull, g_trialBaseX, g_trialBaseY, g_trialTimes, g_pulls, g_pullMany, g_sizes, g_merged, g_nextHole, g_nextOunces, g_leftBehind, g_manUp, g_manLow, g_asked, g_lowOf, g_highOf, g_tried, g_found, g_askedMany, g_mostHoles, g_isFound, g_foundRest, g_foundOunces, g_question, g_questionSpeed, .long g_ounceRest, g_parts, g_filled, g_cogAt, g_cogBest, g_isOrdered, g_orderSize, g_isKept, g_kept, g_keptAt]), (r_lead, aI G 4 (upd g (2 * (fp i_.toNatClampNeg)).toNatClampNeg ((g (2 * (fp i_.toNatClampNeg)).toNatClampNeg) + (((fo i_.toNatClampNeg) + 0) * (fx i_.toNatClampNeg))))), (r_planeOf, aI G 16 fp), (r_holeX, aI G 16 fx), (r_holeY, aI G 16 fy), (r_ounces, aI G 16 fo)]) rfl ?_
            refine z_run X be_X11_leads_74_75 ke_X11_leads_74_75 (lv' := [(4, .int ((fo i_.toNatClampNeg) + 0)), (3, .int i_), (0, .ref mo), (1, .int uq), (2, .int mq)]) (st' := [.ref mo]) rfl ?_
            refine z_get X fl_11_166 de_X11_leads_75 0 rfl (v := .ref r_lead) rfl ?_
            refine z_run X be_X11_leads_78_80 ke_X11_leads_78_80 (lv' := [(4, .int ((fo i_.toNatClampNeg) + 0)), (3, .int i_), (0, .ref mo), (1, .int uq), (2, .int mq)]) (st' := [.ref mo, .int 2, .ref r_lead]) rfl ?_
            refine z_get X fl_11_66 de_X11_leads_80 0 rfl (v := .ref r_planeOf) rfl ?_
            refine z_run X be_X11_leads_83_84 ke_X11_leads_83_84 (lv' := [(4, .int ((fo i_.toNatClampNeg) + 0)), (3, .int i_), (0, .ref mo), (1, .int uq), (2, .int mq)]) (st' := [.int i_, .ref r_planeOf, .int 2, .ref r_lead]) rfl ?_
            refine z_iald X de_X11_leads_84 2 rfl (vin rfl (by omega) (by omega)) (v := (fp i_.toNatClampNeg)) rfl ?_
            refine z_run X be_X11_leads_85_89 ke_X11_leads_85_89 (lv' := [(4, .int ((fo i_.toNatClampNeg) + 0)), (3, .int i_), (0, .ref mo), (1, .int uq), (2, .int mq)]) (st' := [.int ((2 * (fp i_.toNatClampNeg)) + 1), .ref r_lead, .int ((2 * (fp i_.toNatClampNeg)) + 1), .ref r_lead]) rfl ?_
            refine z_iald X de_X11_leads_89 1 rfl (vin (tI_add (tI_mul (show (2 : Int32).toInt = 2 from by decide) rfl (by omega)) (show (1 : Int32).toInt = 1 from by decide) (by omega)) (by omega) (by omega)) (v := ((upd g (2 * (fp i_.toNatClampNeg)).toNatClampNeg ((g (2 * (fp i_.toNatClampNeg)).toNatClampNeg) + (((fo i_.toNatClampNeg) + 0) * (fx i_.toNatClampNeg)))) ((2 * (fp i_.toNatClampNeg)) + 1).toNatClampNeg)) rfl ?_
            refine z_run X be_X11_leads_90_93 ke_X11_leads_90_93 (lv' := [(4, .int ((fo i_.toNatClampNeg) + 0)), (3, .int i_), (0, .ref mo), (1, .int uq), (2, .int mq)]) (st' := [.ref mo, .int ((fo i_.toNatClampNeg) + 0), .int ((upd g (2 * (fp i_.toNatClampNeg)).toNatClampNeg ((g (2 * (fp i_.toNatClampNeg)).toNatClampNeg) + (((fo i_.toNatClampNeg) + 0) * (fx i_.toNatClampNeg)))) ((2 * (fp i_.toNatClampNeg)) + 1).toNatClampNeg), .int ((2 * (fp i_.toNatClampNeg)) + 1), .ref r_lead]) rfl ?_
            refine z_get X fl_11_76 de_X11_leads_93 0 rfl (v := .ref r_holeY) rfl ?_
            refine z_run X be_X11_leads_96_97 ke_X11_leads_96_97 (lv' := [(4, .int ((fo i_.toNatClampNeg) + 0)), (3, .int i_), (0, .ref mo), (1, .int uq), (2, .int mq)]) (st' := [.int i_, .ref r_holeY, .int ((fo i_.toNatClampNeg) + 0), .int ((upd g (2 * (fp i_.toNatClampNeg)).toNatClampNeg ((g (2 * (fp i_.toNatClampNeg)).toNatClampNeg) + (((fo i_.toNatClampNeg) + 0) * (fx i_.toNatClampNeg)))) ((2 * (fp i_.toNatClampNeg)) + 1).toNatClampNeg), .int ((2 * (fp i_.toNatClampNeg)) + 1), .ref r_lead]) rfl ?_
            refine z_iald X de_X11_leads_97 4 rfl (vin rfl (by omega) (by omega)) (v := (fy i_.toNatClampNeg)) rfl ?_
            refine z_run X be_X11_leads_98_100 ke_X11_leads_98_100 (lv' := [(4, .int ((fo i_.toNatClampNeg) + 0)), (3, .int i_), (0, .ref mo), (1, .int uq), (2, .int mq)]) (st' := [.int (((upd g (2 * (fp i_.toNatClampNeg)).toNatClampNeg ((g (2 * (fp i_.toNatClampNeg)).toNatClampNeg) + (((fo i_.toNatClampNeg) + 0) * (fx i_.toNatClampNeg)))) ((2 * (fp i_.toNatClampNeg)) + 1).toNatClampNeg) + (((fo i_.toNatClampNeg) + 0) * (fy i_.toNatClampNeg))), .int ((2 * (fp i_.toNatClampNeg)) + 1), .ref r_lead]) rfl ?_
            refine z_iast X de_X11_leads_100 1 rfl (vin (tI_add (tI_mul (show (2 : Int32).toInt = 2 from by decide) rfl (by omega)) (show (1 : Int32).toInt = 1 from by decide) (by omega)) (by omega) (by omega)) (ws' := [(mo, ob 11 [.int th, g_rows, g_row, .int hc, .ref r_planeOf, .ref r_holeX, .ref r_holeY, .ref r_room, .ref r_ounces, .ref r_deepOf, .int sc, .ref r_factor, .ref r_otherOf, .ref r_isApart, g_apartX, g_apartY, .int cc, .ref r_weight, .ref r_tape, .int n, .int p, .int lim, .int fi, g_crossOf, g_trueX, g_trueY, .ref r_thoughtX, .ref r_thoughtY, .int g_poundHole, .int g_poundOunces, .ref r_lead, g_trials, g_trialSpeed, g_isWhole, g_trialX, g_trialY, g_trialGive, g_trialLead, g_baseX, g_baseY, g_timesPull, g_trialBaseX, g_trialBaseY, g_trialTimes, g_pulls, g_pullMany, g_sizes, g_merged, g_nextHole, g_nextOunces, g_leftBehind, g_manUp, g_manLow, g_asked, g_lowOf, g_highOf, g_tried, g_found, g_askedMany, g_mostHoles, g_isFound, g_foundRest, g_foundOunces, g_question, g_questionSpeed, .long g_ounceRest, g_parts, g_filled, g_cogAt, g_cogBest, g_isOrdered, g_orderSize, g_isKept, g_kept, g_keptAt]), (r_lead, aI G 4 (upd (upd g (2 * (fp i_.toNatClampNeg)).toNatClampNeg ((g (2 * (fp i_.toNatClampNeg)).toNatClampNeg) + (((fo i_.toNatClampNeg) + 0) * (fx i_.toNatClampNeg)))) ((2 * (fp i_.toNatClampNeg)) + 1).toNatClampNeg (((upd g (2 * (fp i_.toNatClampNeg)).toNatClampNeg ((g (2 * (fp i_.toNatClampNeg)).toNatClampNeg) + (((fo i_.toNatClampNeg) + 0) * (fx i_.toNatClampNeg)))) ((2 * (fp i_.toNatClampNeg)) + 1).toNatClampNeg) + (((fo i_.toNatClampNeg) + 0) * (fy i_.toNatClampNeg))))), (r_planeOf, aI G 16 fp), (r_holeX, aI G 16 fx), (r_holeY, aI G 16 fy), (r_ounces, aI G 16 fo)]) rfl ?_
            refine z_run X be_X11_leads_101_104 ke_X11_leads_101_104 (lv' := [(3, .int (i_ + 1)), (4, .int ((fo i_.toNatClampNeg) + 0)), (0, .ref mo), (1, .int uq), (2, .int mq)]) (st' := []) rfl ?_
            refine z_goto X de_X11_leads_104 (tgt := 22) (by decide) ?_
            refine Z.sub (lv' := [(3, .int (i_ + 1)), (0, .ref mo), (1, .int uq), (2, .int mq)]) [0, 2, 3, 4] rfl [0, 1, 2, 3, 4, 5] (ws' := [(mo, ob 11 [.int th, g_rows, g_row, .int hc, .ref r_planeOf, .ref r_holeX, .ref r_holeY, .ref r_room, .ref r_ounces, .ref r_deepOf, .int sc, .ref r_factor, .ref r_otherOf, .ref r_isApart, g_apartX, g_apartY, .int cc, .ref r_weight, .ref r_tape, .int n, .int p, .int lim, .int fi, g_crossOf, g_trueX, g_trueY, .ref r_thoughtX, .ref r_thoughtY, .int g_poundHole, .int g_poundOunces, .ref r_lead, g_trials, g_trialSpeed, g_isWhole, g_trialX, g_trialY, g_trialGive, g_trialLead, g_baseX, g_baseY, g_timesPull, g_trialBaseX, g_trialBaseY, g_trialTimes, g_pulls, g_pullMany, g_sizes, g_merged, g_nextHole, g_nextOunces, g_leftBehind, g_manUp, g_manLow, g_asked, g_lowOf, g_highOf, g_tried, g_found, g_askedMany, g_mostHoles, g_isFound, g_foundRest, g_foundOunces, g_question, g_questionSpeed, .long g_ounceRest, g_parts, g_filled, g_cogAt, g_cogBest, g_isOrdered, g_orderSize, g_isKept, g_kept, g_keptAt]), (r_lead, aI G 4 (upd (upd g (2 * (fp i_.toNatClampNeg)).toNatClampNeg ((g (2 * (fp i_.toNatClampNeg)).toNatClampNeg) + (((fo i_.toNatClampNeg) + 0) * (fx i_.toNatClampNeg)))) ((2 * (fp i_.toNatClampNeg)) + 1).toNatClampNeg (((upd g (2 * (fp i_.toNatClampNeg)).toNatClampNeg ((g (2 * (fp i_.toNatClampNeg)).toNatClampNeg) + (((fo i_.toNatClampNeg) + 0) * (fx i_.toNatClampNeg)))) ((2 * (fp i_.toNatClampNeg)) + 1).toNatClampNeg) + (((fo i_.toNatClampNeg) + 0) * (fy i_.toNatClampNeg))))), (r_planeOf, aI G 16 fp), (r_holeX, aI G 16 fx), (r_holeY, aI G 16 fy), (r_ounces, aI G 16 fo)]) rfl (by decide) ?_
            exact ih22 ((i_ + 1), (upd (upd g (2 * (fp i_.toNatClampNeg)).toNatClampNeg ((g (2 * (fp i_.toNatClampNeg)).toNatClampNeg) + (((fo i_.toNatClampNeg) + 0) * (fx i_.toNatClampNeg)))) ((2 * (fp i_.toNatClampNeg)) + 1).toNatClampNeg (((upd g (2 * (fp i_.toNatClampNeg)).toNatClampNeg ((g (2 * (fp i_.toNatClampNeg)).toNatClampNeg) + (((fo i_.toNatClampNeg) + 0) * (fx i_.toNatClampNeg)))) ((2 * (fp i_.toNatClampNeg)) + 1).toNatClampNeg) + (((fo i_.toNatClampNeg) + 0) * (fy i_.toNatClampNeg))))) ⟨(by dsimp only; have e : (i_ + 1).toInt = i_.toInt + 1 := tI_add rfl (show (1 : Int32).toInt = 1 from by decide) (by omega); omega), (by dsimp only; have e : (i_ + 1).toInt = i_.toInt + 1 := tI_add rfl (show (1 : Int32).toInt = 1 from by decide) (by omega); rw [e, show (i_.toInt + 1).toNat = i_.toInt.toNat + 1 by omega]; exact ldq_step rfl (its_no (fo := fo) (u := uq) (m := mq) (j := i_.toInt.toNat) (by omega)).symm rfl rfl (hpl i_.toInt.toNat (by omega)) hg)⟩ (by dsimp only; have e : (i_ + 1).toInt = i_.toInt + 1 := tI_add rfl (show (1 : Int32).toInt = 1 from by decide) (by omega); omega)
          ·
            have hpq_ : 0 ≤ (fp i_.toNatClampNeg).toInt ∧ (fp i_.toNatClampNeg).toInt ≤ 1 := hpl i_.toNatClampNeg (show ((i_.toInt.toNat : Nat) : Int) < hci by omega)
            refine z_run X be_X11_leads_41_42 ke_X11_leads_41_42 (lv' := [(3, .int i_), (0, .ref mo), (1, .int uq), (2, .int mq)]) (st' := [.int mq, .int (fo i_.toNatClampNeg)]) rfl ?_
            refine z_goto X de_X11_leads_42 (tgt := 46) (by decide) ?_
            refine z_run X be_X11_leads_46_50 ke_X11_leads_46_50 (lv' := [(4, .int ((fo i_.toNatClampNeg) + mq)), (3, .int i_), (0, .ref mo), (1, .int uq), (2, .int mq)]) (st' := [.ref mo]) rfl ?_
            refine z_get X fl_11_166 de_X11_leads_50 0 rfl (v := .ref r_lead) rfl ?_
            refine z_run X be_X11_leads_53_55 ke_X11_leads_53_55 (lv' := [(4, .int ((fo i_.toNatClampNeg) + mq)), (3, .int i_), (0, .ref mo), (1, .int uq), (2, .int mq)]) (st' := [.ref mo, .int 2, .ref r_lead]) rfl ?_
            refine z_get X fl_11_66 de_X11_leads_55 0 rfl (v := .ref r_planeOf) rfl ?_
            refine z_run X be_X11_leads_58_59 ke_X11_leads_58_59 (lv' := [(4, .int ((fo i_.toNatClampNeg) + mq)), (3, .int i_), (0, .ref mo), (1, .int uq), (2, .int mq)]) (st' := [.int i_, .ref r_planeOf, .int 2, .ref r_lead]) rfl ?_
            refine z_iald X de_X11_leads_59 2 rfl (vin rfl (by omega) (by omega)) (v := (fp i_.toNatClampNeg)) rfl ?_
            refine z_run X be_X11_leads_60_62 ke_X11_leads_60_62 (lv' := [(4, .int ((fo i_.toNatClampNeg) + mq)), (3, .int i_), (0, .ref mo), (1, .int uq), (2, .int mq)]) (st' := [.int (2 * (fp i_.toNatClampNeg)), .ref r_lead, .int (2 * (fp i_.toNatClampNeg)), .ref r_lead]) rfl ?_
            refine z_iald X de_X11_leads_62 1 rfl (vin (tI_mul (show (2 : Int32).toInt = 2 from by decide) rfl (by omega)) (by omega) (by omega)) (v := (g (2 * (fp i_.toNatClampNeg)).toNatClampNeg)) rfl ?_
            refine z_run X be_X11_leads_63_66 ke_X11_leads_63_66 (lv' := [(4, .int ((fo i_.toNatClampNeg) + mq)), (3, .int i_), (0, .ref mo), (1, .int uq), (2, .int mq)]) (st' := [.ref mo, .int ((fo i_.toNatClampNeg) + mq), .int (g (2 * (fp i_.toNatClampNeg)).toNatClampNeg), .int (2 * (fp i_.toNatClampNeg)), .ref r_lead]) rfl ?_
            refine z_get X fl_11_69 de_X11_leads_66 0 rfl (v := .ref r_holeX) rfl ?_
            refine z_run X be_X11_leads_69_70 ke_X11_leads_69_70 (lv' := [(4, .int ((fo i_.toNatClampNeg) + mq)), (3, .int i_), (0, .ref mo), (1, .int uq), (2, .int mq)]) (st' := [.int i_, .ref r_holeX, .int ((fo i_.toNatClampNeg) + mq), .int (g (2 * (fp i_.toNatClampNeg)).toNatClampNeg), .int (2 * (fp i_.toNatClampNeg)), .ref r_lead]) rfl ?_
            refine z_iald X de_X11_leads_70 3 rfl (vin rfl (by omega) (by omega)) (v := (fx i_.toNatClampNeg)) rfl ?_
            refine z_run X be_X11_leads_71_73 ke_X11_leads_71_73 (lv' := [(4, .int ((fo i_.toNatClampNeg) + mq)), (3, .int i_), (0, .ref mo), (1, .int uq), (2, .int mq)]) (st' := [.int ((g (2 * (fp i_.toNatClampNeg)).toNatClampNeg) + (((fo i_.toNatClampNeg) + mq) * (fx i_.toNatClampNeg))), .int (2 * (fp i_.toNatClampNeg)), .ref r_lead]) rfl ?_
            refine z_iast X de_X11_leads_73 1 rfl (vin (tI_mul (show (2 : Int32).toInt = 2 from by decide) rfl (by omega)) (by omega) (by omega)) (ws' := [(mo, ob 11 [.int th, g_rows, g_row, .int hc, .ref r_planeOf, .ref r_holeX, .ref r_holeY, .ref r_room, .ref r_ounces, .ref r_deepOf, .int sc, .ref r_factor, .ref r_otherOf, .ref r_isApart, g_apartX, g_apartY, .int cc, .ref r_weight, .ref r_tape, .int n, .int p, .int lim, .int fi, g_crossOf, g_trueX, g_trueY, .ref r_thoughtX, .ref r_thoughtY, .int g_poundHole, .int g_poundOunces, .ref r_lead, g_trials, g_trialSpeed, g_isWhole, g_trialX, g_trialY, g_trialGive, g_trialLead, g_baseX, g_baseY, g_timesPull, g_trialBaseX, g_trialBaseY, g_trialTimes, g_pulls, g_pullMany, g_sizes, g_merged, g_nextHole, g_nextOunces, g_leftBehind, g_manUp, g_manLow, g_asked, g_lowOf, g_highOf, g_tried, g_found, g_askedMany, g_mostHoles, g_isFound, g_foundRest, g_foundOunces, g_question, g_questionSpeed, .long g_ounceRest, g_parts, g_filled, g_cogAt, g_cogBest, g_isOrdered, g_orderSize, g_isKept, g_kept, g_keptAt]), (r_lead, aI G 4 (upd g (2 * (fp i_.toNatClampNeg)).toNatClampNeg ((g (2 * (fp i_.toNatClampNeg)).toNatClampNeg) + (((fo i_.toNatClampNeg) + mq) * (fx i_.toNatClampNeg))))), (r_planeOf, aI G 16 fp), (r_holeX, aI G 16 fx), (r_holeY, aI G 16 fy), (r_ounces, aI G 16 fo)]) rfl ?_
            refine z_run X be_X11_leads_74_75 ke_X11_leads_74_75 (lv' := [(4, .int ((fo i_.toNatClampNeg) + mq)), (3, .int i_), (0, .ref mo), (1, .int uq), (2, .int mq)]) (st' := [.ref mo]) rfl ?_
            refine z_get X fl_11_166 de_X11_leads_75 0 rfl (v := .ref r_lead) rfl ?_
            refine z_run X be_X11_leads_78_80 ke_X11_leads_78_80 (lv' := [(4, .int ((fo i_.toNatClampNeg) + mq)), (3, .int i_), (0, .ref mo), (1, .int uq), (2, .int mq)]) (st' := [.ref mo, .int 2, .ref r_lead]) rfl ?_
            refine z_get X fl_11_66 de_X11_leads_80 0 rfl (v := .ref r_planeOf) rfl ?_
            refine z_run X be_X11_leads_83_84 ke_X11_leads_83_84 (lv' := [(4, .int ((fo i_.toNatClampNeg) + mq)), (3, .int i_), (0, .ref mo), (1, .int uq), (2, .int mq)]) (st' := [.int i_, .ref r_planeOf, .int 2, .ref r_lead]) rfl ?_
            refine z_iald X de_X11_leads_84 2 rfl (vin rfl (by omega) (by omega)) (v := (fp i_.toNatClampNeg)) rfl ?_
            refine z_run X be_X11_leads_85_89 ke_X11_leads_85_89 (lv' := [(4, .int ((fo i_.toNatClampNeg) + mq)), (3, .int i_), (0, .ref mo), (1, .int uq), (2, .int mq)]) (st' := [.int ((2 * (fp i_.toNatClampNeg)) + 1), .ref r_lead, .int ((2 * (fp i_.toNatClampNeg)) + 1), .ref r_lead]) rfl ?_
            refine z_iald X de_X11_leads_89 1 rfl (vin (tI_add (tI_mul (show (2 : Int32).toInt = 2 from by decide) rfl (by omega)) (show (1 : Int32).toInt = 1 from by decide) (by omega)) (by omega) (by omega)) (v := ((upd g (2 * (fp i_.toNatClampNeg)).toNatClampNeg ((g (2 * (fp i_.toNatClampNeg)).toNatClampNeg) + (((fo i_.toNatClampNeg) + mq) * (fx i_.toNatClampNeg)))) ((2 * (fp i_.toNatClampNeg)) + 1).toNatClampNeg)) rfl ?_
            refine z_run X be_X11_leads_90_93 ke_X11_leads_90_93 (lv' := [(4, .int ((fo i_.toNatClampNeg) + mq)), (3, .int i_), (0, .ref mo), (1, .int uq), (2, .int mq)]) (st' := [.ref mo, .int ((fo i_.toNatClampNeg) + mq), .int ((upd g (2 * (fp i_.toNatClampNeg)).toNatClampNeg ((g (2 * (fp i_.toNatClampNeg)).toNatClampNeg) + (((fo i_.toNatClampNeg) + mq) * (fx i_.toNatClampNeg)))) ((2 * (fp i_.toNatClampNeg)) + 1).toNatClampNeg), .int ((2 * (fp i_.toNatClampNeg)) + 1), .ref r_lead]) rfl ?_
            refine z_get X fl_11_76 de_X11_leads_93 0 rfl (v := .ref r_holeY) rfl ?_
            refine z_run X be_X11_leads_96_97 ke_X11_leads_96_97 (lv' := [(4, .int ((fo i_.toNatClampNeg) + mq)), (3, .int i_), (0, .ref mo), (1, .int uq), (2, .int mq)]) (st' := [.int i_, .ref r_holeY, .int ((fo i_.toNatClampNeg) + mq), .int ((upd g (2 * (fp i_.toNatClampNeg)).toNatClampNeg ((g (2 * (fp i_.toNatClampNeg)).toNatClampNeg) + (((fo i_.toNatClampNeg) + mq) * (fx i_.toNatClampNeg)))) ((2 * (fp i_.toNatClampNeg)) + 1).toNatClampNeg), .int ((2 * (fp i_.toNatClampNeg)) + 1), .ref r_lead]) rfl ?_
            refine z_iald X de_X11_leads_97 4 rfl (vin rfl (by omega) (by omega)) (v := (fy i_.toNatClampNeg)) rfl ?_
            refine z_run X be_X11_leads_98_100 ke_X11_leads_98_100 (lv' := [(4, .int ((fo i_.toNatClampNeg) + mq)), (3, .int i_), (0, .ref mo), (1, .int uq), (2, .int mq)]) (st' := [.int (((upd g (2 * (fp i_.toNatClampNeg)).toNatClampNeg ((g (2 * (fp i_.toNatClampNeg)).toNatClampNeg) + (((fo i_.toNatClampNeg) + mq) * (fx i_.toNatClampNeg)))) ((2 * (fp i_.toNatClampNeg)) + 1).toNatClampNeg) + (((fo i_.toNatClampNeg) + mq) * (fy i_.toNatClampNeg))), .int ((2 * (fp i_.toNatClampNeg)) + 1), .ref r_lead]) rfl ?_
            refine z_iast X de_X11_leads_100 1 rfl (vin (tI_add (tI_mul (show (2 : Int32).toInt = 2 from by decide) rfl (by omega)) (show (1 : Int32).toInt = 1 from by decide) (by omega)) (by omega) (by omega)) (ws' := [(mo, ob 11 [.int th, g_rows, g_row, .int hc, .ref r_planeOf, .ref r_holeX, .ref r_holeY, .ref r_room, .ref r_ounces, .ref r_deepOf, .int sc, .ref r_factor, .ref r_otherOf, .ref r_isApart, g_apartX, g_apartY, .int cc, .ref r_weight, .ref r_tape, .int n, .int p, .int lim, .int fi, g_crossOf, g_trueX, g_trueY, .ref r_thoughtX, .ref r_thoughtY, .int g_poundHole, .int g_poundOunces, .ref r_lead, g_trials, g_trialSpeed, g_isWhole, g_trialX, g_trialY, g_trialGive, g_trialLead, g_baseX, g_baseY, g_timesPull, g_trialBaseX, g_trialBaseY, g_trialTimes, g_pulls, g_pullMany, g_sizes, g_merged, g_nextHole, g_nextOunces, g_leftBehind, g_manUp, g_manLow, g_asked, g_lowOf, g_highOf, g_tried, g_found, g_askedMany, g_mostHoles, g_isFound, g_foundRest, g_foundOunces, g_question, g_questionSpeed, .long g_ounceRest, g_parts, g_filled, g_cogAt, g_cogBest, g_isOrdered, g_orderSize, g_isKept, g_kept, g_keptAt]), (r_lead, aI G 4 (upd (upd g (2 * (fp i_.toNatClampNeg)).toNatClampNeg ((g (2 * (fp i_.toNatClampNeg)).toNatClampNeg) + (((fo i_.toNatClampNeg) + mq) * (fx i_.toNatClampNeg)))) ((2 * (fp i_.toNatClampNeg)) + 1).toNatClampNeg (((upd g (2 * (fp i_.toNatClampNeg)).toNatClampNeg ((g (2 * (fp i_.toNatClampNeg)).toNatClampNeg) + (((fo i_.toNatClampNeg) + mq) * (fx i_.toNatClampNeg)))) ((2 * (fp i_.toNatClampNeg)) + 1).toNatClampNeg) + (((fo i_.toNatClampNeg) + mq) * (fy i_.toNatClampNeg))))), (r_planeOf, aI G 16 fp), (r_holeX, aI G 16 fx), (r_holeY, aI G 16 fy), (r_ounces, aI G 16 fo)]) rfl ?_
            refine z_run X be_X11_leads_101_104 ke_X11_leads_101_104 (lv' := [(3, .int (i_ + 1)), (4, .int ((fo i_.toNatClampNeg) + mq)), (0, .ref mo), (1, .int uq), (2, .int mq)]) (st' := []) rfl ?_
            refine z_goto X de_X11_leads_104 (tgt := 22) (by decide) ?_
            refine Z.sub (lv' := [(3, .int (i_ + 1)), (0, .ref mo), (1, .int uq), (2, .int mq)]) [0, 2, 3, 4] rfl [0, 1, 2, 3, 4, 5] (ws' := [(mo, ob 11 [.int th, g_rows, g_row, .int hc, .ref r_planeOf, .ref r_holeX, .ref r_holeY, .ref r_room, .ref r_ounces, .ref r_deepOf, .int sc, .ref r_factor, .ref r_otherOf, .ref r_isApart, g_apartX, g_apartY, .int cc, .ref r_weight, .ref r_tape, .int n, .int p, .int lim, .int fi, g_crossOf, g_trueX, g_trueY, .ref r_thoughtX, .ref r_thoughtY, .int g_poundHole, .int g_poundOunces, .ref r_lead, g_trials, g_trialSpeed, g_isWhole, g_trialX, g_trialY, g_trialGive, g_trialLead, g_baseX, g_baseY, g_timesPull, g_trialBaseX, g_trialBaseY, g_trialTimes, g_pulls, g_pullMany, g_sizes, g_merged, g_nextHole, g_nextOunces, g_leftBehind, g_manUp, g_manLow, g_asked, g_lowOf, g_highOf, g_tried, g_found, g_askedMany, g_mostHoles, g_isFound, g_foundRest, g_foundOunces, g_question, g_questionSpeed, .long g_ounceRest, g_parts, g_filled, g_cogAt, g_cogBest, g_isOrdered, g_orderSize, g_isKept, g_kept, g_keptAt]), (r_lead, aI G 4 (upd (upd g (2 * (fp i_.toNatClampNeg)).toNatClampNeg ((g (2 * (fp i_.toNatClampNeg)).toNatClampNeg) + (((fo i_.toNatClampNeg) + mq) * (fx i_.toNatClampNeg)))) ((2 * (fp i_.toNatClampNeg)) + 1).toNatClampNeg (((upd g (2 * (fp i_.toNatClampNeg)).toNatClampNeg ((g (2 * (fp i_.toNatClampNeg)).toNatClampNeg) + (((fo i_.toNatClampNeg) + mq) * (fx i_.toNatClampNeg)))) ((2 * (fp i_.toNatClampNeg)) + 1).toNatClampNeg) + (((fo i_.toNatClampNeg) + mq) * (fy i_.toNatClampNeg))))), (r_planeOf, aI G 16 fp), (r_holeX, aI G 16 fx), (r_holeY, aI G 16 fy), (r_ounces, aI G 16 fo)]) rfl (by decide) ?_
            exact ih22 ((i_ + 1), (upd (upd g (2 * (fp i_.toNatClampNeg)).toNatClampNeg ((g (2 * (fp i_.toNatClampNeg)).toNatClampNeg) + (((fo i_.toNatClampNeg) + mq) * (fx i_.toNatClampNeg)))) ((2 * (fp i_.toNatClampNeg)) + 1).toNatClampNeg (((upd g (2 * (fp i_.toNatClampNeg)).toNatClampNeg ((g (2 * (fp i_.toNatClampNeg)).toNatClampNeg) + (((fo i_.toNatClampNeg) + mq) * (fx i_.toNatClampNeg)))) ((2 * (fp i_.toNatClampNeg)) + 1).toNatClampNeg) + (((fo i_.toNatClampNeg) + mq) * (fy i_.toNatClampNeg))))) ⟨(by dsimp only; have e : (i_ + 1).toInt = i_.toInt + 1 := tI_add rfl (show (1 : Int32).toInt = 1 from by decide) (by omega); omega), (by dsimp only; have e : (i_ + 1).toInt = i_.toInt + 1 := tI_add rfl (show (1 : Int32).toInt = 1 from by decide) (by omega); rw [e, show (i_.toInt + 1).toNat = i_.toInt.toNat + 1 by omega]; exact ldq_step rfl (its_yes (fo := fo) (u := uq) (m := mq) (j := i_.toInt.toNat) (by omega)).symm rfl rfl (hpl i_.toInt.toNat (by omega)) hg)⟩ (by dsimp only; have e : (i_ + 1).toInt = i_.toInt + 1 := tI_add rfl (show (1 : Int32).toInt = 1 from by decide) (by omega); omega)
      · exact ⟨(by dsimp only; have e0 : (0 : Int32).toInt = 0 := (by decide); omega), (by dsimp only; have e0 : (0 : Int32).toInt = 0 := (by decide); rw [e0]; intro j hj; rw [hg j (by omega)]; exact ldq_zero.symm)⟩
    ·
      refine z_run X be_X11_leads_7_8 ke_X11_leads_7_8 (lv' := [(3, .int i_), (0, .ref mo), (1, .int uq), (2, .int mq)]) (st' := [.ref mo]) rfl ?_
      refine z_get X fl_11_166 de_X11_leads_8 0 rfl (v := .ref r_lead) rfl ?_
      refine z_run X be_X11_leads_11_13 ke_X11_leads_11_13 (lv' := [(3, .int i_), (0, .ref mo), (1, .int uq), (2, .int mq)]) (st' := [.int 0, .int i_, .ref r_lead]) rfl ?_
      refine z_iast X de_X11_leads_13 1 rfl (vin rfl (by omega) (by omega)) (ws' := [(mo, ob 11 [.int th, g_rows, g_row, .int hc, .ref r_planeOf, .ref r_holeX, .ref r_holeY, .ref r_room, .ref r_ounces, .ref r_deepOf, .int sc, .ref r_factor, .ref r_otherOf, .ref r_isApart, g_apartX, g_apartY, .int cc, .ref r_weight, .ref r_tape, .int n, .int p, .int lim, .int fi, g_crossOf, g_trueX, g_trueY, .ref r_thoughtX, .ref r_thoughtY, .int g_poundHole, .int g_poundOunces, .ref r_lead, g_trials, g_trialSpeed, g_isWhole, g_trialX, g_trialY, g_trialGive, g_trialLead, g_baseX, g_baseY, g_timesPull, g_trialBaseX, g_trialBaseY, g_trialTimes, g_pulls, g_pullMany, g_sizes, g_merged, g_nextHole, g_nextOunces, g_leftBehind, g_manUp, g_manLow, g_asked, g_lowOf, g_highOf, g_tried, g_found, g_askedMany, g_mostHoles, g_isFound, g_foundRest, g_foundOunces, g_question, g_questionSpeed, .long g_ounceRest, g_parts, g_filled, g_cogAt, g_cogBest, g_isOrdered, g_orderSize, g_isKept, g_kept, g_keptAt]), (r_lead, aI G 4 (upd g i_.toNatClampNeg 0)), (r_planeOf, aI G 16 fp), (r_holeX, aI G 16 fx), (r_holeY, aI G 16 fy), (r_ounces, aI G 16 fo)]) rfl ?_
      refine z_run X be_X11_leads_14_17 ke_X11_leads_14_17 (lv' := [(3, .int (i_ + 1)), (0, .ref mo), (1, .int uq), (2, .int mq)]) (st' := []) rfl ?_
      refine z_goto X de_X11_leads_17 (tgt := 2) (by decide) ?_
      exact ih2 ((i_ + 1), (upd g i_.toNatClampNeg 0)) ⟨(by dsimp only; have e : (i_ + 1).toInt = i_.toInt + 1 := tI_add rfl (show (1 : Int32).toInt = 1 from by decide) (by omega); omega), (by dsimp only; have e : (i_ + 1).toInt = i_.toInt + 1 := tI_add rfl (show (1 : Int32).toInt = 1 from by decide) (by omega); rw [e]; exact st_step hi.1 hg rfl)⟩ (by dsimp only; have e : (i_ + 1).toInt = i_.toInt + 1 := tI_add rfl (show (1 : Int32).toInt = 1 from by decide) (by omega); omega)
  · exact ⟨(by dsimp only; have e0 : (0 : Int32).toInt = 0 := (by decide); omega), (by dsimp only; have e0 : (0 : Int32).toInt = 0 := (by decide); intro j hj; omega)⟩

theorem dg_X11_settle_2 : decode cX11_settle 2 = .ok (.putfield 3, 3) := by decide +kernel
theorem dg_X11_settle_6 : decode cX11_settle 6 = .ok (.invokestatic 130, 3) := by decide +kernel
theorem dg_X11_settle_9 : decode cX11_settle 9 = .ok (.ifCond .ne 5, 3) := by decide +kernel
theorem dg_X11_settle_20 : decode cX11_settle 20 = .ok (.if_icmp .ge 105, 3) := by decide +kernel
theorem dg_X11_settle_128 : decode cX11_settle 128 = .ok (.ireturn, 1) := by decide +kernel
theorem dg_X11_settle_26 : decode cX11_settle 26 = .ok (.invokevirtual 169, 3) := by decide +kernel
theorem dg_X11_settle_31 : decode cX11_settle 31 = .ok (.invokevirtual 358, 3) := by decide +kernel
theorem dg_X11_settle_47 : decode cX11_settle 47 = .ok (.if_icmp .ge 53, 3) := by decide +kernel
theorem dg_X11_settle_54 : decode cX11_settle 54 = .ok (.invokevirtual 424, 3) := by decide +kernel
theorem dg_X11_settle_61 : decode cX11_settle 61 = .ok (.ifCond .lt 33, 3) := by decide +kernel
theorem dg_X11_settle_97 : decode cX11_settle 97 = .ok (.goto (-53), 3) := by decide +kernel
theorem dg_X11_settle_102 : decode cX11_settle 102 = .ok (.ifCond .ge 5, 3) := by decide +kernel
theorem dg_X11_settle_106 : decode cX11_settle 106 = .ok (.ireturn, 1) := by decide +kernel
theorem dg_X11_settle_65 : decode cX11_settle 65 = .ok (.getfield 421, 3) := by decide +kernel
theorem dg_X11_settle_69 : decode cX11_settle 69 = .ok (.lcmp, 1) := by decide +kernel
theorem dg_X11_settle_70 : decode cX11_settle 70 = .ok (.ifCond .ge 24, 3) := by decide +kernel
theorem dg_X11_settle_74 : decode cX11_settle 74 = .ok (.getfield 421, 3) := by decide +kernel
theorem dg_X11_settle_84 : decode cX11_settle 84 = .ok (.ifCond .ne 7, 3) := by decide +kernel
theorem dg_X11_settle_108 : decode cX11_settle 108 = .ok (.getfield 82, 3) := by decide +kernel
theorem dg_X11_settle_114 : decode cX11_settle 114 = .ok (.iaload, 1) := by decide +kernel
theorem dg_X11_settle_118 : decode cX11_settle 118 = .ok (.iastore, 1) := by decide +kernel
theorem dg_X11_settle_122 : decode cX11_settle 122 = .ok (.goto (-106), 3) := by decide +kernel
theorem dg_X11_settle_88 : decode cX11_settle 88 = .ok (.goto 4, 3) := by decide +kernel
theorem dg_X11_settle_13 : decode cX11_settle 13 = .ok (.ireturn, 1) := by decide +kernel
abbrev bg_X11_settle_0_2 : ZB := [(.aload_n 0, .null), (.iconst 0, .int 0)]
theorem kg_X11_settle_0_2 : zchk cX11_settle bg_X11_settle_0_2 0 = true ∧ zpc bg_X11_settle_0_2 0 = 2 := ⟨by decide +kernel, rfl⟩
abbrev bg_X11_settle_5_6 : ZB := [(.iload_n 1, .null)]
theorem kg_X11_settle_5_6 : zchk cX11_settle bg_X11_settle_5_6 5 = true ∧ zpc bg_X11_settle_5_6 5 = 6 := ⟨by decide +kernel, rfl⟩
abbrev bg_X11_settle_14_16 : ZB := [(.iconst 0, .int 0), (.istore_n 2, .null)]
theorem kg_X11_settle_14_16 : zchk cX11_settle bg_X11_settle_14_16 14 = true ∧ zpc bg_X11_settle_14_16 14 = 16 := ⟨by decide +kernel, rfl⟩
abbrev bg_X11_settle_16_20 : ZB := [(.iload_n 2, .null), (.sipush 200, .int 200)]
theorem kg_X11_settle_16_20 : zchk cX11_settle bg_X11_settle_16_20 16 = true ∧ zpc bg_X11_settle_16_20 16 = 20 := ⟨by decide +kernel, rfl⟩
abbrev bg_X11_settle_125_128 : ZB := [(.sipush 200, .int 200)]
theorem kg_X11_settle_125_128 : zchk cX11_settle bg_X11_settle_125_128 125 = true ∧ zpc bg_X11_settle_125_128 125 = 128 := ⟨by decide +kernel, rfl⟩
abbrev bg_X11_settle_23_26 : ZB := [(.aload_n 0, .null), (.iconst (-1), .int (-1)), (.iconst 0, .int 0)]
theorem kg_X11_settle_23_26 : zchk cX11_settle bg_X11_settle_23_26 23 = true ∧ zpc bg_X11_settle_23_26 23 = 26 := ⟨by decide +kernel, rfl⟩
abbrev bg_X11_settle_29_31 : ZB := [(.aload_n 0, .null), (.iload_n 1, .null)]
theorem kg_X11_settle_29_31 : zchk cX11_settle bg_X11_settle_29_31 29 = true ∧ zpc bg_X11_settle_29_31 29 = 31 := ⟨by decide +kernel, rfl⟩
abbrev bg_X11_settle_34_47 : ZB := [(.lstore_n 3, .null), (.iconst (-1), .int (-1)), (.istore 5, .null), (.iconst 0, .int 0), (.istore 6, .null), (.iconst 0, .int 0), (.istore 7, .null), (.iload 7, .null), (.iconst 2, .int 2)]
theorem kg_X11_settle_34_47 : zchk cX11_settle bg_X11_settle_34_47 34 = true ∧ zpc bg_X11_settle_34_47 34 = 47 := ⟨by decide +kernel, rfl⟩
abbrev bg_X11_settle_50_54 : ZB := [(.aload_n 0, .null), (.iload_n 1, .null), (.iload 7, .null)]
theorem kg_X11_settle_50_54 : zchk cX11_settle bg_X11_settle_50_54 50 = true ∧ zpc bg_X11_settle_50_54 50 = 54 := ⟨by decide +kernel, rfl⟩
abbrev bg_X11_settle_57_61 : ZB := [(.istore 8, .null), (.iload 8, .null)]
theorem kg_X11_settle_57_61 : zchk cX11_settle bg_X11_settle_57_61 57 = true ∧ zpc bg_X11_settle_57_61 57 = 61 := ⟨by decide +kernel, rfl⟩
abbrev bg_X11_settle_94_97 : ZB := [(.iinc 7 1, .int 1)]
theorem kg_X11_settle_94_97 : zchk cX11_settle bg_X11_settle_94_97 94 = true ∧ zpc bg_X11_settle_94_97 94 = 97 := ⟨by decide +kernel, rfl⟩
abbrev bg_X11_settle_44_47 : ZB := [(.iload 7, .null), (.iconst 2, .int 2)]
theorem kg_X11_settle_44_47 : zchk cX11_settle bg_X11_settle_44_47 44 = true ∧ zpc bg_X11_settle_44_47 44 = 47 := ⟨by decide +kernel, rfl⟩
abbrev bg_X11_settle_100_102 : ZB := [(.iload 5, .null)]
theorem kg_X11_settle_100_102 : zchk cX11_settle bg_X11_settle_100_102 100 = true ∧ zpc bg_X11_settle_100_102 100 = 102 := ⟨by decide +kernel, rfl⟩
abbrev bg_X11_settle_105_106 : ZB := [(.iload_n 2, .null)]
theorem kg_X11_settle_105_106 : zchk cX11_settle bg_X11_settle_105_106 105 = true ∧ zpc bg_X11_settle_105_106 105 = 106 := ⟨by decide +kernel, rfl⟩
abbrev bg_X11_settle_64_65 : ZB := [(.aload_n 0, .null)]
theorem kg_X11_settle_64_65 : zchk cX11_settle bg_X11_settle_64_65 64 = true ∧ zpc bg_X11_settle_64_65 64 = 65 := ⟨by decide +kernel, rfl⟩
abbrev bg_X11_settle_68_69 : ZB := [(.lload_n 3, .null)]
theorem kg_X11_settle_68_69 : zchk cX11_settle bg_X11_settle_68_69 68 = true ∧ zpc bg_X11_settle_68_69 68 = 69 := ⟨by decide +kernel, rfl⟩
abbrev bg_X11_settle_73_74 : ZB := [(.aload_n 0, .null)]
theorem kg_X11_settle_73_74 : zchk cX11_settle bg_X11_settle_73_74 73 = true ∧ zpc bg_X11_settle_73_74 73 = 74 := ⟨by decide +kernel, rfl⟩
abbrev bg_X11_settle_77_84 : ZB := [(.lstore_n 3, .null), (.iload 8, .null), (.istore 5, .null), (.iload 7, .null)]
theorem kg_X11_settle_77_84 : zchk cX11_settle bg_X11_settle_77_84 77 = true ∧ zpc bg_X11_settle_77_84 77 = 84 := ⟨by decide +kernel, rfl⟩
abbrev bg_X11_settle_91_97 : ZB := [(.iconst (-1), .int (-1)), (.istore 6, .null), (.iinc 7 1, .int 1)]
theorem kg_X11_settle_91_97 : zchk cX11_settle bg_X11_settle_91_97 91 = true ∧ zpc bg_X11_settle_91_97 91 = 97 := ⟨by decide +kernel, rfl⟩
abbrev bg_X11_settle_107_108 : ZB := [(.aload_n 0, .null)]
theorem kg_X11_settle_107_108 : zchk cX11_settle bg_X11_settle_107_108 107 = true ∧ zpc bg_X11_settle_107_108 107 = 108 := ⟨by decide +kernel, rfl⟩
abbrev bg_X11_settle_111_114 : ZB := [(.iload 5, .null), (.dup2, .null)]
theorem kg_X11_settle_111_114 : zchk cX11_settle bg_X11_settle_111_114 111 = true ∧ zpc bg_X11_settle_111_114 111 = 114 := ⟨by decide +kernel, rfl⟩
abbrev bg_X11_settle_115_118 : ZB := [(.iload 6, .null), (.iadd, .null)]
theorem kg_X11_settle_115_118 : zchk cX11_settle bg_X11_settle_115_118 115 = true ∧ zpc bg_X11_settle_115_118 115 = 118 := ⟨by decide +kernel, rfl⟩
abbrev bg_X11_settle_119_122 : ZB := [(.iinc 2 1, .int 1)]
theorem kg_X11_settle_119_122 : zchk cX11_settle bg_X11_settle_119_122 119 = true ∧ zpc bg_X11_settle_119_122 119 = 122 := ⟨by decide +kernel, rfl⟩
abbrev bg_X11_settle_87_88 : ZB := [(.iconst 1, .int 1)]
theorem kg_X11_settle_87_88 : zchk cX11_settle bg_X11_settle_87_88 87 = true ∧ zpc bg_X11_settle_87_88 87 = 88 := ⟨by decide +kernel, rfl⟩
abbrev bg_X11_settle_92_97 : ZB := [(.istore 6, .null), (.iinc 7 1, .int 1)]
theorem kg_X11_settle_92_97 : zchk cX11_settle bg_X11_settle_92_97 92 = true ∧ zpc bg_X11_settle_92_97 92 = 97 := ⟨by decide +kernel, rfl⟩
abbrev bg_X11_settle_12_13 : ZB := [(.iconst (-1), .int (-1))]
theorem kg_X11_settle_12_13 : zchk cX11_settle bg_X11_settle_12_13 12 = true ∧ zpc bg_X11_settle_12_13 12 = 13 := ⟨by decide +kernel, rfl⟩
set_option maxHeartbeats 4000000 in
set_option maxRecDepth 100000 in
theorem cg_X11_settle (l : Launch) (G : KG) (mo : Nat) (th : Int32) (g_rows : Value) (g_row : Value) (hc : Int32) (r_planeOf : Nat) (r_holeX : Nat) (r_holeY : Nat) (r_room : Nat) (r_ounces : Nat) (r_deepOf : Nat) (sc : Int32) (r_factor : Nat) (r_otherOf : Nat) (r_isApart : Nat) (g_apartX : Value) (g_apartY : Value) (cc : Int32) (r_weight : Nat) (r_tape : Nat) (n : Int32) (p : Int32) (lim : Int32) (fi : Int32) (g_crossOf : Value) (g_trueX : Value) (g_trueY : Value) (r_thoughtX : Nat) (r_thoughtY : Nat) (g_poundHole : Int32) (g_poundOunces : Int32) (r_lead : Nat) (g_trials : Value) (g_trialSpeed : Value) (g_isWhole : Value) (g_trialX : Value) (g_trialY : Value) (g_trialGive : Value) (g_trialLead : Value) (g_baseX : Value) (g_baseY : Value) (g_timesPull : Value) (g_trialBaseX : Value) (g_trialBaseY : Value) (g_trialTimes : Value) (g_pulls : Value) (g_pullMany : Value) (g_sizes : Value) (g_merged : Value) (g_nextHole : Value) (g_nextOunces : Value) (g_leftBehind : Value) (g_manUp : Value) (g_manLow : Value) (g_asked : Value) (g_lowOf : Value) (g_highOf : Value) (g_tried : Value) (g_found : Value) (g_askedMany : Value) (g_mostHoles : Value) (g_isFound : Value) (g_foundRest : Value) (g_foundOunces : Value) (g_question : Value) (g_questionSpeed : Value) (g_ounceRest : Int64) (g_parts : Value) (g_filled : Value) (g_cogAt : Value) (g_cogBest : Value) (g_isOrdered : Value) (g_orderSize : Value) (g_isKept : Value) (g_kept : Value) (g_keptAt : Value) (fp : Nat → Int32) (fx : Nat → Int32) (fy : Nat → Int32) (fo : Nat → Int32) (fl : Nat → Int32) (fr : Nat → Int32) (fX : Nat → Int32) (fY : Nat → Int32) (pq : Int32) (hci : Int) (pi : Int) (hhc : hc.toInt = hci) (hpq : pq.toInt = pi) (hc0 : 0 ≤ hci ∧ hci ≤ 16) (hpl : ∀ j : Nat, (j : Int) < hci → 0 ≤ (fp j).toInt ∧ (fp j).toInt ≤ 1) : Ct l G yX11_settle cX11_settle 9 (some .int) { frames := 3, cells := 0, slots := 0, locals := 69 } [.ref mo, .int pq] [(mo, ob 11 [.int th, g_rows, g_row, .int hc, .ref r_planeOf, .ref r_holeX, .ref r_holeY, .ref r_room, .ref r_ounces, .ref r_deepOf, .int sc, .ref r_factor, .ref r_otherOf, .ref r_isApart, g_apartX, g_apartY, .int cc, .ref r_weight, .ref r_tape, .int n, .int p, .int lim, .int fi, g_crossOf, g_trueX, g_trueY, .ref r_thoughtX, .ref r_thoughtY, .int g_poundHole, .int g_poundOunces, .ref r_lead, g_trials, g_trialSpeed, g_isWhole, g_trialX, g_trialY, g_trialGive, g_trialLead, g_baseX, g_baseY, g_timesPull, g_trialBaseX, g_trialBaseY, g_trialTimes, g_pulls, g_pullMany, g_sizes, g_merged, g_nextHole, g_nextOunces, g_leftBehind, g_manUp, g_manLow, g_asked, g_lowOf, g_highOf, g_tried, g_found, g_askedMany, g_mostHoles, g_isFound, g_foundRest, g_foundOunces, g_question, g_questionSpeed, .long g_ounceRest, g_parts, g_filled, g_cogAt, g_cogBest, g_isOrdered, g_orderSize, g_isKept, g_kept, g_keptAt]), (r_lead, aI G 4 fl), (r_planeOf, aI G 16 fp), (r_holeX, aI G 16 fx), (r_holeY, aI G 16 fy), (r_ounces, aI G 16 fo), (r_room, aI G 16 fr), (r_thoughtX, aI G 4 fX), (r_thoughtY, aI G 4 fY)] (fun r w1 => ∃ (rz : Int32), ∃ (fh2 : Nat → Int32), ∃ (fl2 : Nat → Int32), ∃ (q2 : Int64), ((¬ (0 ≤ pi ∧ pi ≤ 1) ∧ rz = -1 ∧ fh2 = fo) ∨ ((0 ≤ pi ∧ pi ≤ 1) ∧ (0 ≤ rz.toInt ∧ rz.toInt ≤ 200) ∧ itr (nx1 hci fp fr fx fy (fX pq.toNatClampNeg) (fY pq.toNatClampNeg) pi) fo rz.toInt.toNat = some fh2 ∧ (rz.toInt.toNat = 200 ∨ (nx1 hci fp fr fx fy (fX pq.toNatClampNeg) (fY pq.toNatClampNeg) pi) fh2 = none))) ∧ r = some (.int rz) ∧ w1 = [(mo, ob 11 [.int (0 : Int32), g_rows, g_row, .int hc, .ref r_planeOf, .ref r_holeX, .ref r_holeY, .ref r_room, .ref r_ounces, .ref r_deepOf, .int sc, .ref r_factor, .ref r_otherOf, .ref r_isApart, g_apartX, g_apartY, .int cc, .ref r_weight, .ref r_tape, .int n, .int p, .int lim, .int fi, g_crossOf, g_trueX, g_trueY, .ref r_thoughtX, .ref r_thoughtY, .int g_poundHole, .int g_poundOunces, .ref r_lead, g_trials, g_trialSpeed, g_isWhole, g_trialX, g_trialY, g_trialGive, g_trialLead, g_baseX, g_baseY, g_timesPull, g_trialBaseX, g_trialBaseY, g_trialTimes, g_pulls, g_pullMany, g_sizes, g_merged, g_nextHole, g_nextOunces, g_leftBehind, g_manUp, g_manLow, g_asked, g_lowOf, g_highOf, g_tried, g_found, g_askedMany, g_mostHoles, g_isFound, g_foundRest, g_foundOunces, g_question, g_questionSpeed, .long q2, g_parts, g_filled, g_cogAt, g_cogBest, g_isOrdered, g_orderSize, g_isKept, g_kept, g_keptAt]), (r_lead, aI G 4 fl2), (r_planeOf, aI G 16 fp), (r_holeX, aI G 16 fx), (r_holeY, aI G 16 fy), (r_ounces, aI G 16 fh2), (r_room, aI G 16 fr), (r_thoughtX, aI G 4 fX), (r_thoughtY, aI G 4 fY)]) := by
  refine ct_of [(0, .ref mo), (1, .int pq)] (by decide) (Nat.le_of_ble_eq_true rfl) rfl ?_
  intro p0 e0 s0 m0 args0 below0 meth0 c0 A X
  refine z_run X bg_X11_settle_0_2 kg_X11_settle_0_2 (lv' := [(0, .ref mo), (1, .int pq)]) (st' := [.int 0, .ref mo]) rfl ?_
  refine z_put X fl_11_3 dg_X11_settle_2 0 rfl (ty := .int) (T := TX11) (N := 75) rfl (Or.inl rfl) (by decide +kernel) rfl (by rfl) (Nat.le_of_ble_eq_true rfl) (ws' := [(mo, ob 11 [.int 0, g_rows, g_row, .int hc, .ref r_planeOf, .ref r_holeX, .ref r_holeY, .ref r_room, .ref r_ounces, .ref r_deepOf, .int sc, .ref r_factor, .ref r_otherOf, .ref r_isApart, g_apartX, g_apartY, .int cc, .ref r_weight, .ref r_tape, .int n, .int p, .int lim, .int fi, g_crossOf, g_trueX, g_trueY, .ref r_thoughtX, .ref r_thoughtY, .int g_poundHole, .int g_poundOunces, .ref r_lead, g_trials, g_trialSpeed, g_isWhole, g_trialX, g_trialY, g_trialGive, g_trialLead, g_baseX, g_baseY, g_timesPull, g_trialBaseX, g_trialBaseY, g_trialTimes, g_pulls, g_pullMany, g_sizes, g_merged, g_nextHole, g_nextOunces, g_leftBehind, g_manUp, g_manLow, g_asked, g_lowOf, g_highOf, g_tried, g_found, g_askedMany, g_mostHoles, g_isFound, g_foundRest, g_foundOunces, g_question, g_questionSpeed, .long g_ounceRest, g_parts, g_filled, g_cogAt, g_cogBest, g_isOrdered, g_orderSize, g_isKept, g_kept, g_keptAt]), (r_lead, aI G 4 fl), (r_planeOf, aI G 16 fp), (r_holeX, aI G 16 fx), (r_holeY, aI G 16 fy), (r_ounces, aI G 16 fo), (r_room, aI G 16 fr), (r_thoughtX, aI G 4 fX), (r_thoughtY, aI G 4 fY)]) rfl ?_
  refine z_run X bg_X11_settle_5_6 kg_X11_settle_5_6 (lv' := [(0, .ref mo), (1, .int pq)]) (st' := [.int pq]) rfl ?_
  refine z_callS X k_11_130 (cg_X11_isPlane l G pq pi hpq) dg_X11_settle_6 ⟨Nat.le_of_ble_eq_true rfl, Nat.le_of_ble_eq_true rfl⟩ ⟨Nat.le_of_ble_eq_true rfl, Nat.le_of_ble_eq_true rfl⟩ rfl (rest := []) (As := [.int pq]) rfl (Nat.le_of_ble_eq_true rfl) [] [0, 1, 2, 3, 4, 5, 6, 7, 8] rfl (by decide) (wr := [(mo, ob 11 [.int 0, g_rows, g_row, .int hc, .ref r_planeOf, .ref r_holeX, .ref r_holeY, .ref r_room, .ref r_ounces, .ref r_deepOf, .int sc, .ref r_factor, .ref r_otherOf, .ref r_isApart, g_apartX, g_apartY, .int cc, .ref r_weight, .ref r_tape, .int n, .int p, .int lim, .int fi, g_crossOf, g_trueX, g_trueY, .ref r_thoughtX, .ref r_thoughtY, .int g_poundHole, .int g_poundOunces, .ref r_lead, g_trials, g_trialSpeed, g_isWhole, g_trialX, g_trialY, g_trialGive, g_trialLead, g_baseX, g_baseY, g_timesPull, g_trialBaseX, g_trialBaseY, g_trialTimes, g_pulls, g_pullMany, g_sizes, g_merged, g_nextHole, g_nextOunces, g_leftBehind, g_manUp, g_manLow, g_asked, g_lowOf, g_highOf, g_tried, g_found, g_askedMany, g_mostHoles, g_isFound, g_foundRest, g_foundOunces, g_question, g_questionSpeed, .long g_ounceRest, g_parts, g_filled, g_cogAt, g_cogBest, g_isOrdered, g_orderSize, g_isKept, g_kept, g_keptAt]), (r_lead, aI G 4 fl), (r_planeOf, aI G 16 fp), (r_holeX, aI G 16 fx), (r_holeY, aI G 16 fy), (r_ounces, aI G 16 fo), (r_room, aI G 16 fr), (r_thoughtX, aI G 4 fX), (r_thoughtY, aI G 4 fY)]) rfl (by decide) (by decide) ?_
  rintro _ _ ⟨rfl, rfl⟩
  refine Z.at (pc' := 9) (st' := [.int (zb (decide (0 ≤ pi ∧ pi ≤ 1)))]) (ws' := [(mo, ob 11 [.int 0, g_rows, g_row, .int hc, .ref r_planeOf, .ref r_holeX, .ref r_holeY, .ref r_room, .ref r_ounces, .ref r_deepOf, .int sc, .ref r_factor, .ref r_otherOf, .ref r_isApart, g_apartX, g_apartY, .int cc, .ref r_weight, .ref r_tape, .int n, .int p, .int lim, .int fi, g_crossOf, g_trueX, g_trueY, .ref r_thoughtX, .ref r_thoughtY, .int g_poundHole, .int g_poundOunces, .ref r_lead, g_trials, g_trialSpeed, g_isWhole, g_trialX, g_trialY, g_trialGive, g_trialLead, g_baseX, g_baseY, g_timesPull, g_trialBaseX, g_trialBaseY, g_trialTimes, g_pulls, g_pullMany, g_sizes, g_merged, g_nextHole, g_nextOunces, g_leftBehind, g_manUp, g_manLow, g_asked, g_lowOf, g_highOf, g_tried, g_found, g_askedMany, g_mostHoles, g_isFound, g_foundRest, g_foundOunces, g_question, g_questionSpeed, .long g_ounceRest, g_parts, g_filled, g_cogAt, g_cogBest, g_isOrdered, g_orderSize, g_isKept, g_kept, g_keptAt]), (r_lead, aI G 4 fl), (r_planeOf, aI G 16 fp), (r_holeX, aI G 16 fx), (r_holeY, aI G 16 fy), (r_ounces, aI G 16 fo), (r_room, aI G 16 fr), (r_thoughtX, aI G 4 fX), (r_thoughtY, aI G 4 fY)]) (kc' := 0) (ks' := 0) rfl rfl rfl rfl rfl ?_
  refine zi_ne_zb X dg_X11_settle_9 (tgt := 14) (by decide) (fun c9_1 => ?_) (fun c9_1 => ?_)
  ·
    refine z_run X bg_X11_settle_14_16 kg_X11_settle_14_16 (lv' := [(2, .int 0), (0, .ref mo), (1, .int pq)]) (st' := []) rfl ?_
    refine zloop (σ := Int32 × (Nat → Int32) × (Nat → Int32) × Int64) (fun z => [(2, .int z.1), (0, .ref mo), (1, .int pq)]) (fun z => []) (fun z => [(mo, ob 11 [.int 0, g_rows, g_row, .int hc, .ref r_planeOf, .ref r_holeX, .ref r_holeY, .ref r_room, .ref r_ounces, .ref r_deepOf, .int sc, .ref r_factor, .ref r_otherOf, .ref r_isApart, g_apartX, g_apartY, .int cc, .ref r_weight, .ref r_tape, .int n, .int p, .int lim, .int fi, g_crossOf, g_trueX, g_trueY, .ref r_thoughtX, .ref r_thoughtY, .int g_poundHole, .int g_poundOunces, .ref r_lead, g_trials, g_trialSpeed, g_isWhole, g_trialX, g_trialY, g_trialGive, g_trialLead, g_baseX, g_baseY, g_timesPull, g_trialBaseX, g_trialBaseY, g_trialTimes, g_pulls, g_pullMany, g_sizes, g_merged, g_nextHole, g_nextOunces, g_leftBehind, g_manUp, g_manLow, g_asked, g_lowOf, g_highOf, g_tried, g_found, g_askedMany, g_mostHoles, g_isFound, g_foundRest, g_foundOunces, g_question, g_questionSpeed, .long z.2.2.2, g_parts, g_filled, g_cogAt, g_cogBest, g_isOrdered, g_orderSize, g_isKept, g_kept, g_keptAt]), (r_lead, aI G 4 z.2.2.1), (r_planeOf, aI G 16 fp), (r_holeX, aI G 16 fx), (r_holeY, aI G 16 fy), (r_ounces, aI G 16 z.2.1), (r_room, aI G 16 fr), (r_thoughtX, aI G 4 fX), (r_thoughtY, aI G 4 fY)]) (fun z => (0 ≤ z.1.toInt ∧ z.1.toInt ≤ 200) ∧ (itr (nx1 hci fp fr fx fy (fX pq.toNatClampNeg) (fY pq.toNatClampNeg) pi) fo z.1.toInt.toNat = some z.2.1)) (fun z => (200 - z.1.toInt).toNat) (0, fo, fl, g_ounceRest) ?_ ?_
    ·
      rintro ⟨n_, g, gl, q_⟩ ⟨hi, hk⟩ ih16
      dsimp only at *
      refine z_run X bg_X11_settle_16_20 kg_X11_settle_16_20 (lv' := [(2, .int n_), (0, .ref mo), (1, .int pq)]) (st' := [.int 200, .int n_]) rfl ?_
      refine zc_ge X dg_X11_settle_20 (tgt := 125) (by decide) (a := n_.toInt) (b := 200) rfl (show (200 : Int32).toInt = 200 from by decide) (fun c20_2 => ?_) (fun c20_2 => ?_)
      ·
        refine z_run X bg_X11_settle_125_128 kg_X11_settle_125_128 (lv' := [(2, .int n_), (0, .ref mo), (1, .int pq)]) (st' := [.int 200]) rfl ?_
        exact z_iret X rfl dg_X11_settle_128 (Nat.le_of_ble_eq_true rfl) (Nat.le_of_ble_eq_true rfl) ⟨(200 : Int32), g, gl, q_, (Or.inr ⟨by omega, by decide, by rw [show (200 : Int32).toInt.toNat = n_.toInt.toNat from by have z : (200 : Int32).toInt = 200 := (by decide); omega]; exact hk, Or.inl (by decide)⟩), rfl, rfl⟩
      ·
        refine z_run X bg_X11_settle_23_26 kg_X11_settle_23_26 (lv' := [(2, .int n_), (0, .ref mo), (1, .int pq)]) (st' := [.int 0, .int (-1), .ref mo]) rfl ?_
        refine z_callV X k_11_169 (ce_X11_leads l G mo 0 g_rows g_row hc r_planeOf r_holeX r_holeY r_room r_ounces r_deepOf sc r_factor r_otherOf r_isApart g_apartX g_apartY cc r_weight r_tape n p lim fi g_crossOf g_trueX g_trueY (.ref r_thoughtX) (.ref r_thoughtY) g_poundHole g_poundOunces r_lead g_trials g_trialSpeed g_isWhole g_trialX g_trialY g_trialGive g_trialLead g_baseX g_baseY g_timesPull g_trialBaseX g_trialBaseY g_trialTimes g_pulls g_pullMany g_sizes g_merged g_nextHole g_nextOunces g_leftBehind g_manUp g_manLow g_asked g_lowOf g_highOf g_tried g_found g_askedMany g_mostHoles g_isFound g_foundRest g_foundOunces g_question g_questionSpeed (.long q_) g_parts g_filled g_cogAt g_cogBest g_isOrdered g_orderSize g_isKept g_kept g_keptAt fp fx fy g gl (-1) 0 hci ((-1)) hhc (show ((-1) : Int32).toInt = (-1) from by decide) (by omega) (by omega)) dg_X11_settle_26 0 rfl rfl rfl ⟨Nat.le_of_ble_eq_true rfl, Nat.le_of_ble_eq_true rfl⟩ ⟨Nat.le_of_ble_eq_true rfl, Nat.le_of_ble_eq_true rfl⟩ rfl (rest := []) (As := [.int (-1), .int 0]) rfl (Nat.le_of_ble_eq_true rfl) [0, 1, 2, 3, 4, 5] [6, 7, 8] rfl (by decide) (wr := [(r_room, aI G 16 fr), (r_thoughtX, aI G 4 fX), (r_thoughtY, aI G 4 fY)]) rfl (by decide) (by decide) ?_
        rintro _ _ ⟨fl2_3, f26_4, rfl, rfl⟩
        refine Z.at (pc' := 29) (st' := []) (ws' := [(r_room, aI G 16 fr), (r_thoughtX, aI G 4 fX), (r_thoughtY, aI G 4 fY), (mo, ob 11 [.int 0, g_rows, g_row, .int hc, .ref r_planeOf, .ref r_holeX, .ref r_holeY, .ref r_room, .ref r_ounces, .ref r_deepOf, .int sc, .ref r_factor, .ref r_otherOf, .ref r_isApart, g_apartX, g_apartY, .int cc, .ref r_weight, .ref r_tape, .int n, .int p, .int lim, .int fi, g_crossOf, g_trueX, g_trueY, .ref r_thoughtX, .ref r_thoughtY, .int g_poundHole, .int g_poundOunces, .ref r_lead, g_trials, g_trialSpeed, g_isWhole, g_trialX, g_trialY, g_trialGive, g_trialLead, g_baseX, g_baseY, g_timesPull, g_trialBaseX, g_trialBaseY, g_trialTimes, g_pulls, g_pullMany, g_sizes, g_merged, g_nextHole, g_nextOunces, g_leftBehind, g_manUp, g_manLow, g_asked, g_lowOf, g_highOf, g_tried, g_found, g_askedMany, g_mostHoles, g_isFound, g_foundRest, g_foundOunces, g_question, g_questionSpeed, .long q_, g_parts, g_filled, g_cogAt, g_cogBest, g_isOrdered, g_orderSize, g_isKept, g_kept, g_keptAt]), (r_lead, aI G 4 fl2_3), (r_planeOf, aI G 16 fp), (r_holeX, aI G 16 fx), (r_holeY, aI G 16 fy), (r_ounces, aI G 16 g)]) (kc' := 0) (ks' := 0) rfl rfl rfl rfl rfl ?_
        refine z_run X bg_X11_settle_29_31 kg_X11_settle_29_31 (lv' := [(2, .int n_), (0, .ref mo), (1, .int pq)]) (st' := [.int pq, .ref mo]) rfl ?_
        refine z_callV X k_11_358 (cg_X11_restOf l G mo 0 g_rows g_row hc r_planeOf r_holeX r_holeY r_room r_ounces r_deepOf sc r_factor r_otherOf r_isApart g_apartX g_apartY cc r_weight r_tape n p lim fi g_crossOf g_trueX g_trueY r_thoughtX r_thoughtY g_poundHole g_poundOunces r_lead g_trials g_trialSpeed g_isWhole g_trialX g_trialY g_trialGive g_trialLead g_baseX g_baseY g_timesPull g_trialBaseX g_trialBaseY g_trialTimes g_pulls g_pullMany g_sizes g_merged g_nextHole g_nextOunces g_leftBehind g_manUp g_manLow g_asked g_lowOf g_highOf g_tried g_found g_askedMany g_mostHoles g_isFound g_foundRest g_foundOunces g_question g_questionSpeed q_ g_parts g_filled g_cogAt g_cogBest g_isOrdered g_orderSize g_isKept g_kept g_keptAt fX fY fl2_3 pq pi hpq (by omega)) dg_X11_settle_31 3 rfl rfl rfl ⟨Nat.le_of_ble_eq_true rfl, Nat.le_of_ble_eq_true rfl⟩ ⟨Nat.le_of_ble_eq_true rfl, Nat.le_of_ble_eq_true rfl⟩ rfl (rest := []) (As := [.int pq]) rfl (Nat.le_of_ble_eq_true rfl) [3, 4, 1, 2] [0, 5, 6, 7, 8] rfl (by decide) (wr := [(r_room, aI G 16 fr), (r_planeOf, aI G 16 fp), (r_holeX, aI G 16 fx), (r_holeY, aI G 16 fy), (r_ounces, aI G 16 g)]) rfl (by decide) (by decide) ?_
        rintro _ _ ⟨rz_5, f31_6, rfl, rfl⟩
        refine Z.at (pc' := 34) (st' := [.long rz_5]) (ws' := [(r_room, aI G 16 fr), (r_planeOf, aI G 16 fp), (r_holeX, aI G 16 fx), (r_holeY, aI G 16 fy), (r_ounces, aI G 16 g), (mo, ob 11 [.int 0, g_rows, g_row, .int hc, .ref r_planeOf, .ref r_holeX, .ref r_holeY, .ref r_room, .ref r_ounces, .ref r_deepOf, .int sc, .ref r_factor, .ref r_otherOf, .ref r_isApart, g_apartX, g_apartY, .int cc, .ref r_weight, .ref r_tape, .int n, .int p, .int lim, .int fi, g_crossOf, g_trueX, g_trueY, .ref r_thoughtX, .ref r_thoughtY, .int g_poundHole, .int g_poundOunces, .ref r_lead, g_trials, g_trialSpeed, g_isWhole, g_trialX, g_trialY, g_trialGive, g_trialLead, g_baseX, g_baseY, g_timesPull, g_trialBaseX, g_trialBaseY, g_trialTimes, g_pulls, g_pullMany, g_sizes, g_merged, g_nextHole, g_nextOunces, g_leftBehind, g_manUp, g_manLow, g_asked, g_lowOf, g_highOf, g_tried, g_found, g_askedMany, g_mostHoles, g_isFound, g_foundRest, g_foundOunces, g_question, g_questionSpeed, .long q_, g_parts, g_filled, g_cogAt, g_cogBest, g_isOrdered, g_orderSize, g_isKept, g_kept, g_keptAt]), (r_lead, aI G 4 fl2_3), (r_thoughtX, aI G 4 fX), (r_thoughtY, aI G 4 fY)]) (kc' := 0) (ks' := 0) rfl rfl rfl rfl rfl ?_
        refine z_run X bg_X11_settle_34_47 kg_X11_settle_34_47 (lv' := [(7, .int 0), (6, .int 0), (5, .int (-1)), (3, .long rz_5), (2, .int n_), (0, .ref mo), (1, .int pq)]) (st' := [.int 2, .int 0]) rfl ?_
        refine zc_ge X dg_X11_settle_47 (tgt := 100) (by decide) (a := 0) (b := 2) (show (0 : Int32).toInt = 0 from by decide) (show (2 : Int32).toInt = 2 from by decide) (fun c47_7 => absurd c47_7 (by decide)) (fun _ => ?_)
        refine z_run X bg_X11_settle_50_54 kg_X11_settle_50_54 (lv' := [(7, .int 0), (6, .int 0), (5, .int (-1)), (3, .long rz_5), (2, .int n_), (0, .ref mo), (1, .int pq)]) (st' := [.int 0, .int pq, .ref mo]) rfl ?_
        refine z_callV X k_11_424 (cg_X11_ounceOf l G mo 0 g_rows g_row hc r_planeOf r_holeX r_holeY r_room r_ounces r_deepOf sc r_factor r_otherOf r_isApart g_apartX g_apartY cc r_weight r_tape n p lim fi g_crossOf g_trueX g_trueY r_thoughtX r_thoughtY g_poundHole g_poundOunces r_lead g_trials g_trialSpeed g_isWhole g_trialX g_trialY g_trialGive g_trialLead g_baseX g_baseY g_timesPull g_trialBaseX g_trialBaseY g_trialTimes g_pulls g_pullMany g_sizes g_merged g_nextHole g_nextOunces g_leftBehind g_manUp g_manLow g_asked g_lowOf g_highOf g_tried g_found g_askedMany g_mostHoles g_isFound g_foundRest g_foundOunces g_question g_questionSpeed q_ g_parts g_filled g_cogAt g_cogBest g_isOrdered g_orderSize g_isKept g_kept g_keptAt fp fx fy g fl2_3 fr fX fY pq 0 hci pi 0 hhc hpq (show (0 : Int32).toInt = 0 from by decide) (by omega) (by omega) (by omega)) dg_X11_settle_54 5 rfl rfl rfl ⟨Nat.le_of_ble_eq_true rfl, Nat.le_of_ble_eq_true rfl⟩ ⟨Nat.le_of_ble_eq_true rfl, Nat.le_of_ble_eq_true rfl⟩ rfl (rest := []) (As := [.int pq, .int 0]) rfl (Nat.le_of_ble_eq_true rfl) [5, 6, 1, 2, 3, 4, 0, 7, 8] [] rfl (by decide) (wr := []) rfl (by decide) (by decide) ?_
        rintro _ _ ⟨rz_8, fl2_9, q2_10, f54_11, rfl, rfl⟩
        refine Z.at (pc' := 57) (st' := [.int rz_8]) (ws' := [(mo, ob 11 [.int 0, g_rows, g_row, .int hc, .ref r_planeOf, .ref r_holeX, .ref r_holeY, .ref r_room, .ref r_ounces, .ref r_deepOf, .int sc, .ref r_factor, .ref r_otherOf, .ref r_isApart, g_apartX, g_apartY, .int cc, .ref r_weight, .ref r_tape, .int n, .int p, .int lim, .int fi, g_crossOf, g_trueX, g_trueY, .ref r_thoughtX, .ref r_thoughtY, .int g_poundHole, .int g_poundOunces, .ref r_lead, g_trials, g_trialSpeed, g_isWhole, g_trialX, g_trialY, g_trialGive, g_trialLead, g_baseX, g_baseY, g_timesPull, g_trialBaseX, g_trialBaseY, g_trialTimes, g_pulls, g_pullMany, g_sizes, g_merged, g_nextHole, g_nextOunces, g_leftBehind, g_manUp, g_manLow, g_asked, g_lowOf, g_highOf, g_tried, g_found, g_askedMany, g_mostHoles, g_isFound, g_foundRest, g_foundOunces, g_question, g_questionSpeed, .long q2_10, g_parts, g_filled, g_cogAt, g_cogBest, g_isOrdered, g_orderSize, g_isKept, g_kept, g_keptAt]), (r_lead, aI G 4 fl2_9), (r_planeOf, aI G 16 fp), (r_holeX, aI G 16 fx), (r_holeY, aI G 16 fy), (r_ounces, aI G 16 g), (r_room, aI G 16 fr), (r_thoughtX, aI G 4 fX), (r_thoughtY, aI G 4 fY)]) (kc' := 0) (ks' := 0) rfl rfl rfl rfl rfl ?_
        refine z_run X bg_X11_settle_57_61 kg_X11_settle_57_61 (lv' := [(8, .int rz_8), (7, .int 0), (6, .int 0), (5, .int (-1)), (3, .long rz_5), (2, .int n_), (0, .ref mo), (1, .int pq)]) (st' := [.int rz_8]) rfl ?_
        refine zi_lt X dg_X11_settle_61 (tgt := 94) (by decide) (a := rz_8.toInt) rfl (fun c61_12 => ?_) (fun c61_12 => ?_)
        ·
          refine z_run X bg_X11_settle_94_97 kg_X11_settle_94_97 (lv' := [(7, .int 1), (8, .int rz_8), (6, .int 0), (5, .int (-1)), (3, .long rz_5), (2, .int n_), (0, .ref mo), (1, .int pq)]) (st' := []) rfl ?_
          refine z_goto X dg_X11_settle_97 (tgt := 44) (by decide) ?_
          refine z_run X bg_X11_settle_44_47 kg_X11_settle_44_47 (lv' := [(7, .int 1), (8, .int rz_8), (6, .int 0), (5, .int (-1)), (3, .long rz_5), (2, .int n_), (0, .ref mo), (1, .int pq)]) (st' := [.int 2, .int 1]) rfl ?_
          refine zc_ge X dg_X11_settle_47 (tgt := 100) (by decide) (a := 1) (b := 2) (show (1 : Int32).toInt = 1 from by decide) (show (2 : Int32).toInt = 2 from by decide) (fun c47_13 => absurd c47_13 (by decide)) (fun _ => ?_)
          refine z_run X bg_X11_settle_50_54 kg_X11_settle_50_54 (lv' := [(7, .int 1), (8, .int rz_8), (6, .int 0), (5, .int (-1)), (3, .long rz_5), (2, .int n_), (0, .ref mo), (1, .int pq)]) (st' := [.int 1, .int pq, .ref mo]) rfl ?_
          refine z_callV X k_11_424 (cg_X11_ounceOf l G mo 0 g_rows g_row hc r_planeOf r_holeX r_holeY r_room r_ounces r_deepOf sc r_factor r_otherOf r_isApart g_apartX g_apartY cc r_weight r_tape n p lim fi g_crossOf g_trueX g_trueY r_thoughtX r_thoughtY g_poundHole g_poundOunces r_lead g_trials g_trialSpeed g_isWhole g_trialX g_trialY g_trialGive g_trialLead g_baseX g_baseY g_timesPull g_trialBaseX g_trialBaseY g_trialTimes g_pulls g_pullMany g_sizes g_merged g_nextHole g_nextOunces g_leftBehind g_manUp g_manLow g_asked g_lowOf g_highOf g_tried g_found g_askedMany g_mostHoles g_isFound g_foundRest g_foundOunces g_question g_questionSpeed q2_10 g_parts g_filled g_cogAt g_cogBest g_isOrdered g_orderSize g_isKept g_kept g_keptAt fp fx fy g fl2_9 fr fX fY pq 1 hci pi 1 hhc hpq (show (1 : Int32).toInt = 1 from by decide) (by omega) (by omega) (by omega)) dg_X11_settle_54 0 rfl rfl rfl ⟨Nat.le_of_ble_eq_true rfl, Nat.le_of_ble_eq_true rfl⟩ ⟨Nat.le_of_ble_eq_true rfl, Nat.le_of_ble_eq_true rfl⟩ rfl (rest := []) (As := [.int pq, .int 1]) rfl (Nat.le_of_ble_eq_true rfl) [0, 1, 2, 3, 4, 5, 6, 7, 8] [] rfl (by decide) (wr := []) rfl (by decide) (by decide) ?_
          rintro _ _ ⟨rz_14, fl2_15, q2_16, f54_17, rfl, rfl⟩
          refine Z.at (pc' := 57) (st' := [.int rz_14]) (ws' := [(mo, ob 11 [.int 0, g_rows, g_row, .int hc, .ref r_planeOf, .ref r_holeX, .ref r_holeY, .ref r_room, .ref r_ounces, .ref r_deepOf, .int sc, .ref r_factor, .ref r_otherOf, .ref r_isApart, g_apartX, g_apartY, .int cc, .ref r_weight, .ref r_tape, .int n, .int p, .int lim, .int fi, g_crossOf, g_trueX, g_trueY, .ref r_thoughtX, .ref r_thoughtY, .int g_poundHole, .int g_poundOunces, .ref r_lead, g_trials, g_trialSpeed, g_isWhole, g_trialX, g_trialY, g_trialGive, g_trialLead, g_baseX, g_baseY, g_timesPull, g_trialBaseX, g_trialBaseY, g_trialTimes, g_pulls, g_pullMany, g_sizes, g_merged, g_nextHole, g_nextOunces, g_leftBehind, g_manUp, g_manLow, g_asked, g_lowOf, g_highOf, g_tried, g_found, g_askedMany, g_mostHoles, g_isFound, g_foundRest, g_foundOunces, g_question, g_questionSpeed, .long q2_16, g_parts, g_filled, g_cogAt, g_cogBest, g_isOrdered, g_orderSize, g_isKept, g_kept, g_keptAt]), (r_lead, aI G 4 fl2_15), (r_planeOf, aI G 16 fp), (r_holeX, aI G 16 fx), (r_holeY, aI G 16 fy), (r_ounces, aI G 16 g), (r_room, aI G 16 fr), (r_thoughtX, aI G 4 fX), (r_thoughtY, aI G 4 fY)]) (kc' := 0) (ks' := 0) rfl rfl rfl rfl rfl ?_
          refine z_run X bg_X11_settle_57_61 kg_X11_settle_57_61 (lv' := [(8, .int rz_14), (7, .int 1), (6, .int 0), (5, .int (-1)), (3, .long rz_5), (2, .int n_), (0, .ref mo), (1, .int pq)]) (st' := [.int rz_14]) rfl ?_
          refine zi_lt X dg_X11_settle_61 (tgt := 94) (by decide) (a := rz_14.toInt) rfl (fun c61_18 => ?_) (fun c61_18 => ?_)
          ·
            refine z_run X bg_X11_settle_94_97 kg_X11_settle_94_97 (lv' := [(7, .int 2), (8, .int rz_14), (6, .int 0), (5, .int (-1)), (3, .long rz_5), (2, .int n_), (0, .ref mo), (1, .int pq)]) (st' := []) rfl ?_
            refine z_goto X dg_X11_settle_97 (tgt := 44) (by decide) ?_
            refine z_run X bg_X11_settle_44_47 kg_X11_settle_44_47 (lv' := [(7, .int 2), (8, .int rz_14), (6, .int 0), (5, .int (-1)), (3, .long rz_5), (2, .int n_), (0, .ref mo), (1, .int pq)]) (st' := [.int 2, .int 2]) rfl ?_
            refine zc_ge X dg_X11_settle_47 (tgt := 100) (by decide) (a := 2) (b := 2) (show (2 : Int32).toInt = 2 from by decide) (show (2 : Int32).toInt = 2 from by decide) (fun _ => ?_) (fun c47_19 => absurd c47_19 (by decide))
            refine z_run X bg_X11_settle_100_102 kg_X11_settle_100_102 (lv' := [(7, .int 2), (8, .int rz_14), (6, .int 0), (5, .int (-1)), (3, .long rz_5), (2, .int n_), (0, .ref mo), (1, .int pq)]) (st' := [.int (-1)]) rfl ?_
            refine zi_ge X dg_X11_settle_102 (tgt := 107) (by decide) (a := (-1)) (show ((-1) : Int32).toInt = (-1) from by decide) (fun c102_20 => absurd c102_20 (by decide)) (fun _ => ?_)
            refine z_run X bg_X11_settle_105_106 kg_X11_settle_105_106 (lv' := [(7, .int 2), (8, .int rz_14), (6, .int 0), (5, .int (-1)), (3, .long rz_5), (2, .int n_), (0, .ref mo), (1, .int pq)]) (st' := [.int n_]) rfl ?_
            exact z_iret X rfl dg_X11_settle_106 (Nat.le_of_ble_eq_true rfl) (Nat.le_of_ble_eq_true rfl) ⟨n_, g, fl2_15, q2_16, (Or.inr ⟨by omega, by omega, hk, Or.inr (((nx1_ref (h := hci) (fp := fp) (fr := fr) (fx := fx) (fy := fy) (tx := fX pq.toNatClampNeg) (ty := fY pq.toNatClampNeg) (p := pi) (fh := g) (f0 := rz_8.toInt) (f1 := rz_14.toInt) (l0 := q2_10.toInt) (l1 := q2_16.toInt) (R := rz_5.toInt) f54_11 f54_17 (show rz_5.toInt = _ from by rw [f31_6, rest_N (h := hci) (fo := g) (by omega) f26_4, hpq])).trans (if_neg (show ¬ (0 ≤ rz_14.toInt ∧ q2_16.toInt < rz_5.toInt ∧ (0 ≤ rz_8.toInt → q2_16.toInt < q2_10.toInt)) by omega))).trans (if_neg (show ¬ (0 ≤ rz_8.toInt ∧ q2_10.toInt < rz_5.toInt) by omega)))⟩), rfl, rfl⟩
          ·
            refine z_run X bg_X11_settle_64_65 kg_X11_settle_64_65 (lv' := [(8, .int rz_14), (7, .int 1), (6, .int 0), (5, .int (-1)), (3, .long rz_5), (2, .int n_), (0, .ref mo), (1, .int pq)]) (st' := [.ref mo]) rfl ?_
            refine z_get X fl_11_421 dg_X11_settle_65 0 rfl (v := .long q2_16) rfl ?_
            refine z_run X bg_X11_settle_68_69 kg_X11_settle_68_69 (lv' := [(8, .int rz_14), (7, .int 1), (6, .int 0), (5, .int (-1)), (3, .long rz_5), (2, .int n_), (0, .ref mo), (1, .int pq)]) (st' := [.long rz_5, .long q2_16]) rfl ?_
            refine zl_ge X dg_X11_settle_69 dg_X11_settle_70 (tgt := 94) (by decide) (a := q2_16.toInt) (b := rz_5.toInt) rfl rfl (fun c69_21 => ?_) (fun c69_21 => ?_)
            ·
              refine z_run X bg_X11_settle_94_97 kg_X11_settle_94_97 (lv' := [(7, .int 2), (8, .int rz_14), (6, .int 0), (5, .int (-1)), (3, .long rz_5), (2, .int n_), (0, .ref mo), (1, .int pq)]) (st' := []) rfl ?_
              refine z_goto X dg_X11_settle_97 (tgt := 44) (by decide) ?_
              refine z_run X bg_X11_settle_44_47 kg_X11_settle_44_47 (lv' := [(7, .int 2), (8, .int rz_14), (6, .int 0), (5, .int (-1)), (3, .long rz_5), (2, .int n_), (0, .ref mo), (1, .int pq)]) (st' := [.int 2, .int 2]) rfl ?_
              refine zc_ge X dg_X11_settle_47 (tgt := 100) (by decide) (a := 2) (b := 2) (show (2 : Int32).toInt = 2 from by decide) (show (2 : Int32).toInt = 2 from by decide) (fun _ => ?_) (fun c47_22 => absurd c47_22 (by decide))
              refine z_run X bg_X11_settle_100_102 kg_X11_settle_100_102 (lv' := [(7, .int 2), (8, .int rz_14), (6, .int 0), (5, .int (-1)), (3, .long rz_5), (2, .int n_), (0, .ref mo), (1, .int pq)]) (st' := [.int (-1)]) rfl ?_
              refine zi_ge X dg_X11_settle_102 (tgt := 107) (by decide) (a := (-1)) (show ((-1) : Int32).toInt = (-1) from by decide) (fun c102_23 => absurd c102_23 (by decide)) (fun _ => ?_)
              refine z_run X bg_X11_settle_105_106 kg_X11_settle_105_106 (lv' := [(7, .int 2), (8, .int rz_14), (6, .int 0), (5, .int (-1)), (3, .long rz_5), (2, .int n_), (0, .ref mo), (1, .int pq)]) (st' := [.int n_]) rfl ?_
              exact z_iret X rfl dg_X11_settle_106 (Nat.le_of_ble_eq_true rfl) (Nat.le_of_ble_eq_true rfl) ⟨n_, g, fl2_15, q2_16, (Or.inr ⟨by omega, by omega, hk, Or.inr (((nx1_ref (h := hci) (fp := fp) (fr := fr) (fx := fx) (fy := fy) (tx := fX pq.toNatClampNeg) (ty := fY pq.toNatClampNeg) (p := pi) (fh := g) (f0 := rz_8.toInt) (f1 := rz_14.toInt) (l0 := q2_10.toInt) (l1 := q2_16.toInt) (R := rz_5.toInt) f54_11 f54_17 (show rz_5.toInt = _ from by rw [f31_6, rest_N (h := hci) (fo := g) (by omega) f26_4, hpq])).trans (if_neg (show ¬ (0 ≤ rz_14.toInt ∧ q2_16.toInt < rz_5.toInt ∧ (0 ≤ rz_8.toInt → q2_16.toInt < q2_10.toInt)) by omega))).trans (if_neg (show ¬ (0 ≤ rz_8.toInt ∧ q2_10.toInt < rz_5.toInt) by omega)))⟩), rfl, rfl⟩
            ·
              refine z_run X bg_X11_settle_73_74 kg_X11_settle_73_74 (lv' := [(8, .int rz_14), (7, .int 1), (6, .int 0), (5, .int (-1)), (3, .long rz_5), (2, .int n_), (0, .ref mo), (1, .int pq)]) (st' := [.ref mo]) rfl ?_
              refine z_get X fl_11_421 dg_X11_settle_74 0 rfl (v := .long q2_16) rfl ?_
              refine z_run X bg_X11_settle_77_84 kg_X11_settle_77_84 (lv' := [(5, .int rz_14), (3, .long q2_16), (8, .int rz_14), (7, .int 1), (6, .int 0), (2, .int n_), (0, .ref mo), (1, .int pq)]) (st' := [.int 1]) rfl ?_
              refine zi_ne X dg_X11_settle_84 (tgt := 91) (by decide) (a := 1) (show (1 : Int32).toInt = 1 from by decide) (fun _ => ?_) (fun c84_24 => absurd c84_24 (by decide))
              refine z_run X bg_X11_settle_91_97 kg_X11_settle_91_97 (lv' := [(7, .int 2), (6, .int (-1)), (5, .int rz_14), (3, .long q2_16), (8, .int rz_14), (2, .int n_), (0, .ref mo), (1, .int pq)]) (st' := []) rfl ?_
              refine z_goto X dg_X11_settle_97 (tgt := 44) (by decide) ?_
              refine z_run X bg_X11_settle_44_47 kg_X11_settle_44_47 (lv' := [(7, .int 2), (6, .int (-1)), (5, .int rz_14), (3, .long q2_16), (8, .int rz_14), (2, .int n_), (0, .ref mo), (1, .int pq)]) (st' := [.int 2, .int 2]) rfl ?_
              refine zc_ge X dg_X11_settle_47 (tgt := 100) (by decide) (a := 2) (b := 2) (show (2 : Int32).toInt = 2 from by decide) (show (2 : Int32).toInt = 2 from by decide) (fun _ => ?_) (fun c47_25 => absurd c47_25 (by decide))
              refine z_run X bg_X11_settle_100_102 kg_X11_settle_100_102 (lv' := [(7, .int 2), (6, .int (-1)), (5, .int rz_14), (3, .long q2_16), (8, .int rz_14), (2, .int n_), (0, .ref mo), (1, .int pq)]) (st' := [.int rz_14]) rfl ?_
              refine zi_ge X dg_X11_settle_102 (tgt := 107) (by decide) (a := rz_14.toInt) rfl (fun c102_26 => ?_) (fun c102_26n => absurd c102_26n (by omega))
              refine z_run X bg_X11_settle_107_108 kg_X11_settle_107_108 (lv' := [(7, .int 2), (6, .int (-1)), (5, .int rz_14), (3, .long q2_16), (8, .int rz_14), (2, .int n_), (0, .ref mo), (1, .int pq)]) (st' := [.ref mo]) rfl ?_
              refine z_get X fl_11_82 dg_X11_settle_108 0 rfl (v := .ref r_ounces) rfl ?_
              refine z_run X bg_X11_settle_111_114 kg_X11_settle_111_114 (lv' := [(7, .int 2), (6, .int (-1)), (5, .int rz_14), (3, .long q2_16), (8, .int rz_14), (2, .int n_), (0, .ref mo), (1, .int pq)]) (st' := [.int rz_14, .ref r_ounces, .int rz_14, .ref r_ounces]) rfl ?_
              refine z_iald X dg_X11_settle_114 5 rfl (vin rfl (by omega) (by rcases f54_17 with ⟨z1, z2⟩ | ⟨z1, z2, z4⟩; (exfalso; omega); (have z3 := (bO_ok z1).1; omega))) (v := (g rz_14.toNatClampNeg)) rfl ?_
              refine z_run X bg_X11_settle_115_118 kg_X11_settle_115_118 (lv' := [(7, .int 2), (6, .int (-1)), (5, .int rz_14), (3, .long q2_16), (8, .int rz_14), (2, .int n_), (0, .ref mo), (1, .int pq)]) (st' := [.int ((g rz_14.toNatClampNeg) + (-1)), .int rz_14, .ref r_ounces]) rfl ?_
              refine z_iast X dg_X11_settle_118 5 rfl (vin rfl (by omega) (by rcases f54_17 with ⟨z1, z2⟩ | ⟨z1, z2, z4⟩; (exfalso; omega); (have z3 := (bO_ok z1).1; omega))) (ws' := [(mo, ob 11 [.int 0, g_rows, g_row, .int hc, .ref r_planeOf, .ref r_holeX, .ref r_holeY, .ref r_room, .ref r_ounces, .ref r_deepOf, .int sc, .ref r_factor, .ref r_otherOf, .ref r_isApart, g_apartX, g_apartY, .int cc, .ref r_weight, .ref r_tape, .int n, .int p, .int lim, .int fi, g_crossOf, g_trueX, g_trueY, .ref r_thoughtX, .ref r_thoughtY, .int g_poundHole, .int g_poundOunces, .ref r_lead, g_trials, g_trialSpeed, g_isWhole, g_trialX, g_trialY, g_trialGive, g_trialLead, g_baseX, g_baseY, g_timesPull, g_trialBaseX, g_trialBaseY, g_trialTimes, g_pulls, g_pullMany, g_sizes, g_merged, g_nextHole, g_nextOunces, g_leftBehind, g_manUp, g_manLow, g_asked, g_lowOf, g_highOf, g_tried, g_found, g_askedMany, g_mostHoles, g_isFound, g_foundRest, g_foundOunces, g_question, g_questionSpeed, .long q2_16, g_parts, g_filled, g_cogAt, g_cogBest, g_isOrdered, g_orderSize, g_isKept, g_kept, g_keptAt]), (r_lead, aI G 4 fl2_15), (r_planeOf, aI G 16 fp), (r_holeX, aI G 16 fx), (r_holeY, aI G 16 fy), (r_ounces, aI G 16 (upd g rz_14.toNatClampNeg ((g rz_14.toNatClampNeg) + (-1)))), (r_room, aI G 16 fr), (r_thoughtX, aI G 4 fX), (r_thoughtY, aI G 4 fY)]) rfl ?_
              refine z_run X bg_X11_settle_119_122 kg_X11_settle_119_122 (lv' := [(2, .int (n_ + 1)), (7, .int 2), (6, .int (-1)), (5, .int rz_14), (3, .long q2_16), (8, .int rz_14), (0, .ref mo), (1, .int pq)]) (st' := []) rfl ?_
              refine z_goto X dg_X11_settle_122 (tgt := 16) (by decide) ?_
              refine Z.sub (lv' := [(2, .int (n_ + 1)), (0, .ref mo), (1, .int pq)]) [0, 6, 7] rfl [0, 1, 2, 3, 4, 5, 6, 7, 8] (ws' := [(mo, ob 11 [.int 0, g_rows, g_row, .int hc, .ref r_planeOf, .ref r_holeX, .ref r_holeY, .ref r_room, .ref r_ounces, .ref r_deepOf, .int sc, .ref r_factor, .ref r_otherOf, .ref r_isApart, g_apartX, g_apartY, .int cc, .ref r_weight, .ref r_tape, .int n, .int p, .int lim, .int fi, g_crossOf, g_trueX, g_trueY, .ref r_thoughtX, .ref r_thoughtY, .int g_poundHole, .int g_poundOunces, .ref r_lead, g_trials, g_trialSpeed, g_isWhole, g_trialX, g_trialY, g_trialGive, g_trialLead, g_baseX, g_baseY, g_timesPull, g_trialBaseX, g_trialBaseY, g_trialTimes, g_pulls, g_pullMany, g_sizes, g_merged, g_nextHole, g_nextOunces, g_leftBehind, g_manUp, g_manLow, g_asked, g_lowOf, g_highOf, g_tried, g_found, g_askedMany, g_mostHoles, g_isFound, g_foundRest, g_foundOunces, g_question, g_questionSpeed, .long q2_16, g_parts, g_filled, g_cogAt, g_cogBest, g_isOrdered, g_orderSize, g_isKept, g_kept, g_keptAt]), (r_lead, aI G 4 fl2_15), (r_planeOf, aI G 16 fp), (r_holeX, aI G 16 fx), (r_holeY, aI G 16 fy), (r_ounces, aI G 16 (upd g rz_14.toNatClampNeg ((g rz_14.toNatClampNeg) + (-1)))), (r_room, aI G 16 fr), (r_thoughtX, aI G 4 fX), (r_thoughtY, aI G 4 fY)]) rfl (by decide) ?_
              exact ih16 ((n_ + 1), (upd g rz_14.toNatClampNeg ((g rz_14.toNatClampNeg) + (-1))), fl2_15, q2_16) ⟨(by dsimp only; have e : (n_ + 1).toInt = n_.toInt + 1 := tI_add rfl (show (1 : Int32).toInt = 1 from by decide) (by omega); omega), (by dsimp only; have e : (n_ + 1).toInt = n_.toInt + 1 := tI_add rfl (show (1 : Int32).toInt = 1 from by decide) (by omega); rw [e, show (n_.toInt + 1).toNat = n_.toInt.toNat + 1 by omega]; show (itr (nx1 hci fp fr fx fy (fX pq.toNatClampNeg) (fY pq.toNatClampNeg) pi) fo n_.toInt.toNat).bind (nx1 hci fp fr fx fy (fX pq.toNatClampNeg) (fY pq.toNatClampNeg) pi) = some (upd g rz_14.toNatClampNeg ((g rz_14.toNatClampNeg) + (-1))); rw [hk]; exact (show (nx1 hci fp fr fx fy (fX pq.toNatClampNeg) (fY pq.toNatClampNeg) pi) g = some (upd g rz_14.toNatClampNeg ((g rz_14.toNatClampNeg) + (-1))) from ((nx1_ref (h := hci) (fp := fp) (fr := fr) (fx := fx) (fy := fy) (tx := fX pq.toNatClampNeg) (ty := fY pq.toNatClampNeg) (p := pi) (fh := g) (f0 := rz_8.toInt) (f1 := rz_14.toInt) (l0 := q2_10.toInt) (l1 := q2_16.toInt) (R := rz_5.toInt) f54_11 f54_17 (show rz_5.toInt = _ from by rw [f31_6, rest_N (h := hci) (fo := g) (by omega) f26_4, hpq])).trans (if_pos (show 0 ≤ rz_14.toInt ∧ q2_16.toInt < rz_5.toInt ∧ (0 ≤ rz_8.toInt → q2_16.toInt < q2_10.toInt) by omega))).trans (by rw [sub1]; rfl)))⟩ (by dsimp only; have e : (n_ + 1).toInt = n_.toInt + 1 := tI_add rfl (show (1 : Int32).toInt = 1 from by decide) (by omega); omega)
        ·
          refine z_run X bg_X11_settle_64_65 kg_X11_settle_64_65 (lv' := [(8, .int rz_8), (7, .int 0), (6, .int 0), (5, .int (-1)), (3, .long rz_5), (2, .int n_), (0, .ref mo), (1, .int pq)]) (st' := [.ref mo]) rfl ?_
          refine z_get X fl_11_421 dg_X11_settle_65 0 rfl (v := .long q2_10) rfl ?_
          refine z_run X bg_X11_settle_68_69 kg_X11_settle_68_69 (lv' := [(8, .int rz_8), (7, .int 0), (6, .int 0), (5, .int (-1)), (3, .long rz_5), (2, .int n_), (0, .ref mo), (1, .int pq)]) (st' := [.long rz_5, .long q2_10]) rfl ?_
          refine zl_ge X dg_X11_settle_69 dg_X11_settle_70 (tgt := 94) (by decide) (a := q2_10.toInt) (b := rz_5.toInt) rfl rfl (fun c69_27 => ?_) (fun c69_27 => ?_)
          ·
            refine z_run X bg_X11_settle_94_97 kg_X11_settle_94_97 (lv' := [(7, .int 1), (8, .int rz_8), (6, .int 0), (5, .int (-1)), (3, .long rz_5), (2, .int n_), (0, .ref mo), (1, .int pq)]) (st' := []) rfl ?_
            refine z_goto X dg_X11_settle_97 (tgt := 44) (by decide) ?_
            refine z_run X bg_X11_settle_44_47 kg_X11_settle_44_47 (lv' := [(7, .int 1), (8, .int rz_8), (6, .int 0), (5, .int (-1)), (3, .long rz_5), (2, .int n_), (0, .ref mo), (1, .int pq)]) (st' := [.int 2, .int 1]) rfl ?_
            refine zc_ge X dg_X11_settle_47 (tgt := 100) (by decide) (a := 1) (b := 2) (show (1 : Int32).toInt = 1 from by decide) (show (2 : Int32).toInt = 2 from by decide) (fun c47_28 => absurd c47_28 (by decide)) (fun _ => ?_)
            refine z_run X bg_X11_settle_50_54 kg_X11_settle_50_54 (lv' := [(7, .int 1), (8, .int rz_8), (6, .int 0), (5, .int (-1)), (3, .long rz_5), (2, .int n_), (0, .ref mo), (1, .int pq)]) (st' := [.int 1, .int pq, .ref mo]) rfl ?_
            refine z_callV X k_11_424 (cg_X11_ounceOf l G mo 0 g_rows g_row hc r_planeOf r_holeX r_holeY r_room r_ounces r_deepOf sc r_factor r_otherOf r_isApart g_apartX g_apartY cc r_weight r_tape n p lim fi g_crossOf g_trueX g_trueY r_thoughtX r_thoughtY g_poundHole g_poundOunces r_lead g_trials g_trialSpeed g_isWhole g_trialX g_trialY g_trialGive g_trialLead g_baseX g_baseY g_timesPull g_trialBaseX g_trialBaseY g_trialTimes g_pulls g_pullMany g_sizes g_merged g_nextHole g_nextOunces g_leftBehind g_manUp g_manLow g_asked g_lowOf g_highOf g_tried g_found g_askedMany g_mostHoles g_isFound g_foundRest g_foundOunces g_question g_questionSpeed q2_10 g_parts g_filled g_cogAt g_cogBest g_isOrdered g_orderSize g_isKept g_kept g_keptAt fp fx fy g fl2_9 fr fX fY pq 1 hci pi 1 hhc hpq (show (1 : Int32).toInt = 1 from by decide) (by omega) (by omega) (by omega)) dg_X11_settle_54 0 rfl rfl rfl ⟨Nat.le_of_ble_eq_true rfl, Nat.le_of_ble_eq_true rfl⟩ ⟨Nat.le_of_ble_eq_true rfl, Nat.le_of_ble_eq_true rfl⟩ rfl (rest := []) (As := [.int pq, .int 1]) rfl (Nat.le_of_ble_eq_true rfl) [0, 1, 2, 3, 4, 5, 6, 7, 8] [] rfl (by decide) (wr := []) rfl (by decide) (by decide) ?_
            rintro _ _ ⟨rz_29, fl2_30, q2_31, f54_32, rfl, rfl⟩
            refine Z.at (pc' := 57) (st' := [.int rz_29]) (ws' := [(mo, ob 11 [.int 0, g_rows, g_row, .int hc, .ref r_planeOf, .ref r_holeX, .ref r_holeY, .ref r_room, .ref r_ounces, .ref r_deepOf, .int sc, .ref r_factor, .ref r_otherOf, .ref r_isApart, g_apartX, g_apartY, .int cc, .ref r_weight, .ref r_tape, .int n, .int p, .int lim, .int fi, g_crossOf, g_trueX, g_trueY, .ref r_thoughtX, .ref r_thoughtY, .int g_poundHole, .int g_poundOunces, .ref r_lead, g_trials, g_trialSpeed, g_isWhole, g_trialX, g_trialY, g_trialGive, g_trialLead, g_baseX, g_baseY, g_timesPull, g_trialBaseX, g_trialBaseY, g_trialTimes, g_pulls, g_pullMany, g_sizes, g_merged, g_nextHole, g_nextOunces, g_leftBehind, g_manUp, g_manLow, g_asked, g_lowOf, g_highOf, g_tried, g_found, g_askedMany, g_mostHoles, g_isFound, g_foundRest, g_foundOunces, g_question, g_questionSpeed, .long q2_31, g_parts, g_filled, g_cogAt, g_cogBest, g_isOrdered, g_orderSize, g_isKept, g_kept, g_keptAt]), (r_lead, aI G 4 fl2_30), (r_planeOf, aI G 16 fp), (r_holeX, aI G 16 fx), (r_holeY, aI G 16 fy), (r_ounces, aI G 16 g), (r_room, aI G 16 fr), (r_thoughtX, aI G 4 fX), (r_thoughtY, aI G 4 fY)]) (kc' := 0) (ks' := 0) rfl rfl rfl rfl rfl ?_
            refine z_run X bg_X11_settle_57_61 kg_X11_settle_57_61 (lv' := [(8, .int rz_29), (7, .int 1), (6, .int 0), (5, .int (-1)), (3, .long rz_5), (2, .int n_), (0, .ref mo), (1, .int pq)]) (st' := [.int rz_29]) rfl ?_
            refine zi_lt X dg_X11_settle_61 (tgt := 94) (by decide) (a := rz_29.toInt) rfl (fun c61_33 => ?_) (fun c61_33 => ?_)
            ·
              refine z_run X bg_X11_settle_94_97 kg_X11_settle_94_97 (lv' := [(7, .int 2), (8, .int rz_29), (6, .int 0), (5, .int (-1)), (3, .long rz_5), (2, .int n_), (0, .ref mo), (1, .int pq)]) (st' := []) rfl ?_
              refine z_goto X dg_X11_settle_97 (tgt := 44) (by decide) ?_
              refine z_run X bg_X11_settle_44_47 kg_X11_settle_44_47 (lv' := [(7, .int 2), (8, .int rz_29), (6, .int 0), (5, .int (-1)), (3, .long rz_5), (2, .int n_), (0, .ref mo), (1, .int pq)]) (st' := [.int 2, .int 2]) rfl ?_
              refine zc_ge X dg_X11_settle_47 (tgt := 100) (by decide) (a := 2) (b := 2) (show (2 : Int32).toInt = 2 from by decide) (show (2 : Int32).toInt = 2 from by decide) (fun _ => ?_) (fun c47_34 => absurd c47_34 (by decide))
              refine z_run X bg_X11_settle_100_102 kg_X11_settle_100_102 (lv' := [(7, .int 2), (8, .int rz_29), (6, .int 0), (5, .int (-1)), (3, .long rz_5), (2, .int n_), (0, .ref mo), (1, .int pq)]) (st' := [.int (-1)]) rfl ?_
              refine zi_ge X dg_X11_settle_102 (tgt := 107) (by decide) (a := (-1)) (show ((-1) : Int32).toInt = (-1) from by decide) (fun c102_35 => absurd c102_35 (by decide)) (fun _ => ?_)
              refine z_run X bg_X11_settle_105_106 kg_X11_settle_105_106 (lv' := [(7, .int 2), (8, .int rz_29), (6, .int 0), (5, .int (-1)), (3, .long rz_5), (2, .int n_), (0, .ref mo), (1, .int pq)]) (st' := [.int n_]) rfl ?_
              exact z_iret X rfl dg_X11_settle_106 (Nat.le_of_ble_eq_true rfl) (Nat.le_of_ble_eq_true rfl) ⟨n_, g, fl2_30, q2_31, (Or.inr ⟨by omega, by omega, hk, Or.inr (((nx1_ref (h := hci) (fp := fp) (fr := fr) (fx := fx) (fy := fy) (tx := fX pq.toNatClampNeg) (ty := fY pq.toNatClampNeg) (p := pi) (fh := g) (f0 := rz_8.toInt) (f1 := rz_29.toInt) (l0 := q2_10.toInt) (l1 := q2_31.toInt) (R := rz_5.toInt) f54_11 f54_32 (show rz_5.toInt = _ from by rw [f31_6, rest_N (h := hci) (fo := g) (by omega) f26_4, hpq])).trans (if_neg (show ¬ (0 ≤ rz_29.toInt ∧ q2_31.toInt < rz_5.toInt ∧ (0 ≤ rz_8.toInt → q2_31.toInt < q2_10.toInt)) by omega))).trans (if_neg (show ¬ (0 ≤ rz_8.toInt ∧ q2_10.toInt < rz_5.toInt) by omega)))⟩), rfl, rfl⟩
            ·
              refine z_run X bg_X11_settle_64_65 kg_X11_settle_64_65 (lv' := [(8, .int rz_29), (7, .int 1), (6, .int 0), (5, .int (-1)), (3, .long rz_5), (2, .int n_), (0, .ref mo), (1, .int pq)]) (st' := [.ref mo]) rfl ?_
              refine z_get X fl_11_421 dg_X11_settle_65 0 rfl (v := .long q2_31) rfl ?_
              refine z_run X bg_X11_settle_68_69 kg_X11_settle_68_69 (lv' := [(8, .int rz_29), (7, .int 1), (6, .int 0), (5, .int (-1)), (3, .long rz_5), (2, .int n_), (0, .ref mo), (1, .int pq)]) (st' := [.long rz_5, .long q2_31]) rfl ?_
              refine zl_ge X dg_X11_settle_69 dg_X11_settle_70 (tgt := 94) (by decide) (a := q2_31.toInt) (b := rz_5.toInt) rfl rfl (fun c69_36 => ?_) (fun c69_36 => ?_)
              ·
                refine z_run X bg_X11_settle_94_97 kg_X11_settle_94_97 (lv' := [(7, .int 2), (8, .int rz_29), (6, .int 0), (5, .int (-1)), (3, .long rz_5), (2, .int n_), (0, .ref mo), (1, .int pq)]) (st' := []) rfl ?_
                refine z_goto X dg_X11_settle_97 (tgt := 44) (by decide) ?_
                refine z_run X bg_X11_settle_44_47 kg_X11_settle_44_47 (lv' := [(7, .int 2), (8, .int rz_29), (6, .int 0), (5, .int (-1)), (3, .long rz_5), (2, .int n_), (0, .ref mo), (1, .int pq)]) (st' := [.int 2, .int 2]) rfl ?_
                refine zc_ge X dg_X11_settle_47 (tgt := 100) (by decide) (a := 2) (b := 2) (show (2 : Int32).toInt = 2 from by decide) (show (2 : Int32).toInt = 2 from by decide) (fun _ => ?_) (fun c47_37 => absurd c47_37 (by decide))
                refine z_run X bg_X11_settle_100_102 kg_X11_settle_100_102 (lv' := [(7, .int 2), (8, .int rz_29), (6, .int 0), (5, .int (-1)), (3, .long rz_5), (2, .int n_), (0, .ref mo), (1, .int pq)]) (st' := [.int (-1)]) rfl ?_
                refine zi_ge X dg_X11_settle_102 (tgt := 107) (by decide) (a := (-1)) (show ((-1) : Int32).toInt = (-1) from by decide) (fun c102_38 => absurd c102_38 (by decide)) (fun _ => ?_)
                refine z_run X bg_X11_settle_105_106 kg_X11_settle_105_106 (lv' := [(7, .int 2), (8, .int rz_29), (6, .int 0), (5, .int (-1)), (3, .long rz_5), (2, .int n_), (0, .ref mo), (1, .int pq)]) (st' := [.int n_]) rfl ?_
                exact z_iret X rfl dg_X11_settle_106 (Nat.le_of_ble_eq_true rfl) (Nat.le_of_ble_eq_true rfl) ⟨n_, g, fl2_30, q2_31, (Or.inr ⟨by omega, by omega, hk, Or.inr (((nx1_ref (h := hci) (fp := fp) (fr := fr) (fx := fx) (fy := fy) (tx := fX pq.toNatClampNeg) (ty := fY pq.toNatClampNeg) (p := pi) (fh := g) (f0 := rz_8.toInt) (f1 := rz_29.toInt) (l0 := q2_10.toInt) (l1 := q2_31.toInt) (R := rz_5.toInt) f54_11 f54_32 (show rz_5.toInt = _ from by rw [f31_6, rest_N (h := hci) (fo := g) (by omega) f26_4, hpq])).trans (if_neg (show ¬ (0 ≤ rz_29.toInt ∧ q2_31.toInt < rz_5.toInt ∧ (0 ≤ rz_8.toInt → q2_31.toInt < q2_10.toInt)) by omega))).trans (if_neg (show ¬ (0 ≤ rz_8.toInt ∧ q2_10.toInt < rz_5.toInt) by omega)))⟩), rfl, rfl⟩
              ·
                refine z_run X bg_X11_settle_73_74 kg_X11_settle_73_74 (lv' := [(8, .int rz_29), (7, .int 1), (6, .int 0), (5, .int (-1)), (3, .long rz_5), (2, .int n_), (0, .ref mo), (1, .int pq)]) (st' := [.ref mo]) rfl ?_
                refine z_get X fl_11_421 dg_X11_settle_74 0 rfl (v := .long q2_31) rfl ?_
                refine z_run X bg_X11_settle_77_84 kg_X11_settle_77_84 (lv' := [(5, .int rz_29), (3, .long q2_31), (8, .int rz_29), (7, .int 1), (6, .int 0), (2, .int n_), (0, .ref mo), (1, .int pq)]) (st' := [.int 1]) rfl ?_
                refine zi_ne X dg_X11_settle_84 (tgt := 91) (by decide) (a := 1) (show (1 : Int32).toInt = 1 from by decide) (fun _ => ?_) (fun c84_39 => absurd c84_39 (by decide))
                refine z_run X bg_X11_settle_91_97 kg_X11_settle_91_97 (lv' := [(7, .int 2), (6, .int (-1)), (5, .int rz_29), (3, .long q2_31), (8, .int rz_29), (2, .int n_), (0, .ref mo), (1, .int pq)]) (st' := []) rfl ?_
                refine z_goto X dg_X11_settle_97 (tgt := 44) (by decide) ?_
                refine z_run X bg_X11_settle_44_47 kg_X11_settle_44_47 (lv' := [(7, .int 2), (6, .int (-1)), (5, .int rz_29), (3, .long q2_31), (8, .int rz_29), (2, .int n_), (0, .ref mo), (1, .int pq)]) (st' := [.int 2, .int 2]) rfl ?_
                refine zc_ge X dg_X11_settle_47 (tgt := 100) (by decide) (a := 2) (b := 2) (show (2 : Int32).toInt = 2 from by decide) (show (2 : Int32).toInt = 2 from by decide) (fun _ => ?_) (fun c47_40 => absurd c47_40 (by decide))
                refine z_run X bg_X11_settle_100_102 kg_X11_settle_100_102 (lv' := [(7, .int 2), (6, .int (-1)), (5, .int rz_29), (3, .long q2_31), (8, .int rz_29), (2, .int n_), (0, .ref mo), (1, .int pq)]) (st' := [.int rz_29]) rfl ?_
                refine zi_ge X dg_X11_settle_102 (tgt := 107) (by decide) (a := rz_29.toInt) rfl (fun c102_41 => ?_) (fun c102_41n => absurd c102_41n (by omega))
                refine z_run X bg_X11_settle_107_108 kg_X11_settle_107_108 (lv' := [(7, .int 2), (6, .int (-1)), (5, .int rz_29), (3, .long q2_31), (8, .int rz_29), (2, .int n_), (0, .ref mo), (1, .int pq)]) (st' := [.ref mo]) rfl ?_
                refine z_get X fl_11_82 dg_X11_settle_108 0 rfl (v := .ref r_ounces) rfl ?_
                refine z_run X bg_X11_settle_111_114 kg_X11_settle_111_114 (lv' := [(7, .int 2), (6, .int (-1)), (5, .int rz_29), (3, .long q2_31), (8, .int rz_29), (2, .int n_), (0, .ref mo), (1, .int pq)]) (st' := [.int rz_29, .ref r_ounces, .int rz_29, .ref r_ounces]) rfl ?_
                refine z_iald X dg_X11_settle_114 5 rfl (vin rfl (by omega) (by rcases f54_32 with ⟨z1, z2⟩ | ⟨z1, z2, z4⟩; (exfalso; omega); (have z3 := (bO_ok z1).1; omega))) (v := (g rz_29.toNatClampNeg)) rfl ?_
                refine z_run X bg_X11_settle_115_118 kg_X11_settle_115_118 (lv' := [(7, .int 2), (6, .int (-1)), (5, .int rz_29), (3, .long q2_31), (8, .int rz_29), (2, .int n_), (0, .ref mo), (1, .int pq)]) (st' := [.int ((g rz_29.toNatClampNeg) + (-1)), .int rz_29, .ref r_ounces]) rfl ?_
                refine z_iast X dg_X11_settle_118 5 rfl (vin rfl (by omega) (by rcases f54_32 with ⟨z1, z2⟩ | ⟨z1, z2, z4⟩; (exfalso; omega); (have z3 := (bO_ok z1).1; omega))) (ws' := [(mo, ob 11 [.int 0, g_rows, g_row, .int hc, .ref r_planeOf, .ref r_holeX, .ref r_holeY, .ref r_room, .ref r_ounces, .ref r_deepOf, .int sc, .ref r_factor, .ref r_otherOf, .ref r_isApart, g_apartX, g_apartY, .int cc, .ref r_weight, .ref r_tape, .int n, .int p, .int lim, .int fi, g_crossOf, g_trueX, g_trueY, .ref r_thoughtX, .ref r_thoughtY, .int g_poundHole, .int g_poundOunces, .ref r_lead, g_trials, g_trialSpeed, g_isWhole, g_trialX, g_trialY, g_trialGive, g_trialLead, g_baseX, g_baseY, g_timesPull, g_trialBaseX, g_trialBaseY, g_trialTimes, g_pulls, g_pullMany, g_sizes, g_merged, g_nextHole, g_nextOunces, g_leftBehind, g_manUp, g_manLow, g_asked, g_lowOf, g_highOf, g_tried, g_found, g_askedMany, g_mostHoles, g_isFound, g_foundRest, g_foundOunces, g_question, g_questionSpeed, .long q2_31, g_parts, g_filled, g_cogAt, g_cogBest, g_isOrdered, g_orderSize, g_isKept, g_kept, g_keptAt]), (r_lead, aI G 4 fl2_30), (r_planeOf, aI G 16 fp), (r_holeX, aI G 16 fx), (r_holeY, aI G 16 fy), (r_ounces, aI G 16 (upd g rz_29.toNatClampNeg ((g rz_29.toNatClampNeg) + (-1)))), (r_room, aI G 16 fr), (r_thoughtX, aI G 4 fX), (r_thoughtY, aI G 4 fY)]) rfl ?_
                refine z_run X bg_X11_settle_119_122 kg_X11_settle_119_122 (lv' := [(2, .int (n_ + 1)), (7, .int 2), (6, .int (-1)), (5, .int rz_29), (3, .long q2_31), (8, .int rz_29), (0, .ref mo), (1, .int pq)]) (st' := []) rfl ?_
                refine z_goto X dg_X11_settle_122 (tgt := 16) (by decide) ?_
                refine Z.sub (lv' := [(2, .int (n_ + 1)), (0, .ref mo), (1, .int pq)]) [0, 6, 7] rfl [0, 1, 2, 3, 4, 5, 6, 7, 8] (ws' := [(mo, ob 11 [.int 0, g_rows, g_row, .int hc, .ref r_planeOf, .ref r_holeX, .ref r_holeY, .ref r_room, .ref r_ounces, .ref r_deepOf, .int sc, .ref r_factor, .ref r_otherOf, .ref r_isApart, g_apartX, g_apartY, .int cc, .ref r_weight, .ref r_tape, .int n, .int p, .int lim, .int fi, g_crossOf, g_trueX, g_trueY, .ref r_thoughtX, .ref r_thoughtY, .int g_poundHole, .int g_poundOunces, .ref r_lead, g_trials, g_trialSpeed, g_isWhole, g_trialX, g_trialY, g_trialGive, g_trialLead, g_baseX, g_baseY, g_timesPull, g_trialBaseX, g_trialBaseY, g_trialTimes, g_pulls, g_pullMany, g_sizes, g_merged, g_nextHole, g_nextOunces, g_leftBehind, g_manUp, g_manLow, g_asked, g_lowOf, g_highOf, g_tried, g_found, g_askedMany, g_mostHoles, g_isFound, g_foundRest, g_foundOunces, g_question, g_questionSpeed, .long q2_31, g_parts, g_filled, g_cogAt, g_cogBest, g_isOrdered, g_orderSize, g_isKept, g_kept, g_keptAt]), (r_lead, aI G 4 fl2_30), (r_planeOf, aI G 16 fp), (r_holeX, aI G 16 fx), (r_holeY, aI G 16 fy), (r_ounces, aI G 16 (upd g rz_29.toNatClampNeg ((g rz_29.toNatClampNeg) + (-1)))), (r_room, aI G 16 fr), (r_thoughtX, aI G 4 fX), (r_thoughtY, aI G 4 fY)]) rfl (by decide) ?_
                exact ih16 ((n_ + 1), (upd g rz_29.toNatClampNeg ((g rz_29.toNatClampNeg) + (-1))), fl2_30, q2_31) ⟨(by dsimp only; have e : (n_ + 1).toInt = n_.toInt + 1 := tI_add rfl (show (1 : Int32).toInt = 1 from by decide) (by omega); omega), (by dsimp only; have e : (n_ + 1).toInt = n_.toInt + 1 := tI_add rfl (show (1 : Int32).toInt = 1 from by decide) (by omega); rw [e, show (n_.toInt + 1).toNat = n_.toInt.toNat + 1 by omega]; show (itr (nx1 hci fp fr fx fy (fX pq.toNatClampNeg) (fY pq.toNatClampNeg) pi) fo n_.toInt.toNat).bind (nx1 hci fp fr fx fy (fX pq.toNatClampNeg) (fY pq.toNatClampNeg) pi) = some (upd g rz_29.toNatClampNeg ((g rz_29.toNatClampNeg) + (-1))); rw [hk]; exact (show (nx1 hci fp fr fx fy (fX pq.toNatClampNeg) (fY pq.toNatClampNeg) pi) g = some (upd g rz_29.toNatClampNeg ((g rz_29.toNatClampNeg) + (-1))) from ((nx1_ref (h := hci) (fp := fp) (fr := fr) (fx := fx) (fy := fy) (tx := fX pq.toNatClampNeg) (ty := fY pq.toNatClampNeg) (p := pi) (fh := g) (f0 := rz_8.toInt) (f1 := rz_29.toInt) (l0 := q2_10.toInt) (l1 := q2_31.toInt) (R := rz_5.toInt) f54_11 f54_32 (show rz_5.toInt = _ from by rw [f31_6, rest_N (h := hci) (fo := g) (by omega) f26_4, hpq])).trans (if_pos (show 0 ≤ rz_29.toInt ∧ q2_31.toInt < rz_5.toInt ∧ (0 ≤ rz_8.toInt → q2_31.toInt < q2_10.toInt) by omega))).trans (by rw [sub1]; rfl)))⟩ (by dsimp only; have e : (n_ + 1).toInt = n_.toInt + 1 := tI_add rfl (show (1 : Int32).toInt = 1 from by decide) (by omega); omega)
          ·
            refine z_run X bg_X11_settle_73_74 kg_X11_settle_73_74 (lv' := [(8, .int rz_8), (7, .int 0), (6, .int 0), (5, .int (-1)), (3, .long rz_5), (2, .int n_), (0, .ref mo), (1, .int pq)]) (st' := [.ref mo]) rfl ?_
            refine z_get X fl_11_421 dg_X11_settle_74 0 rfl (v := .long q2_10) rfl ?_
            refine z_run X bg_X11_settle_77_84 kg_X11_settle_77_84 (lv' := [(5, .int rz_8), (3, .long q2_10), (8, .int rz_8), (7, .int 0), (6, .int 0), (2, .int n_), (0, .ref mo), (1, .int pq)]) (st' := [.int 0]) rfl ?_
            refine zi_ne X dg_X11_settle_84 (tgt := 91) (by decide) (a := 0) (show (0 : Int32).toInt = 0 from by decide) (fun c84_42 => absurd c84_42 (by decide)) (fun _ => ?_)
            refine z_run X bg_X11_settle_87_88 kg_X11_settle_87_88 (lv' := [(5, .int rz_8), (3, .long q2_10), (8, .int rz_8), (7, .int 0), (6, .int 0), (2, .int n_), (0, .ref mo), (1, .int pq)]) (st' := [.int 1]) rfl ?_
            refine z_goto X dg_X11_settle_88 (tgt := 92) (by decide) ?_
            refine z_run X bg_X11_settle_92_97 kg_X11_settle_92_97 (lv' := [(7, .int 1), (6, .int 1), (5, .int rz_8), (3, .long q2_10), (8, .int rz_8), (2, .int n_), (0, .ref mo), (1, .int pq)]) (st' := []) rfl ?_
            refine z_goto X dg_X11_settle_97 (tgt := 44) (by decide) ?_
            refine z_run X bg_X11_settle_44_47 kg_X11_settle_44_47 (lv' := [(7, .int 1), (6, .int 1), (5, .int rz_8), (3, .long q2_10), (8, .int rz_8), (2, .int n_), (0, .ref mo), (1, .int pq)]) (st' := [.int 2, .int 1]) rfl ?_
            refine zc_ge X dg_X11_settle_47 (tgt := 100) (by decide) (a := 1) (b := 2) (show (1 : Int32).toInt = 1 from by decide) (show (2 : Int32).toInt = 2 from by decide) (fun c47_43 => absurd c47_43 (by decide)) (fun _ => ?_)
            refine z_run X bg_X11_settle_50_54 kg_X11_settle_50_54 (lv' := [(7, .int 1), (6, .int 1), (5, .int rz_8), (3, .long q2_10), (8, .int rz_8), (2, .int n_), (0, .ref mo), (1, .int pq)]) (st' := [.int 1, .int pq, .ref mo]) rfl ?_
            refine z_callV X k_11_424 (cg_X11_ounceOf l G mo 0 g_rows g_row hc r_planeOf r_holeX r_holeY r_room r_ounces r_deepOf sc r_factor r_otherOf r_isApart g_apartX g_apartY cc r_weight r_tape n p lim fi g_crossOf g_trueX g_trueY r_thoughtX r_thoughtY g_poundHole g_poundOunces r_lead g_trials g_trialSpeed g_isWhole g_trialX g_trialY g_trialGive g_trialLead g_baseX g_baseY g_timesPull g_trialBaseX g_trialBaseY g_trialTimes g_pulls g_pullMany g_sizes g_merged g_nextHole g_nextOunces g_leftBehind g_manUp g_manLow g_asked g_lowOf g_highOf g_tried g_found g_askedMany g_mostHoles g_isFound g_foundRest g_foundOunces g_question g_questionSpeed q2_10 g_parts g_filled g_cogAt g_cogBest g_isOrdered g_orderSize g_isKept g_kept g_keptAt fp fx fy g fl2_9 fr fX fY pq 1 hci pi 1 hhc hpq (show (1 : Int32).toInt = 1 from by decide) (by omega) (by omega) (by omega)) dg_X11_settle_54 0 rfl rfl rfl ⟨Nat.le_of_ble_eq_true rfl, Nat.le_of_ble_eq_true rfl⟩ ⟨Nat.le_of_ble_eq_true rfl, Nat.le_of_ble_eq_true rfl⟩ rfl (rest := []) (As := [.int pq, .int 1]) rfl (Nat.le_of_ble_eq_true rfl) [0, 1, 2, 3, 4, 5, 6, 7, 8] [] rfl (by decide) (wr := []) rfl (by decide) (by decide) ?_
            rintro _ _ ⟨rz_44, fl2_45, q2_46, f54_47, rfl, rfl⟩
            refine Z.at (pc' := 57) (st' := [.int rz_44]) (ws' := [(mo, ob 11 [.int 0, g_rows, g_row, .int hc, .ref r_planeOf, .ref r_holeX, .ref r_holeY, .ref r_room, .ref r_ounces, .ref r_deepOf, .int sc, .ref r_factor, .ref r_otherOf, .ref r_isApart, g_apartX, g_apartY, .int cc, .ref r_weight, .ref r_tape, .int n, .int p, .int lim, .int fi, g_crossOf, g_trueX, g_trueY, .ref r_thoughtX, .ref r_thoughtY, .int g_poundHole, .int g_poundOunces, .ref r_lead, g_trials, g_trialSpeed, g_isWhole, g_trialX, g_trialY, g_trialGive, g_trialLead, g_baseX, g_baseY, g_timesPull, g_trialBaseX, g_trialBaseY, g_trialTimes, g_pulls, g_pullMany, g_sizes, g_merged, g_nextHole, g_nextOunces, g_leftBehind, g_manUp, g_manLow, g_asked, g_lowOf, g_highOf, g_tried, g_found, g_askedMany, g_mostHoles, g_isFound, g_foundRest, g_foundOunces, g_question, g_questionSpeed, .long q2_46, g_parts, g_filled, g_cogAt, g_cogBest, g_isOrdered, g_orderSize, g_isKept, g_kept, g_keptAt]), (r_lead, aI G 4 fl2_45), (r_planeOf, aI G 16 fp), (r_holeX, aI G 16 fx), (r_holeY, aI G 16 fy), (r_ounces, aI G 16 g), (r_room, aI G 16 fr), (r_thoughtX, aI G 4 fX), (r_thoughtY, aI G 4 fY)]) (kc' := 0) (ks' := 0) rfl rfl rfl rfl rfl ?_
            refine z_run X bg_X11_settle_57_61 kg_X11_settle_57_61 (lv' := [(8, .int rz_44), (7, .int 1), (6, .int 1), (5, .int rz_8), (3, .long q2_10), (2, .int n_), (0, .ref mo), (1, .int pq)]) (st' := [.int rz_44]) rfl ?_
            refine zi_lt X dg_X11_settle_61 (tgt := 94) (by decide) (a := rz_44.toInt) rfl (fun c61_48 => ?_) (fun c61_48 => ?_)
            ·
              refine z_run X bg_X11_settle_94_97 kg_X11_settle_94_97 (lv' := [(7, .int 2), (8, .int rz_44), (6, .int 1), (5, .int rz_8), (3, .long q2_10), (2, .int n_), (0, .ref mo), (1, .int pq)]) (st' := []) rfl ?_
              refine z_goto X dg_X11_settle_97 (tgt := 44) (by decide) ?_
              refine z_run X bg_X11_settle_44_47 kg_X11_settle_44_47 (lv' := [(7, .int 2), (8, .int rz_44), (6, .int 1), (5, .int rz_8), (3, .long q2_10), (2, .int n_), (0, .ref mo), (1, .int pq)]) (st' := [.int 2, .int 2]) rfl ?_
              refine zc_ge X dg_X11_settle_47 (tgt := 100) (by decide) (a := 2) (b := 2) (show (2 : Int32).toInt = 2 from by decide) (show (2 : Int32).toInt = 2 from by decide) (fun _ => ?_) (fun c47_49 => absurd c47_49 (by decide))
              refine z_run X bg_X11_settle_100_102 kg_X11_settle_100_102 (lv' := [(7, .int 2), (8, .int rz_44), (6, .int 1), (5, .int rz_8), (3, .long q2_10), (2, .int n_), (0, .ref mo), (1, .int pq)]) (st' := [.int rz_8]) rfl ?_
              refine zi_ge X dg_X11_settle_102 (tgt := 107) (by decide) (a := rz_8.toInt) rfl (fun c102_50 => ?_) (fun c102_50n => absurd c102_50n (by omega))
              refine z_run X bg_X11_settle_107_108 kg_X11_settle_107_108 (lv' := [(7, .int 2), (8, .int rz_44), (6, .int 1), (5, .int rz_8), (3, .long q2_10), (2, .int n_), (0, .ref mo), (1, .int pq)]) (st' := [.ref mo]) rfl ?_
              refine z_get X fl_11_82 dg_X11_settle_108 0 rfl (v := .ref r_ounces) rfl ?_
              refine z_run X bg_X11_settle_111_114 kg_X11_settle_111_114 (lv' := [(7, .int 2), (8, .int rz_44), (6, .int 1), (5, .int rz_8), (3, .long q2_10), (2, .int n_), (0, .ref mo), (1, .int pq)]) (st' := [.int rz_8, .ref r_ounces, .int rz_8, .ref r_ounces]) rfl ?_
              refine z_iald X dg_X11_settle_114 5 rfl (vin rfl (by omega) (by rcases f54_11 with ⟨z1, z2⟩ | ⟨z1, z2, z4⟩; (exfalso; omega); (have z3 := (bO_ok z1).1; omega))) (v := (g rz_8.toNatClampNeg)) rfl ?_
              refine z_run X bg_X11_settle_115_118 kg_X11_settle_115_118 (lv' := [(7, .int 2), (8, .int rz_44), (6, .int 1), (5, .int rz_8), (3, .long q2_10), (2, .int n_), (0, .ref mo), (1, .int pq)]) (st' := [.int ((g rz_8.toNatClampNeg) + 1), .int rz_8, .ref r_ounces]) rfl ?_
              refine z_iast X dg_X11_settle_118 5 rfl (vin rfl (by omega) (by rcases f54_11 with ⟨z1, z2⟩ | ⟨z1, z2, z4⟩; (exfalso; omega); (have z3 := (bO_ok z1).1; omega))) (ws' := [(mo, ob 11 [.int 0, g_rows, g_row, .int hc, .ref r_planeOf, .ref r_holeX, .ref r_holeY, .ref r_room, .ref r_ounces, .ref r_deepOf, .int sc, .ref r_factor, .ref r_otherOf, .ref r_isApart, g_apartX, g_apartY, .int cc, .ref r_weight, .ref r_tape, .int n, .int p, .int lim, .int fi, g_crossOf, g_trueX, g_trueY, .ref r_thoughtX, .ref r_thoughtY, .int g_poundHole, .int g_poundOunces, .ref r_lead, g_trials, g_trialSpeed, g_isWhole, g_trialX, g_trialY, g_trialGive, g_trialLead, g_baseX, g_baseY, g_timesPull, g_trialBaseX, g_trialBaseY, g_trialTimes, g_pulls, g_pullMany, g_sizes, g_merged, g_nextHole, g_nextOunces, g_leftBehind, g_manUp, g_manLow, g_asked, g_lowOf, g_highOf, g_tried, g_found, g_askedMany, g_mostHoles, g_isFound, g_foundRest, g_foundOunces, g_question, g_questionSpeed, .long q2_46, g_parts, g_filled, g_cogAt, g_cogBest, g_isOrdered, g_orderSize, g_isKept, g_kept, g_keptAt]), (r_lead, aI G 4 fl2_45), (r_planeOf, aI G 16 fp), (r_holeX, aI G 16 fx), (r_holeY, aI G 16 fy), (r_ounces, aI G 16 (upd g rz_8.toNatClampNeg ((g rz_8.toNatClampNeg) + 1))), (r_room, aI G 16 fr), (r_thoughtX, aI G 4 fX), (r_thoughtY, aI G 4 fY)]) rfl ?_
              refine z_run X bg_X11_settle_119_122 kg_X11_settle_119_122 (lv' := [(2, .int (n_ + 1)), (7, .int 2), (8, .int rz_44), (6, .int 1), (5, .int rz_8), (3, .long q2_10), (0, .ref mo), (1, .int pq)]) (st' := []) rfl ?_
              refine z_goto X dg_X11_settle_122 (tgt := 16) (by decide) ?_
              refine Z.sub (lv' := [(2, .int (n_ + 1)), (0, .ref mo), (1, .int pq)]) [0, 6, 7] rfl [0, 1, 2, 3, 4, 5, 6, 7, 8] (ws' := [(mo, ob 11 [.int 0, g_rows, g_row, .int hc, .ref r_planeOf, .ref r_holeX, .ref r_holeY, .ref r_room, .ref r_ounces, .ref r_deepOf, .int sc, .ref r_factor, .ref r_otherOf, .ref r_isApart, g_apartX, g_apartY, .int cc, .ref r_weight, .ref r_tape, .int n, .int p, .int lim, .int fi, g_crossOf, g_trueX, g_trueY, .ref r_thoughtX, .ref r_thoughtY, .int g_poundHole, .int g_poundOunces, .ref r_lead, g_trials, g_trialSpeed, g_isWhole, g_trialX, g_trialY, g_trialGive, g_trialLead, g_baseX, g_baseY, g_timesPull, g_trialBaseX, g_trialBaseY, g_trialTimes, g_pulls, g_pullMany, g_sizes, g_merged, g_nextHole, g_nextOunces, g_leftBehind, g_manUp, g_manLow, g_asked, g_lowOf, g_highOf, g_tried, g_found, g_askedMany, g_mostHoles, g_isFound, g_foundRest, g_foundOunces, g_question, g_questionSpeed, .long q2_46, g_parts, g_filled, g_cogAt, g_cogBest, g_isOrdered, g_orderSize, g_isKept, g_kept, g_keptAt]), (r_lead, aI G 4 fl2_45), (r_planeOf, aI G 16 fp), (r_holeX, aI G 16 fx), (r_holeY, aI G 16 fy), (r_ounces, aI G 16 (upd g rz_8.toNatClampNeg ((g rz_8.toNatClampNeg) + 1))), (r_room, aI G 16 fr), (r_thoughtX, aI G 4 fX), (r_thoughtY, aI G 4 fY)]) rfl (by decide) ?_
              exact ih16 ((n_ + 1), (upd g rz_8.toNatClampNeg ((g rz_8.toNatClampNeg) + 1)), fl2_45, q2_46) ⟨(by dsimp only; have e : (n_ + 1).toInt = n_.toInt + 1 := tI_add rfl (show (1 : Int32).toInt = 1 from by decide) (by omega); omega), (by dsimp only; have e : (n_ + 1).toInt = n_.toInt + 1 := tI_add rfl (show (1 : Int32).toInt = 1 from by decide) (by omega); rw [e, show (n_.toInt + 1).toNat = n_.toInt.toNat + 1 by omega]; show (itr (nx1 hci fp fr fx fy (fX pq.toNatClampNeg) (fY pq.toNatClampNeg) pi) fo n_.toInt.toNat).bind (nx1 hci fp fr fx fy (fX pq.toNatClampNeg) (fY pq.toNatClampNeg) pi) = some (upd g rz_8.toNatClampNeg ((g rz_8.toNatClampNeg) + 1)); rw [hk]; exact (show (nx1 hci fp fr fx fy (fX pq.toNatClampNeg) (fY pq.toNatClampNeg) pi) g = some (upd g rz_8.toNatClampNeg ((g rz_8.toNatClampNeg) + 1)) from ((nx1_ref (h := hci) (fp := fp) (fr := fr) (fx := fx) (fy := fy) (tx := fX pq.toNatClampNeg) (ty := fY pq.toNatClampNeg) (p := pi) (fh := g) (f0 := rz_8.toInt) (f1 := rz_44.toInt) (l0 := q2_10.toInt) (l1 := q2_46.toInt) (R := rz_5.toInt) f54_11 f54_47 (show rz_5.toInt = _ from by rw [f31_6, rest_N (h := hci) (fo := g) (by omega) f26_4, hpq])).trans (if_neg (show ¬ (0 ≤ rz_44.toInt ∧ q2_46.toInt < rz_5.toInt ∧ (0 ≤ rz_8.toInt → q2_46.toInt < q2_10.toInt)) by omega))).trans (if_pos (show 0 ≤ rz_8.toInt ∧ q2_10.toInt < rz_5.toInt by omega))))⟩ (by dsimp only; have e : (n_ + 1).toInt = n_.toInt + 1 := tI_add rfl (show (1 : Int32).toInt = 1 from by decide) (by omega); omega)
            ·
              refine z_run X bg_X11_settle_64_65 kg_X11_settle_64_65 (lv' := [(8, .int rz_44), (7, .int 1), (6, .int 1), (5, .int rz_8), (3, .long q2_10), (2, .int n_), (0, .ref mo), (1, .int pq)]) (st' := [.ref mo]) rfl ?_
              refine z_get X fl_11_421 dg_X11_settle_65 0 rfl (v := .long q2_46) rfl ?_
              refine z_run X bg_X11_settle_68_69 kg_X11_settle_68_69 (lv' := [(8, .int rz_44), (7, .int 1), (6, .int 1), (5, .int rz_8), (3, .long q2_10), (2, .int n_), (0, .ref mo), (1, .int pq)]) (st' := [.long q2_10, .long q2_46]) rfl ?_
              refine zl_ge X dg_X11_settle_69 dg_X11_settle_70 (tgt := 94) (by decide) (a := q2_46.toInt) (b := q2_10.toInt) rfl rfl (fun c69_51 => ?_) (fun c69_51 => ?_)
              ·
                refine z_run X bg_X11_settle_94_97 kg_X11_settle_94_97 (lv' := [(7, .int 2), (8, .int rz_44), (6, .int 1), (5, .int rz_8), (3, .long q2_10), (2, .int n_), (0, .ref mo), (1, .int pq)]) (st' := []) rfl ?_
                refine z_goto X dg_X11_settle_97 (tgt := 44) (by decide) ?_
                refine z_run X bg_X11_settle_44_47 kg_X11_settle_44_47 (lv' := [(7, .int 2), (8, .int rz_44), (6, .int 1), (5, .int rz_8), (3, .long q2_10), (2, .int n_), (0, .ref mo), (1, .int pq)]) (st' := [.int 2, .int 2]) rfl ?_
                refine zc_ge X dg_X11_settle_47 (tgt := 100) (by decide) (a := 2) (b := 2) (show (2 : Int32).toInt = 2 from by decide) (show (2 : Int32).toInt = 2 from by decide) (fun _ => ?_) (fun c47_52 => absurd c47_52 (by decide))
                refine z_run X bg_X11_settle_100_102 kg_X11_settle_100_102 (lv' := [(7, .int 2), (8, .int rz_44), (6, .int 1), (5, .int rz_8), (3, .long q2_10), (2, .int n_), (0, .ref mo), (1, .int pq)]) (st' := [.int rz_8]) rfl ?_
                refine zi_ge X dg_X11_settle_102 (tgt := 107) (by decide) (a := rz_8.toInt) rfl (fun c102_53 => ?_) (fun c102_53n => absurd c102_53n (by omega))
                refine z_run X bg_X11_settle_107_108 kg_X11_settle_107_108 (lv' := [(7, .int 2), (8, .int rz_44), (6, .int 1), (5, .int rz_8), (3, .long q2_10), (2, .int n_), (0, .ref mo), (1, .int pq)]) (st' := [.ref mo]) rfl ?_
                refine z_get X fl_11_82 dg_X11_settle_108 0 rfl (v := .ref r_ounces) rfl ?_
                refine z_run X bg_X11_settle_111_114 kg_X11_settle_111_114 (lv' := [(7, .int 2), (8, .int rz_44), (6, .int 1), (5, .int rz_8), (3, .long q2_10), (2, .int n_), (0, .ref mo), (1, .int pq)]) (st' := [.int rz_8, .ref r_ounces, .int rz_8, .ref r_ounces]) rfl ?_
                refine z_iald X dg_X11_settle_114 5 rfl (vin rfl (by omega) (by rcases f54_11 with ⟨z1, z2⟩ | ⟨z1, z2, z4⟩; (exfalso; omega); (have z3 := (bO_ok z1).1; omega))) (v := (g rz_8.toNatClampNeg)) rfl ?_
                refine z_run X bg_X11_settle_115_118 kg_X11_settle_115_118 (lv' := [(7, .int 2), (8, .int rz_44), (6, .int 1), (5, .int rz_8), (3, .long q2_10), (2, .int n_), (0, .ref mo), (1, .int pq)]) (st' := [.int ((g rz_8.toNatClampNeg) + 1), .int rz_8, .ref r_ounces]) rfl ?_
                refine z_iast X dg_X11_settle_118 5 rfl (vin rfl (by omega) (by rcases f54_11 with ⟨z1, z2⟩ | ⟨z1, z2, z4⟩; (exfalso; omega); (have z3 := (bO_ok z1).1; omega))) (ws' := [(mo, ob 11 [.int 0, g_rows, g_row, .int hc, .ref r_planeOf, .ref r_holeX, .ref r_holeY, .ref r_room, .ref r_ounces, .ref r_deepOf, .int sc, .ref r_factor, .ref r_otherOf, .ref r_isApart, g_apartX, g_apartY, .int cc, .ref r_weight, .ref r_tape, .int n, .int p, .int lim, .int fi, g_crossOf, g_trueX, g_trueY, .ref r_thoughtX, .ref r_thoughtY, .int g_poundHole, .int g_poundOunces, .ref r_lead, g_trials, g_trialSpeed, g_isWhole, g_trialX, g_trialY, g_trialGive, g_trialLead, g_baseX, g_baseY, g_timesPull, g_trialBaseX, g_trialBaseY, g_trialTimes, g_pulls, g_pullMany, g_sizes, g_merged, g_nextHole, g_nextOunces, g_leftBehind, g_manUp, g_manLow, g_asked, g_lowOf, g_highOf, g_tried, g_found, g_askedMany, g_mostHoles, g_isFound, g_foundRest, g_foundOunces, g_question, g_questionSpeed, .long q2_46, g_parts, g_filled, g_cogAt, g_cogBest, g_isOrdered, g_orderSize, g_isKept, g_kept, g_keptAt]), (r_lead, aI G 4 fl2_45), (r_planeOf, aI G 16 fp), (r_holeX, aI G 16 fx), (r_holeY, aI G 16 fy), (r_ounces, aI G 16 (upd g rz_8.toNatClampNeg ((g rz_8.toNatClampNeg) + 1))), (r_room, aI G 16 fr), (r_thoughtX, aI G 4 fX), (r_thoughtY, aI G 4 fY)]) rfl ?_
                refine z_run X bg_X11_settle_119_122 kg_X11_settle_119_122 (lv' := [(2, .int (n_ + 1)), (7, .int 2), (8, .int rz_44), (6, .int 1), (5, .int rz_8), (3, .long q2_10), (0, .ref mo), (1, .int pq)]) (st' := []) rfl ?_
                refine z_goto X dg_X11_settle_122 (tgt := 16) (by decide) ?_
                refine Z.sub (lv' := [(2, .int (n_ + 1)), (0, .ref mo), (1, .int pq)]) [0, 6, 7] rfl [0, 1, 2, 3, 4, 5, 6, 7, 8] (ws' := [(mo, ob 11 [.int 0, g_rows, g_row, .int hc, .ref r_planeOf, .ref r_holeX, .ref r_holeY, .ref r_room, .ref r_ounces, .ref r_deepOf, .int sc, .ref r_factor, .ref r_otherOf, .ref r_isApart, g_apartX, g_apartY, .int cc, .ref r_weight, .ref r_tape, .int n, .int p, .int lim, .int fi, g_crossOf, g_trueX, g_trueY, .ref r_thoughtX, .ref r_thoughtY, .int g_poundHole, .int g_poundOunces, .ref r_lead, g_trials, g_trialSpeed, g_isWhole, g_trialX, g_trialY, g_trialGive, g_trialLead, g_baseX, g_baseY, g_timesPull, g_trialBaseX, g_trialBaseY, g_trialTimes, g_pulls, g_pullMany, g_sizes, g_merged, g_nextHole, g_nextOunces, g_leftBehind, g_manUp, g_manLow, g_asked, g_lowOf, g_highOf, g_tried, g_found, g_askedMany, g_mostHoles, g_isFound, g_foundRest, g_foundOunces, g_question, g_questionSpeed, .long q2_46, g_parts, g_filled, g_cogAt, g_cogBest, g_isOrdered, g_orderSize, g_isKept, g_kept, g_keptAt]), (r_lead, aI G 4 fl2_45), (r_planeOf, aI G 16 fp), (r_holeX, aI G 16 fx), (r_holeY, aI G 16 fy), (r_ounces, aI G 16 (upd g rz_8.toNatClampNeg ((g rz_8.toNatClampNeg) + 1))), (r_room, aI G 16 fr), (r_thoughtX, aI G 4 fX), (r_thoughtY, aI G 4 fY)]) rfl (by decide) ?_
                exact ih16 ((n_ + 1), (upd g rz_8.toNatClampNeg ((g rz_8.toNatClampNeg) + 1)), fl2_45, q2_46) ⟨(by dsimp only; have e : (n_ + 1).toInt = n_.toInt + 1 := tI_add rfl (show (1 : Int32).toInt = 1 from by decide) (by omega); omega), (by dsimp only; have e : (n_ + 1).toInt = n_.toInt + 1 := tI_add rfl (show (1 : Int32).toInt = 1 from by decide) (by omega); rw [e, show (n_.toInt + 1).toNat = n_.toInt.toNat + 1 by omega]; show (itr (nx1 hci fp fr fx fy (fX pq.toNatClampNeg) (fY pq.toNatClampNeg) pi) fo n_.toInt.toNat).bind (nx1 hci fp fr fx fy (fX pq.toNatClampNeg) (fY pq.toNatClampNeg) pi) = some (upd g rz_8.toNatClampNeg ((g rz_8.toNatClampNeg) + 1)); rw [hk]; exact (show (nx1 hci fp fr fx fy (fX pq.toNatClampNeg) (fY pq.toNatClampNeg) pi) g = some (upd g rz_8.toNatClampNeg ((g rz_8.toNatClampNeg) + 1)) from ((nx1_ref (h := hci) (fp := fp) (fr := fr) (fx := fx) (fy := fy) (tx := fX pq.toNatClampNeg) (ty := fY pq.toNatClampNeg) (p := pi) (fh := g) (f0 := rz_8.toInt) (f1 := rz_44.toInt) (l0 := q2_10.toInt) (l1 := q2_46.toInt) (R := rz_5.toInt) f54_11 f54_47 (show rz_5.toInt = _ from by rw [f31_6, rest_N (h := hci) (fo := g) (by omega) f26_4, hpq])).trans (if_neg (show ¬ (0 ≤ rz_44.toInt ∧ q2_46.toInt < rz_5.toInt ∧ (0 ≤ rz_8.toInt → q2_46.toInt < q2_10.toInt)) by omega))).trans (if_pos (show 0 ≤ rz_8.toInt ∧ q2_10.toInt < rz_5.toInt by omega))))⟩ (by dsimp only; have e : (n_ + 1).toInt = n_.toInt + 1 := tI_add rfl (show (1 : Int32).toInt = 1 from by decide) (by omega); omega)
              ·
                refine z_run X bg_X11_settle_73_74 kg_X11_settle_73_74 (lv' := [(8, .int rz_44), (7, .int 1), (6, .int 1), (5, .int rz_8), (3, .long q2_10), (2, .int n_), (0, .ref mo), (1, .int pq)]) (st' := [.ref mo]) rfl ?_
                refine z_get X fl_11_421 dg_X11_settle_74 0 rfl (v := .long q2_46) rfl ?_
                refine z_run X bg_X11_settle_77_84 kg_X11_settle_77_84 (lv' := [(5, .int rz_44), (3, .long q2_46), (8, .int rz_44), (7, .int 1), (6, .int 1), (2, .int n_), (0, .ref mo), (1, .int pq)]) (st' := [.int 1]) rfl ?_
                refine zi_ne X dg_X11_settle_84 (tgt := 91) (by decide) (a := 1) (show (1 : Int32).toInt = 1 from by decide) (fun _ => ?_) (fun c84_54 => absurd c84_54 (by decide))
                refine z_run X bg_X11_settle_91_97 kg_X11_settle_91_97 (lv' := [(7, .int 2), (6, .int (-1)), (5, .int rz_44), (3, .long q2_46), (8, .int rz_44), (2, .int n_), (0, .ref mo), (1, .int pq)]) (st' := []) rfl ?_
                refine z_goto X dg_X11_settle_97 (tgt := 44) (by decide) ?_
                refine z_run X bg_X11_settle_44_47 kg_X11_settle_44_47 (lv' := [(7, .int 2), (6, .int (-1)), (5, .int rz_44), (3, .long q2_46), (8, .int rz_44), (2, .int n_), (0, .ref mo), (1, .int pq)]) (st' := [.int 2, .int 2]) rfl ?_
                refine zc_ge X dg_X11_settle_47 (tgt := 100) (by decide) (a := 2) (b := 2) (show (2 : Int32).toInt = 2 from by decide) (show (2 : Int32).toInt = 2 from by decide) (fun _ => ?_) (fun c47_55 => absurd c47_55 (by decide))
                refine z_run X bg_X11_settle_100_102 kg_X11_settle_100_102 (lv' := [(7, .int 2), (6, .int (-1)), (5, .int rz_44), (3, .long q2_46), (8, .int rz_44), (2, .int n_), (0, .ref mo), (1, .int pq)]) (st' := [.int rz_44]) rfl ?_
                refine zi_ge X dg_X11_settle_102 (tgt := 107) (by decide) (a := rz_44.toInt) rfl (fun c102_56 => ?_) (fun c102_56n => absurd c102_56n (by omega))
                refine z_run X bg_X11_settle_107_108 kg_X11_settle_107_108 (lv' := [(7, .int 2), (6, .int (-1)), (5, .int rz_44), (3, .long q2_46), (8, .int rz_44), (2, .int n_), (0, .ref mo), (1, .int pq)]) (st' := [.ref mo]) rfl ?_
                refine z_get X fl_11_82 dg_X11_settle_108 0 rfl (v := .ref r_ounces) rfl ?_
                refine z_run X bg_X11_settle_111_114 kg_X11_settle_111_114 (lv' := [(7, .int 2), (6, .int (-1)), (5, .int rz_44), (3, .long q2_46), (8, .int rz_44), (2, .int n_), (0, .ref mo), (1, .int pq)]) (st' := [.int rz_44, .ref r_ounces, .int rz_44, .ref r_ounces]) rfl ?_
                refine z_iald X dg_X11_settle_114 5 rfl (vin rfl (by omega) (by rcases f54_47 with ⟨z1, z2⟩ | ⟨z1, z2, z4⟩; (exfalso; omega); (have z3 := (bO_ok z1).1; omega))) (v := (g rz_44.toNatClampNeg)) rfl ?_
                refine z_run X bg_X11_settle_115_118 kg_X11_settle_115_118 (lv' := [(7, .int 2), (6, .int (-1)), (5, .int rz_44), (3, .long q2_46), (8, .int rz_44), (2, .int n_), (0, .ref mo), (1, .int pq)]) (st' := [.int ((g rz_44.toNatClampNeg) + (-1)), .int rz_44, .ref r_ounces]) rfl ?_
                refine z_iast X dg_X11_settle_118 5 rfl (vin rfl (by omega) (by rcases f54_47 with ⟨z1, z2⟩ | ⟨z1, z2, z4⟩; (exfalso; omega); (have z3 := (bO_ok z1).1; omega))) (ws' := [(mo, ob 11 [.int 0, g_rows, g_row, .int hc, .ref r_planeOf, .ref r_holeX, .ref r_holeY, .ref r_room, .ref r_ounces, .ref r_deepOf, .int sc, .ref r_factor, .ref r_otherOf, .ref r_isApart, g_apartX, g_apartY, .int cc, .ref r_weight, .ref r_tape, .int n, .int p, .int lim, .int fi, g_crossOf, g_trueX, g_trueY, .ref r_thoughtX, .ref r_thoughtY, .int g_poundHole, .int g_poundOunces, .ref r_lead, g_trials, g_trialSpeed, g_isWhole, g_trialX, g_trialY, g_trialGive, g_trialLead, g_baseX, g_baseY, g_timesPull, g_trialBaseX, g_trialBaseY, g_trialTimes, g_pulls, g_pullMany, g_sizes, g_merged, g_nextHole, g_nextOunces, g_leftBehind, g_manUp, g_manLow, g_asked, g_lowOf, g_highOf, g_tried, g_found, g_askedMany, g_mostHoles, g_isFound, g_foundRest, g_foundOunces, g_question, g_questionSpeed, .long q2_46, g_parts, g_filled, g_cogAt, g_cogBest, g_isOrdered, g_orderSize, g_isKept, g_kept, g_keptAt]), (r_lead, aI G 4 fl2_45), (r_planeOf, aI G 16 fp), (r_holeX, aI G 16 fx), (r_holeY, aI G 16 fy), (r_ounces, aI G 16 (upd g rz_44.toNatClampNeg ((g rz_44.toNatClampNeg) + (-1)))), (r_room, aI G 16 fr), (r_thoughtX, aI G 4 fX), (r_thoughtY, aI G 4 fY)]) rfl ?_
                refine z_run X bg_X11_settle_119_122 kg_X11_settle_119_122 (lv' := [(2, .int (n_ + 1)), (7, .int 2), (6, .int (-1)), (5, .int rz_44), (3, .long q2_46), (8, .int rz_44), (0, .ref mo), (1, .int pq)]) (st' := []) rfl ?_
                refine z_goto X dg_X11_settle_122 (tgt := 16) (by decide) ?_
                refine Z.sub (lv' := [(2, .int (n_ + 1)), (0, .ref mo), (1, .int pq)]) [0, 6, 7] rfl [0, 1, 2, 3, 4, 5, 6, 7, 8] (ws' := [(mo, ob 11 [.int 0, g_rows, g_row, .int hc, .ref r_planeOf, .ref r_holeX, .ref r_holeY, .ref r_room, .ref r_ounces, .ref r_deepOf, .int sc, .ref r_factor, .ref r_otherOf, .ref r_isApart, g_apartX, g_apartY, .int cc, .ref r_weight, .ref r_tape, .int n, .int p, .int lim, .int fi, g_crossOf, g_trueX, g_trueY, .ref r_thoughtX, .ref r_thoughtY, .int g_poundHole, .int g_poundOunces, .ref r_lead, g_trials, g_trialSpeed, g_isWhole, g_trialX, g_trialY, g_trialGive, g_trialLead, g_baseX, g_baseY, g_timesPull, g_trialBaseX, g_trialBaseY, g_trialTimes, g_pulls, g_pullMany, g_sizes, g_merged, g_nextHole, g_nextOunces, g_leftBehind, g_manUp, g_manLow, g_asked, g_lowOf, g_highOf, g_tried, g_found, g_askedMany, g_mostHoles, g_isFound, g_foundRest, g_foundOunces, g_question, g_questionSpeed, .long q2_46, g_parts, g_filled, g_cogAt, g_cogBest, g_isOrdered, g_orderSize, g_isKept, g_kept, g_keptAt]), (r_lead, aI G 4 fl2_45), (r_planeOf, aI G 16 fp), (r_holeX, aI G 16 fx), (r_holeY, aI G 16 fy), (r_ounces, aI G 16 (upd g rz_44.toNatClampNeg ((g rz_44.toNatClampNeg) + (-1)))), (r_room, aI G 16 fr), (r_thoughtX, aI G 4 fX), (r_thoughtY, aI G 4 fY)]) rfl (by decide) ?_
                exact ih16 ((n_ + 1), (upd g rz_44.toNatClampNeg ((g rz_44.toNatClampNeg) + (-1))), fl2_45, q2_46) ⟨(by dsimp only; have e : (n_ + 1).toInt = n_.toInt + 1 := tI_add rfl (show (1 : Int32).toInt = 1 from by decide) (by omega); omega), (by dsimp only; have e : (n_ + 1).toInt = n_.toInt + 1 := tI_add rfl (show (1 : Int32).toInt = 1 from by decide) (by omega); rw [e, show (n_.toInt + 1).toNat = n_.toInt.toNat + 1 by omega]; show (itr (nx1 hci fp fr fx fy (fX pq.toNatClampNeg) (fY pq.toNatClampNeg) pi) fo n_.toInt.toNat).bind (nx1 hci fp fr fx fy (fX pq.toNatClampNeg) (fY pq.toNatClampNeg) pi) = some (upd g rz_44.toNatClampNeg ((g rz_44.toNatClampNeg) + (-1))); rw [hk]; exact (show (nx1 hci fp fr fx fy (fX pq.toNatClampNeg) (fY pq.toNatClampNeg) pi) g = some (upd g rz_44.toNatClampNeg ((g rz_44.toNatClampNeg) + (-1))) from ((nx1_ref (h := hci) (fp := fp) (fr := fr) (fx := fx) (fy := fy) (tx := fX pq.toNatClampNeg) (ty := fY pq.toNatClampNeg) (p := pi) (fh := g) (f0 := rz_8.toInt) (f1 := rz_44.toInt) (l0 := q2_10.toInt) (l1 := q2_46.toInt) (R := rz_5.toInt) f54_11 f54_47 (show rz_5.toInt = _ from by rw [f31_6, rest_N (h := hci) (fo := g) (by omega) f26_4, hpq])).trans (if_pos (show 0 ≤ rz_44.toInt ∧ q2_46.toInt < rz_5.toInt ∧ (0 ≤ rz_8.toInt → q2_46.toInt < q2_10.toInt) by omega))).trans (by rw [sub1]; rfl)))⟩ (by dsimp only; have e : (n_ + 1).toInt = n_.toInt + 1 := tI_add rfl (show (1 : Int32).toInt = 1 from by decide) (by omega); omega)
    · exact ⟨(by dsimp only; have e0 : (0 : Int32).toInt = 0 := (by decide); omega), (by dsimp only; rfl)⟩
  ·
    refine z_run X bg_X11_settle_12_13 kg_X11_settle_12_13 (lv' := [(0, .ref mo), (1, .int pq)]) (st' := [.int (-1)]) rfl ?_
    exact z_iret X rfl dg_X11_settle_13 (Nat.le_of_ble_eq_true rfl) (Nat.le_of_ble_eq_true rfl) ⟨((-1) : Int32), fo, fl, g_ounceRest, (Or.inl ⟨by omega, rfl, rfl⟩), rfl, rfl⟩
end
section
/-! off of the reference: holeX, holeY end as they began -/
abbrev C_offq : CE := ([(2, 0, 0), (0, -2147483648, 2147483647), (0, -2147483648, 2147483647)], [], [], [(some (1, -9223372036854775808, 9223372036854775807), [], [], [])], [(0, 0), (0, 1), (0, 58), (0, 59), (0, 60), (0, 61), (0, 62), (0, 63), (0, 64), (1, 999), (20, 999), (36, 999), (37, 999), (38, 999), (39, 999), (40, 999)], 20, 513)
abbrev sC_ofO : CE := C_offq
def sl_ofO : List CAL := [(130, 1, 1, C_X11_isPlane_0), (29, 1, 6, C_X11_in_0)]
theorem sl_ofO_ok (l : Launch) (G : KG) : ∀ q ∈ sl_ofO, COK l G RX11 TM q := List.forall_mem_cons.mpr ⟨cok_s k_11_130 (ac_X11_isPlane_0 l G) rfl, List.forall_mem_cons.mpr ⟨cok_s k_11_29 (ac_X11_in_0 l G) rfl, fun _ h => absurd h List.not_mem_nil⟩⟩
def sk_ofO : List CUT := []
abbrev se_ofO_30 : CUT := (30, ([(0, 0, false), (1, 1, false), (2, 2, false), (3, 500, false)], [], [(0, (2, 0, 0)), (1, (0, 0, 1)), (2, (0, 1, 3)), (500, (0, 0, 0)), (501, (0, 0, 0))], [(0, 0, 501)], [], 1000), 0, [(0, 0)])
def sx_ofO : List CUT := [se_ofO_30]
abbrev ss_ofO : AS := ([(0, 0, false), (1, 1, false), (2, 2, false)], [], [(0, (2, 0, 0)), (1, (0, -2147483648, 2147483647)), (2, (0, -2147483648, 2147483647))], [], [], 1000)
theorem sg_ofO : xcheckS hk0 D_X11_off 4 TM fld_11 put_11 cst_11 cstl_11 sl_ofO 2 sC_ofO sk_ofO sx_ofO [0, 1, 2] 4000 0 ss_ofO = true := by decide +kernel
abbrev of70 : CUT := (70, ([(0, 0, false), (1, 1, false), (2, 2, false), (3, 700, false)], [], [(0, (2, 0, 0)), (1, (0, 0, 1)), (2, (0, -2147483648, 2147483647)), (700, (0, 0, 16)), (701, (0, 0, 16))], [(0, 3, 701)], [(700, 701, 0)], 1000), 0, [(0, 0)])
abbrev sC_ofP : CE := ([(2, 0, 0), (0, -2147483648, 2147483647), (0, -2147483648, 2147483647)], [], [], [], [(0, 0), (0, 1), (0, 58), (0, 59), (0, 60), (0, 61), (0, 62), (0, 63), (0, 64), (1, 999), (20, 999), (36, 999), (37, 999), (38, 999), (39, 999), (40, 999)], 20, 513)
def sl_ofP : List CAL := [(169, 0, 5, C_X11_leads_0), (406, 0, 7, C_X11_goes_16)]
theorem sl_ofP_ok (l : Launch) (G : KG) : ∀ q ∈ sl_ofP, COK l G RX11 TM q := List.forall_mem_cons.mpr ⟨cok_v k_11_169 (ac_X11_leads_0 l G) rfl rfl rfl rfl rfl rfl, List.forall_mem_cons.mpr ⟨cok_v k_11_406 (ac_X11_goes_16 l G) rfl rfl rfl rfl rfl rfl, fun _ h => absurd h List.not_mem_nil⟩⟩
def sk_ofP : List CUT := [(87, ([(0, 0, false), (1, 1, false), (2, 2, false), (3, 500, false)], [], [(0, (2, 0, 0)), (1, (0, 0, 1)), (2, (0, -2147483648, 2147483647)), (500, (0, 0, 16)), (501, (0, 0, 16)), (502, (0, 0, 0)), (700, (0, 0, 16)), (701, (0, 0, 16))], [(0, 3, 701), (0, 58, 501), (0, 63, 502), (0, 64, 1)], [(700, 701, 0), (500, 701, 0), (501, 701, 0), (501, 500, 0)], 1000), 48, [(1, 500)]), (181, ([(0, 0, false), (3, 500, false)], [], [(0, (2, 0, 0)), (1, (0, 0, 1)), (2, (0, -2147483648, 2147483647)), (500, (0, 0, 4)), (501, (0, 0, 16)), (502, (0, 0, 0)), (503, (0, 0, 0)), (700, (0, 0, 16)), (701, (0, 0, 16))], [(0, 3, 701), (0, 58, 501), (0, 59, 2), (0, 60, 502), (0, 63, 503), (0, 64, 1)], [(501, 701, 0)], 1000), 11, [(1, 500)])]
abbrev se_ofP_214 : CUT := (214, ([(0, 0, false), (3, 500, false)], [], [(0, (2, 0, 0)), (1, (0, 0, 1)), (2, (0, -2147483648, 2147483647)), (500, (0, 0, 0)), (501, (0, 0, 16)), (502, (0, 0, 0)), (700, (0, 0, 16)), (701, (0, 0, 16))], [(0, 3, 701), (0, 58, 501), (0, 59, 2), (0, 63, 502), (0, 64, 1)], [(501, 701, 0)], 1000), 0, [(0, 0)])
def sx_ofP : List CUT := [se_ofP_214]
abbrev ss_ofP : AS := of70.2.1
theorem sg_ofP : xcheckS hk0 D_X11_off 4 TM fld_11 put_11 cst_11 cstl_11 sl_ofP 2 sC_ofP sk_ofP sx_ofP [0, 1, 2, 700, 701] 4000 70 ss_ofP = true := by decide +kernel
abbrev of254 : CUT := (254, ([(0, 0, false), (3, 700, false)], [], [(0, (2, 0, 0)), (700, (0, 0, 16))], [], [], 1000), 0, [(0, 0)])
abbrev sC_ofQ : CE := C_offq
def sl_ofQ : List CAL := [(414, 0, 2, C_X11_entersFound_0)]
theorem sl_ofQ_ok (l : Launch) (G : KG) : ∀ q ∈ sl_ofQ, COK l G RX11 TM q := List.forall_mem_cons.mpr ⟨cok_v k_11_414 (ac_X11_entersFound_0 l G) rfl rfl rfl rfl rfl rfl, fun _ h => absurd h List.not_mem_nil⟩
def sk_ofQ : List CUT := []
def sx_ofQ : List CUT := []
abbrev ss_ofQ : AS := of254.2.1
theorem sg_ofQ : xcheckS hk0 D_X11_off 4 TM fld_11 put_11 cst_11 cstl_11 sl_ofQ 2 sC_ofQ sk_ofQ sx_ofQ [0, 1, 2, 700] 4000 254 ss_ofQ = true := by decide +kernel
def ng (f : Nat → Int32) (i : Int) (j : Nat) : Int32 := if (j : Int) < i then -(f j) else f j
theorem ng_0 (f : Nat → Int32) : ng f 0 = f := by
  funext j
  unfold ng
  exact if_neg (by omega)
theorem ng_up {f g : Nat → Int32} {i : Int32} (h0 : 0 ≤ i.toInt) (h : g = ng f i.toInt) : upd g i.toNatClampNeg (-(g i.toNatClampNeg)) = ng f (i.toInt + 1) := by
  subst h
  have ei : ((i.toNatClampNeg : Nat) : Int) = i.toInt := slot_of1 rfl h0
  funext j
  unfold ng
  by_cases e : j = i.toNatClampNeg
  · subst e
    rw [upd_at, if_neg (by omega), if_pos (by omega)]
  · rw [upd_off e]
    by_cases c : (j : Int) < i.toInt
    · rw [if_pos c, if_pos (by omega)]
    · rw [if_neg c, if_neg (by omega)]
theorem ng_ng (f : Nat → Int32) (i : Int) : ng (ng f i) i = f := by
  funext j
  unfold ng
  by_cases c : (j : Int) < i
  · rw [if_pos c, if_pos c]
    grind
  · rw [if_neg c, if_neg c]
theorem list5 {w : va_W} {a b c d e : Nat × va_E} (h0 : w[0]? = some a) (h1 : w[1]? = some b) (h2 : w[2]? = some c) (h3 : w[3]? = some d) (h4 : w[4]? = some e) : w = [a, b, c, d, e] ++ w.drop 5 := by
  match w, h0, h1, h2, h3, h4 with
  | a' :: b' :: c' :: d' :: e' :: r, h0, h1, h2, h3, h4 =>
    cases h0
    cases h1
    cases h2
    cases h3
    cases h4
    rfl
section OFF
variable {p : Program} {l : Launch} {e : Env} {R : Room} {s : State} {m : MethodId} {args : Array Value} {below : List Frame} {meth : Method} {c : Code} {G : KG} {A : Nat → Prop} {Q : State → Prop} {ad : Nat → Nat} {kc ks : Nat}
theorem d_of_32 : decode cX11_off 32 = .ok (.getfield 63, 3) := by decide +kernel
theorem d_of_35 : decode cX11_off 35 = .ok (.if_icmp .ge 35, 3) := by decide +kernel
theorem d_of_39 : decode cX11_off 39 = .ok (.getfield 69, 3) := by decide +kernel
theorem d_of_44 : decode cX11_off 44 = .ok (.getfield 69, 3) := by decide +kernel
theorem d_of_48 : decode cX11_off 48 = .ok (.iaload, 1) := by decide +kernel
theorem d_of_50 : decode cX11_off 50 = .ok (.iastore, 1) := by decide +kernel
theorem d_of_52 : decode cX11_off 52 = .ok (.getfield 76, 3) := by decide +kernel
theorem d_of_57 : decode cX11_off 57 = .ok (.getfield 76, 3) := by decide +kernel
theorem d_of_61 : decode cX11_off 61 = .ok (.iaload, 1) := by decide +kernel
theorem d_of_63 : decode cX11_off 63 = .ok (.iastore, 1) := by decide +kernel
theorem d_of_67 : decode cX11_off 67 = .ok (.goto (-37), 3) := by decide +kernel
abbrev bb_of_30 : ZB := [(.iload_n 3, .null), (.aload_n 0, .null)]
theorem bk_of_30 : zchk cX11_off bb_of_30 30 = true ∧ zpc bb_of_30 30 = 32 := ⟨by decide +kernel, rfl⟩
abbrev bb_of_38 : ZB := [(.aload_n 0, .null)]
theorem bk_of_38 : zchk cX11_off bb_of_38 38 = true ∧ zpc bb_of_38 38 = 39 := ⟨by decide +kernel, rfl⟩
abbrev bb_of_42 : ZB := [(.iload_n 3, .null), (.aload_n 0, .null)]
theorem bk_of_42 : zchk cX11_off bb_of_42 42 = true ∧ zpc bb_of_42 42 = 44 := ⟨by decide +kernel, rfl⟩
abbrev bb_of_47 : ZB := [(.iload_n 3, .null)]
theorem bk_of_47 : zchk cX11_off bb_of_47 47 = true ∧ zpc bb_of_47 47 = 48 := ⟨by decide +kernel, rfl⟩
abbrev bb_of_49 : ZB := [(.ineg, .null)]
theorem bk_of_49 : zchk cX11_off bb_of_49 49 = true ∧ zpc bb_of_49 49 = 50 := ⟨by decide +kernel, rfl⟩
abbrev bb_of_51 : ZB := [(.aload_n 0, .null)]
theorem bk_of_51 : zchk cX11_off bb_of_51 51 = true ∧ zpc bb_of_51 51 = 52 := ⟨by decide +kernel, rfl⟩
abbrev bb_of_55 : ZB := [(.iload_n 3, .null), (.aload_n 0, .null)]
theorem bk_of_55 : zchk cX11_off bb_of_55 55 = true ∧ zpc bb_of_55 55 = 57 := ⟨by decide +kernel, rfl⟩
abbrev bb_of_60 : ZB := [(.iload_n 3, .null)]
theorem bk_of_60 : zchk cX11_off bb_of_60 60 = true ∧ zpc bb_of_60 60 = 61 := ⟨by decide +kernel, rfl⟩
abbrev bb_of_62 : ZB := [(.ineg, .null)]
theorem bk_of_62 : zchk cX11_off bb_of_62 62 = true ∧ zpc bb_of_62 62 = 63 := ⟨by decide +kernel, rfl⟩
abbrev bb_of_64 : ZB := [(.iinc 3 1, .int 1)]
theorem bk_of_64 : zchk cX11_off bb_of_64 64 = true ∧ zpc bb_of_64 64 = 67 := ⟨by decide +kernel, rfl⟩
theorem off_l1 (X : ZC p s m args meth c cX11_off 4 RX11 G A (some .long) "off") {fs : List Value} {m1 m2 : Nat × va_E} {wt : va_W} {hn : Int32} (v1 : Int32) (v2 : Int32) (h3 : fs[3]? = some (.int hn)) (h5 : fs[5]? = some (.ref (ad 3))) (h6 : fs[6]? = some (.ref (ad 4))) (hn0 : 0 ≤ hn.toInt ∧ hn.toInt ≤ 16) (f g : Nat → Int32)
    (hK : Z p l e R s m args below meth c 4 G A Q 70 [(3, .int hn), (0, .ref (ad 0)), (1, .int v1), (2, .int v2)] [] ([(ad 0, ob 11 fs), m1, m2, (ad 3, aI G 16 (ng f hn.toInt)), (ad 4, aI G 16 (ng g hn.toInt))] ++ wt) kc ks) : ∀ (n : Nat) (i : Int32) (x y : Nat → Int32), 0 ≤ i.toInt ∧ i.toInt ≤ hn.toInt → (hn.toInt - i.toInt).toNat < n → x = ng f i.toInt → y = ng g i.toInt → Z p l e R s m args below meth c 4 G A Q 30 [(3, .int i), (0, .ref (ad 0)), (1, .int v1), (2, .int v2)] [] ([(ad 0, ob 11 fs), m1, m2, (ad 3, aI G 16 x), (ad 4, aI G 16 y)] ++ wt) kc ks
  | 0, _, _, _, _, h, _, _ => absurd h (Nat.not_lt_zero _)
  | n + 1, i, x, y, hi, h, hx, hy => by
    refine z_run X bb_of_30 bk_of_30 (lv' := [(3, .int i), (0, .ref (ad 0)), (1, .int v1), (2, .int v2)]) (st' := [.ref (ad 0), .int i]) rfl ?_
    refine z_get X fl_11_63 d_of_32 0 rfl (v := .int hn) h3 ?_
    refine zc_ge X d_of_35 (tgt := 70) (by decide) (a := i.toInt) (b := hn.toInt) rfl rfl (fun hc => ?_) (fun hc => ?_)
    · have ei : i = hn := Int32.toInt_inj.mp (by omega)
      subst ei
      subst hx
      subst hy
      exact hK
    · refine z_run X bb_of_38 bk_of_38 (lv' := [(3, .int i), (0, .ref (ad 0)), (1, .int v1), (2, .int v2)]) (st' := [.ref (ad 0)]) rfl ?_
      refine z_get X fl_11_69 d_of_39 0 rfl (v := .ref (ad 3)) h5 ?_
      refine z_run X bb_of_42 bk_of_42 (lv' := [(3, .int i), (0, .ref (ad 0)), (1, .int v1), (2, .int v2)]) (st' := [.ref (ad 0), .int i, .ref (ad 3)]) rfl ?_
      refine z_get X fl_11_69 d_of_44 0 rfl (v := .ref (ad 3)) h5 ?_
      refine z_run X bb_of_47 bk_of_47 (lv' := [(3, .int i), (0, .ref (ad 0)), (1, .int v1), (2, .int v2)]) (st' := [.int i, .ref (ad 3), .int i, .ref (ad 3)]) rfl ?_
      refine z_iald X d_of_48 3 rfl (vin (x := i) rfl hi.1 (by omega)) (v := x i.toNatClampNeg) rfl ?_
      refine z_run X bb_of_49 bk_of_49 (lv' := [(3, .int i), (0, .ref (ad 0)), (1, .int v1), (2, .int v2)]) (st' := [.int (-(x i.toNatClampNeg)), .int i, .ref (ad 3)]) rfl ?_
      refine z_iast X d_of_50 3 rfl (vin (x := i) rfl hi.1 (by omega)) (ws' := ([(ad 0, ob 11 fs), m1, m2, (ad 3, aI G 16 (upd x i.toNatClampNeg (-(x i.toNatClampNeg)))), (ad 4, aI G 16 y)] ++ wt)) rfl ?_
      refine z_run X bb_of_51 bk_of_51 (lv' := [(3, .int i), (0, .ref (ad 0)), (1, .int v1), (2, .int v2)]) (st' := [.ref (ad 0)]) rfl ?_
      refine z_get X fl_11_76 d_of_52 0 rfl (v := .ref (ad 4)) h6 ?_
      refine z_run X bb_of_55 bk_of_55 (lv' := [(3, .int i), (0, .ref (ad 0)), (1, .int v1), (2, .int v2)]) (st' := [.ref (ad 0), .int i, .ref (ad 4)]) rfl ?_
      refine z_get X fl_11_76 d_of_57 0 rfl (v := .ref (ad 4)) h6 ?_
      refine z_run X bb_of_60 bk_of_60 (lv' := [(3, .int i), (0, .ref (ad 0)), (1, .int v1), (2, .int v2)]) (st' := [.int i, .ref (ad 4), .int i, .ref (ad 4)]) rfl ?_
      refine z_iald X d_of_61 4 rfl (vin (x := i) rfl hi.1 (by omega)) (v := y i.toNatClampNeg) rfl ?_
      refine z_run X bb_of_62 bk_of_62 (lv' := [(3, .int i), (0, .ref (ad 0)), (1, .int v1), (2, .int v2)]) (st' := [.int (-(y i.toNatClampNeg)), .int i, .ref (ad 4)]) rfl ?_
      refine z_iast X d_of_63 4 rfl (vin (x := i) rfl hi.1 (by omega)) (ws' := ([(ad 0, ob 11 fs), m1, m2, (ad 3, aI G 16 (upd x i.toNatClampNeg (-(x i.toNatClampNeg)))), (ad 4, aI G 16 (upd y i.toNatClampNeg (-(y i.toNatClampNeg))))] ++ wt)) rfl ?_
      refine z_run X bb_of_64 bk_of_64 (lv' := [(3, .int (i + 1)), (0, .ref (ad 0)), (1, .int v1), (2, .int v2)]) (st' := []) rfl ?_
      refine z_goto X d_of_67 (tgt := 30) (by decide) ?_
      have e1 : (i + 1).toInt = i.toInt + 1 := tI_add rfl (show (1 : Int32).toInt = 1 from by decide) (by omega)
      exact off_l1 X v1 v2 h3 h5 h6 hn0 f g hK n (i + 1) _ _ (by omega) (by omega) (by rw [e1]; exact ng_up hi.1 hx) (by rw [e1]; exact ng_up hi.1 hy)
theorem d_of_216 : decode cX11_off 216 = .ok (.getfield 63, 3) := by decide +kernel
theorem d_of_219 : decode cX11_off 219 = .ok (.if_icmp .ge 35, 3) := by decide +kernel
theorem d_of_223 : decode cX11_off 223 = .ok (.getfield 69, 3) := by decide +kernel
theorem d_of_228 : decode cX11_off 228 = .ok (.getfield 69, 3) := by decide +kernel
theorem d_of_232 : decode cX11_off 232 = .ok (.iaload, 1) := by decide +kernel
theorem d_of_234 : decode cX11_off 234 = .ok (.iastore, 1) := by decide +kernel
theorem d_of_236 : decode cX11_off 236 = .ok (.getfield 76, 3) := by decide +kernel
theorem d_of_241 : decode cX11_off 241 = .ok (.getfield 76, 3) := by decide +kernel
theorem d_of_245 : decode cX11_off 245 = .ok (.iaload, 1) := by decide +kernel
theorem d_of_247 : decode cX11_off 247 = .ok (.iastore, 1) := by decide +kernel
theorem d_of_251 : decode cX11_off 251 = .ok (.goto (-37), 3) := by decide +kernel
abbrev bb_of_214 : ZB := [(.iload_n 3, .null), (.aload_n 0, .null)]
theorem bk_of_214 : zchk cX11_off bb_of_214 214 = true ∧ zpc bb_of_214 214 = 216 := ⟨by decide +kernel, rfl⟩
abbrev bb_of_222 : ZB := [(.aload_n 0, .null)]
theorem bk_of_222 : zchk cX11_off bb_of_222 222 = true ∧ zpc bb_of_222 222 = 223 := ⟨by decide +kernel, rfl⟩
abbrev bb_of_226 : ZB := [(.iload_n 3, .null), (.aload_n 0, .null)]
theorem bk_of_226 : zchk cX11_off bb_of_226 226 = true ∧ zpc bb_of_226 226 = 228 := ⟨by decide +kernel, rfl⟩
abbrev bb_of_231 : ZB := [(.iload_n 3, .null)]
theorem bk_of_231 : zchk cX11_off bb_of_231 231 = true ∧ zpc bb_of_231 231 = 232 := ⟨by decide +kernel, rfl⟩
abbrev bb_of_233 : ZB := [(.ineg, .null)]
theorem bk_of_233 : zchk cX11_off bb_of_233 233 = true ∧ zpc bb_of_233 233 = 234 := ⟨by decide +kernel, rfl⟩
abbrev bb_of_235 : ZB := [(.aload_n 0, .null)]
theorem bk_of_235 : zchk cX11_off bb_of_235 235 = true ∧ zpc bb_of_235 235 = 236 := ⟨by decide +kernel, rfl⟩
abbrev bb_of_239 : ZB := [(.iload_n 3, .null), (.aload_n 0, .null)]
theorem bk_of_239 : zchk cX11_off bb_of_239 239 = true ∧ zpc bb_of_239 239 = 241 := ⟨by decide +kernel, rfl⟩
abbrev bb_of_244 : ZB := [(.iload_n 3, .null)]
theorem bk_of_244 : zchk cX11_off bb_of_244 244 = true ∧ zpc bb_of_244 244 = 245 := ⟨by decide +kernel, rfl⟩
abbrev bb_of_246 : ZB := [(.ineg, .null)]
theorem bk_of_246 : zchk cX11_off bb_of_246 246 = true ∧ zpc bb_of_246 246 = 247 := ⟨by decide +kernel, rfl⟩
abbrev bb_of_248 : ZB := [(.iinc 3 1, .int 1)]
theorem bk_of_248 : zchk cX11_off bb_of_248 248 = true ∧ zpc bb_of_248 248 = 251 := ⟨by decide +kernel, rfl⟩
theorem off_l2 (X : ZC p s m args meth c cX11_off 4 RX11 G A (some .long) "off") {fs : List Value} {m1 m2 : Nat × va_E} {wt : va_W} {hn : Int32} (h3 : fs[3]? = some (.int hn)) (h5 : fs[5]? = some (.ref (ad 3))) (h6 : fs[6]? = some (.ref (ad 4))) (hn0 : 0 ≤ hn.toInt ∧ hn.toInt ≤ 16) (f g : Nat → Int32)
    (hK : Z p l e R s m args below meth c 4 G A Q 254 [(3, .int hn), (0, .ref (ad 0))] [] ([(ad 0, ob 11 fs), m1, m2, (ad 3, aI G 16 (ng f hn.toInt)), (ad 4, aI G 16 (ng g hn.toInt))] ++ wt) kc ks) : ∀ (n : Nat) (i : Int32) (x y : Nat → Int32), 0 ≤ i.toInt ∧ i.toInt ≤ hn.toInt → (hn.toInt - i.toInt).toNat < n → x = ng f i.toInt → y = ng g i.toInt → Z p l e R s m args below meth c 4 G A Q 214 [(3, .int i), (0, .ref (ad 0))] [] ([(ad 0, ob 11 fs), m1, m2, (ad 3, aI G 16 x), (ad 4, aI G 16 y)] ++ wt) kc ks
  | 0, _, _, _, _, h, _, _ => absurd h (Nat.not_lt_zero _)
  | n + 1, i, x, y, hi, h, hx, hy => by
    refine z_run X bb_of_214 bk_of_214 (lv' := [(3, .int i), (0, .ref (ad 0))]) (st' := [.ref (ad 0), .int i]) rfl ?_
    refine z_get X fl_11_63 d_of_216 0 rfl (v := .int hn) h3 ?_
    refine zc_ge X d_of_219 (tgt := 254) (by decide) (a := i.toInt) (b := hn.toInt) rfl rfl (fun hc => ?_) (fun hc => ?_)
    · have ei : i = hn := Int32.toInt_inj.mp (by omega)
      subst ei
      subst hx
      subst hy
      exact hK
    · refine z_run X bb_of_222 bk_of_222 (lv' := [(3, .int i), (0, .ref (ad 0))]) (st' := [.ref (ad 0)]) rfl ?_
      refine z_get X fl_11_69 d_of_223 0 rfl (v := .ref (ad 3)) h5 ?_
      refine z_run X bb_of_226 bk_of_226 (lv' := [(3, .int i), (0, .ref (ad 0))]) (st' := [.ref (ad 0), .int i, .ref (ad 3)]) rfl ?_
      refine z_get X fl_11_69 d_of_228 0 rfl (v := .ref (ad 3)) h5 ?_
      refine z_run X bb_of_231 bk_of_231 (lv' := [(3, .int i), (0, .ref (ad 0))]) (st' := [.int i, .ref (ad 3), .int i, .ref (ad 3)]) rfl ?_
      refine z_iald X d_of_232 3 rfl (vin (x := i) rfl hi.1 (by omega)) (v := x i.toNatClampNeg) rfl ?_
      refine z_run X bb_of_233 bk_of_233 (lv' := [(3, .int i), (0, .ref (ad 0))]) (st' := [.int (-(x i.toNatClampNeg)), .int i, .ref (ad 3)]) rfl ?_
      refine z_iast X d_of_234 3 rfl (vin (x := i) rfl hi.1 (by omega)) (ws' := ([(ad 0, ob 11 fs), m1, m2, (ad 3, aI G 16 (upd x i.toNatClampNeg (-(x i.toNatClampNeg)))), (ad 4, aI G 16 y)] ++ wt)) rfl ?_
      refine z_run X bb_of_235 bk_of_235 (lv' := [(3, .int i), (0, .ref (ad 0))]) (st' := [.ref (ad 0)]) rfl ?_
      refine z_get X fl_11_76 d_of_236 0 rfl (v := .ref (ad 4)) h6 ?_
      refine z_run X bb_of_239 bk_of_239 (lv' := [(3, .int i), (0, .ref (ad 0))]) (st' := [.ref (ad 0), .int i, .ref (ad 4)]) rfl ?_
      refine z_get X fl_11_76 d_of_241 0 rfl (v := .ref (ad 4)) h6 ?_
      refine z_run X bb_of_244 bk_of_244 (lv' := [(3, .int i), (0, .ref (ad 0))]) (st' := [.int i, .ref (ad 4), .int i, .ref (ad 4)]) rfl ?_
      refine z_iald X d_of_245 4 rfl (vin (x := i) rfl hi.1 (by omega)) (v := y i.toNatClampNeg) rfl ?_
      refine z_run X bb_of_246 bk_of_246 (lv' := [(3, .int i), (0, .ref (ad 0))]) (st' := [.int (-(y i.toNatClampNeg)), .int i, .ref (ad 4)]) rfl ?_
      refine z_iast X d_of_247 4 rfl (vin (x := i) rfl hi.1 (by omega)) (ws' := ([(ad 0, ob 11 fs), m1, m2, (ad 3, aI G 16 (upd x i.toNatClampNeg (-(x i.toNatClampNeg)))), (ad 4, aI G 16 (upd y i.toNatClampNeg (-(y i.toNatClampNeg))))] ++ wt)) rfl ?_
      refine z_run X bb_of_248 bk_of_248 (lv' := [(3, .int (i + 1)), (0, .ref (ad 0))]) (st' := []) rfl ?_
      refine z_goto X d_of_251 (tgt := 214) (by decide) ?_
      have e1 : (i + 1).toInt = i.toInt + 1 := tI_add rfl (show (1 : Int32).toInt = 1 from by decide) (by omega)
      exact off_l2 X h3 h5 h6 hn0 f g hK n (i + 1) _ _ (by omega) (by omega) (by rw [e1]; exact ng_up hi.1 hx) (by rw [e1]; exact ng_up hi.1 hy)
end OFF
/-- the world, by its first cells -/
theorem wt5 {G : KG} {ad : Nat → Nat} {w : va_W} (hW : WT G ad TM w) : ∃ (fs : List Value) (m1 m2 : Nat × va_E) (f g : Nat → Int32) (hn : Int32), w = [(ad 0, ob 11 fs), m1, m2, (ad 3, aI G 16 f), (ad 4, aI G 16 g)] ++ w.drop 5 ∧ fs[3]? = some (.int hn) ∧ fs[5]? = some (.ref (ad 3)) ∧ fs[6]? = some (.ref (ad 4)) ∧ 0 ≤ hn.toInt ∧ hn.toInt ≤ 16 := by
  obtain ⟨fs, v, a0, a1, a2, a3⟩ := WT.obj hW (k := 0) (j := 3) rfl rfl
  obtain ⟨hn, rfl, b1, b2⟩ := vty0 a3 rfl
  obtain ⟨fs', v5, c0, c1, c2, c3⟩ := WT.obj hW (k := 0) (j := 5) rfl rfl
  obtain ⟨fs'', v6, d0, d1, d2, d3⟩ := WT.obj hW (k := 0) (j := 6) rfl rfl
  have e1 : fs' = fs := (Prod.mk.inj (Sum.inr.inj (Prod.mk.inj (Option.some.inj (c0.symm.trans a0))).2)).2
  have e2 : fs'' = fs := (Prod.mk.inj (Sum.inr.inj (Prod.mk.inj (Option.some.inj (d0.symm.trans a0))).2)).2
  rw [e1] at c2
  rw [e2] at d2
  have z5 := vty2 c3 rfl
  have z6 := vty2 d3 rfl
  obtain ⟨f, f0, -⟩ := WT.ints hW (k := 3) rfl
  obtain ⟨g, g0, -⟩ := WT.ints hW (k := 4) rfl
  have l5 : 5 < w.length := Nat.lt_of_lt_of_le (by decide) hW.1
  refine ⟨fs, w[1], w[2], f, g, hn, list5 a0 (List.getElem?_eq_getElem (by omega)) (List.getElem?_eq_getElem (by omega)) f0 g0, a2, ?_, ?_, b1, b2⟩
  · rw [c2, z5]
    rfl
  · rw [d2, z6]
    rfl
theorem wt34 {G : KG} {ad : Nat → Nat} {w : va_W} {a0 m1 m2 : Nat × va_E} {f g : Nat → Int32} {wt : va_W} (x y : Nat → Int32) (hW : WT G ad TM w) (e : w = [a0, m1, m2, (ad 3, aI G 16 f), (ad 4, aI G 16 g)] ++ wt) : WT G ad TM ([a0, m1, m2, (ad 3, aI G 16 x), (ad 4, aI G 16 y)] ++ wt) := by
  have h1 : WT G ad TM (w.set 3 (ad 3, aI G 16 x)) := WT.setA (x := (cyI G, 16, .inl f)) (y := (cyI G, 16, .inl x)) hW (k := 3) rfl (by rw [e]; rfl) (Or.inl ⟨rfl, _, rfl, fun k _ => ⟨i32_lo _, i32_hi _, fun z => by cases z⟩⟩) (fun n' t' e' g2 => by cases e'; exact absurd g2 (by decide))
  have h2 : WT G ad TM ((w.set 3 (ad 3, aI G 16 x)).set 4 (ad 4, aI G 16 y)) := WT.setA (x := (cyI G, 16, .inl g)) (y := (cyI G, 16, .inl y)) h1 (k := 4) rfl (by rw [e]; rfl) (Or.inl ⟨rfl, _, rfl, fun k _ => ⟨i32_lo _, i32_hi _, fun z => by cases z⟩⟩) (fun n' t' e' g2 => by cases e'; exact absurd g2 (by decide))
  rw [e] at h2
  exact h2
theorem cget34 {a0 m1 m2 : Nat × va_E} {b3 b4 c3 c4 : Nat × va_E} {wt : va_W} {k j : Nat} (h : k ≠ 3 ∧ k ≠ 4) : cget ([a0, m1, m2, b3, b4] ++ wt) k j = cget ([a0, m1, m2, c3, c4] ++ wt) k j := by
  unfold cget
  match k, h with
  | 0, _ => rfl
  | 1, _ => rfl
  | 2, _ => rfl
  | 3, h => exact absurd rfl h.1
  | 4, h => exact absurd rfl h.2
  | k + 5, _ => rfl
theorem ac_offq (l : Launch) (G : KG) : ACt l G TM yX11_off cX11_off 4 (some .long) C_offq := by
  refine hand_of (by decide) (by decide) (by decide) (by decide) (by decide) ?_
  intro p e s m args below meth c A X ad w0 μ lw hW hPre hg
  refine aseg (C := sC_ofO) (PO := fun r w1 => POST G ad TM C_offq μ w0 r w1) (fld := fld_11) (put := put_11) (cst := cst_11) (cstl := cstl_11) (hk := hk0) (tab := D_X11_off) (rk := 2) (pids := [0, 1, 2]) D_X11_off_ok X rfl rfl hok0 (Or.inr (Or.inr (Or.inl ⟨rfl, rfl⟩))) (Nat.le_refl 0) (Nat.le_refl 0) (spin1 (C := C_offq)) (spin2 (C := C_offq)) (fun r w1 h => h) fld_11_ok put_11_ok cst_11_ok cstl_11_ok (sl_ofO_ok l G) (Nat.le_refl 0) (Nat.le_refl 0) spin3 sg_ofO (fun d hd ν2 lw2 sw2 ws2 hg2 => ?_) μ lw [] w0 hg
  rw [List.mem_singleton.mp hd] at hg2 ⊢
  have hs : sw2 = [] := hg2.2.1
  subst hs
  have hW2 := hg2.2.2.2.2.2.2.2.1
  have hF2 := hg2.2.2.2.2.2.2.2.2
  have hps : ∀ q ∈ spin C_offq μ, q.1 < 1000 ∧ ν2 q.1 = q.2 := hg2.2.2.2.2.2.2.1
  obtain ⟨fs, m1, m2, f, g, hn, ew, k3, k5, k6, kn⟩ := wt5 hW2
  have el : lw2 = [(0, ν2 0), (1, ν2 1), (2, ν2 2), (3, ν2 500)] := hg2.1
  have n0 : ν2 0 = .ref (ad 0) := hg2.2.2.ref (i := 0) rfl
  obtain ⟨z0, z1, z2, z3⟩ := hg2.2.2.rng (i := 500) (a := 0) (b := 0) (by decide)
  obtain ⟨k1_, p1, p2, p3⟩ := hg2.2.2.rng (i := 1) (a := 0) (b := 1) (by decide)
  have pin2 : ∃ x : Int32, ν2 2 = .int x := hg2.2.2.int (i := 2) rfl
  have i0 : z0 = 0 := Int32.toInt_inj.mp (by have q : (0 : Int32).toInt = 0 := (by decide); omega)
  subst i0
  obtain ⟨x2, hx2⟩ := pin2
  refine Z.mono (lw' := [(3, .int 0), (0, .ref (ad 0)), (1, .int k1_), (2, .int x2)]) (fun q hq => by
    rw [el, n0, z1, p1, hx2]
    simp only [List.mem_cons, List.not_mem_nil, or_false] at hq ⊢
    rcases hq with h | h | h | h <;> simp [h]) ?_
  rw [ew]
  refine off_l1 X k1_ x2 k3 k5 k6 kn f g ?_ _ 0 f g ⟨by decide, by have q : (0 : Int32).toInt = 0 := (by decide); omega⟩ (Nat.lt_succ_self _) (ng_0 f).symm (ng_0 g).symm
  -- from 70 on, the signs turned
  have hW3 := wt34 (ng f hn.toInt) (ng g hn.toInt) hW2 ew
  obtain ⟨w3, e3⟩ : ∃ w3, w3 = [(ad 0, ob 11 fs), m1, m2, (ad 3, aI G 16 (ng f hn.toInt)), (ad 4, aI G 16 (ng g hn.toInt))] ++ ws2.drop 5 := ⟨_, rfl⟩
  rw [← e3] at hW3 ⊢
  obtain ⟨ν3, hν3⟩ : ∃ ν3 : Nat → Value, ν3 = nup (nup ν2 701 (.int hn)) 700 (.int hn) := ⟨_, rfl⟩
  have m0 : ν3 0 = .ref (ad 0) := by rw [hν3]; exact (if_neg (by decide)).trans ((if_neg (by decide)).trans n0)
  have q1 : ν3 1 = ν2 1 := by rw [hν3]; exact (if_neg (by decide)).trans (if_neg (by decide))
  have q2 : ν3 2 = ν2 2 := by rw [hν3]; exact (if_neg (by decide)).trans (if_neg (by decide))
  have q7 : ν3 700 = .int hn := by rw [hν3]; exact if_pos rfl
  have q8 : ν3 701 = .int hn := by rw [hν3]; exact (if_neg (by decide)).trans (if_pos rfl)
  have hps3 : ∀ q ∈ spin C_offq μ, q.1 < 1000 ∧ ν3 q.1 = q.2 := fun q hq => ⟨(hps q hq).1, by
    have hlt : q.1 ∈ [0, 1, 2] := spin3 q hq
    rw [hν3]
    exact ((if_neg (fun z => by rw [z] at hlt; revert hlt; decide)).trans (if_neg (fun z => by rw [z] at hlt; revert hlt; decide))).trans (hps q hq).2⟩
  obtain ⟨pn, hpn⟩ : ∃ pn, pn = (700, Value.int hn) :: (701, .int hn) :: spin C_offq μ := ⟨_, rfl⟩
  have hpm : ∀ q ∈ pn, q.1 < 1000 ∧ ν3 q.1 = q.2 := fun q hq => by
    rw [hpn] at hq
    rcases List.mem_cons.mp hq with e1 | hq
    · rw [e1]; exact ⟨(by decide : (700 : Nat) < 1000), q7⟩
    rcases List.mem_cons.mp hq with e1 | hq
    · rw [e1]; exact ⟨(by decide : (701 : Nat) < 1000), q8⟩
    · exact hps3 q hq
  have hpid : ∀ q ∈ pn, q.1 ∈ [0, 1, 2, 700, 701] := fun q hq => by
    rw [hpn] at hq
    rcases List.mem_cons.mp hq with e1 | hq
    · rw [e1]; exact (by decide : (700 : Nat) ∈ [0, 1, 2, 700, 701])
    rcases List.mem_cons.mp hq with e1 | hq
    · rw [e1]; exact (by decide : (701 : Nat) ∈ [0, 1, 2, 700, 701])
    · have h1 : q.1 ∈ [0, 1, 2] := spin3 q hq
      have hsub : ∀ z ∈ [0, 1, 2], z ∈ [0, 1, 2, 700, 701] := by decide
      exact hsub _ h1
  have hsp : ∀ q ∈ spin C_offq μ, q ∈ pn := fun q hq => by rw [hpn]; exact List.mem_cons_of_mem _ (List.mem_cons_of_mem _ hq)
  have hg3 : AG G ad TM sC_ofP.2.2.2.2.1 w3 pn of70.2.1 ν3 [(0, ν3 0), (1, ν3 1), (2, ν3 2), (3, ν3 700)] [] w3 := by
    refine ⟨rfl, rfl, fun q hq => ?_, fun q hq => ?_, fun q hq => ?_, fun q hq => ?_, hpm, hW3, rfl, fun _ _ _ => rfl⟩
    · have hq : q ∈ [(0, 0, false), (1, 1, false), (2, 2, false), (3, 700, false)] := hq
      simp only [List.mem_cons, List.not_mem_nil, or_false] at hq
      rcases hq with rfl | rfl | rfl | rfl
      · show (ν3 0).category = _; rw [m0]; rfl
      · show (ν3 1).category = _; rw [q1, p1]; rfl
      · show (ν3 2).category = _; rw [q2, hx2]; rfl
      · show (ν3 700).category = _; rw [q7]; rfl
    · have hq : q ∈ of70.2.1.2.2.1 := hq
      unfold of70 at hq
      simp only [List.mem_cons, List.not_mem_nil, or_false] at hq
      rcases hq with rfl | rfl | rfl | rfl | rfl
      · show vty ad (2, 0, 0) (ν3 0); rw [m0]; exact Or.inr (Or.inr (Or.inl ⟨rfl, rfl⟩))
      · show vty ad (0, 0, 1) (ν3 1); rw [q1, p1]; exact vty_i p2 p3
      · show vty ad tI0 (ν3 2); rw [q2, hx2]; exact vty_i0 _
      · show vty ad (0, 0, 16) (ν3 700); rw [q7]; exact vty_i kn.1 kn.2
      · show vty ad (0, 0, 16) (ν3 701); rw [q8]; exact vty_i kn.1 kn.2
    · have hq : q ∈ of70.2.1.2.2.2.1 := hq
      unfold of70 at hq
      rw [List.mem_singleton.mp hq]
      show fget w3 0 3 = some (ν3 701)
      rw [q8, e3]
      exact k3
    · have hq : q ∈ of70.2.1.2.2.2.2.1 := hq
      unfold of70 at hq
      rw [List.mem_singleton.mp hq]
      show vI (ν3 700) ≤ vI (ν3 701) + 0
      rw [q7, q8]
      exact Int.le_of_eq (Int.add_zero _).symm
  refine Z.mono (lw' := [(0, ν3 0), (1, ν3 1), (2, ν3 2), (3, ν3 700)]) (fun q hq => by
    rw [m0, q1, q2, q7, p1, hx2] at hq
    simp only [List.mem_cons, List.not_mem_nil, or_false] at hq ⊢
    rcases hq with h | h | h | h <;> simp [h]) ?_
  refine aseg (C := sC_ofP) (PO := fun r w1 => POST G ad TM C_offq μ w0 r w1) (fld := fld_11) (put := put_11) (cst := cst_11) (cstl := cstl_11) (hk := hk0) (tab := D_X11_off) (rk := 2) (pids := [0, 1, 2, 700, 701]) D_X11_off_ok X rfl rfl hok0 (Or.inr (Or.inr (Or.inl ⟨rfl, rfl⟩))) (Nat.le_refl 0) (Nat.le_refl 0) (fun j hj => hsp _ (spin1 (C := C_offq) j hj)) (fun j hj => hsp _ (spin2 (C := C_offq) j hj)) (fun r w1 h => by obtain ⟨A9, hA9, -⟩ := h; exact absurd hA9 List.not_mem_nil) fld_11_ok put_11_ok cst_11_ok cstl_11_ok (sl_ofP_ok l G) (Nat.le_refl 0) (Nat.le_refl 0) hpid sg_ofP (fun d hd ν4 lw4 sw4 ws4 hg4 => ?_) ν3 _ [] w3 hg3
  rw [List.mem_singleton.mp hd] at hg4 ⊢
  have hs4 : sw4 = [] := hg4.2.1
  subst hs4
  have hW4 := hg4.2.2.2.2.2.2.2.1
  have hF4 := hg4.2.2.2.2.2.2.2.2
  have hp4 := hg4.2.2.2.2.2.2.1
  obtain ⟨fs', n1, n2, f', g', hn', ew4, j3, j5, j6, jn⟩ := wt5 hW4
  have c3 : cget ws4 3 0 = cget w3 3 0 := hF4.2 3 0 (by decide)
  have c4 : cget ws4 4 0 = cget w3 4 0 := hF4.2 4 0 (by decide)
  have ef : f' = ng f hn.toInt := by
    rw [ew4, e3] at c3
    exact arrinj c3
  have eg : g' = ng g hn.toInt := by
    rw [ew4, e3] at c4
    exact arrinj c4
  have eh : hn' = hn := by
    have c5 : fget ws4 0 3 = fget w3 0 3 := fget_eq (hF4.2 0 3 (by decide))
    rw [ew4, e3] at c5
    have c6 : fs'[3]? = fs[3]? := c5
    rw [j3, k3] at c6
    exact Value.int.inj (Option.some.inj c6)
  subst ef
  subst eg
  subst eh
  have el4 : lw4 = [(0, ν4 0), (3, ν4 500)] := hg4.1
  have n04 : ν4 0 = .ref (ad 0) := hg4.2.2.ref (i := 0) rfl
  obtain ⟨y0, y1, y2, y3⟩ := hg4.2.2.rng (i := 500) (a := 0) (b := 0) (by decide)
  have i0 : y0 = 0 := Int32.toInt_inj.mp (by have q : (0 : Int32).toInt = 0 := (by decide); omega)
  subst i0
  refine Z.mono (lw' := [(3, .int 0), (0, .ref (ad 0))]) (fun q hq => by
    rw [el4, n04, y1]
    simp only [List.mem_cons, List.not_mem_nil, or_false] at hq ⊢
    rcases hq with h | h <;> simp [h]) ?_
  rw [ew4]
  refine off_l2 X j3 j5 j6 jn (ng f hn'.toInt) (ng g hn'.toInt) ?_ _ 0 _ _ ⟨by decide, by have q : (0 : Int32).toInt = 0 := (by decide); omega⟩ (Nat.lt_succ_self _) (ng_0 _).symm (ng_0 _).symm
  have hW5 := wt34 f g hW4 ew4
  rw [ng_ng, ng_ng]
  obtain ⟨w5, e5⟩ : ∃ w5, w5 = [(ad 0, ob 11 fs'), n1, n2, (ad 3, aI G 16 f), (ad 4, aI G 16 g)] ++ ws4.drop 5 := ⟨_, rfl⟩
  rw [← e5] at hW5 ⊢
  have hF5 : FRM C_offq.2.2.2.2.1 w0 w5 := by
    refine ⟨?_, fun k j hk => ?_⟩
    · have l4 : ws4.length = w5.length := by rw [e5, ew4]; rfl
      have l3 : ws2.length = w3.length := by rw [e3, ew]; rfl
      rw [← l4, hF4.1, ← l3, hF2.1]
    · by_cases a3 : k = 3
      · subst a3
        have b2 := hF2.2 3 j hk
        rw [← b2, e5, ew]
        rfl
      by_cases a4 : k = 4
      · subst a4
        have b2 := hF2.2 4 j hk
        rw [← b2, e5, ew]
        rfl
      · have b2 := hF2.2 k j hk
        have b4 : cget ws4 k j = cget w3 k j := hF4.2 k j hk
        rw [← b2]
        have b5 : cget w5 k j = cget ws4 k j := by rw [e5, ew4]; exact cget34 ⟨a3, a4⟩
        have b3 : cget w3 k j = cget ws2 k j := by rw [e3, ew]; exact cget34 ⟨a3, a4⟩
        rw [b5, b4, b3]
  obtain ⟨ν5, hν5⟩ : ∃ ν5 : Nat → Value, ν5 = nup ν4 700 (.int hn') := ⟨_, rfl⟩
  have r0 : ν5 0 = .ref (ad 0) := by rw [hν5]; exact (if_neg (by decide)).trans n04
  have r7 : ν5 700 = .int hn' := by rw [hν5]; exact if_pos rfl
  have hps5 : ∀ q ∈ spin C_offq μ, q.1 < 1000 ∧ ν5 q.1 = q.2 := fun q hq => ⟨(hps q hq).1, by
    have hlt : q.1 ∈ [0, 1, 2] := spin3 q hq
    rw [hν5]
    exact (if_neg (fun z => by rw [z] at hlt; revert hlt; decide)).trans (hp4 q (hsp q hq)).2⟩
  have hg5 : AG G ad TM sC_ofQ.2.2.2.2.1 w5 (spin C_offq μ) of254.2.1 ν5 [(0, ν5 0), (3, ν5 700)] [] w5 := by
    refine ⟨rfl, rfl, fun q hq => ?_, fun q hq => ?_, (fun q hq => by cases hq), (fun q hq => by cases hq), hps5, hW5, rfl, fun _ _ _ => rfl⟩
    · have hq : q ∈ [(0, 0, false), (3, 700, false)] := hq
      simp only [List.mem_cons, List.not_mem_nil, or_false] at hq
      rcases hq with rfl | rfl
      · show (ν5 0).category = _; rw [r0]; rfl
      · show (ν5 700).category = _; rw [r7]; rfl
    · have hq : q ∈ of254.2.1.2.2.1 := hq
      unfold of254 at hq
      simp only [List.mem_cons, List.not_mem_nil, or_false] at hq
      rcases hq with rfl | rfl
      · show vty ad (2, 0, 0) (ν5 0); rw [r0]; exact Or.inr (Or.inr (Or.inl ⟨rfl, rfl⟩))
      · show vty ad (0, 0, 16) (ν5 700); rw [r7]; exact vty_i jn.1 jn.2
  refine Z.mono (lw' := [(0, ν5 0), (3, ν5 700)]) (fun q hq => by
    rw [r0, r7] at hq
    simp only [List.mem_cons, List.not_mem_nil, or_false] at hq ⊢
    rcases hq with h | h <;> simp [h]) ?_
  exact aseg (C := sC_ofQ) (PO := fun r w1 => POST G ad TM C_offq μ w0 r w1) (fld := fld_11) (put := put_11) (cst := cst_11) (cstl := cstl_11) (hk := hk0) (tab := D_X11_off) (rk := 2) (pids := [0, 1, 2, 700]) D_X11_off_ok X rfl rfl hok0 (Or.inr (Or.inr (Or.inl ⟨rfl, rfl⟩))) (Nat.le_refl 0) (Nat.le_refl 0) (spin1 (C := C_offq)) (spin2 (C := C_offq)) (fun r w1 h => POST.mono (C := sC_ofQ) (C' := C_offq) h rfl hF5 (by decide)) fld_11_ok put_11_ok cst_11_ok cstl_11_ok (sl_ofQ_ok l G) (Nat.le_refl 0) (Nat.le_refl 0) (fun q hq => by
    have h1 : q.1 ∈ [0, 1, 2] := spin3 q hq
    have hsub : ∀ z ∈ [0, 1, 2], z ∈ [0, 1, 2, 700] := by decide
    exact hsub _ h1) sg_ofQ (fun d hd => absurd hd List.not_mem_nil) ν5 _ [] w5 hg5
end
