theorem d_X8_init_1 : decode cX8_init 1 = .ok (.invokespecial 3, 3) := by decide +kernel
theorem d_X8_init_7 : decode cX8_init 7 = .ok (.newarray .long, 2) := by decide +kernel
theorem d_X8_init_9 : decode cX8_init 9 = .ok (.putfield 9, 3) := by decide +kernel
theorem d_X8_init_12 : decode cX8_init 12 = .ok (.return_, 1) := by decide +kernel
abbrev bb_X8_init_0_1 : ZB := [(.aload_n 0, .null)]
theorem bk_X8_init_0_1 : zchk cX8_init bb_X8_init_0_1 0 = true ∧ zpc bb_X8_init_0_1 0 = 1 := ⟨by decide +kernel, rfl⟩
abbrev bb_X8_init_4_7 : ZB := [(.aload_n 0, .null), (.bipush 16, .int 16)]
theorem bk_X8_init_4_7 : zchk cX8_init bb_X8_init_4_7 4 = true ∧ zpc bb_X8_init_4_7 4 = 7 := ⟨by decide +kernel, rfl⟩
set_option maxHeartbeats 4000000 in
set_option maxRecDepth 100000 in
theorem c_X8_init (l : Launch) (G : KG) (told : Nat) : Ct l G yX8_init cX8_init 1 none { frames := 1, cells := 1, slots := 16, locals := 20 } [.ref told] [(told, ob 8 [.null, .int 0])] (fun r w1 => ∃ (tn : Nat), r = none ∧ w1 = [(told, ob 8 [.ref tn, .int 0]), (tn, aJ G 16 (fun _ => 0))]) := by
  refine ct_of [(0, .ref told)] (by decide) (Nat.le_of_ble_eq_true rfl) rfl ?_
  intro p0 e0 s0 m0 args0 below0 meth0 c0 A X
  refine z_run X bb_X8_init_0_1 bk_X8_init_0_1 (lv' := [(0, .ref told)]) (st' := [.ref told]) rfl ?_
  refine z_objInit X oi_8 oi_m oi_c d_X8_init_1 ⟨Nat.le_of_ble_eq_true rfl, Nat.le_of_ble_eq_true rfl⟩ (Nat.le_of_ble_eq_true rfl) ?_
  refine z_run X bb_X8_init_4_7 bk_X8_init_4_7 (lv' := [(0, .ref told)]) (st' := [.int 16, .ref told]) rfl ?_
  refine z_newa X (atype := .long) (ty := .long) ac_1 rfl (Or.inr (Or.inl rfl)) 1 (n := 16) (N' := 16) (a0 := (16, .inr (.inl (fun _ => 0)))) rfl (fun _ => rfl) (by decide) rfl (Nat.le_of_ble_eq_true rfl) (Nat.le_of_ble_eq_true rfl) (Nat.le_of_ble_eq_true rfl) d_X8_init_7 (fun tn => ?_)
  refine Z.at (pc' := 9) (st' := [.ref tn, .ref told]) (ws' := [(told, ob 8 [.null, .int 0]), (tn, aJ G 16 (fun _ => 0))]) (kc' := 1) (ks' := 16) rfl rfl rfl rfl rfl ?_
  refine z_put X fl_8_9 d_X8_init_9 0 rfl (ty := (.array .long)) (T := TX8) (N := 2) rfl (Or.inr ⟨rfl, rfl, rfl⟩) (by decide +kernel) rfl (by rfl) (Nat.le_of_ble_eq_true rfl) (ws' := [(told, ob 8 [.ref tn, .int 0]), (tn, aJ G 16 (fun _ => 0))]) rfl ?_
  exact z_vret X rfl d_X8_init_12 (Nat.le_of_ble_eq_true rfl) (Nat.le_of_ble_eq_true rfl) ⟨tn, rfl, rfl⟩

theorem d_X4_init_1 : decode cX4_init 1 = .ok (.invokespecial 3, 3) := by decide +kernel
theorem d_X4_init_7 : decode cX4_init 7 = .ok (.newarray .int, 2) := by decide +kernel
theorem d_X4_init_9 : decode cX4_init 9 = .ok (.putfield 9, 3) := by decide +kernel
theorem d_X4_init_12 : decode cX4_init 12 = .ok (.return_, 1) := by decide +kernel
abbrev bb_X4_init_0_1 : ZB := [(.aload_n 0, .null)]
theorem bk_X4_init_0_1 : zchk cX4_init bb_X4_init_0_1 0 = true ∧ zpc bb_X4_init_0_1 0 = 1 := ⟨by decide +kernel, rfl⟩
abbrev bb_X4_init_4_7 : ZB := [(.aload_n 0, .null), (.bipush 80, .int 80)]
theorem bk_X4_init_4_7 : zchk cX4_init bb_X4_init_4_7 4 = true ∧ zpc bb_X4_init_4_7 4 = 7 := ⟨by decide +kernel, rfl⟩
set_option maxHeartbeats 4000000 in
set_option maxRecDepth 100000 in
theorem c_X4_init (l : Launch) (G : KG) (reader : Nat) : Ct l G yX4_init cX4_init 1 none { frames := 1, cells := 1, slots := 80, locals := 20 } [.ref reader] [(reader, ob 4 [.null, .int 0, .int 0, .int 0, .int 0, .int 0, .int 0, .int 0])] (fun r w1 => ∃ (rs : Nat), r = none ∧ w1 = [(reader, ob 4 [.ref rs, .int 0, .int 0, .int 0, .int 0, .int 0, .int 0, .int 0]), (rs, aI G 80 (fun _ => 0))]) := by
  refine ct_of [(0, .ref reader)] (by decide) (Nat.le_of_ble_eq_true rfl) rfl ?_
  intro p0 e0 s0 m0 args0 below0 meth0 c0 A X
  refine z_run X bb_X4_init_0_1 bk_X4_init_0_1 (lv' := [(0, .ref reader)]) (st' := [.ref reader]) rfl ?_
  refine z_objInit X oi_4 oi_m oi_c d_X4_init_1 ⟨Nat.le_of_ble_eq_true rfl, Nat.le_of_ble_eq_true rfl⟩ (Nat.le_of_ble_eq_true rfl) ?_
  refine z_run X bb_X4_init_4_7 bk_X4_init_4_7 (lv' := [(0, .ref reader)]) (st' := [.int 80, .ref reader]) rfl ?_
  refine z_newa X (atype := .int) (ty := .int) ac_0 rfl (Or.inl rfl) 0 (n := 80) (N' := 80) (a0 := (80, .inl (fun _ => 0))) rfl (fun _ => rfl) (by decide) rfl (Nat.le_of_ble_eq_true rfl) (Nat.le_of_ble_eq_true rfl) (Nat.le_of_ble_eq_true rfl) d_X4_init_7 (fun rs => ?_)
  refine Z.at (pc' := 9) (st' := [.ref rs, .ref reader]) (ws' := [(reader, ob 4 [.null, .int 0, .int 0, .int 0, .int 0, .int 0, .int 0, .int 0]), (rs, aI G 80 (fun _ => 0))]) (kc' := 1) (ks' := 80) rfl rfl rfl rfl rfl ?_
  refine z_put X fl_4_9 d_X4_init_9 0 rfl (ty := (.array .int)) (T := TX4) (N := 8) rfl (Or.inr ⟨rfl, rfl, rfl⟩) (by decide +kernel) rfl (by rfl) (Nat.le_of_ble_eq_true rfl) (ws' := [(reader, ob 4 [.ref rs, .int 0, .int 0, .int 0, .int 0, .int 0, .int 0, .int 0]), (rs, aI G 80 (fun _ => 0))]) rfl ?_
  exact z_vret X rfl d_X4_init_12 (Nat.le_of_ble_eq_true rfl) (Nat.le_of_ble_eq_true rfl) ⟨rs, rfl, rfl⟩

theorem d_X5_init_1 : decode cX5_init 1 = .ok (.invokespecial 3, 3) := by decide +kernel
theorem d_X5_init_7 : decode cX5_init 7 = .ok (.newarray .int, 2) := by decide +kernel
theorem d_X5_init_9 : decode cX5_init 9 = .ok (.putfield 9, 3) := by decide +kernel
theorem d_X5_init_15 : decode cX5_init 15 = .ok (.newarray .int, 2) := by decide +kernel
theorem d_X5_init_17 : decode cX5_init 17 = .ok (.putfield 15, 3) := by decide +kernel
theorem d_X5_init_23 : decode cX5_init 23 = .ok (.newarray .int, 2) := by decide +kernel
theorem d_X5_init_25 : decode cX5_init 25 = .ok (.putfield 18, 3) := by decide +kernel
theorem d_X5_init_31 : decode cX5_init 31 = .ok (.newarray .int, 2) := by decide +kernel
theorem d_X5_init_33 : decode cX5_init 33 = .ok (.putfield 21, 3) := by decide +kernel
theorem d_X5_init_39 : decode cX5_init 39 = .ok (.newarray .int, 2) := by decide +kernel
theorem d_X5_init_41 : decode cX5_init 41 = .ok (.putfield 24, 3) := by decide +kernel
theorem d_X5_init_47 : decode cX5_init 47 = .ok (.newarray .int, 2) := by decide +kernel
theorem d_X5_init_49 : decode cX5_init 49 = .ok (.putfield 27, 3) := by decide +kernel
theorem d_X5_init_54 : decode cX5_init 54 = .ok (.putfield 30, 3) := by decide +kernel
theorem d_X5_init_57 : decode cX5_init 57 = .ok (.return_, 1) := by decide +kernel
abbrev bb_X5_init_0_1 : ZB := [(.aload_n 0, .null)]
theorem bk_X5_init_0_1 : zchk cX5_init bb_X5_init_0_1 0 = true ∧ zpc bb_X5_init_0_1 0 = 1 := ⟨by decide +kernel, rfl⟩
abbrev bb_X5_init_4_7 : ZB := [(.aload_n 0, .null), (.bipush 16, .int 16)]
theorem bk_X5_init_4_7 : zchk cX5_init bb_X5_init_4_7 4 = true ∧ zpc bb_X5_init_4_7 4 = 7 := ⟨by decide +kernel, rfl⟩
abbrev bb_X5_init_12_15 : ZB := [(.aload_n 0, .null), (.bipush 16, .int 16)]
theorem bk_X5_init_12_15 : zchk cX5_init bb_X5_init_12_15 12 = true ∧ zpc bb_X5_init_12_15 12 = 15 := ⟨by decide +kernel, rfl⟩
abbrev bb_X5_init_20_23 : ZB := [(.aload_n 0, .null), (.bipush 16, .int 16)]
theorem bk_X5_init_20_23 : zchk cX5_init bb_X5_init_20_23 20 = true ∧ zpc bb_X5_init_20_23 20 = 23 := ⟨by decide +kernel, rfl⟩
abbrev bb_X5_init_28_31 : ZB := [(.aload_n 0, .null), (.bipush 16, .int 16)]
theorem bk_X5_init_28_31 : zchk cX5_init bb_X5_init_28_31 28 = true ∧ zpc bb_X5_init_28_31 28 = 31 := ⟨by decide +kernel, rfl⟩
abbrev bb_X5_init_36_39 : ZB := [(.aload_n 0, .null), (.bipush 16, .int 16)]
theorem bk_X5_init_36_39 : zchk cX5_init bb_X5_init_36_39 36 = true ∧ zpc bb_X5_init_36_39 36 = 39 := ⟨by decide +kernel, rfl⟩
abbrev bb_X5_init_44_47 : ZB := [(.aload_n 0, .null), (.bipush 16, .int 16)]
theorem bk_X5_init_44_47 : zchk cX5_init bb_X5_init_44_47 44 = true ∧ zpc bb_X5_init_44_47 44 = 47 := ⟨by decide +kernel, rfl⟩
abbrev bb_X5_init_52_54 : ZB := [(.aload_n 0, .null), (.iconst (-1), .int (-1))]
theorem bk_X5_init_52_54 : zchk cX5_init bb_X5_init_52_54 52 = true ∧ zpc bb_X5_init_52_54 52 = 54 := ⟨by decide +kernel, rfl⟩
set_option maxHeartbeats 4000000 in
set_option maxRecDepth 100000 in
theorem c_X5_init (l : Launch) (G : KG) (ring : Nat) : Ct l G yX5_init cX5_init 1 none { frames := 1, cells := 6, slots := 96, locals := 20 } [.ref ring] [(ring, ob 5 [.int 0, .null, .null, .null, .null, .null, .null, .int 0, .int 0])] (fun r w1 => ∃ (rp : Nat), ∃ (rx : Nat), ∃ (ry : Nat), ∃ (rr : Nat), ∃ (rh : Nat), ∃ (rd : Nat), r = none ∧ w1 = [(ring, ob 5 [.int 0, .ref rp, .ref rx, .ref ry, .ref rr, .ref rh, .ref rd, .int (-1), .int 0]), (rp, aI G 16 (fun _ => 0)), (rx, aI G 16 (fun _ => 0)), (ry, aI G 16 (fun _ => 0)), (rr, aI G 16 (fun _ => 0)), (rh, aI G 16 (fun _ => 0)), (rd, aI G 16 (fun _ => 0))]) := by
  refine ct_of [(0, .ref ring)] (by decide) (Nat.le_of_ble_eq_true rfl) rfl ?_
  intro p0 e0 s0 m0 args0 below0 meth0 c0 A X
  refine z_run X bb_X5_init_0_1 bk_X5_init_0_1 (lv' := [(0, .ref ring)]) (st' := [.ref ring]) rfl ?_
  refine z_objInit X oi_5 oi_m oi_c d_X5_init_1 ⟨Nat.le_of_ble_eq_true rfl, Nat.le_of_ble_eq_true rfl⟩ (Nat.le_of_ble_eq_true rfl) ?_
  refine z_run X bb_X5_init_4_7 bk_X5_init_4_7 (lv' := [(0, .ref ring)]) (st' := [.int 16, .ref ring]) rfl ?_
  refine z_newa X (atype := .int) (ty := .int) ac_0 rfl (Or.inl rfl) 0 (n := 16) (N' := 16) (a0 := (16, .inl (fun _ => 0))) rfl (fun _ => rfl) (by decide) rfl (Nat.le_of_ble_eq_true rfl) (Nat.le_of_ble_eq_true rfl) (Nat.le_of_ble_eq_true rfl) d_X5_init_7 (fun rp => ?_)
  refine Z.at (pc' := 9) (st' := [.ref rp, .ref ring]) (ws' := [(ring, ob 5 [.int 0, .null, .null, .null, .null, .null, .null, .int 0, .int 0]), (rp, aI G 16 (fun _ => 0))]) (kc' := 1) (ks' := 16) rfl rfl rfl rfl rfl ?_
  refine z_put X fl_5_9 d_X5_init_9 0 rfl (ty := (.array .int)) (T := TX5) (N := 9) rfl (Or.inr ⟨rfl, rfl, rfl⟩) (by decide +kernel) rfl (by rfl) (Nat.le_of_ble_eq_true rfl) (ws' := [(ring, ob 5 [.int 0, .ref rp, .null, .null, .null, .null, .null, .int 0, .int 0]), (rp, aI G 16 (fun _ => 0))]) rfl ?_
  refine z_run X bb_X5_init_12_15 bk_X5_init_12_15 (lv' := [(0, .ref ring)]) (st' := [.int 16, .ref ring]) rfl ?_
  refine z_newa X (atype := .int) (ty := .int) ac_0 rfl (Or.inl rfl) 0 (n := 16) (N' := 16) (a0 := (16, .inl (fun _ => 0))) rfl (fun _ => rfl) (by decide) rfl (Nat.le_of_ble_eq_true rfl) (Nat.le_of_ble_eq_true rfl) (Nat.le_of_ble_eq_true rfl) d_X5_init_15 (fun rx => ?_)
  refine Z.at (pc' := 17) (st' := [.ref rx, .ref ring]) (ws' := [(ring, ob 5 [.int 0, .ref rp, .null, .null, .null, .null, .null, .int 0, .int 0]), (rp, aI G 16 (fun _ => 0)), (rx, aI G 16 (fun _ => 0))]) (kc' := 2) (ks' := 32) rfl rfl rfl rfl rfl ?_
  refine z_put X fl_5_15 d_X5_init_17 0 rfl (ty := (.array .int)) (T := TX5) (N := 9) rfl (Or.inr ⟨rfl, rfl, rfl⟩) (by decide +kernel) rfl (by rfl) (Nat.le_of_ble_eq_true rfl) (ws' := [(ring, ob 5 [.int 0, .ref rp, .ref rx, .null, .null, .null, .null, .int 0, .int 0]), (rp, aI G 16 (fun _ => 0)), (rx, aI G 16 (fun _ => 0))]) rfl ?_
  refine z_run X bb_X5_init_20_23 bk_X5_init_20_23 (lv' := [(0, .ref ring)]) (st' := [.int 16, .ref ring]) rfl ?_
  refine z_newa X (atype := .int) (ty := .int) ac_0 rfl (Or.inl rfl) 0 (n := 16) (N' := 16) (a0 := (16, .inl (fun _ => 0))) rfl (fun _ => rfl) (by decide) rfl (Nat.le_of_ble_eq_true rfl) (Nat.le_of_ble_eq_true rfl) (Nat.le_of_ble_eq_true rfl) d_X5_init_23 (fun ry => ?_)
  refine Z.at (pc' := 25) (st' := [.ref ry, .ref ring]) (ws' := [(ring, ob 5 [.int 0, .ref rp, .ref rx, .null, .null, .null, .null, .int 0, .int 0]), (rp, aI G 16 (fun _ => 0)), (rx, aI G 16 (fun _ => 0)), (ry, aI G 16 (fun _ => 0))]) (kc' := 3) (ks' := 48) rfl rfl rfl rfl rfl ?_
  refine z_put X fl_5_18 d_X5_init_25 0 rfl (ty := (.array .int)) (T := TX5) (N := 9) rfl (Or.inr ⟨rfl, rfl, rfl⟩) (by decide +kernel) rfl (by rfl) (Nat.le_of_ble_eq_true rfl) (ws' := [(ring, ob 5 [.int 0, .ref rp, .ref rx, .ref ry, .null, .null, .null, .int 0, .int 0]), (rp, aI G 16 (fun _ => 0)), (rx, aI G 16 (fun _ => 0)), (ry, aI G 16 (fun _ => 0))]) rfl ?_
  refine z_run X bb_X5_init_28_31 bk_X5_init_28_31 (lv' := [(0, .ref ring)]) (st' := [.int 16, .ref ring]) rfl ?_
  refine z_newa X (atype := .int) (ty := .int) ac_0 rfl (Or.inl rfl) 0 (n := 16) (N' := 16) (a0 := (16, .inl (fun _ => 0))) rfl (fun _ => rfl) (by decide) rfl (Nat.le_of_ble_eq_true rfl) (Nat.le_of_ble_eq_true rfl) (Nat.le_of_ble_eq_true rfl) d_X5_init_31 (fun rr => ?_)
  refine Z.at (pc' := 33) (st' := [.ref rr, .ref ring]) (ws' := [(ring, ob 5 [.int 0, .ref rp, .ref rx, .ref ry, .null, .null, .null, .int 0, .int 0]), (rp, aI G 16 (fun _ => 0)), (rx, aI G 16 (fun _ => 0)), (ry, aI G 16 (fun _ => 0)), (rr, aI G 16 (fun _ => 0))]) (kc' := 4) (ks' := 64) rfl rfl rfl rfl rfl ?_
  refine z_put X fl_5_21 d_X5_init_33 0 rfl (ty := (.array .int)) (T := TX5) (N := 9) rfl (Or.inr ⟨rfl, rfl, rfl⟩) (by decide +kernel) rfl (by rfl) (Nat.le_of_ble_eq_true rfl) (ws' := [(ring, ob 5 [.int 0, .ref rp, .ref rx, .ref ry, .ref rr, .null, .null, .int 0, .int 0]), (rp, aI G 16 (fun _ => 0)), (rx, aI G 16 (fun _ => 0)), (ry, aI G 16 (fun _ => 0)), (rr, aI G 16 (fun _ => 0))]) rfl ?_
  refine z_run X bb_X5_init_36_39 bk_X5_init_36_39 (lv' := [(0, .ref ring)]) (st' := [.int 16, .ref ring]) rfl ?_
  refine z_newa X (atype := .int) (ty := .int) ac_0 rfl (Or.inl rfl) 0 (n := 16) (N' := 16) (a0 := (16, .inl (fun _ => 0))) rfl (fun _ => rfl) (by decide) rfl (Nat.le_of_ble_eq_true rfl) (Nat.le_of_ble_eq_true rfl) (Nat.le_of_ble_eq_true rfl) d_X5_init_39 (fun rh => ?_)
  refine Z.at (pc' := 41) (st' := [.ref rh, .ref ring]) (ws' := [(ring, ob 5 [.int 0, .ref rp, .ref rx, .ref ry, .ref rr, .null, .null, .int 0, .int 0]), (rp, aI G 16 (fun _ => 0)), (rx, aI G 16 (fun _ => 0)), (ry, aI G 16 (fun _ => 0)), (rr, aI G 16 (fun _ => 0)), (rh, aI G 16 (fun _ => 0))]) (kc' := 5) (ks' := 80) rfl rfl rfl rfl rfl ?_
  refine z_put X fl_5_24 d_X5_init_41 0 rfl (ty := (.array .int)) (T := TX5) (N := 9) rfl (Or.inr ⟨rfl, rfl, rfl⟩) (by decide +kernel) rfl (by rfl) (Nat.le_of_ble_eq_true rfl) (ws' := [(ring, ob 5 [.int 0, .ref rp, .ref rx, .ref ry, .ref rr, .ref rh, .null, .int 0, .int 0]), (rp, aI G 16 (fun _ => 0)), (rx, aI G 16 (fun _ => 0)), (ry, aI G 16 (fun _ => 0)), (rr, aI G 16 (fun _ => 0)), (rh, aI G 16 (fun _ => 0))]) rfl ?_
  refine z_run X bb_X5_init_44_47 bk_X5_init_44_47 (lv' := [(0, .ref ring)]) (st' := [.int 16, .ref ring]) rfl ?_
  refine z_newa X (atype := .int) (ty := .int) ac_0 rfl (Or.inl rfl) 0 (n := 16) (N' := 16) (a0 := (16, .inl (fun _ => 0))) rfl (fun _ => rfl) (by decide) rfl (Nat.le_of_ble_eq_true rfl) (Nat.le_of_ble_eq_true rfl) (Nat.le_of_ble_eq_true rfl) d_X5_init_47 (fun rd => ?_)
  refine Z.at (pc' := 49) (st' := [.ref rd, .ref ring]) (ws' := [(ring, ob 5 [.int 0, .ref rp, .ref rx, .ref ry, .ref rr, .ref rh, .null, .int 0, .int 0]), (rp, aI G 16 (fun _ => 0)), (rx, aI G 16 (fun _ => 0)), (ry, aI G 16 (fun _ => 0)), (rr, aI G 16 (fun _ => 0)), (rh, aI G 16 (fun _ => 0)), (rd, aI G 16 (fun _ => 0))]) (kc' := 6) (ks' := 96) rfl rfl rfl rfl rfl ?_
  refine z_put X fl_5_27 d_X5_init_49 0 rfl (ty := (.array .int)) (T := TX5) (N := 9) rfl (Or.inr ⟨rfl, rfl, rfl⟩) (by decide +kernel) rfl (by rfl) (Nat.le_of_ble_eq_true rfl) (ws' := [(ring, ob 5 [.int 0, .ref rp, .ref rx, .ref ry, .ref rr, .ref rh, .ref rd, .int 0, .int 0]), (rp, aI G 16 (fun _ => 0)), (rx, aI G 16 (fun _ => 0)), (ry, aI G 16 (fun _ => 0)), (rr, aI G 16 (fun _ => 0)), (rh, aI G 16 (fun _ => 0)), (rd, aI G 16 (fun _ => 0))]) rfl ?_
  refine z_run X bb_X5_init_52_54 bk_X5_init_52_54 (lv' := [(0, .ref ring)]) (st' := [.int (-1), .ref ring]) rfl ?_
  refine z_put X fl_5_30 d_X5_init_54 0 rfl (ty := .int) (T := TX5) (N := 9) rfl (Or.inl rfl) (by decide +kernel) rfl (by rfl) (Nat.le_of_ble_eq_true rfl) (ws' := [(ring, ob 5 [.int 0, .ref rp, .ref rx, .ref ry, .ref rr, .ref rh, .ref rd, .int (-1), .int 0]), (rp, aI G 16 (fun _ => 0)), (rx, aI G 16 (fun _ => 0)), (ry, aI G 16 (fun _ => 0)), (rr, aI G 16 (fun _ => 0)), (rh, aI G 16 (fun _ => 0)), (rd, aI G 16 (fun _ => 0))]) rfl ?_
  exact z_vret X rfl d_X5_init_57 (Nat.le_of_ble_eq_true rfl) (Nat.le_of_ble_eq_true rfl) ⟨rp, rx, ry, rr, rh, rd, rfl, rfl⟩

theorem d_X7_init_1 : decode cX7_init 1 = .ok (.invokespecial 3, 3) := by decide +kernel
theorem d_X7_init_7 : decode cX7_init 7 = .ok (.newarray .int, 2) := by decide +kernel
theorem d_X7_init_9 : decode cX7_init 9 = .ok (.putfield 9, 3) := by decide +kernel
theorem d_X7_init_15 : decode cX7_init 15 = .ok (.newarray .int, 2) := by decide +kernel
theorem d_X7_init_17 : decode cX7_init 17 = .ok (.putfield 15, 3) := by decide +kernel
theorem d_X7_init_23 : decode cX7_init 23 = .ok (.newarray .boolean, 2) := by decide +kernel
theorem d_X7_init_25 : decode cX7_init 25 = .ok (.putfield 18, 3) := by decide +kernel
theorem d_X7_init_31 : decode cX7_init 31 = .ok (.newarray .int, 2) := by decide +kernel
theorem d_X7_init_33 : decode cX7_init 33 = .ok (.putfield 22, 3) := by decide +kernel
theorem d_X7_init_39 : decode cX7_init 39 = .ok (.newarray .int, 2) := by decide +kernel
theorem d_X7_init_41 : decode cX7_init 41 = .ok (.putfield 25, 3) := by decide +kernel
theorem d_X7_init_44 : decode cX7_init 44 = .ok (.return_, 1) := by decide +kernel
abbrev bb_X7_init_0_1 : ZB := [(.aload_n 0, .null)]
theorem bk_X7_init_0_1 : zchk cX7_init bb_X7_init_0_1 0 = true ∧ zpc bb_X7_init_0_1 0 = 1 := ⟨by decide +kernel, rfl⟩
abbrev bb_X7_init_4_7 : ZB := [(.aload_n 0, .null), (.bipush 6, .int 6)]
theorem bk_X7_init_4_7 : zchk cX7_init bb_X7_init_4_7 4 = true ∧ zpc bb_X7_init_4_7 4 = 7 := ⟨by decide +kernel, rfl⟩
abbrev bb_X7_init_12_15 : ZB := [(.aload_n 0, .null), (.bipush 6, .int 6)]
theorem bk_X7_init_12_15 : zchk cX7_init bb_X7_init_12_15 12 = true ∧ zpc bb_X7_init_12_15 12 = 15 := ⟨by decide +kernel, rfl⟩
abbrev bb_X7_init_20_23 : ZB := [(.aload_n 0, .null), (.bipush 6, .int 6)]
theorem bk_X7_init_20_23 : zchk cX7_init bb_X7_init_20_23 20 = true ∧ zpc bb_X7_init_20_23 20 = 23 := ⟨by decide +kernel, rfl⟩
abbrev bb_X7_init_28_31 : ZB := [(.aload_n 0, .null), (.bipush 6, .int 6)]
theorem bk_X7_init_28_31 : zchk cX7_init bb_X7_init_28_31 28 = true ∧ zpc bb_X7_init_28_31 28 = 31 := ⟨by decide +kernel, rfl⟩
abbrev bb_X7_init_36_39 : ZB := [(.aload_n 0, .null), (.bipush 6, .int 6)]
theorem bk_X7_init_36_39 : zchk cX7_init bb_X7_init_36_39 36 = true ∧ zpc bb_X7_init_36_39 36 = 39 := ⟨by decide +kernel, rfl⟩
set_option maxHeartbeats 4000000 in
set_option maxRecDepth 100000 in
theorem c_X7_init (l : Launch) (G : KG) (speeds : Nat) : Ct l G yX7_init cX7_init 1 none { frames := 1, cells := 5, slots := 30, locals := 20 } [.ref speeds] [(speeds, ob 7 [.int 0, .null, .null, .null, .null, .null])] (fun r w1 => ∃ (sf : Nat), ∃ (so : Nat), ∃ (sa : Nat), ∃ (sx : Nat), ∃ (sy : Nat), r = none ∧ w1 = [(speeds, ob 7 [.int 0, .ref sf, .ref so, .ref sa, .ref sx, .ref sy]), (sf, aI G 6 (fun _ => 0)), (so, aI G 6 (fun _ => 0)), (sa, aZ G 6 (fun _ => 0)), (sx, aI G 6 (fun _ => 0)), (sy, aI G 6 (fun _ => 0))]) := by
  refine ct_of [(0, .ref speeds)] (by decide) (Nat.le_of_ble_eq_true rfl) rfl ?_
  intro p0 e0 s0 m0 args0 below0 meth0 c0 A X
  refine z_run X bb_X7_init_0_1 bk_X7_init_0_1 (lv' := [(0, .ref speeds)]) (st' := [.ref speeds]) rfl ?_
  refine z_objInit X oi_7 oi_m oi_c d_X7_init_1 ⟨Nat.le_of_ble_eq_true rfl, Nat.le_of_ble_eq_true rfl⟩ (Nat.le_of_ble_eq_true rfl) ?_
  refine z_run X bb_X7_init_4_7 bk_X7_init_4_7 (lv' := [(0, .ref speeds)]) (st' := [.int 6, .ref speeds]) rfl ?_
  refine z_newa X (atype := .int) (ty := .int) ac_0 rfl (Or.inl rfl) 0 (n := 6) (N' := 6) (a0 := (6, .inl (fun _ => 0))) rfl (fun _ => rfl) (by decide) rfl (Nat.le_of_ble_eq_true rfl) (Nat.le_of_ble_eq_true rfl) (Nat.le_of_ble_eq_true rfl) d_X7_init_7 (fun sf => ?_)
  refine Z.at (pc' := 9) (st' := [.ref sf, .ref speeds]) (ws' := [(speeds, ob 7 [.int 0, .null, .null, .null, .null, .null]), (sf, aI G 6 (fun _ => 0))]) (kc' := 1) (ks' := 6) rfl rfl rfl rfl rfl ?_
  refine z_put X fl_7_9 d_X7_init_9 0 rfl (ty := (.array .int)) (T := TX7) (N := 6) rfl (Or.inr ⟨rfl, rfl, rfl⟩) (by decide +kernel) rfl (by rfl) (Nat.le_of_ble_eq_true rfl) (ws' := [(speeds, ob 7 [.int 0, .ref sf, .null, .null, .null, .null]), (sf, aI G 6 (fun _ => 0))]) rfl ?_
  refine z_run X bb_X7_init_12_15 bk_X7_init_12_15 (lv' := [(0, .ref speeds)]) (st' := [.int 6, .ref speeds]) rfl ?_
  refine z_newa X (atype := .int) (ty := .int) ac_0 rfl (Or.inl rfl) 0 (n := 6) (N' := 6) (a0 := (6, .inl (fun _ => 0))) rfl (fun _ => rfl) (by decide) rfl (Nat.le_of_ble_eq_true rfl) (Nat.le_of_ble_eq_true rfl) (Nat.le_of_ble_eq_true rfl) d_X7_init_15 (fun so => ?_)
  refine Z.at (pc' := 17) (st' := [.ref so, .ref speeds]) (ws' := [(speeds, ob 7 [.int 0, .ref sf, .null, .null, .null, .null]), (sf, aI G 6 (fun _ => 0)), (so, aI G 6 (fun _ => 0))]) (kc' := 2) (ks' := 12) rfl rfl rfl rfl rfl ?_
  refine z_put X fl_7_15 d_X7_init_17 0 rfl (ty := (.array .int)) (T := TX7) (N := 6) rfl (Or.inr ⟨rfl, rfl, rfl⟩) (by decide +kernel) rfl (by rfl) (Nat.le_of_ble_eq_true rfl) (ws' := [(speeds, ob 7 [.int 0, .ref sf, .ref so, .null, .null, .null]), (sf, aI G 6 (fun _ => 0)), (so, aI G 6 (fun _ => 0))]) rfl ?_
  refine z_run X bb_X7_init_20_23 bk_X7_init_20_23 (lv' := [(0, .ref speeds)]) (st' := [.int 6, .ref speeds]) rfl ?_
  refine z_newa X (atype := .boolean) (ty := .boolean) ac_2 rfl (Or.inr (Or.inr rfl)) 2 (n := 6) (N' := 6) (a0 := (6, .inl (fun _ => 0))) rfl (fun _ => rfl) (by decide) rfl (Nat.le_of_ble_eq_true rfl) (Nat.le_of_ble_eq_true rfl) (Nat.le_of_ble_eq_true rfl) d_X7_init_23 (fun sa => ?_)
  refine Z.at (pc' := 25) (st' := [.ref sa, .ref speeds]) (ws' := [(speeds, ob 7 [.int 0, .ref sf, .ref so, .null, .null, .null]), (sf, aI G 6 (fun _ => 0)), (so, aI G 6 (fun _ => 0)), (sa, aZ G 6 (fun _ => 0))]) (kc' := 3) (ks' := 18) rfl rfl rfl rfl rfl ?_
  refine z_put X fl_7_18 d_X7_init_25 0 rfl (ty := (.array .boolean)) (T := TX7) (N := 6) rfl (Or.inr ⟨rfl, rfl, rfl⟩) (by decide +kernel) rfl (by rfl) (Nat.le_of_ble_eq_true rfl) (ws' := [(speeds, ob 7 [.int 0, .ref sf, .ref so, .ref sa, .null, .null]), (sf, aI G 6 (fun _ => 0)), (so, aI G 6 (fun _ => 0)), (sa, aZ G 6 (fun _ => 0))]) rfl ?_
  refine z_run X bb_X7_init_28_31 bk_X7_init_28_31 (lv' := [(0, .ref speeds)]) (st' := [.int 6, .ref speeds]) rfl ?_
  refine z_newa X (atype := .int) (ty := .int) ac_0 rfl (Or.inl rfl) 0 (n := 6) (N' := 6) (a0 := (6, .inl (fun _ => 0))) rfl (fun _ => rfl) (by decide) rfl (Nat.le_of_ble_eq_true rfl) (Nat.le_of_ble_eq_true rfl) (Nat.le_of_ble_eq_true rfl) d_X7_init_31 (fun sx => ?_)
  refine Z.at (pc' := 33) (st' := [.ref sx, .ref speeds]) (ws' := [(speeds, ob 7 [.int 0, .ref sf, .ref so, .ref sa, .null, .null]), (sf, aI G 6 (fun _ => 0)), (so, aI G 6 (fun _ => 0)), (sa, aZ G 6 (fun _ => 0)), (sx, aI G 6 (fun _ => 0))]) (kc' := 4) (ks' := 24) rfl rfl rfl rfl rfl ?_
  refine z_put X fl_7_22 d_X7_init_33 0 rfl (ty := (.array .int)) (T := TX7) (N := 6) rfl (Or.inr ⟨rfl, rfl, rfl⟩) (by decide +kernel) rfl (by rfl) (Nat.le_of_ble_eq_true rfl) (ws' := [(speeds, ob 7 [.int 0, .ref sf, .ref so, .ref sa, .ref sx, .null]), (sf, aI G 6 (fun _ => 0)), (so, aI G 6 (fun _ => 0)), (sa, aZ G 6 (fun _ => 0)), (sx, aI G 6 (fun _ => 0))]) rfl ?_
  refine z_run X bb_X7_init_36_39 bk_X7_init_36_39 (lv' := [(0, .ref speeds)]) (st' := [.int 6, .ref speeds]) rfl ?_
  refine z_newa X (atype := .int) (ty := .int) ac_0 rfl (Or.inl rfl) 0 (n := 6) (N' := 6) (a0 := (6, .inl (fun _ => 0))) rfl (fun _ => rfl) (by decide) rfl (Nat.le_of_ble_eq_true rfl) (Nat.le_of_ble_eq_true rfl) (Nat.le_of_ble_eq_true rfl) d_X7_init_39 (fun sy => ?_)
  refine Z.at (pc' := 41) (st' := [.ref sy, .ref speeds]) (ws' := [(speeds, ob 7 [.int 0, .ref sf, .ref so, .ref sa, .ref sx, .null]), (sf, aI G 6 (fun _ => 0)), (so, aI G 6 (fun _ => 0)), (sa, aZ G 6 (fun _ => 0)), (sx, aI G 6 (fun _ => 0)), (sy, aI G 6 (fun _ => 0))]) (kc' := 5) (ks' := 30) rfl rfl rfl rfl rfl ?_
  refine z_put X fl_7_25 d_X7_init_41 0 rfl (ty := (.array .int)) (T := TX7) (N := 6) rfl (Or.inr ⟨rfl, rfl, rfl⟩) (by decide +kernel) rfl (by rfl) (Nat.le_of_ble_eq_true rfl) (ws' := [(speeds, ob 7 [.int 0, .ref sf, .ref so, .ref sa, .ref sx, .ref sy]), (sf, aI G 6 (fun _ => 0)), (so, aI G 6 (fun _ => 0)), (sa, aZ G 6 (fun _ => 0)), (sx, aI G 6 (fun _ => 0)), (sy, aI G 6 (fun _ => 0))]) rfl ?_
  exact z_vret X rfl d_X7_init_44 (Nat.le_of_ble_eq_true rfl) (Nat.le_of_ble_eq_true rfl) ⟨sf, so, sa, sx, sy, rfl, rfl⟩

theorem d_X0_init_1 : decode cX0_init 1 = .ok (.invokespecial 3, 3) := by decide +kernel
theorem d_X0_init_7 : decode cX0_init 7 = .ok (.newarray .int, 2) := by decide +kernel
theorem d_X0_init_9 : decode cX0_init 9 = .ok (.putfield 9, 3) := by decide +kernel
theorem d_X0_init_15 : decode cX0_init 15 = .ok (.newarray .int, 2) := by decide +kernel
theorem d_X0_init_17 : decode cX0_init 17 = .ok (.putfield 15, 3) := by decide +kernel
theorem d_X0_init_23 : decode cX0_init 23 = .ok (.newarray .int, 2) := by decide +kernel
theorem d_X0_init_25 : decode cX0_init 25 = .ok (.putfield 18, 3) := by decide +kernel
theorem d_X0_init_28 : decode cX0_init 28 = .ok (.return_, 1) := by decide +kernel
abbrev bb_X0_init_0_1 : ZB := [(.aload_n 0, .null)]
theorem bk_X0_init_0_1 : zchk cX0_init bb_X0_init_0_1 0 = true ∧ zpc bb_X0_init_0_1 0 = 1 := ⟨by decide +kernel, rfl⟩
abbrev bb_X0_init_4_7 : ZB := [(.aload_n 0, .null), (.bipush 8, .int 8)]
theorem bk_X0_init_4_7 : zchk cX0_init bb_X0_init_4_7 4 = true ∧ zpc bb_X0_init_4_7 4 = 7 := ⟨by decide +kernel, rfl⟩
abbrev bb_X0_init_12_15 : ZB := [(.aload_n 0, .null), (.bipush 8, .int 8)]
theorem bk_X0_init_12_15 : zchk cX0_init bb_X0_init_12_15 12 = true ∧ zpc bb_X0_init_12_15 12 = 15 := ⟨by decide +kernel, rfl⟩
abbrev bb_X0_init_20_23 : ZB := [(.aload_n 0, .null), (.bipush 8, .int 8)]
theorem bk_X0_init_20_23 : zchk cX0_init bb_X0_init_20_23 20 = true ∧ zpc bb_X0_init_20_23 20 = 23 := ⟨by decide +kernel, rfl⟩
set_option maxHeartbeats 4000000 in
set_option maxRecDepth 100000 in
theorem c_X0_init (l : Launch) (G : KG) (wheel : Nat) : Ct l G yX0_init cX0_init 1 none { frames := 1, cells := 3, slots := 24, locals := 20 } [.ref wheel] [(wheel, ob 0 [.int 0, .null, .null, .null, .int 0, .int 0, .long 0])] (fun r w1 => ∃ (ww : Nat), ∃ (ws : Nat), ∃ (wb : Nat), r = none ∧ w1 = [(wheel, ob 0 [.int 0, .ref ww, .ref ws, .ref wb, .int 0, .int 0, .long 0]), (ww, aI G 8 (fun _ => 0)), (ws, aI G 8 (fun _ => 0)), (wb, aI G 8 (fun _ => 0))]) := by
  refine ct_of [(0, .ref wheel)] (by decide) (Nat.le_of_ble_eq_true rfl) rfl ?_
  intro p0 e0 s0 m0 args0 below0 meth0 c0 A X
  refine z_run X bb_X0_init_0_1 bk_X0_init_0_1 (lv' := [(0, .ref wheel)]) (st' := [.ref wheel]) rfl ?_
  refine z_objInit X oi_0 oi_m oi_c d_X0_init_1 ⟨Nat.le_of_ble_eq_true rfl, Nat.le_of_ble_eq_true rfl⟩ (Nat.le_of_ble_eq_true rfl) ?_
  refine z_run X bb_X0_init_4_7 bk_X0_init_4_7 (lv' := [(0, .ref wheel)]) (st' := [.int 8, .ref wheel]) rfl ?_
  refine z_newa X (atype := .int) (ty := .int) ac_0 rfl (Or.inl rfl) 0 (n := 8) (N' := 8) (a0 := (8, .inl (fun _ => 0))) rfl (fun _ => rfl) (by decide) rfl (Nat.le_of_ble_eq_true rfl) (Nat.le_of_ble_eq_true rfl) (Nat.le_of_ble_eq_true rfl) d_X0_init_7 (fun ww => ?_)
  refine Z.at (pc' := 9) (st' := [.ref ww, .ref wheel]) (ws' := [(wheel, ob 0 [.int 0, .null, .null, .null, .int 0, .int 0, .long 0]), (ww, aI G 8 (fun _ => 0))]) (kc' := 1) (ks' := 8) rfl rfl rfl rfl rfl ?_
  refine z_put X fl_0_9 d_X0_init_9 0 rfl (ty := (.array .int)) (T := TX0) (N := 7) rfl (Or.inr ⟨rfl, rfl, rfl⟩) (by decide +kernel) rfl (by rfl) (Nat.le_of_ble_eq_true rfl) (ws' := [(wheel, ob 0 [.int 0, .ref ww, .null, .null, .int 0, .int 0, .long 0]), (ww, aI G 8 (fun _ => 0))]) rfl ?_
  refine z_run X bb_X0_init_12_15 bk_X0_init_12_15 (lv' := [(0, .ref wheel)]) (st' := [.int 8, .ref wheel]) rfl ?_
  refine z_newa X (atype := .int) (ty := .int) ac_0 rfl (Or.inl rfl) 0 (n := 8) (N' := 8) (a0 := (8, .inl (fun _ => 0))) rfl (fun _ => rfl) (by decide) rfl (Nat.le_of_ble_eq_true rfl) (Nat.le_of_ble_eq_true rfl) (Nat.le_of_ble_eq_true rfl) d_X0_init_15 (fun ws => ?_)
  refine Z.at (pc' := 17) (st' := [.ref ws, .ref wheel]) (ws' := [(wheel, ob 0 [.int 0, .ref ww, .null, .null, .int 0, .int 0, .long 0]), (ww, aI G 8 (fun _ => 0)), (ws, aI G 8 (fun _ => 0))]) (kc' := 2) (ks' := 16) rfl rfl rfl rfl rfl ?_
  refine z_put X fl_0_15 d_X0_init_17 0 rfl (ty := (.array .int)) (T := TX0) (N := 7) rfl (Or.inr ⟨rfl, rfl, rfl⟩) (by decide +kernel) rfl (by rfl) (Nat.le_of_ble_eq_true rfl) (ws' := [(wheel, ob 0 [.int 0, .ref ww, .ref ws, .null, .int 0, .int 0, .long 0]), (ww, aI G 8 (fun _ => 0)), (ws, aI G 8 (fun _ => 0))]) rfl ?_
  refine z_run X bb_X0_init_20_23 bk_X0_init_20_23 (lv' := [(0, .ref wheel)]) (st' := [.int 8, .ref wheel]) rfl ?_
  refine z_newa X (atype := .int) (ty := .int) ac_0 rfl (Or.inl rfl) 0 (n := 8) (N' := 8) (a0 := (8, .inl (fun _ => 0))) rfl (fun _ => rfl) (by decide) rfl (Nat.le_of_ble_eq_true rfl) (Nat.le_of_ble_eq_true rfl) (Nat.le_of_ble_eq_true rfl) d_X0_init_23 (fun wb => ?_)
  refine Z.at (pc' := 25) (st' := [.ref wb, .ref wheel]) (ws' := [(wheel, ob 0 [.int 0, .ref ww, .ref ws, .null, .int 0, .int 0, .long 0]), (ww, aI G 8 (fun _ => 0)), (ws, aI G 8 (fun _ => 0)), (wb, aI G 8 (fun _ => 0))]) (kc' := 3) (ks' := 24) rfl rfl rfl rfl rfl ?_
  refine z_put X fl_0_18 d_X0_init_25 0 rfl (ty := (.array .int)) (T := TX0) (N := 7) rfl (Or.inr ⟨rfl, rfl, rfl⟩) (by decide +kernel) rfl (by rfl) (Nat.le_of_ble_eq_true rfl) (ws' := [(wheel, ob 0 [.int 0, .ref ww, .ref ws, .ref wb, .int 0, .int 0, .long 0]), (ww, aI G 8 (fun _ => 0)), (ws, aI G 8 (fun _ => 0)), (wb, aI G 8 (fun _ => 0))]) rfl ?_
  exact z_vret X rfl d_X0_init_28 (Nat.le_of_ble_eq_true rfl) (Nat.le_of_ble_eq_true rfl) ⟨ww, ws, wb, rfl, rfl⟩

theorem d_X9_init_1 : decode cX9_init 1 = .ok (.invokespecial 3, 3) := by decide +kernel
theorem d_X9_init_7 : decode cX9_init 7 = .ok (.newarray .int, 2) := by decide +kernel
theorem d_X9_init_9 : decode cX9_init 9 = .ok (.putfield 9, 3) := by decide +kernel
theorem d_X9_init_15 : decode cX9_init 15 = .ok (.newarray .boolean, 2) := by decide +kernel
theorem d_X9_init_17 : decode cX9_init 17 = .ok (.putfield 15, 3) := by decide +kernel
theorem d_X9_init_23 : decode cX9_init 23 = .ok (.newarray .int, 2) := by decide +kernel
theorem d_X9_init_25 : decode cX9_init 25 = .ok (.putfield 19, 3) := by decide +kernel
theorem d_X9_init_31 : decode cX9_init 31 = .ok (.newarray .int, 2) := by decide +kernel
theorem d_X9_init_33 : decode cX9_init 33 = .ok (.putfield 22, 3) := by decide +kernel
theorem d_X9_init_39 : decode cX9_init 39 = .ok (.newarray .int, 2) := by decide +kernel
theorem d_X9_init_41 : decode cX9_init 41 = .ok (.putfield 25, 3) := by decide +kernel
theorem d_X9_init_47 : decode cX9_init 47 = .ok (.newarray .int, 2) := by decide +kernel
theorem d_X9_init_49 : decode cX9_init 49 = .ok (.putfield 28, 3) := by decide +kernel
theorem d_X9_init_55 : decode cX9_init 55 = .ok (.newarray .int, 2) := by decide +kernel
theorem d_X9_init_57 : decode cX9_init 57 = .ok (.putfield 31, 3) := by decide +kernel
theorem d_X9_init_63 : decode cX9_init 63 = .ok (.newarray .int, 2) := by decide +kernel
theorem d_X9_init_65 : decode cX9_init 65 = .ok (.putfield 34, 3) := by decide +kernel
theorem d_X9_init_71 : decode cX9_init 71 = .ok (.newarray .int, 2) := by decide +kernel
theorem d_X9_init_73 : decode cX9_init 73 = .ok (.putfield 37, 3) := by decide +kernel
theorem d_X9_init_76 : decode cX9_init 76 = .ok (.return_, 1) := by decide +kernel
abbrev bb_X9_init_0_1 : ZB := [(.aload_n 0, .null)]
theorem bk_X9_init_0_1 : zchk cX9_init bb_X9_init_0_1 0 = true ∧ zpc bb_X9_init_0_1 0 = 1 := ⟨by decide +kernel, rfl⟩
abbrev bb_X9_init_4_7 : ZB := [(.aload_n 0, .null), (.bipush 12, .int 12)]
theorem bk_X9_init_4_7 : zchk cX9_init bb_X9_init_4_7 4 = true ∧ zpc bb_X9_init_4_7 4 = 7 := ⟨by decide +kernel, rfl⟩
abbrev bb_X9_init_12_15 : ZB := [(.aload_n 0, .null), (.bipush 12, .int 12)]
theorem bk_X9_init_12_15 : zchk cX9_init bb_X9_init_12_15 12 = true ∧ zpc bb_X9_init_12_15 12 = 15 := ⟨by decide +kernel, rfl⟩
abbrev bb_X9_init_20_23 : ZB := [(.aload_n 0, .null), (.bipush 12, .int 12)]
theorem bk_X9_init_20_23 : zchk cX9_init bb_X9_init_20_23 20 = true ∧ zpc bb_X9_init_20_23 20 = 23 := ⟨by decide +kernel, rfl⟩
abbrev bb_X9_init_28_31 : ZB := [(.aload_n 0, .null), (.bipush 12, .int 12)]
theorem bk_X9_init_28_31 : zchk cX9_init bb_X9_init_28_31 28 = true ∧ zpc bb_X9_init_28_31 28 = 31 := ⟨by decide +kernel, rfl⟩
abbrev bb_X9_init_36_39 : ZB := [(.aload_n 0, .null), (.bipush 12, .int 12)]
theorem bk_X9_init_36_39 : zchk cX9_init bb_X9_init_36_39 36 = true ∧ zpc bb_X9_init_36_39 36 = 39 := ⟨by decide +kernel, rfl⟩
abbrev bb_X9_init_44_47 : ZB := [(.aload_n 0, .null), (.bipush 48, .int 48)]
theorem bk_X9_init_44_47 : zchk cX9_init bb_X9_init_44_47 44 = true ∧ zpc bb_X9_init_44_47 44 = 47 := ⟨by decide +kernel, rfl⟩
abbrev bb_X9_init_52_55 : ZB := [(.aload_n 0, .null), (.bipush 12, .int 12)]
theorem bk_X9_init_52_55 : zchk cX9_init bb_X9_init_52_55 52 = true ∧ zpc bb_X9_init_52_55 52 = 55 := ⟨by decide +kernel, rfl⟩
abbrev bb_X9_init_60_63 : ZB := [(.aload_n 0, .null), (.bipush 12, .int 12)]
theorem bk_X9_init_60_63 : zchk cX9_init bb_X9_init_60_63 60 = true ∧ zpc bb_X9_init_60_63 60 = 63 := ⟨by decide +kernel, rfl⟩
abbrev bb_X9_init_68_71 : ZB := [(.aload_n 0, .null), (.bipush 12, .int 12)]
theorem bk_X9_init_68_71 : zchk cX9_init bb_X9_init_68_71 68 = true ∧ zpc bb_X9_init_68_71 68 = 71 := ⟨by decide +kernel, rfl⟩
set_option maxHeartbeats 4000000 in
set_option maxRecDepth 100000 in
theorem c_X9_init (l : Launch) (G : KG) (trials : Nat) : Ct l G yX9_init cX9_init 1 none { frames := 1, cells := 9, slots := 144, locals := 20 } [.ref trials] [(trials, ob 9 [.int 0, .null, .null, .null, .null, .null, .null, .null, .null, .null])] (fun r w1 => ∃ (ts : Nat), ∃ (tw : Nat), ∃ (tf : Nat), ∃ (te : Nat), ∃ (tg : Nat), ∃ (tl : Nat), ∃ (tc : Nat), ∃ (tx : Nat), ∃ (ty : Nat), r = none ∧ w1 = [(trials, ob 9 [.int 0, .ref ts, .ref tw, .ref tf, .ref te, .ref tg, .ref tl, .ref tc, .ref tx, .ref ty]), (ts, aI G 12 (fun _ => 0)), (tw, aZ G 12 (fun _ => 0)), (tf, aI G 12 (fun _ => 0)), (te, aI G 12 (fun _ => 0)), (tg, aI G 12 (fun _ => 0)), (tl, aI G 48 (fun _ => 0)), (tc, aI G 12 (fun _ => 0)), (tx, aI G 12 (fun _ => 0)), (ty, aI G 12 (fun _ => 0))]) := by
  refine ct_of [(0, .ref trials)] (by decide) (Nat.le_of_ble_eq_true rfl) rfl ?_
  intro p0 e0 s0 m0 args0 below0 meth0 c0 A X
  refine z_run X bb_X9_init_0_1 bk_X9_init_0_1 (lv' := [(0, .ref trials)]) (st' := [.ref trials]) rfl ?_
  refine z_objInit X oi_9 oi_m oi_c d_X9_init_1 ⟨Nat.le_of_ble_eq_true rfl, Nat.le_of_ble_eq_true rfl⟩ (Nat.le_of_ble_eq_true rfl) ?_
  refine z_run X bb_X9_init_4_7 bk_X9_init_4_7 (lv' := [(0, .ref trials)]) (st' := [.int 12, .ref trials]) rfl ?_
  refine z_newa X (atype := .int) (ty := .int) ac_0 rfl (Or.inl rfl) 0 (n := 12) (N' := 12) (a0 := (12, .inl (fun _ => 0))) rfl (fun _ => rfl) (by decide) rfl (Nat.le_of_ble_eq_true rfl) (Nat.le_of_ble_eq_true rfl) (Nat.le_of_ble_eq_true rfl) d_X9_init_7 (fun ts => ?_)
  refine Z.at (pc' := 9) (st' := [.ref ts, .ref trials]) (ws' := [(trials, ob 9 [.int 0, .null, .null, .null, .null, .null, .null, .null, .null, .null]), (ts, aI G 12 (fun _ => 0))]) (kc' := 1) (ks' := 12) rfl rfl rfl rfl rfl ?_
  refine z_put X fl_9_9 d_X9_init_9 0 rfl (ty := (.array .int)) (T := TX9) (N := 10) rfl (Or.inr ⟨rfl, rfl, rfl⟩) (by decide +kernel) rfl (by rfl) (Nat.le_of_ble_eq_true rfl) (ws' := [(trials, ob 9 [.int 0, .ref ts, .null, .null, .null, .null, .null, .null, .null, .null]), (ts, aI G 12 (fun _ => 0))]) rfl ?_
  refine z_run X bb_X9_init_12_15 bk_X9_init_12_15 (lv' := [(0, .ref trials)]) (st' := [.int 12, .ref trials]) rfl ?_
  refine z_newa X (atype := .boolean) (ty := .boolean) ac_2 rfl (Or.inr (Or.inr rfl)) 2 (n := 12) (N' := 12) (a0 := (12, .inl (fun _ => 0))) rfl (fun _ => rfl) (by decide) rfl (Nat.le_of_ble_eq_true rfl) (Nat.le_of_ble_eq_true rfl) (Nat.le_of_ble_eq_true rfl) d_X9_init_15 (fun tw => ?_)
  refine Z.at (pc' := 17) (st' := [.ref tw, .ref trials]) (ws' := [(trials, ob 9 [.int 0, .ref ts, .null, .null, .null, .null, .null, .null, .null, .null]), (ts, aI G 12 (fun _ => 0)), (tw, aZ G 12 (fun _ => 0))]) (kc' := 2) (ks' := 24) rfl rfl rfl rfl rfl ?_
  refine z_put X fl_9_15 d_X9_init_17 0 rfl (ty := (.array .boolean)) (T := TX9) (N := 10) rfl (Or.inr ⟨rfl, rfl, rfl⟩) (by decide +kernel) rfl (by rfl) (Nat.le_of_ble_eq_true rfl) (ws' := [(trials, ob 9 [.int 0, .ref ts, .ref tw, .null, .null, .null, .null, .null, .null, .null]), (ts, aI G 12 (fun _ => 0)), (tw, aZ G 12 (fun _ => 0))]) rfl ?_
  refine z_run X bb_X9_init_20_23 bk_X9_init_20_23 (lv' := [(0, .ref trials)]) (st' := [.int 12, .ref trials]) rfl ?_
  refine z_newa X (atype := .int) (ty := .int) ac_0 rfl (Or.inl rfl) 0 (n := 12) (N' := 12) (a0 := (12, .inl (fun _ => 0))) rfl (fun _ => rfl) (by decide) rfl (Nat.le_of_ble_eq_true rfl) (Nat.le_of_ble_eq_true rfl) (Nat.le_of_ble_eq_true rfl) d_X9_init_23 (fun tf => ?_)
  refine Z.at (pc' := 25) (st' := [.ref tf, .ref trials]) (ws' := [(trials, ob 9 [.int 0, .ref ts, .ref tw, .null, .null, .null, .null, .null, .null, .null]), (ts, aI G 12 (fun _ => 0)), (tw, aZ G 12 (fun _ => 0)), (tf, aI G 12 (fun _ => 0))]) (kc' := 3) (ks' := 36) rfl rfl rfl rfl rfl ?_
  refine z_put X fl_9_19 d_X9_init_25 0 rfl (ty := (.array .int)) (T := TX9) (N := 10) rfl (Or.inr ⟨rfl, rfl, rfl⟩) (by decide +kernel) rfl (by rfl) (Nat.le_of_ble_eq_true rfl) (ws' := [(trials, ob 9 [.int 0, .ref ts, .ref tw, .ref tf, .null, .null, .null, .null, .null, .null]), (ts, aI G 12 (fun _ => 0)), (tw, aZ G 12 (fun _ => 0)), (tf, aI G 12 (fun _ => 0))]) rfl ?_
  refine z_run X bb_X9_init_28_31 bk_X9_init_28_31 (lv' := [(0, .ref trials)]) (st' := [.int 12, .ref trials]) rfl ?_
  refine z_newa X (atype := .int) (ty := .int) ac_0 rfl (Or.inl rfl) 0 (n := 12) (N' := 12) (a0 := (12, .inl (fun _ => 0))) rfl (fun _ => rfl) (by decide) rfl (Nat.le_of_ble_eq_true rfl) (Nat.le_of_ble_eq_true rfl) (Nat.le_of_ble_eq_true rfl) d_X9_init_31 (fun te => ?_)
  refine Z.at (pc' := 33) (st' := [.ref te, .ref trials]) (ws' := [(trials, ob 9 [.int 0, .ref ts, .ref tw, .ref tf, .null, .null, .null, .null, .null, .null]), (ts, aI G 12 (fun _ => 0)), (tw, aZ G 12 (fun _ => 0)), (tf, aI G 12 (fun _ => 0)), (te, aI G 12 (fun _ => 0))]) (kc' := 4) (ks' := 48) rfl rfl rfl rfl rfl ?_
  refine z_put X fl_9_22 d_X9_init_33 0 rfl (ty := (.array .int)) (T := TX9) (N := 10) rfl (Or.inr ⟨rfl, rfl, rfl⟩) (by decide +kernel) rfl (by rfl) (Nat.le_of_ble_eq_true rfl) (ws' := [(trials, ob 9 [.int 0, .ref ts, .ref tw, .ref tf, .ref te, .null, .null, .null, .null, .null]), (ts, aI G 12 (fun _ => 0)), (tw, aZ G 12 (fun _ => 0)), (tf, aI G 12 (fun _ => 0)), (te, aI G 12 (fun _ => 0))]) rfl ?_
  refine z_run X bb_X9_init_36_39 bk_X9_init_36_39 (lv' := [(0, .ref trials)]) (st' := [.int 12, .ref trials]) rfl ?_
  refine z_newa X (atype := .int) (ty := .int) ac_0 rfl (Or.inl rfl) 0 (n := 12) (N' := 12) (a0 := (12, .inl (fun _ => 0))) rfl (fun _ => rfl) (by decide) rfl (Nat.le_of_ble_eq_true rfl) (Nat.le_of_ble_eq_true rfl) (Nat.le_of_ble_eq_true rfl) d_X9_init_39 (fun tg => ?_)
  refine Z.at (pc' := 41) (st' := [.ref tg, .ref trials]) (ws' := [(trials, ob 9 [.int 0, .ref ts, .ref tw, .ref tf, .ref te, .null, .null, .null, .null, .null]), (ts, aI G 12 (fun _ => 0)), (tw, aZ G 12 (fun _ => 0)), (tf, aI G 12 (fun _ => 0)), (te, aI G 12 (fun _ => 0)), (tg, aI G 12 (fun _ => 0))]) (kc' := 5) (ks' := 60) rfl rfl rfl rfl rfl ?_
  refine z_put X fl_9_25 d_X9_init_41 0 rfl (ty := (.array .int)) (T := TX9) (N := 10) rfl (Or.inr ⟨rfl, rfl, rfl⟩) (by decide +kernel) rfl (by rfl) (Nat.le_of_ble_eq_true rfl) (ws' := [(trials, ob 9 [.int 0, .ref ts, .ref tw, .ref tf, .ref te, .ref tg, .null, .null, .null, .null]), (ts, aI G 12 (fun _ => 0)), (tw, aZ G 12 (fun _ => 0)), (tf, aI G 12 (fun _ => 0)), (te, aI G 12 (fun _ => 0)), (tg, aI G 12 (fun _ => 0))]) rfl ?_
  refine z_run X bb_X9_init_44_47 bk_X9_init_44_47 (lv' := [(0, .ref trials)]) (st' := [.int 48, .ref trials]) rfl ?_
  refine z_newa X (atype := .int) (ty := .int) ac_0 rfl (Or.inl rfl) 0 (n := 48) (N' := 48) (a0 := (48, .inl (fun _ => 0))) rfl (fun _ => rfl) (by decide) rfl (Nat.le_of_ble_eq_true rfl) (Nat.le_of_ble_eq_true rfl) (Nat.le_of_ble_eq_true rfl) d_X9_init_47 (fun tl => ?_)
  refine Z.at (pc' := 49) (st' := [.ref tl, .ref trials]) (ws' := [(trials, ob 9 [.int 0, .ref ts, .ref tw, .ref tf, .ref te, .ref tg, .null, .null, .null, .null]), (ts, aI G 12 (fun _ => 0)), (tw, aZ G 12 (fun _ => 0)), (tf, aI G 12 (fun _ => 0)), (te, aI G 12 (fun _ => 0)), (tg, aI G 12 (fun _ => 0)), (tl, aI G 48 (fun _ => 0))]) (kc' := 6) (ks' := 108) rfl rfl rfl rfl rfl ?_
  refine z_put X fl_9_28 d_X9_init_49 0 rfl (ty := (.array .int)) (T := TX9) (N := 10) rfl (Or.inr ⟨rfl, rfl, rfl⟩) (by decide +kernel) rfl (by rfl) (Nat.le_of_ble_eq_true rfl) (ws' := [(trials, ob 9 [.int 0, .ref ts, .ref tw, .ref tf, .ref te, .ref tg, .ref tl, .null, .null, .null]), (ts, aI G 12 (fun _ => 0)), (tw, aZ G 12 (fun _ => 0)), (tf, aI G 12 (fun _ => 0)), (te, aI G 12 (fun _ => 0)), (tg, aI G 12 (fun _ => 0)), (tl, aI G 48 (fun _ => 0))]) rfl ?_
  refine z_run X bb_X9_init_52_55 bk_X9_init_52_55 (lv' := [(0, .ref trials)]) (st' := [.int 12, .ref trials]) rfl ?_
  refine z_newa X (atype := .int) (ty := .int) ac_0 rfl (Or.inl rfl) 0 (n := 12) (N' := 12) (a0 := (12, .inl (fun _ => 0))) rfl (fun _ => rfl) (by decide) rfl (Nat.le_of_ble_eq_true rfl) (Nat.le_of_ble_eq_true rfl) (Nat.le_of_ble_eq_true rfl) d_X9_init_55 (fun tc => ?_)
  refine Z.at (pc' := 57) (st' := [.ref tc, .ref trials]) (ws' := [(trials, ob 9 [.int 0, .ref ts, .ref tw, .ref tf, .ref te, .ref tg, .ref tl, .null, .null, .null]), (ts, aI G 12 (fun _ => 0)), (tw, aZ G 12 (fun _ => 0)), (tf, aI G 12 (fun _ => 0)), (te, aI G 12 (fun _ => 0)), (tg, aI G 12 (fun _ => 0)), (tl, aI G 48 (fun _ => 0)), (tc, aI G 12 (fun _ => 0))]) (kc' := 7) (ks' := 120) rfl rfl rfl rfl rfl ?_
  refine z_put X fl_9_31 d_X9_init_57 0 rfl (ty := (.array .int)) (T := TX9) (N := 10) rfl (Or.inr ⟨rfl, rfl, rfl⟩) (by decide +kernel) rfl (by rfl) (Nat.le_of_ble_eq_true rfl) (ws' := [(trials, ob 9 [.int 0, .ref ts, .ref tw, .ref tf, .ref te, .ref tg, .ref tl, .ref tc, .null, .null]), (ts, aI G 12 (fun _ => 0)), (tw, aZ G 12 (fun _ => 0)), (tf, aI G 12 (fun _ => 0)), (te, aI G 12 (fun _ => 0)), (tg, aI G 12 (fun _ => 0)), (tl, aI G 48 (fun _ => 0)), (tc, aI G 12 (fun _ => 0))]) rfl ?_
  refine z_run X bb_X9_init_60_63 bk_X9_init_60_63 (lv' := [(0, .ref trials)]) (st' := [.int 12, .ref trials]) rfl ?_
  refine z_newa X (atype := .int) (ty := .int) ac_0 rfl (Or.inl rfl) 0 (n := 12) (N' := 12) (a0 := (12, .inl (fun _ => 0))) rfl (fun _ => rfl) (by decide) rfl (Nat.le_of_ble_eq_true rfl) (Nat.le_of_ble_eq_true rfl) (Nat.le_of_ble_eq_true rfl) d_X9_init_63 (fun tx => ?_)
  refine Z.at (pc' := 65) (st' := [.ref tx, .ref trials]) (ws' := [(trials, ob 9 [.int 0, .ref ts, .ref tw, .ref tf, .ref te, .ref tg, .ref tl, .ref tc, .null, .null]), (ts, aI G 12 (fun _ => 0)), (tw, aZ G 12 (fun _ => 0)), (tf, aI G 12 (fun _ => 0)), (te, aI G 12 (fun _ => 0)), (tg, aI G 12 (fun _ => 0)), (tl, aI G 48 (fun _ => 0)), (tc, aI G 12 (fun _ => 0)), (tx, aI G 12 (fun _ => 0))]) (kc' := 8) (ks' := 132) rfl rfl rfl rfl rfl ?_
  refine z_put X fl_9_34 d_X9_init_65 0 rfl (ty := (.array .int)) (T := TX9) (N := 10) rfl (Or.inr ⟨rfl, rfl, rfl⟩) (by decide +kernel) rfl (by rfl) (Nat.le_of_ble_eq_true rfl) (ws' := [(trials, ob 9 [.int 0, .ref ts, .ref tw, .ref tf, .ref te, .ref tg, .ref tl, .ref tc, .ref tx, .null]), (ts, aI G 12 (fun _ => 0)), (tw, aZ G 12 (fun _ => 0)), (tf, aI G 12 (fun _ => 0)), (te, aI G 12 (fun _ => 0)), (tg, aI G 12 (fun _ => 0)), (tl, aI G 48 (fun _ => 0)), (tc, aI G 12 (fun _ => 0)), (tx, aI G 12 (fun _ => 0))]) rfl ?_
  refine z_run X bb_X9_init_68_71 bk_X9_init_68_71 (lv' := [(0, .ref trials)]) (st' := [.int 12, .ref trials]) rfl ?_
  refine z_newa X (atype := .int) (ty := .int) ac_0 rfl (Or.inl rfl) 0 (n := 12) (N' := 12) (a0 := (12, .inl (fun _ => 0))) rfl (fun _ => rfl) (by decide) rfl (Nat.le_of_ble_eq_true rfl) (Nat.le_of_ble_eq_true rfl) (Nat.le_of_ble_eq_true rfl) d_X9_init_71 (fun ty => ?_)
  refine Z.at (pc' := 73) (st' := [.ref ty, .ref trials]) (ws' := [(trials, ob 9 [.int 0, .ref ts, .ref tw, .ref tf, .ref te, .ref tg, .ref tl, .ref tc, .ref tx, .null]), (ts, aI G 12 (fun _ => 0)), (tw, aZ G 12 (fun _ => 0)), (tf, aI G 12 (fun _ => 0)), (te, aI G 12 (fun _ => 0)), (tg, aI G 12 (fun _ => 0)), (tl, aI G 48 (fun _ => 0)), (tc, aI G 12 (fun _ => 0)), (tx, aI G 12 (fun _ => 0)), (ty, aI G 12 (fun _ => 0))]) (kc' := 9) (ks' := 144) rfl rfl rfl rfl rfl ?_
  refine z_put X fl_9_37 d_X9_init_73 0 rfl (ty := (.array .int)) (T := TX9) (N := 10) rfl (Or.inr ⟨rfl, rfl, rfl⟩) (by decide +kernel) rfl (by rfl) (Nat.le_of_ble_eq_true rfl) (ws' := [(trials, ob 9 [.int 0, .ref ts, .ref tw, .ref tf, .ref te, .ref tg, .ref tl, .ref tc, .ref tx, .ref ty]), (ts, aI G 12 (fun _ => 0)), (tw, aZ G 12 (fun _ => 0)), (tf, aI G 12 (fun _ => 0)), (te, aI G 12 (fun _ => 0)), (tg, aI G 12 (fun _ => 0)), (tl, aI G 48 (fun _ => 0)), (tc, aI G 12 (fun _ => 0)), (tx, aI G 12 (fun _ => 0)), (ty, aI G 12 (fun _ => 0))]) rfl ?_
  exact z_vret X rfl d_X9_init_76 (Nat.le_of_ble_eq_true rfl) (Nat.le_of_ble_eq_true rfl) ⟨ts, tw, tf, te, tg, tl, tc, tx, ty, rfl, rfl⟩

theorem d_X1_init_1 : decode cX1_init 1 = .ok (.invokespecial 3, 3) := by decide +kernel
theorem d_X1_init_7 : decode cX1_init 7 = .ok (.newarray .int, 2) := by decide +kernel
theorem d_X1_init_9 : decode cX1_init 9 = .ok (.putfield 9, 3) := by decide +kernel
theorem d_X1_init_15 : decode cX1_init 15 = .ok (.newarray .int, 2) := by decide +kernel
theorem d_X1_init_17 : decode cX1_init 17 = .ok (.putfield 15, 3) := by decide +kernel
theorem d_X1_init_20 : decode cX1_init 20 = .ok (.return_, 1) := by decide +kernel
abbrev bb_X1_init_0_1 : ZB := [(.aload_n 0, .null)]
theorem bk_X1_init_0_1 : zchk cX1_init bb_X1_init_0_1 0 = true ∧ zpc bb_X1_init_0_1 0 = 1 := ⟨by decide +kernel, rfl⟩
abbrev bb_X1_init_4_7 : ZB := [(.aload_n 0, .null), (.bipush 40, .int 40)]
theorem bk_X1_init_4_7 : zchk cX1_init bb_X1_init_4_7 4 = true ∧ zpc bb_X1_init_4_7 4 = 7 := ⟨by decide +kernel, rfl⟩
abbrev bb_X1_init_12_15 : ZB := [(.aload_n 0, .null), (.bipush 40, .int 40)]
theorem bk_X1_init_12_15 : zchk cX1_init bb_X1_init_12_15 12 = true ∧ zpc bb_X1_init_12_15 12 = 15 := ⟨by decide +kernel, rfl⟩
set_option maxHeartbeats 4000000 in
set_option maxRecDepth 100000 in
theorem c_X1_init (l : Launch) (G : KG) (span : Nat) : Ct l G yX1_init cX1_init 1 none { frames := 1, cells := 2, slots := 80, locals := 20 } [.ref span] [(span, ob 1 [.int 0, .int 0, .int 0, .int 0, .int 0, .int 0, .int 0, .null, .null])] (fun r w1 => ∃ (fx : Nat), ∃ (fy : Nat), r = none ∧ w1 = [(span, ob 1 [.int 0, .int 0, .int 0, .int 0, .int 0, .int 0, .int 0, .ref fx, .ref fy]), (fx, aI G 40 (fun _ => 0)), (fy, aI G 40 (fun _ => 0))]) := by
  refine ct_of [(0, .ref span)] (by decide) (Nat.le_of_ble_eq_true rfl) rfl ?_
  intro p0 e0 s0 m0 args0 below0 meth0 c0 A X
  refine z_run X bb_X1_init_0_1 bk_X1_init_0_1 (lv' := [(0, .ref span)]) (st' := [.ref span]) rfl ?_
  refine z_objInit X oi_1 oi_m oi_c d_X1_init_1 ⟨Nat.le_of_ble_eq_true rfl, Nat.le_of_ble_eq_true rfl⟩ (Nat.le_of_ble_eq_true rfl) ?_
  refine z_run X bb_X1_init_4_7 bk_X1_init_4_7 (lv' := [(0, .ref span)]) (st' := [.int 40, .ref span]) rfl ?_
  refine z_newa X (atype := .int) (ty := .int) ac_0 rfl (Or.inl rfl) 0 (n := 40) (N' := 40) (a0 := (40, .inl (fun _ => 0))) rfl (fun _ => rfl) (by decide) rfl (Nat.le_of_ble_eq_true rfl) (Nat.le_of_ble_eq_true rfl) (Nat.le_of_ble_eq_true rfl) d_X1_init_7 (fun fx => ?_)
  refine Z.at (pc' := 9) (st' := [.ref fx, .ref span]) (ws' := [(span, ob 1 [.int 0, .int 0, .int 0, .int 0, .int 0, .int 0, .int 0, .null, .null]), (fx, aI G 40 (fun _ => 0))]) (kc' := 1) (ks' := 40) rfl rfl rfl rfl rfl ?_
  refine z_put X fl_1_9 d_X1_init_9 0 rfl (ty := (.array .int)) (T := TX1) (N := 9) rfl (Or.inr ⟨rfl, rfl, rfl⟩) (by decide +kernel) rfl (by rfl) (Nat.le_of_ble_eq_true rfl) (ws' := [(span, ob 1 [.int 0, .int 0, .int 0, .int 0, .int 0, .int 0, .int 0, .ref fx, .null]), (fx, aI G 40 (fun _ => 0))]) rfl ?_
  refine z_run X bb_X1_init_12_15 bk_X1_init_12_15 (lv' := [(0, .ref span)]) (st' := [.int 40, .ref span]) rfl ?_
  refine z_newa X (atype := .int) (ty := .int) ac_0 rfl (Or.inl rfl) 0 (n := 40) (N' := 40) (a0 := (40, .inl (fun _ => 0))) rfl (fun _ => rfl) (by decide) rfl (Nat.le_of_ble_eq_true rfl) (Nat.le_of_ble_eq_true rfl) (Nat.le_of_ble_eq_true rfl) d_X1_init_15 (fun fy => ?_)
  refine Z.at (pc' := 17) (st' := [.ref fy, .ref span]) (ws' := [(span, ob 1 [.int 0, .int 0, .int 0, .int 0, .int 0, .int 0, .int 0, .ref fx, .null]), (fx, aI G 40 (fun _ => 0)), (fy, aI G 40 (fun _ => 0))]) (kc' := 2) (ks' := 80) rfl rfl rfl rfl rfl ?_
  refine z_put X fl_1_15 d_X1_init_17 0 rfl (ty := (.array .int)) (T := TX1) (N := 9) rfl (Or.inr ⟨rfl, rfl, rfl⟩) (by decide +kernel) rfl (by rfl) (Nat.le_of_ble_eq_true rfl) (ws' := [(span, ob 1 [.int 0, .int 0, .int 0, .int 0, .int 0, .int 0, .int 0, .ref fx, .ref fy]), (fx, aI G 40 (fun _ => 0)), (fy, aI G 40 (fun _ => 0))]) rfl ?_
  exact z_vret X rfl d_X1_init_20 (Nat.le_of_ble_eq_true rfl) (Nat.le_of_ble_eq_true rfl) ⟨fx, fy, rfl, rfl⟩

theorem d_X6_init_1 : decode cX6_init 1 = .ok (.invokespecial 3, 3) := by decide +kernel
theorem d_X6_init_7 : decode cX6_init 7 = .ok (.newarray .int, 2) := by decide +kernel
theorem d_X6_init_9 : decode cX6_init 9 = .ok (.putfield 9, 3) := by decide +kernel
theorem d_X6_init_15 : decode cX6_init 15 = .ok (.newarray .int, 2) := by decide +kernel
theorem d_X6_init_17 : decode cX6_init 17 = .ok (.putfield 15, 3) := by decide +kernel
theorem d_X6_init_23 : decode cX6_init 23 = .ok (.newarray .long, 2) := by decide +kernel
theorem d_X6_init_25 : decode cX6_init 25 = .ok (.putfield 18, 3) := by decide +kernel
theorem d_X6_init_31 : decode cX6_init 31 = .ok (.newarray .long, 2) := by decide +kernel
theorem d_X6_init_33 : decode cX6_init 33 = .ok (.putfield 22, 3) := by decide +kernel
theorem d_X6_init_39 : decode cX6_init 39 = .ok (.newarray .long, 2) := by decide +kernel
theorem d_X6_init_41 : decode cX6_init 41 = .ok (.putfield 25, 3) := by decide +kernel
theorem d_X6_init_47 : decode cX6_init 47 = .ok (.newarray .long, 2) := by decide +kernel
theorem d_X6_init_49 : decode cX6_init 49 = .ok (.putfield 28, 3) := by decide +kernel
theorem d_X6_init_55 : decode cX6_init 55 = .ok (.newarray .long, 2) := by decide +kernel
theorem d_X6_init_57 : decode cX6_init 57 = .ok (.putfield 31, 3) := by decide +kernel
theorem d_X6_init_63 : decode cX6_init 63 = .ok (.newarray .int, 2) := by decide +kernel
theorem d_X6_init_65 : decode cX6_init 65 = .ok (.putfield 34, 3) := by decide +kernel
theorem d_X6_init_71 : decode cX6_init 71 = .ok (.newarray .int, 2) := by decide +kernel
theorem d_X6_init_73 : decode cX6_init 73 = .ok (.putfield 37, 3) := by decide +kernel
theorem d_X6_init_76 : decode cX6_init 76 = .ok (.return_, 1) := by decide +kernel
abbrev bb_X6_init_0_1 : ZB := [(.aload_n 0, .null)]
theorem bk_X6_init_0_1 : zchk cX6_init bb_X6_init_0_1 0 = true ∧ zpc bb_X6_init_0_1 0 = 1 := ⟨by decide +kernel, rfl⟩
abbrev bb_X6_init_4_7 : ZB := [(.aload_n 0, .null), (.bipush 16, .int 16)]
theorem bk_X6_init_4_7 : zchk cX6_init bb_X6_init_4_7 4 = true ∧ zpc bb_X6_init_4_7 4 = 7 := ⟨by decide +kernel, rfl⟩
abbrev bb_X6_init_12_15 : ZB := [(.aload_n 0, .null), (.bipush 16, .int 16)]
theorem bk_X6_init_12_15 : zchk cX6_init bb_X6_init_12_15 12 = true ∧ zpc bb_X6_init_12_15 12 = 15 := ⟨by decide +kernel, rfl⟩
abbrev bb_X6_init_20_23 : ZB := [(.aload_n 0, .null), (.bipush 6, .int 6)]
theorem bk_X6_init_20_23 : zchk cX6_init bb_X6_init_20_23 20 = true ∧ zpc bb_X6_init_20_23 20 = 23 := ⟨by decide +kernel, rfl⟩
abbrev bb_X6_init_28_31 : ZB := [(.aload_n 0, .null), (.bipush 6, .int 6)]
theorem bk_X6_init_28_31 : zchk cX6_init bb_X6_init_28_31 28 = true ∧ zpc bb_X6_init_28_31 28 = 31 := ⟨by decide +kernel, rfl⟩
abbrev bb_X6_init_36_39 : ZB := [(.aload_n 0, .null), (.bipush 96, .int 96)]
theorem bk_X6_init_36_39 : zchk cX6_init bb_X6_init_36_39 36 = true ∧ zpc bb_X6_init_36_39 36 = 39 := ⟨by decide +kernel, rfl⟩
abbrev bb_X6_init_44_47 : ZB := [(.aload_n 0, .null), (.bipush 96, .int 96)]
theorem bk_X6_init_44_47 : zchk cX6_init bb_X6_init_44_47 44 = true ∧ zpc bb_X6_init_44_47 44 = 47 := ⟨by decide +kernel, rfl⟩
abbrev bb_X6_init_52_55 : ZB := [(.aload_n 0, .null), (.bipush 16, .int 16)]
theorem bk_X6_init_52_55 : zchk cX6_init bb_X6_init_52_55 52 = true ∧ zpc bb_X6_init_52_55 52 = 55 := ⟨by decide +kernel, rfl⟩
abbrev bb_X6_init_60_63 : ZB := [(.aload_n 0, .null), (.bipush 16, .int 16)]
theorem bk_X6_init_60_63 : zchk cX6_init bb_X6_init_60_63 60 = true ∧ zpc bb_X6_init_60_63 60 = 63 := ⟨by decide +kernel, rfl⟩
abbrev bb_X6_init_68_71 : ZB := [(.aload_n 0, .null), (.bipush 16, .int 16)]
theorem bk_X6_init_68_71 : zchk cX6_init bb_X6_init_68_71 68 = true ∧ zpc bb_X6_init_68_71 68 = 71 := ⟨by decide +kernel, rfl⟩
set_option maxHeartbeats 4000000 in
set_option maxRecDepth 100000 in
theorem c_X6_init (l : Launch) (G : KG) (search : Nat) : Ct l G yX6_init cX6_init 1 none { frames := 1, cells := 9, slots := 284, locals := 20 } [.ref search] [(search, ob 6 [.int 0, .int 0, .int 0, .null, .null, .null, .null, .null, .null, .null, .null, .null, .int 0, .int 0, .long 0])] (fun r w1 => ∃ (qf : Nat), ∃ (qu : Nat), ∃ (qx : Nat), ∃ (qy : Nat), ∃ (qa : Nat), ∃ (qb : Nat), ∃ (qs : Nat), ∃ (qp : Nat), ∃ (qt : Nat), r = none ∧ w1 = [(search, ob 6 [.int 0, .int 0, .int 0, .ref qf, .ref qu, .ref qx, .ref qy, .ref qa, .ref qb, .ref qs, .ref qp, .ref qt, .int 0, .int 0, .long 0]), (qf, aI G 16 (fun _ => 0)), (qu, aI G 16 (fun _ => 0)), (qx, aJ G 6 (fun _ => 0)), (qy, aJ G 6 (fun _ => 0)), (qa, aJ G 96 (fun _ => 0)), (qb, aJ G 96 (fun _ => 0)), (qs, aJ G 16 (fun _ => 0)), (qp, aI G 16 (fun _ => 0)), (qt, aI G 16 (fun _ => 0))]) := by
  refine ct_of [(0, .ref search)] (by decide) (Nat.le_of_ble_eq_true rfl) rfl ?_
  intro p0 e0 s0 m0 args0 below0 meth0 c0 A X
  refine z_run X bb_X6_init_0_1 bk_X6_init_0_1 (lv' := [(0, .ref search)]) (st' := [.ref search]) rfl ?_
  refine z_objInit X oi_6 oi_m oi_c d_X6_init_1 ⟨Nat.le_of_ble_eq_true rfl, Nat.le_of_ble_eq_true rfl⟩ (Nat.le_of_ble_eq_true rfl) ?_
  refine z_run X bb_X6_init_4_7 bk_X6_init_4_7 (lv' := [(0, .ref search)]) (st' := [.int 16, .ref search]) rfl ?_
  refine z_newa X (atype := .int) (ty := .int) ac_0 rfl (Or.inl rfl) 0 (n := 16) (N' := 16) (a0 := (16, .inl (fun _ => 0))) rfl (fun _ => rfl) (by decide) rfl (Nat.le_of_ble_eq_true rfl) (Nat.le_of_ble_eq_true rfl) (Nat.le_of_ble_eq_true rfl) d_X6_init_7 (fun qf => ?_)
  refine Z.at (pc' := 9) (st' := [.ref qf, .ref search]) (ws' := [(search, ob 6 [.int 0, .int 0, .int 0, .null, .null, .null, .null, .null, .null, .null, .null, .null, .int 0, .int 0, .long 0]), (qf, aI G 16 (fun _ => 0))]) (kc' := 1) (ks' := 16) rfl rfl rfl rfl rfl ?_
  refine z_put X fl_6_9 d_X6_init_9 0 rfl (ty := (.array .int)) (T := TX6) (N := 15) rfl (Or.inr ⟨rfl, rfl, rfl⟩) (by decide +kernel) rfl (by rfl) (Nat.le_of_ble_eq_true rfl) (ws' := [(search, ob 6 [.int 0, .int 0, .int 0, .ref qf, .null, .null, .null, .null, .null, .null, .null, .null, .int 0, .int 0, .long 0]), (qf, aI G 16 (fun _ => 0))]) rfl ?_
  refine z_run X bb_X6_init_12_15 bk_X6_init_12_15 (lv' := [(0, .ref search)]) (st' := [.int 16, .ref search]) rfl ?_
  refine z_newa X (atype := .int) (ty := .int) ac_0 rfl (Or.inl rfl) 0 (n := 16) (N' := 16) (a0 := (16, .inl (fun _ => 0))) rfl (fun _ => rfl) (by decide) rfl (Nat.le_of_ble_eq_true rfl) (Nat.le_of_ble_eq_true rfl) (Nat.le_of_ble_eq_true rfl) d_X6_init_15 (fun qu => ?_)
  refine Z.at (pc' := 17) (st' := [.ref qu, .ref search]) (ws' := [(search, ob 6 [.int 0, .int 0, .int 0, .ref qf, .null, .null, .null, .null, .null, .null, .null, .null, .int 0, .int 0, .long 0]), (qf, aI G 16 (fun _ => 0)), (qu, aI G 16 (fun _ => 0))]) (kc' := 2) (ks' := 32) rfl rfl rfl rfl rfl ?_
  refine z_put X fl_6_15 d_X6_init_17 0 rfl (ty := (.array .int)) (T := TX6) (N := 15) rfl (Or.inr ⟨rfl, rfl, rfl⟩) (by decide +kernel) rfl (by rfl) (Nat.le_of_ble_eq_true rfl) (ws' := [(search, ob 6 [.int 0, .int 0, .int 0, .ref qf, .ref qu, .null, .null, .null, .null, .null, .null, .null, .int 0, .int 0, .long 0]), (qf, aI G 16 (fun _ => 0)), (qu, aI G 16 (fun _ => 0))]) rfl ?_
  refine z_run X bb_X6_init_20_23 bk_X6_init_20_23 (lv' := [(0, .ref search)]) (st' := [.int 6, .ref search]) rfl ?_
  refine z_newa X (atype := .long) (ty := .long) ac_1 rfl (Or.inr (Or.inl rfl)) 1 (n := 6) (N' := 6) (a0 := (6, .inr (.inl (fun _ => 0)))) rfl (fun _ => rfl) (by decide) rfl (Nat.le_of_ble_eq_true rfl) (Nat.le_of_ble_eq_true rfl) (Nat.le_of_ble_eq_true rfl) d_X6_init_23 (fun qx => ?_)
  refine Z.at (pc' := 25) (st' := [.ref qx, .ref search]) (ws' := [(search, ob 6 [.int 0, .int 0, .int 0, .ref qf, .ref qu, .null, .null, .null, .null, .null, .null, .null, .int 0, .int 0, .long 0]), (qf, aI G 16 (fun _ => 0)), (qu, aI G 16 (fun _ => 0)), (qx, aJ G 6 (fun _ => 0))]) (kc' := 3) (ks' := 38) rfl rfl rfl rfl rfl ?_
  refine z_put X fl_6_18 d_X6_init_25 0 rfl (ty := (.array .long)) (T := TX6) (N := 15) rfl (Or.inr ⟨rfl, rfl, rfl⟩) (by decide +kernel) rfl (by rfl) (Nat.le_of_ble_eq_true rfl) (ws' := [(search, ob 6 [.int 0, .int 0, .int 0, .ref qf, .ref qu, .ref qx, .null, .null, .null, .null, .null, .null, .int 0, .int 0, .long 0]), (qf, aI G 16 (fun _ => 0)), (qu, aI G 16 (fun _ => 0)), (qx, aJ G 6 (fun _ => 0))]) rfl ?_
  refine z_run X bb_X6_init_28_31 bk_X6_init_28_31 (lv' := [(0, .ref search)]) (st' := [.int 6, .ref search]) rfl ?_
  refine z_newa X (atype := .long) (ty := .long) ac_1 rfl (Or.inr (Or.inl rfl)) 1 (n := 6) (N' := 6) (a0 := (6, .inr (.inl (fun _ => 0)))) rfl (fun _ => rfl) (by decide) rfl (Nat.le_of_ble_eq_true rfl) (Nat.le_of_ble_eq_true rfl) (Nat.le_of_ble_eq_true rfl) d_X6_init_31 (fun qy => ?_)
  refine Z.at (pc' := 33) (st' := [.ref qy, .ref search]) (ws' := [(search, ob 6 [.int 0, .int 0, .int 0, .ref qf, .ref qu, .ref qx, .null, .null, .null, .null, .null, .null, .int 0, .int 0, .long 0]), (qf, aI G 16 (fun _ => 0)), (qu, aI G 16 (fun _ => 0)), (qx, aJ G 6 (fun _ => 0)), (qy, aJ G 6 (fun _ => 0))]) (kc' := 4) (ks' := 44) rfl rfl rfl rfl rfl ?_
  refine z_put X fl_6_22 d_X6_init_33 0 rfl (ty := (.array .long)) (T := TX6) (N := 15) rfl (Or.inr ⟨rfl, rfl, rfl⟩) (by decide +kernel) rfl (by rfl) (Nat.le_of_ble_eq_true rfl) (ws' := [(search, ob 6 [.int 0, .int 0, .int 0, .ref qf, .ref qu, .ref qx, .ref qy, .null, .null, .null, .null, .null, .int 0, .int 0, .long 0]), (qf, aI G 16 (fun _ => 0)), (qu, aI G 16 (fun _ => 0)), (qx, aJ G 6 (fun _ => 0)), (qy, aJ G 6 (fun _ => 0))]) rfl ?_
  refine z_run X bb_X6_init_36_39 bk_X6_init_36_39 (lv' := [(0, .ref search)]) (st' := [.int 96, .ref search]) rfl ?_
  refine z_newa X (atype := .long) (ty := .long) ac_1 rfl (Or.inr (Or.inl rfl)) 1 (n := 96) (N' := 96) (a0 := (96, .inr (.inl (fun _ => 0)))) rfl (fun _ => rfl) (by decide) rfl (Nat.le_of_ble_eq_true rfl) (Nat.le_of_ble_eq_true rfl) (Nat.le_of_ble_eq_true rfl) d_X6_init_39 (fun qa => ?_)
  refine Z.at (pc' := 41) (st' := [.ref qa, .ref search]) (ws' := [(search, ob 6 [.int 0, .int 0, .int 0, .ref qf, .ref qu, .ref qx, .ref qy, .null, .null, .null, .null, .null, .int 0, .int 0, .long 0]), (qf, aI G 16 (fun _ => 0)), (qu, aI G 16 (fun _ => 0)), (qx, aJ G 6 (fun _ => 0)), (qy, aJ G 6 (fun _ => 0)), (qa, aJ G 96 (fun _ => 0))]) (kc' := 5) (ks' := 140) rfl rfl rfl rfl rfl ?_
  refine z_put X fl_6_25 d_X6_init_41 0 rfl (ty := (.array .long)) (T := TX6) (N := 15) rfl (Or.inr ⟨rfl, rfl, rfl⟩) (by decide +kernel) rfl (by rfl) (Nat.le_of_ble_eq_true rfl) (ws' := [(search, ob 6 [.int 0, .int 0, .int 0, .ref qf, .ref qu, .ref qx, .ref qy, .ref qa, .null, .null, .null, .null, .int 0, .int 0, .long 0]), (qf, aI G 16 (fun _ => 0)), (qu, aI G 16 (fun _ => 0)), (qx, aJ G 6 (fun _ => 0)), (qy, aJ G 6 (fun _ => 0)), (qa, aJ G 96 (fun _ => 0))]) rfl ?_
  refine z_run X bb_X6_init_44_47 bk_X6_init_44_47 (lv' := [(0, .ref search)]) (st' := [.int 96, .ref search]) rfl ?_
  refine z_newa X (atype := .long) (ty := .long) ac_1 rfl (Or.inr (Or.inl rfl)) 1 (n := 96) (N' := 96) (a0 := (96, .inr (.inl (fun _ => 0)))) rfl (fun _ => rfl) (by decide) rfl (Nat.le_of_ble_eq_true rfl) (Nat.le_of_ble_eq_true rfl) (Nat.le_of_ble_eq_true rfl) d_X6_init_47 (fun qb => ?_)
  refine Z.at (pc' := 49) (st' := [.ref qb, .ref search]) (ws' := [(search, ob 6 [.int 0, .int 0, .int 0, .ref qf, .ref qu, .ref qx, .ref qy, .ref qa, .null, .null, .null, .null, .int 0, .int 0, .long 0]), (qf, aI G 16 (fun _ => 0)), (qu, aI G 16 (fun _ => 0)), (qx, aJ G 6 (fun _ => 0)), (qy, aJ G 6 (fun _ => 0)), (qa, aJ G 96 (fun _ => 0)), (qb, aJ G 96 (fun _ => 0))]) (kc' := 6) (ks' := 236) rfl rfl rfl rfl rfl ?_
  refine z_put X fl_6_28 d_X6_init_49 0 rfl (ty := (.array .long)) (T := TX6) (N := 15) rfl (Or.inr ⟨rfl, rfl, rfl⟩) (by decide +kernel) rfl (by rfl) (Nat.le_of_ble_eq_true rfl) (ws' := [(search, ob 6 [.int 0, .int 0, .int 0, .ref qf, .ref qu, .ref qx, .ref qy, .ref qa, .ref qb, .null, .null, .null, .int 0, .int 0, .long 0]), (qf, aI G 16 (fun _ => 0)), (qu, aI G 16 (fun _ => 0)), (qx, aJ G 6 (fun _ => 0)), (qy, aJ G 6 (fun _ => 0)), (qa, aJ G 96 (fun _ => 0)), (qb, aJ G 96 (fun _ => 0))]) rfl ?_
  refine z_run X bb_X6_init_52_55 bk_X6_init_52_55 (lv' := [(0, .ref search)]) (st' := [.int 16, .ref search]) rfl ?_
  refine z_newa X (atype := .long) (ty := .long) ac_1 rfl (Or.inr (Or.inl rfl)) 1 (n := 16) (N' := 16) (a0 := (16, .inr (.inl (fun _ => 0)))) rfl (fun _ => rfl) (by decide) rfl (Nat.le_of_ble_eq_true rfl) (Nat.le_of_ble_eq_true rfl) (Nat.le_of_ble_eq_true rfl) d_X6_init_55 (fun qs => ?_)
  refine Z.at (pc' := 57) (st' := [.ref qs, .ref search]) (ws' := [(search, ob 6 [.int 0, .int 0, .int 0, .ref qf, .ref qu, .ref qx, .ref qy, .ref qa, .ref qb, .null, .null, .null, .int 0, .int 0, .long 0]), (qf, aI G 16 (fun _ => 0)), (qu, aI G 16 (fun _ => 0)), (qx, aJ G 6 (fun _ => 0)), (qy, aJ G 6 (fun _ => 0)), (qa, aJ G 96 (fun _ => 0)), (qb, aJ G 96 (fun _ => 0)), (qs, aJ G 16 (fun _ => 0))]) (kc' := 7) (ks' := 252) rfl rfl rfl rfl rfl ?_
  refine z_put X fl_6_31 d_X6_init_57 0 rfl (ty := (.array .long)) (T := TX6) (N := 15) rfl (Or.inr ⟨rfl, rfl, rfl⟩) (by decide +kernel) rfl (by rfl) (Nat.le_of_ble_eq_true rfl) (ws' := [(search, ob 6 [.int 0, .int 0, .int 0, .ref qf, .ref qu, .ref qx, .ref qy, .ref qa, .ref qb, .ref qs, .null, .null, .int 0, .int 0, .long 0]), (qf, aI G 16 (fun _ => 0)), (qu, aI G 16 (fun _ => 0)), (qx, aJ G 6 (fun _ => 0)), (qy, aJ G 6 (fun _ => 0)), (qa, aJ G 96 (fun _ => 0)), (qb, aJ G 96 (fun _ => 0)), (qs, aJ G 16 (fun _ => 0))]) rfl ?_
  refine z_run X bb_X6_init_60_63 bk_X6_init_60_63 (lv' := [(0, .ref search)]) (st' := [.int 16, .ref search]) rfl ?_
  refine z_newa X (atype := .int) (ty := .int) ac_0 rfl (Or.inl rfl) 0 (n := 16) (N' := 16) (a0 := (16, .inl (fun _ => 0))) rfl (fun _ => rfl) (by decide) rfl (Nat.le_of_ble_eq_true rfl) (Nat.le_of_ble_eq_true rfl) (Nat.le_of_ble_eq_true rfl) d_X6_init_63 (fun qp => ?_)
  refine Z.at (pc' := 65) (st' := [.ref qp, .ref search]) (ws' := [(search, ob 6 [.int 0, .int 0, .int 0, .ref qf, .ref qu, .ref qx, .ref qy, .ref qa, .ref qb, .ref qs, .null, .null, .int 0, .int 0, .long 0]), (qf, aI G 16 (fun _ => 0)), (qu, aI G 16 (fun _ => 0)), (qx, aJ G 6 (fun _ => 0)), (qy, aJ G 6 (fun _ => 0)), (qa, aJ G 96 (fun _ => 0)), (qb, aJ G 96 (fun _ => 0)), (qs, aJ G 16 (fun _ => 0)), (qp, aI G 16 (fun _ => 0))]) (kc' := 8) (ks' := 268) rfl rfl rfl rfl rfl ?_
  refine z_put X fl_6_34 d_X6_init_65 0 rfl (ty := (.array .int)) (T := TX6) (N := 15) rfl (Or.inr ⟨rfl, rfl, rfl⟩) (by decide +kernel) rfl (by rfl) (Nat.le_of_ble_eq_true rfl) (ws' := [(search, ob 6 [.int 0, .int 0, .int 0, .ref qf, .ref qu, .ref qx, .ref qy, .ref qa, .ref qb, .ref qs, .ref qp, .null, .int 0, .int 0, .long 0]), (qf, aI G 16 (fun _ => 0)), (qu, aI G 16 (fun _ => 0)), (qx, aJ G 6 (fun _ => 0)), (qy, aJ G 6 (fun _ => 0)), (qa, aJ G 96 (fun _ => 0)), (qb, aJ G 96 (fun _ => 0)), (qs, aJ G 16 (fun _ => 0)), (qp, aI G 16 (fun _ => 0))]) rfl ?_
  refine z_run X bb_X6_init_68_71 bk_X6_init_68_71 (lv' := [(0, .ref search)]) (st' := [.int 16, .ref search]) rfl ?_
  refine z_newa X (atype := .int) (ty := .int) ac_0 rfl (Or.inl rfl) 0 (n := 16) (N' := 16) (a0 := (16, .inl (fun _ => 0))) rfl (fun _ => rfl) (by decide) rfl (Nat.le_of_ble_eq_true rfl) (Nat.le_of_ble_eq_true rfl) (Nat.le_of_ble_eq_true rfl) d_X6_init_71 (fun qt => ?_)
  refine Z.at (pc' := 73) (st' := [.ref qt, .ref search]) (ws' := [(search, ob 6 [.int 0, .int 0, .int 0, .ref qf, .ref qu, .ref qx, .ref qy, .ref qa, .ref qb, .ref qs, .ref qp, .null, .int 0, .int 0, .long 0]), (qf, aI G 16 (fun _ => 0)), (qu, aI G 16 (fun _ => 0)), (qx, aJ G 6 (fun _ => 0)), (qy, aJ G 6 (fun _ => 0)), (qa, aJ G 96 (fun _ => 0)), (qb, aJ G 96 (fun _ => 0)), (qs, aJ G 16 (fun _ => 0)), (qp, aI G 16 (fun _ => 0)), (qt, aI G 16 (fun _ => 0))]) (kc' := 9) (ks' := 284) rfl rfl rfl rfl rfl ?_
  refine z_put X fl_6_37 d_X6_init_73 0 rfl (ty := (.array .int)) (T := TX6) (N := 15) rfl (Or.inr ⟨rfl, rfl, rfl⟩) (by decide +kernel) rfl (by rfl) (Nat.le_of_ble_eq_true rfl) (ws' := [(search, ob 6 [.int 0, .int 0, .int 0, .ref qf, .ref qu, .ref qx, .ref qy, .ref qa, .ref qb, .ref qs, .ref qp, .ref qt, .int 0, .int 0, .long 0]), (qf, aI G 16 (fun _ => 0)), (qu, aI G 16 (fun _ => 0)), (qx, aJ G 6 (fun _ => 0)), (qy, aJ G 6 (fun _ => 0)), (qa, aJ G 96 (fun _ => 0)), (qb, aJ G 96 (fun _ => 0)), (qs, aJ G 16 (fun _ => 0)), (qp, aI G 16 (fun _ => 0)), (qt, aI G 16 (fun _ => 0))]) rfl ?_
  exact z_vret X rfl d_X6_init_76 (Nat.le_of_ble_eq_true rfl) (Nat.le_of_ble_eq_true rfl) ⟨qf, qu, qx, qy, qa, qb, qs, qp, qt, rfl, rfl⟩

theorem d_X2_init_1 : decode cX2_init 1 = .ok (.invokespecial 3, 3) := by decide +kernel
theorem d_X2_init_7 : decode cX2_init 7 = .ok (.newarray .int, 2) := by decide +kernel
theorem d_X2_init_9 : decode cX2_init 9 = .ok (.putfield 9, 3) := by decide +kernel
theorem d_X2_init_15 : decode cX2_init 15 = .ok (.newarray .int, 2) := by decide +kernel
theorem d_X2_init_17 : decode cX2_init 17 = .ok (.putfield 15, 3) := by decide +kernel
theorem d_X2_init_21 : decode cX2_init 21 = .ok (.new 18, 3) := by decide +kernel
theorem d_X2_init_25 : decode cX2_init 25 = .ok (.invokespecial 20, 3) := by decide +kernel
theorem d_X2_init_28 : decode cX2_init 28 = .ok (.putfield 21, 3) := by decide +kernel
theorem d_X2_init_32 : decode cX2_init 32 = .ok (.new 25, 3) := by decide +kernel
theorem d_X2_init_36 : decode cX2_init 36 = .ok (.invokespecial 27, 3) := by decide +kernel
theorem d_X2_init_39 : decode cX2_init 39 = .ok (.putfield 28, 3) := by decide +kernel
theorem d_X2_init_42 : decode cX2_init 42 = .ok (.return_, 1) := by decide +kernel
abbrev bb_X2_init_0_1 : ZB := [(.aload_n 0, .null)]
theorem bk_X2_init_0_1 : zchk cX2_init bb_X2_init_0_1 0 = true ∧ zpc bb_X2_init_0_1 0 = 1 := ⟨by decide +kernel, rfl⟩
abbrev bb_X2_init_4_7 : ZB := [(.aload_n 0, .null), (.bipush 16, .int 16)]
theorem bk_X2_init_4_7 : zchk cX2_init bb_X2_init_4_7 4 = true ∧ zpc bb_X2_init_4_7 4 = 7 := ⟨by decide +kernel, rfl⟩
abbrev bb_X2_init_12_15 : ZB := [(.aload_n 0, .null), (.bipush 8, .int 8)]
theorem bk_X2_init_12_15 : zchk cX2_init bb_X2_init_12_15 12 = true ∧ zpc bb_X2_init_12_15 12 = 15 := ⟨by decide +kernel, rfl⟩
abbrev bb_X2_init_20_21 : ZB := [(.aload_n 0, .null)]
theorem bk_X2_init_20_21 : zchk cX2_init bb_X2_init_20_21 20 = true ∧ zpc bb_X2_init_20_21 20 = 21 := ⟨by decide +kernel, rfl⟩
abbrev bb_X2_init_24_25 : ZB := [(.dup, .null)]
theorem bk_X2_init_24_25 : zchk cX2_init bb_X2_init_24_25 24 = true ∧ zpc bb_X2_init_24_25 24 = 25 := ⟨by decide +kernel, rfl⟩
abbrev bb_X2_init_31_32 : ZB := [(.aload_n 0, .null)]
theorem bk_X2_init_31_32 : zchk cX2_init bb_X2_init_31_32 31 = true ∧ zpc bb_X2_init_31_32 31 = 32 := ⟨by decide +kernel, rfl⟩
abbrev bb_X2_init_35_36 : ZB := [(.dup, .null)]
theorem bk_X2_init_35_36 : zchk cX2_init bb_X2_init_35_36 35 = true ∧ zpc bb_X2_init_35_36 35 = 36 := ⟨by decide +kernel, rfl⟩
set_option maxHeartbeats 4000000 in
set_option maxRecDepth 100000 in
theorem c_X2_init (l : Launch) (G : KG) (k0 : Nat) : Ct l G yX2_init cX2_init 1 none { frames := 2, cells := 18, slots := 214, locals := 40 } [.ref k0] [(k0, ob 2 [.int 0, .null, .null, .null, .null, .int 0, .int 0])] (fun r w1 => ∃ (k0h : Nat), ∃ (k0t : Nat), ∃ (k0a : Nat), ∃ (k0r : Nat), ∃ (k0af : Nat), ∃ (k0ao : Nat), ∃ (k0aa : Nat), ∃ (k0ax : Nat), ∃ (k0ay : Nat), ∃ (k0rs : Nat), ∃ (k0rw : Nat), ∃ (k0rf : Nat), ∃ (k0re : Nat), ∃ (k0rg : Nat), ∃ (k0rl : Nat), ∃ (k0rc : Nat), ∃ (k0rx : Nat), ∃ (k0ry : Nat), r = none ∧ w1 = [(k0, ob 2 [.int 0, .ref k0h, .ref k0t, .ref k0a, .ref k0r, .int 0, .int 0]), (k0h, aI G 16 (fun _ => 0)), (k0t, aI G 8 (fun _ => 0)), (k0a, ob 7 [.int 0, .ref k0af, .ref k0ao, .ref k0aa, .ref k0ax, .ref k0ay]), (k0af, aI G 6 (fun _ => 0)), (k0ao, aI G 6 (fun _ => 0)), (k0aa, aZ G 6 (fun _ => 0)), (k0ax, aI G 6 (fun _ => 0)), (k0ay, aI G 6 (fun _ => 0)), (k0r, ob 9 [.int 0, .ref k0rs, .ref k0rw, .ref k0rf, .ref k0re, .ref k0rg, .ref k0rl, .ref k0rc, .ref k0rx, .ref k0ry]), (k0rs, aI G 12 (fun _ => 0)), (k0rw, aZ G 12 (fun _ => 0)), (k0rf, aI G 12 (fun _ => 0)), (k0re, aI G 12 (fun _ => 0)), (k0rg, aI G 12 (fun _ => 0)), (k0rl, aI G 48 (fun _ => 0)), (k0rc, aI G 12 (fun _ => 0)), (k0rx, aI G 12 (fun _ => 0)), (k0ry, aI G 12 (fun _ => 0))]) := by
  refine ct_of [(0, .ref k0)] (by decide) (Nat.le_of_ble_eq_true rfl) rfl ?_
  intro p0 e0 s0 m0 args0 below0 meth0 c0 A X
  refine z_run X bb_X2_init_0_1 bk_X2_init_0_1 (lv' := [(0, .ref k0)]) (st' := [.ref k0]) rfl ?_
  refine z_objInit X oi_2 oi_m oi_c d_X2_init_1 ⟨Nat.le_of_ble_eq_true rfl, Nat.le_of_ble_eq_true rfl⟩ (Nat.le_of_ble_eq_true rfl) ?_
  refine z_run X bb_X2_init_4_7 bk_X2_init_4_7 (lv' := [(0, .ref k0)]) (st' := [.int 16, .ref k0]) rfl ?_
  refine z_newa X (atype := .int) (ty := .int) ac_0 rfl (Or.inl rfl) 0 (n := 16) (N' := 16) (a0 := (16, .inl (fun _ => 0))) rfl (fun _ => rfl) (by decide) rfl (Nat.le_of_ble_eq_true rfl) (Nat.le_of_ble_eq_true rfl) (Nat.le_of_ble_eq_true rfl) d_X2_init_7 (fun k0h => ?_)
  refine Z.at (pc' := 9) (st' := [.ref k0h, .ref k0]) (ws' := [(k0, ob 2 [.int 0, .null, .null, .null, .null, .int 0, .int 0]), (k0h, aI G 16 (fun _ => 0))]) (kc' := 1) (ks' := 16) rfl rfl rfl rfl rfl ?_
  refine z_put X fl_2_9 d_X2_init_9 0 rfl (ty := (.array .int)) (T := TX2) (N := 7) rfl (Or.inr ⟨rfl, rfl, rfl⟩) (by decide +kernel) rfl (by rfl) (Nat.le_of_ble_eq_true rfl) (ws' := [(k0, ob 2 [.int 0, .ref k0h, .null, .null, .null, .int 0, .int 0]), (k0h, aI G 16 (fun _ => 0))]) rfl ?_
  refine z_run X bb_X2_init_12_15 bk_X2_init_12_15 (lv' := [(0, .ref k0)]) (st' := [.int 8, .ref k0]) rfl ?_
  refine z_newa X (atype := .int) (ty := .int) ac_0 rfl (Or.inl rfl) 0 (n := 8) (N' := 8) (a0 := (8, .inl (fun _ => 0))) rfl (fun _ => rfl) (by decide) rfl (Nat.le_of_ble_eq_true rfl) (Nat.le_of_ble_eq_true rfl) (Nat.le_of_ble_eq_true rfl) d_X2_init_15 (fun k0t => ?_)
  refine Z.at (pc' := 17) (st' := [.ref k0t, .ref k0]) (ws' := [(k0, ob 2 [.int 0, .ref k0h, .null, .null, .null, .int 0, .int 0]), (k0h, aI G 16 (fun _ => 0)), (k0t, aI G 8 (fun _ => 0))]) (kc' := 2) (ks' := 24) rfl rfl rfl rfl rfl ?_
  refine z_put X fl_2_15 d_X2_init_17 0 rfl (ty := (.array .int)) (T := TX2) (N := 7) rfl (Or.inr ⟨rfl, rfl, rfl⟩) (by decide +kernel) rfl (by rfl) (Nat.le_of_ble_eq_true rfl) (ws' := [(k0, ob 2 [.int 0, .ref k0h, .ref k0t, .null, .null, .int 0, .int 0]), (k0h, aI G 16 (fun _ => 0)), (k0t, aI G 8 (fun _ => 0))]) rfl ?_
  refine z_run X bb_X2_init_20_21 bk_X2_init_20_21 (lv' := [(0, .ref k0)]) (st' := [.ref k0]) rfl ?_
  refine z_new X (T := TX7) (N := 6) (ci := 7) rfl wsb_7 tyX7 tyX7_ok cl_2_18 is_7 in_7 (fs := [.int 0, .null, .null, .null, .null, .null]) (by decide) (Nat.le_of_ble_eq_true rfl) (Nat.le_of_ble_eq_true rfl) d_X2_init_21 (fun k0a => ?_)
  refine Z.at (pc' := 24) (st' := [.ref k0a, .ref k0]) (ws' := [(k0, ob 2 [.int 0, .ref k0h, .ref k0t, .null, .null, .int 0, .int 0]), (k0h, aI G 16 (fun _ => 0)), (k0t, aI G 8 (fun _ => 0)), (k0a, ob 7 [.int 0, .null, .null, .null, .null, .null])]) (kc' := 3) (ks' := 30) rfl rfl rfl rfl rfl ?_
  refine z_run X bb_X2_init_24_25 bk_X2_init_24_25 (lv' := [(0, .ref k0)]) (st' := [.ref k0a, .ref k0a, .ref k0]) rfl ?_
  refine z_callIN X k_2_20 (c_X7_init l G k0a) d_X2_init_25 ⟨Nat.le_of_ble_eq_true rfl, Nat.le_of_ble_eq_true rfl⟩ ⟨Nat.le_of_ble_eq_true rfl, Nat.le_of_ble_eq_true rfl⟩ rfl (rest := [.ref k0a, .ref k0]) (As := []) rfl (Nat.le_of_ble_eq_true rfl) [3] [0, 1, 2] rfl (by decide) (wr := [(k0, ob 2 [.int 0, .ref k0h, .ref k0t, .null, .null, .int 0, .int 0]), (k0h, aI G 16 (fun _ => 0)), (k0t, aI G 8 (fun _ => 0))]) rfl (by decide) (by decide) ?_
  rintro _ _ ⟨sf_1, so_2, sa_3, sx_4, sy_5, rfl, rfl⟩
  refine Z.at (pc' := 28) (st' := [.ref k0a, .ref k0]) (ws' := [(k0, ob 2 [.int 0, .ref k0h, .ref k0t, .null, .null, .int 0, .int 0]), (k0h, aI G 16 (fun _ => 0)), (k0t, aI G 8 (fun _ => 0)), (k0a, ob 7 [.int 0, .ref sf_1, .ref so_2, .ref sa_3, .ref sx_4, .ref sy_5]), (sf_1, aI G 6 (fun _ => 0)), (so_2, aI G 6 (fun _ => 0)), (sa_3, aZ G 6 (fun _ => 0)), (sx_4, aI G 6 (fun _ => 0)), (sy_5, aI G 6 (fun _ => 0))]) (kc' := 8) (ks' := 60) rfl rfl rfl rfl rfl ?_
  refine z_put X fl_2_21 d_X2_init_28 0 rfl (ty := (.object "StoneThatShakes$Speeds")) (T := TX2) (N := 7) rfl (Or.inr ⟨rfl, rfl, rfl⟩) (by decide +kernel) rfl (by rfl) (Nat.le_of_ble_eq_true rfl) (ws' := [(k0, ob 2 [.int 0, .ref k0h, .ref k0t, .ref k0a, .null, .int 0, .int 0]), (k0h, aI G 16 (fun _ => 0)), (k0t, aI G 8 (fun _ => 0)), (k0a, ob 7 [.int 0, .ref sf_1, .ref so_2, .ref sa_3, .ref sx_4, .ref sy_5]), (sf_1, aI G 6 (fun _ => 0)), (so_2, aI G 6 (fun _ => 0)), (sa_3, aZ G 6 (fun _ => 0)), (sx_4, aI G 6 (fun _ => 0)), (sy_5, aI G 6 (fun _ => 0))]) rfl ?_
  refine z_run X bb_X2_init_31_32 bk_X2_init_31_32 (lv' := [(0, .ref k0)]) (st' := [.ref k0]) rfl ?_
  refine z_new X (T := TX9) (N := 10) (ci := 9) rfl wsb_9 tyX9 tyX9_ok cl_2_25 is_9 in_9 (fs := [.int 0, .null, .null, .null, .null, .null, .null, .null, .null, .null]) (by decide) (Nat.le_of_ble_eq_true rfl) (Nat.le_of_ble_eq_true rfl) d_X2_init_32 (fun k0r => ?_)
  refine Z.at (pc' := 35) (st' := [.ref k0r, .ref k0]) (ws' := [(k0, ob 2 [.int 0, .ref k0h, .ref k0t, .ref k0a, .null, .int 0, .int 0]), (k0h, aI G 16 (fun _ => 0)), (k0t, aI G 8 (fun _ => 0)), (k0a, ob 7 [.int 0, .ref sf_1, .ref so_2, .ref sa_3, .ref sx_4, .ref sy_5]), (sf_1, aI G 6 (fun _ => 0)), (so_2, aI G 6 (fun _ => 0)), (sa_3, aZ G 6 (fun _ => 0)), (sx_4, aI G 6 (fun _ => 0)), (sy_5, aI G 6 (fun _ => 0)), (k0r, ob 9 [.int 0, .null, .null, .null, .null, .null, .null, .null, .null, .null])]) (kc' := 9) (ks' := 70) rfl rfl rfl rfl rfl ?_
  refine z_run X bb_X2_init_35_36 bk_X2_init_35_36 (lv' := [(0, .ref k0)]) (st' := [.ref k0r, .ref k0r, .ref k0]) rfl ?_
  refine z_callIN X k_2_27 (c_X9_init l G k0r) d_X2_init_36 ⟨Nat.le_of_ble_eq_true rfl, Nat.le_of_ble_eq_true rfl⟩ ⟨Nat.le_of_ble_eq_true rfl, Nat.le_of_ble_eq_true rfl⟩ rfl (rest := [.ref k0r, .ref k0]) (As := []) rfl (Nat.le_of_ble_eq_true rfl) [9] [0, 1, 2, 3, 4, 5, 6, 7, 8] rfl (by decide) (wr := [(k0, ob 2 [.int 0, .ref k0h, .ref k0t, .ref k0a, .null, .int 0, .int 0]), (k0h, aI G 16 (fun _ => 0)), (k0t, aI G 8 (fun _ => 0)), (k0a, ob 7 [.int 0, .ref sf_1, .ref so_2, .ref sa_3, .ref sx_4, .ref sy_5]), (sf_1, aI G 6 (fun _ => 0)), (so_2, aI G 6 (fun _ => 0)), (sa_3, aZ G 6 (fun _ => 0)), (sx_4, aI G 6 (fun _ => 0)), (sy_5, aI G 6 (fun _ => 0))]) rfl (by decide) (by decide) ?_
  rintro _ _ ⟨ts_6, tw_7, tf_8, te_9, tg_10, tl_11, tc_12, tx_13, ty_14, rfl, rfl⟩
  refine Z.at (pc' := 39) (st' := [.ref k0r, .ref k0]) (ws' := [(k0, ob 2 [.int 0, .ref k0h, .ref k0t, .ref k0a, .null, .int 0, .int 0]), (k0h, aI G 16 (fun _ => 0)), (k0t, aI G 8 (fun _ => 0)), (k0a, ob 7 [.int 0, .ref sf_1, .ref so_2, .ref sa_3, .ref sx_4, .ref sy_5]), (sf_1, aI G 6 (fun _ => 0)), (so_2, aI G 6 (fun _ => 0)), (sa_3, aZ G 6 (fun _ => 0)), (sx_4, aI G 6 (fun _ => 0)), (sy_5, aI G 6 (fun _ => 0)), (k0r, ob 9 [.int 0, .ref ts_6, .ref tw_7, .ref tf_8, .ref te_9, .ref tg_10, .ref tl_11, .ref tc_12, .ref tx_13, .ref ty_14]), (ts_6, aI G 12 (fun _ => 0)), (tw_7, aZ G 12 (fun _ => 0)), (tf_8, aI G 12 (fun _ => 0)), (te_9, aI G 12 (fun _ => 0)), (tg_10, aI G 12 (fun _ => 0)), (tl_11, aI G 48 (fun _ => 0)), (tc_12, aI G 12 (fun _ => 0)), (tx_13, aI G 12 (fun _ => 0)), (ty_14, aI G 12 (fun _ => 0))]) (kc' := 18) (ks' := 214) rfl rfl rfl rfl rfl ?_
  refine z_put X fl_2_28 d_X2_init_39 0 rfl (ty := (.object "StoneThatShakes$Trials")) (T := TX2) (N := 7) rfl (Or.inr ⟨rfl, rfl, rfl⟩) (by decide +kernel) rfl (by rfl) (Nat.le_of_ble_eq_true rfl) (ws' := [(k0, ob 2 [.int 0, .ref k0h, .ref k0t, .ref k0a, .ref k0r, .int 0, .int 0]), (k0h, aI G 16 (fun _ => 0)), (k0t, aI G 8 (fun _ => 0)), (k0a, ob 7 [.int 0, .ref sf_1, .ref so_2, .ref sa_3, .ref sx_4, .ref sy_5]), (sf_1, aI G 6 (fun _ => 0)), (so_2, aI G 6 (fun _ => 0)), (sa_3, aZ G 6 (fun _ => 0)), (sx_4, aI G 6 (fun _ => 0)), (sy_5, aI G 6 (fun _ => 0)), (k0r, ob 9 [.int 0, .ref ts_6, .ref tw_7, .ref tf_8, .ref te_9, .ref tg_10, .ref tl_11, .ref tc_12, .ref tx_13, .ref ty_14]), (ts_6, aI G 12 (fun _ => 0)), (tw_7, aZ G 12 (fun _ => 0)), (tf_8, aI G 12 (fun _ => 0)), (te_9, aI G 12 (fun _ => 0)), (tg_10, aI G 12 (fun _ => 0)), (tl_11, aI G 48 (fun _ => 0)), (tc_12, aI G 12 (fun _ => 0)), (tx_13, aI G 12 (fun _ => 0)), (ty_14, aI G 12 (fun _ => 0))]) rfl ?_
  exact z_vret X rfl d_X2_init_42 (Nat.le_of_ble_eq_true rfl) (Nat.le_of_ble_eq_true rfl) ⟨k0h, k0t, k0a, k0r, sf_1, so_2, sa_3, sx_4, sy_5, ts_6, tw_7, tf_8, te_9, tg_10, tl_11, tc_12, tx_13, ty_14, rfl, rfl⟩

