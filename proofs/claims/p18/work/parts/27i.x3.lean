theorem d_X3_init_1 : decode cX3_init 1 = .ok (.invokespecial 3, 3) := by decide +kernel
theorem d_X3_init_7 : decode cX3_init 7 = .ok (.newarray .int, 2) := by decide +kernel
theorem d_X3_init_9 : decode cX3_init 9 = .ok (.putfield 9, 3) := by decide +kernel
theorem d_X3_init_16 : decode cX3_init 16 = .ok (.newarray .int, 2) := by decide +kernel
theorem d_X3_init_18 : decode cX3_init 18 = .ok (.putfield 15, 3) := by decide +kernel
theorem d_X3_init_24 : decode cX3_init 24 = .ok (.newarray .long, 2) := by decide +kernel
theorem d_X3_init_26 : decode cX3_init 26 = .ok (.putfield 18, 3) := by decide +kernel
theorem d_X3_init_32 : decode cX3_init 32 = .ok (.newarray .long, 2) := by decide +kernel
theorem d_X3_init_34 : decode cX3_init 34 = .ok (.putfield 22, 3) := by decide +kernel
theorem d_X3_init_38 : decode cX3_init 38 = .ok (.ldc 25, 2) := by decide +kernel
theorem d_X3_init_40 : decode cX3_init 40 = .ok (.newarray .long, 2) := by decide +kernel
theorem d_X3_init_42 : decode cX3_init 42 = .ok (.putfield 26, 3) := by decide +kernel
theorem d_X3_init_46 : decode cX3_init 46 = .ok (.ldc 25, 2) := by decide +kernel
theorem d_X3_init_48 : decode cX3_init 48 = .ok (.newarray .int, 2) := by decide +kernel
theorem d_X3_init_50 : decode cX3_init 50 = .ok (.putfield 29, 3) := by decide +kernel
theorem d_X3_init_53 : decode cX3_init 53 = .ok (.return_, 1) := by decide +kernel
abbrev bb_X3_init_0_1 : ZB := [(.aload_n 0, .null)]
theorem bk_X3_init_0_1 : zchk cX3_init bb_X3_init_0_1 0 = true ∧ zpc bb_X3_init_0_1 0 = 1 := ⟨by decide +kernel, rfl⟩
abbrev bb_X3_init_4_7 : ZB := [(.aload_n 0, .null), (.bipush 6, .int 6)]
theorem bk_X3_init_4_7 : zchk cX3_init bb_X3_init_4_7 4 = true ∧ zpc bb_X3_init_4_7 4 = 7 := ⟨by decide +kernel, rfl⟩
abbrev bb_X3_init_12_16 : ZB := [(.aload_n 0, .null), (.sipush 14641, .int 14641)]
theorem bk_X3_init_12_16 : zchk cX3_init bb_X3_init_12_16 12 = true ∧ zpc bb_X3_init_12_16 12 = 16 := ⟨by decide +kernel, rfl⟩
abbrev bb_X3_init_21_24 : ZB := [(.aload_n 0, .null), (.bipush 121, .int 121)]
theorem bk_X3_init_21_24 : zchk cX3_init bb_X3_init_21_24 21 = true ∧ zpc bb_X3_init_21_24 21 = 24 := ⟨by decide +kernel, rfl⟩
abbrev bb_X3_init_29_32 : ZB := [(.aload_n 0, .null), (.bipush 121, .int 121)]
theorem bk_X3_init_29_32 : zchk cX3_init bb_X3_init_29_32 29 = true ∧ zpc bb_X3_init_29_32 29 = 32 := ⟨by decide +kernel, rfl⟩
abbrev bb_X3_init_37_38 : ZB := [(.aload_n 0, .null)]
theorem bk_X3_init_37_38 : zchk cX3_init bb_X3_init_37_38 37 = true ∧ zpc bb_X3_init_37_38 37 = 38 := ⟨by decide +kernel, rfl⟩
abbrev bb_X3_init_45_46 : ZB := [(.aload_n 0, .null)]
theorem bk_X3_init_45_46 : zchk cX3_init bb_X3_init_45_46 45 = true ∧ zpc bb_X3_init_45_46 45 = 46 := ⟨by decide +kernel, rfl⟩
set_option maxHeartbeats 4000000 in
set_option maxRecDepth 100000 in
theorem c_X3_init (l : Launch) (G : KG) (pulls : Nat) : Ct l G yX3_init cX3_init 1 none { frames := 1, cells := 6, slots := 80425, locals := 20 } [.ref pulls] [(pulls, ob 3 [.int 0, .int 0, .int 0, .null, .null, .null, .null, .null, .null])] (fun r w1 => ∃ (pb : Nat), ∃ (pc : Nat), ∃ (px : Nat), ∃ (py : Nat), ∃ (ps : Nat), ∃ (pt : Nat), r = none ∧ w1 = [(pulls, ob 3 [.int 0, .int 0, .int 0, .ref pb, .ref pc, .ref px, .ref py, .ref ps, .ref pt]), (pb, aI G 6 (fun _ => 0)), (pc, aI G 14641 (fun _ => 0)), (px, aJ G 121 (fun _ => 0)), (py, aJ G 121 (fun _ => 0)), (ps, aJ G 32768 (fun _ => 0)), (pt, aI G 32768 (fun _ => 0))]) := by
  refine ct_of [(0, .ref pulls)] (by decide) (Nat.le_of_ble_eq_true rfl) rfl ?_
  intro p0 e0 s0 m0 args0 below0 meth0 c0 A X
  refine z_run X bb_X3_init_0_1 bk_X3_init_0_1 (lv' := [(0, .ref pulls)]) (st' := [.ref pulls]) rfl ?_
  refine z_objInit X oi_3 oi_m oi_c d_X3_init_1 ⟨Nat.le_of_ble_eq_true rfl, Nat.le_of_ble_eq_true rfl⟩ (Nat.le_of_ble_eq_true rfl) ?_
  refine z_run X bb_X3_init_4_7 bk_X3_init_4_7 (lv' := [(0, .ref pulls)]) (st' := [.int 6, .ref pulls]) rfl ?_
  refine z_newa X (atype := .int) (ty := .int) ac_0 rfl (Or.inl rfl) 0 (n := 6) (N' := 6) (a0 := (6, .inl (fun _ => 0))) rfl (fun _ => rfl) (by decide) rfl (Nat.le_of_ble_eq_true rfl) (Nat.le_of_ble_eq_true rfl) (Nat.le_of_ble_eq_true rfl) d_X3_init_7 (fun pb => ?_)
  refine Z.at (pc' := 9) (st' := [.ref pb, .ref pulls]) (ws' := [(pulls, ob 3 [.int 0, .int 0, .int 0, .null, .null, .null, .null, .null, .null]), (pb, aI G 6 (fun _ => 0))]) (kc' := 1) (ks' := 6) rfl rfl rfl rfl rfl ?_
  refine z_put X fl_3_9 d_X3_init_9 0 rfl (ty := (.array .int)) (T := TX3) (N := 9) rfl (Or.inr ⟨rfl, rfl, rfl⟩) (by decide +kernel) rfl (by rfl) (Nat.le_of_ble_eq_true rfl) (ws' := [(pulls, ob 3 [.int 0, .int 0, .int 0, .ref pb, .null, .null, .null, .null, .null]), (pb, aI G 6 (fun _ => 0))]) rfl ?_
  refine z_run X bb_X3_init_12_16 bk_X3_init_12_16 (lv' := [(0, .ref pulls)]) (st' := [.int 14641, .ref pulls]) rfl ?_
  refine z_newa X (atype := .int) (ty := .int) ac_0 rfl (Or.inl rfl) 0 (n := 14641) (N' := 14641) (a0 := (14641, .inl (fun _ => 0))) rfl (fun _ => rfl) (by decide) rfl (Nat.le_of_ble_eq_true rfl) (Nat.le_of_ble_eq_true rfl) (Nat.le_of_ble_eq_true rfl) d_X3_init_16 (fun pc => ?_)
  refine Z.at (pc' := 18) (st' := [.ref pc, .ref pulls]) (ws' := [(pulls, ob 3 [.int 0, .int 0, .int 0, .ref pb, .null, .null, .null, .null, .null]), (pb, aI G 6 (fun _ => 0)), (pc, aI G 14641 (fun _ => 0))]) (kc' := 2) (ks' := 14647) rfl rfl rfl rfl rfl ?_
  refine z_put X fl_3_15 d_X3_init_18 0 rfl (ty := (.array .int)) (T := TX3) (N := 9) rfl (Or.inr ⟨rfl, rfl, rfl⟩) (by decide +kernel) rfl (by rfl) (Nat.le_of_ble_eq_true rfl) (ws' := [(pulls, ob 3 [.int 0, .int 0, .int 0, .ref pb, .ref pc, .null, .null, .null, .null]), (pb, aI G 6 (fun _ => 0)), (pc, aI G 14641 (fun _ => 0))]) rfl ?_
  refine z_run X bb_X3_init_21_24 bk_X3_init_21_24 (lv' := [(0, .ref pulls)]) (st' := [.int 121, .ref pulls]) rfl ?_
  refine z_newa X (atype := .long) (ty := .long) ac_1 rfl (Or.inr (Or.inl rfl)) 1 (n := 121) (N' := 121) (a0 := (121, .inr (.inl (fun _ => 0)))) rfl (fun _ => rfl) (by decide) rfl (Nat.le_of_ble_eq_true rfl) (Nat.le_of_ble_eq_true rfl) (Nat.le_of_ble_eq_true rfl) d_X3_init_24 (fun px => ?_)
  refine Z.at (pc' := 26) (st' := [.ref px, .ref pulls]) (ws' := [(pulls, ob 3 [.int 0, .int 0, .int 0, .ref pb, .ref pc, .null, .null, .null, .null]), (pb, aI G 6 (fun _ => 0)), (pc, aI G 14641 (fun _ => 0)), (px, aJ G 121 (fun _ => 0))]) (kc' := 3) (ks' := 14768) rfl rfl rfl rfl rfl ?_
  refine z_put X fl_3_18 d_X3_init_26 0 rfl (ty := (.array .long)) (T := TX3) (N := 9) rfl (Or.inr ⟨rfl, rfl, rfl⟩) (by decide +kernel) rfl (by rfl) (Nat.le_of_ble_eq_true rfl) (ws' := [(pulls, ob 3 [.int 0, .int 0, .int 0, .ref pb, .ref pc, .ref px, .null, .null, .null]), (pb, aI G 6 (fun _ => 0)), (pc, aI G 14641 (fun _ => 0)), (px, aJ G 121 (fun _ => 0))]) rfl ?_
  refine z_run X bb_X3_init_29_32 bk_X3_init_29_32 (lv' := [(0, .ref pulls)]) (st' := [.int 121, .ref pulls]) rfl ?_
  refine z_newa X (atype := .long) (ty := .long) ac_1 rfl (Or.inr (Or.inl rfl)) 1 (n := 121) (N' := 121) (a0 := (121, .inr (.inl (fun _ => 0)))) rfl (fun _ => rfl) (by decide) rfl (Nat.le_of_ble_eq_true rfl) (Nat.le_of_ble_eq_true rfl) (Nat.le_of_ble_eq_true rfl) d_X3_init_32 (fun py => ?_)
  refine Z.at (pc' := 34) (st' := [.ref py, .ref pulls]) (ws' := [(pulls, ob 3 [.int 0, .int 0, .int 0, .ref pb, .ref pc, .ref px, .null, .null, .null]), (pb, aI G 6 (fun _ => 0)), (pc, aI G 14641 (fun _ => 0)), (px, aJ G 121 (fun _ => 0)), (py, aJ G 121 (fun _ => 0))]) (kc' := 4) (ks' := 14889) rfl rfl rfl rfl rfl ?_
  refine z_put X fl_3_22 d_X3_init_34 0 rfl (ty := (.array .long)) (T := TX3) (N := 9) rfl (Or.inr ⟨rfl, rfl, rfl⟩) (by decide +kernel) rfl (by rfl) (Nat.le_of_ble_eq_true rfl) (ws' := [(pulls, ob 3 [.int 0, .int 0, .int 0, .ref pb, .ref pc, .ref px, .ref py, .null, .null]), (pb, aI G 6 (fun _ => 0)), (pc, aI G 14641 (fun _ => 0)), (px, aJ G 121 (fun _ => 0)), (py, aJ G 121 (fun _ => 0))]) rfl ?_
  refine z_run X bb_X3_init_37_38 bk_X3_init_37_38 (lv' := [(0, .ref pulls)]) (st' := [.ref pulls]) rfl ?_
  refine z_ldc X d_X3_init_38 cn_3_25 ?_
  refine z_newa X (atype := .long) (ty := .long) ac_1 rfl (Or.inr (Or.inl rfl)) 1 (n := 32768) (N' := 32768) (a0 := (32768, .inr (.inl (fun _ => 0)))) rfl (fun _ => rfl) (by decide) rfl (Nat.le_of_ble_eq_true rfl) (Nat.le_of_ble_eq_true rfl) (Nat.le_of_ble_eq_true rfl) d_X3_init_40 (fun ps => ?_)
  refine Z.at (pc' := 42) (st' := [.ref ps, .ref pulls]) (ws' := [(pulls, ob 3 [.int 0, .int 0, .int 0, .ref pb, .ref pc, .ref px, .ref py, .null, .null]), (pb, aI G 6 (fun _ => 0)), (pc, aI G 14641 (fun _ => 0)), (px, aJ G 121 (fun _ => 0)), (py, aJ G 121 (fun _ => 0)), (ps, aJ G 32768 (fun _ => 0))]) (kc' := 5) (ks' := 47657) rfl rfl rfl rfl rfl ?_
  refine z_put X fl_3_26 d_X3_init_42 0 rfl (ty := (.array .long)) (T := TX3) (N := 9) rfl (Or.inr ⟨rfl, rfl, rfl⟩) (by decide +kernel) rfl (by rfl) (Nat.le_of_ble_eq_true rfl) (ws' := [(pulls, ob 3 [.int 0, .int 0, .int 0, .ref pb, .ref pc, .ref px, .ref py, .ref ps, .null]), (pb, aI G 6 (fun _ => 0)), (pc, aI G 14641 (fun _ => 0)), (px, aJ G 121 (fun _ => 0)), (py, aJ G 121 (fun _ => 0)), (ps, aJ G 32768 (fun _ => 0))]) rfl ?_
  refine z_run X bb_X3_init_45_46 bk_X3_init_45_46 (lv' := [(0, .ref pulls)]) (st' := [.ref pulls]) rfl ?_
  refine z_ldc X d_X3_init_46 cn_3_25 ?_
  refine z_newa X (atype := .int) (ty := .int) ac_0 rfl (Or.inl rfl) 0 (n := 32768) (N' := 32768) (a0 := (32768, .inl (fun _ => 0))) rfl (fun _ => rfl) (by decide) rfl (Nat.le_of_ble_eq_true rfl) (Nat.le_of_ble_eq_true rfl) (Nat.le_of_ble_eq_true rfl) d_X3_init_48 (fun pt => ?_)
  refine Z.at (pc' := 50) (st' := [.ref pt, .ref pulls]) (ws' := [(pulls, ob 3 [.int 0, .int 0, .int 0, .ref pb, .ref pc, .ref px, .ref py, .ref ps, .null]), (pb, aI G 6 (fun _ => 0)), (pc, aI G 14641 (fun _ => 0)), (px, aJ G 121 (fun _ => 0)), (py, aJ G 121 (fun _ => 0)), (ps, aJ G 32768 (fun _ => 0)), (pt, aI G 32768 (fun _ => 0))]) (kc' := 6) (ks' := 80425) rfl rfl rfl rfl rfl ?_
  refine z_put X fl_3_29 d_X3_init_50 0 rfl (ty := (.array .int)) (T := TX3) (N := 9) rfl (Or.inr ⟨rfl, rfl, rfl⟩) (by decide +kernel) rfl (by rfl) (Nat.le_of_ble_eq_true rfl) (ws' := [(pulls, ob 3 [.int 0, .int 0, .int 0, .ref pb, .ref pc, .ref px, .ref py, .ref ps, .ref pt]), (pb, aI G 6 (fun _ => 0)), (pc, aI G 14641 (fun _ => 0)), (px, aJ G 121 (fun _ => 0)), (py, aJ G 121 (fun _ => 0)), (ps, aJ G 32768 (fun _ => 0)), (pt, aI G 32768 (fun _ => 0))]) rfl ?_
  exact z_vret X rfl d_X3_init_53 (Nat.le_of_ble_eq_true rfl) (Nat.le_of_ble_eq_true rfl) ⟨pb, pc, px, py, ps, pt, rfl, rfl⟩

