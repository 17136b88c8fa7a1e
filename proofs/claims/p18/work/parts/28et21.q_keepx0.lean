/-! copies, store, bringBack of the class -/
theorem dx_X10_copy_4 : decode cX10_copy 4 = .ok (.arraylength, 1) := by decide +kernel
theorem dx_X10_copy_5 : decode cX10_copy 5 = .ok (.if_icmp .ge 21, 3) := by decide +kernel
theorem dx_X10_copy_26 : decode cX10_copy 26 = .ok (.return_, 1) := by decide +kernel
theorem dx_X10_copy_10 : decode cX10_copy 10 = .ok (.arraylength, 1) := by decide +kernel
theorem dx_X10_copy_11 : decode cX10_copy 11 = .ok (.if_icmp .ge 15, 3) := by decide +kernel
theorem dx_X10_copy_18 : decode cX10_copy 18 = .ok (.iaload, 1) := by decide +kernel
theorem dx_X10_copy_19 : decode cX10_copy 19 = .ok (.iastore, 1) := by decide +kernel
theorem dx_X10_copy_23 : decode cX10_copy 23 = .ok (.goto (-21), 3) := by decide +kernel
abbrev bx_X10_copy_0_2 : ZB := [(.iconst 0, .int 0), (.istore_n 2, .null)]
theorem kx_X10_copy_0_2 : zchk cX10_copy bx_X10_copy_0_2 0 = true ∧ zpc bx_X10_copy_0_2 0 = 2 := ⟨by decide +kernel, rfl⟩
abbrev bx_X10_copy_2_4 : ZB := [(.iload_n 2, .null), (.aload_n 0, .null)]
theorem kx_X10_copy_2_4 : zchk cX10_copy bx_X10_copy_2_4 2 = true ∧ zpc bx_X10_copy_2_4 2 = 4 := ⟨by decide +kernel, rfl⟩
abbrev bx_X10_copy_8_10 : ZB := [(.iload_n 2, .null), (.aload_n 1, .null)]
theorem kx_X10_copy_8_10 : zchk cX10_copy bx_X10_copy_8_10 8 = true ∧ zpc bx_X10_copy_8_10 8 = 10 := ⟨by decide +kernel, rfl⟩
abbrev bx_X10_copy_14_18 : ZB := [(.aload_n 1, .null), (.iload_n 2, .null), (.aload_n 0, .null), (.iload_n 2, .null)]
theorem kx_X10_copy_14_18 : zchk cX10_copy bx_X10_copy_14_18 14 = true ∧ zpc bx_X10_copy_14_18 14 = 18 := ⟨by decide +kernel, rfl⟩
abbrev bx_X10_copy_20_23 : ZB := [(.iinc 2 1, .int 1)]
theorem kx_X10_copy_20_23 : zchk cX10_copy bx_X10_copy_20_23 20 = true ∧ zpc bx_X10_copy_20_23 20 = 23 := ⟨by decide +kernel, rfl⟩
set_option maxHeartbeats 4000000 in
set_option maxRecDepth 100000 in
theorem cx_X10_copy16 (l : Launch) (G : KG) (ff : Nat) (tt : Nat) (f : Nat → Int32) (g : Nat → Int32) : Ct l G yX10_copy cX10_copy 3 none { frames := 0, cells := 0, slots := 0, locals := 0 } [.ref ff, .ref tt] [(ff, aI G 16 f), (tt, aI G 16 g)] (fun r w1 => ∃ (g2 : Nat → Int32), (∀ j : Nat, j < 16 → g2 j = f j) ∧ r = none ∧ w1 = [(ff, aI G 16 f), (tt, aI G 16 g2)]) := by
  refine ct_of [(0, .ref ff), (1, .ref tt)] (by decide) (Nat.le_of_ble_eq_true rfl) rfl ?_
  intro p0 e0 s0 m0 args0 below0 meth0 c0 A X
  refine z_run X bx_X10_copy_0_2 kx_X10_copy_0_2 (lv' := [(2, .int 0), (0, .ref ff), (1, .ref tt)]) (st' := []) rfl ?_
  refine zloop (σ := Int32 × (Nat → Int32)) (fun z => [(2, .int z.1), (0, .ref ff), (1, .ref tt)]) (fun z => []) (fun z => [(ff, aI G 16 f), (tt, aI G 16 z.2)]) (fun z => (0 ≤ z.1.toInt ∧ z.1.toInt ≤ 16) ∧ (∀ j : Nat, (j : Int) < z.1.toInt → z.2 j = f j)) (fun z => (16 - z.1.toInt).toNat) (0, g) ?_ ?_
  ·
    rintro ⟨i_, g1⟩ ⟨hi, hg⟩ ih2
    dsimp only at *
    refine z_run X bx_X10_copy_2_4 kx_X10_copy_2_4 (lv' := [(2, .int i_), (0, .ref ff), (1, .ref tt)]) (st' := [.ref ff, .int i_]) rfl ?_
    refine z_alen X dx_X10_copy_4 0 0 rfl rfl (v := 16) rfl ?_
    refine zc_ge X dx_X10_copy_5 (tgt := 26) (by decide) (a := i_.toInt) (b := 16) rfl (show (16 : Int32).toInt = 16 from by decide) (fun c5_1 => ?_) (fun c5_1 => ?_)
    ·
      exact z_vret X rfl dx_X10_copy_26 (Nat.le_of_ble_eq_true rfl) (Nat.le_of_ble_eq_true rfl) ⟨g1, (fun j hj => hg j (by omega)), rfl, rfl⟩
    ·
      refine z_run X bx_X10_copy_8_10 kx_X10_copy_8_10 (lv' := [(2, .int i_), (0, .ref ff), (1, .ref tt)]) (st' := [.ref tt, .int i_]) rfl ?_
      refine z_alen X dx_X10_copy_10 1 0 rfl rfl (v := 16) rfl ?_
      refine zc_ge X dx_X10_copy_11 (tgt := 26) (by decide) (a := i_.toInt) (b := 16) rfl (show (16 : Int32).toInt = 16 from by decide) (fun c11_2n => absurd c11_2n (by omega)) (fun c11_2 => ?_)
      refine z_run X bx_X10_copy_14_18 kx_X10_copy_14_18 (lv' := [(2, .int i_), (0, .ref ff), (1, .ref tt)]) (st' := [.int i_, .ref ff, .int i_, .ref tt]) rfl ?_
      refine z_iald X dx_X10_copy_18 0 rfl (vin rfl (by omega) (by omega)) (v := (f i_.toNatClampNeg)) rfl ?_
      refine z_iast X dx_X10_copy_19 1 rfl (vin rfl (by omega) (by omega)) (ws' := [(ff, aI G 16 f), (tt, aI G 16 (upd g1 i_.toNatClampNeg (f i_.toNatClampNeg)))]) rfl ?_
      refine z_run X bx_X10_copy_20_23 kx_X10_copy_20_23 (lv' := [(2, .int (i_ + 1)), (0, .ref ff), (1, .ref tt)]) (st' := []) rfl ?_
      refine z_goto X dx_X10_copy_23 (tgt := 2) (by decide) ?_
      exact ih2 ((i_ + 1), (upd g1 i_.toNatClampNeg (f i_.toNatClampNeg))) ⟨(by dsimp only; have e : (i_ + 1).toInt = i_.toInt + 1 := tI_add rfl (show (1 : Int32).toInt = 1 from by decide) (by omega); omega), (by dsimp only; have e : (i_ + 1).toInt = i_.toInt + 1 := tI_add rfl (show (1 : Int32).toInt = 1 from by decide) (by omega); rw [e]; exact st_step hi.1 hg rfl)⟩ (by dsimp only; have e : (i_ + 1).toInt = i_.toInt + 1 := tI_add rfl (show (1 : Int32).toInt = 1 from by decide) (by omega); omega)
  · exact ⟨(by dsimp only; have e0 : (0 : Int32).toInt = 0 := (by decide); omega), (by dsimp only; have e0 : (0 : Int32).toInt = 0 := (by decide); intro j hj; omega)⟩

set_option maxHeartbeats 4000000 in
set_option maxRecDepth 100000 in
theorem cx_X10_copy8 (l : Launch) (G : KG) (ff : Nat) (tt : Nat) (f : Nat → Int32) (g : Nat → Int32) : Ct l G yX10_copy cX10_copy 3 none { frames := 0, cells := 0, slots := 0, locals := 0 } [.ref ff, .ref tt] [(ff, aI G 8 f), (tt, aI G 8 g)] (fun r w1 => ∃ (g2 : Nat → Int32), (∀ j : Nat, j < 8 → g2 j = f j) ∧ r = none ∧ w1 = [(ff, aI G 8 f), (tt, aI G 8 g2)]) := by
  refine ct_of [(0, .ref ff), (1, .ref tt)] (by decide) (Nat.le_of_ble_eq_true rfl) rfl ?_
  intro p0 e0 s0 m0 args0 below0 meth0 c0 A X
  refine z_run X bx_X10_copy_0_2 kx_X10_copy_0_2 (lv' := [(2, .int 0), (0, .ref ff), (1, .ref tt)]) (st' := []) rfl ?_
  refine zloop (σ := Int32 × (Nat → Int32)) (fun z => [(2, .int z.1), (0, .ref ff), (1, .ref tt)]) (fun z => []) (fun z => [(ff, aI G 8 f), (tt, aI G 8 z.2)]) (fun z => (0 ≤ z.1.toInt ∧ z.1.toInt ≤ 8) ∧ (∀ j : Nat, (j : Int) < z.1.toInt → z.2 j = f j)) (fun z => (8 - z.1.toInt).toNat) (0, g) ?_ ?_
  ·
    rintro ⟨i_, g1⟩ ⟨hi, hg⟩ ih2
    dsimp only at *
    refine z_run X bx_X10_copy_2_4 kx_X10_copy_2_4 (lv' := [(2, .int i_), (0, .ref ff), (1, .ref tt)]) (st' := [.ref ff, .int i_]) rfl ?_
    refine z_alen X dx_X10_copy_4 0 0 rfl rfl (v := 8) rfl ?_
    refine zc_ge X dx_X10_copy_5 (tgt := 26) (by decide) (a := i_.toInt) (b := 8) rfl (show (8 : Int32).toInt = 8 from by decide) (fun c5_1 => ?_) (fun c5_1 => ?_)
    ·
      exact z_vret X rfl dx_X10_copy_26 (Nat.le_of_ble_eq_true rfl) (Nat.le_of_ble_eq_true rfl) ⟨g1, (fun j hj => hg j (by omega)), rfl, rfl⟩
    ·
      refine z_run X bx_X10_copy_8_10 kx_X10_copy_8_10 (lv' := [(2, .int i_), (0, .ref ff), (1, .ref tt)]) (st' := [.ref tt, .int i_]) rfl ?_
      refine z_alen X dx_X10_copy_10 1 0 rfl rfl (v := 8) rfl ?_
      refine zc_ge X dx_X10_copy_11 (tgt := 26) (by decide) (a := i_.toInt) (b := 8) rfl (show (8 : Int32).toInt = 8 from by decide) (fun c11_2n => absurd c11_2n (by omega)) (fun c11_2 => ?_)
      refine z_run X bx_X10_copy_14_18 kx_X10_copy_14_18 (lv' := [(2, .int i_), (0, .ref ff), (1, .ref tt)]) (st' := [.int i_, .ref ff, .int i_, .ref tt]) rfl ?_
      refine z_iald X dx_X10_copy_18 0 rfl (vin rfl (by omega) (by omega)) (v := (f i_.toNatClampNeg)) rfl ?_
      refine z_iast X dx_X10_copy_19 1 rfl (vin rfl (by omega) (by omega)) (ws' := [(ff, aI G 8 f), (tt, aI G 8 (upd g1 i_.toNatClampNeg (f i_.toNatClampNeg)))]) rfl ?_
      refine z_run X bx_X10_copy_20_23 kx_X10_copy_20_23 (lv' := [(2, .int (i_ + 1)), (0, .ref ff), (1, .ref tt)]) (st' := []) rfl ?_
      refine z_goto X dx_X10_copy_23 (tgt := 2) (by decide) ?_
      exact ih2 ((i_ + 1), (upd g1 i_.toNatClampNeg (f i_.toNatClampNeg))) ⟨(by dsimp only; have e : (i_ + 1).toInt = i_.toInt + 1 := tI_add rfl (show (1 : Int32).toInt = 1 from by decide) (by omega); omega), (by dsimp only; have e : (i_ + 1).toInt = i_.toInt + 1 := tI_add rfl (show (1 : Int32).toInt = 1 from by decide) (by omega); rw [e]; exact st_step hi.1 hg rfl)⟩ (by dsimp only; have e : (i_ + 1).toInt = i_.toInt + 1 := tI_add rfl (show (1 : Int32).toInt = 1 from by decide) (by omega); omega)
  · exact ⟨(by dsimp only; have e0 : (0 : Int32).toInt = 0 := (by decide); omega), (by dsimp only; have e0 : (0 : Int32).toInt = 0 := (by decide); intro j hj; omega)⟩

set_option maxHeartbeats 4000000 in
set_option maxRecDepth 100000 in
theorem cx_X10_copy6 (l : Launch) (G : KG) (ff : Nat) (tt : Nat) (f : Nat → Int32) (g : Nat → Int32) : Ct l G yX10_copy cX10_copy 3 none { frames := 0, cells := 0, slots := 0, locals := 0 } [.ref ff, .ref tt] [(ff, aI G 6 f), (tt, aI G 6 g)] (fun r w1 => ∃ (g2 : Nat → Int32), (∀ j : Nat, j < 6 → g2 j = f j) ∧ r = none ∧ w1 = [(ff, aI G 6 f), (tt, aI G 6 g2)]) := by
  refine ct_of [(0, .ref ff), (1, .ref tt)] (by decide) (Nat.le_of_ble_eq_true rfl) rfl ?_
  intro p0 e0 s0 m0 args0 below0 meth0 c0 A X
  refine z_run X bx_X10_copy_0_2 kx_X10_copy_0_2 (lv' := [(2, .int 0), (0, .ref ff), (1, .ref tt)]) (st' := []) rfl ?_
  refine zloop (σ := Int32 × (Nat → Int32)) (fun z => [(2, .int z.1), (0, .ref ff), (1, .ref tt)]) (fun z => []) (fun z => [(ff, aI G 6 f), (tt, aI G 6 z.2)]) (fun z => (0 ≤ z.1.toInt ∧ z.1.toInt ≤ 6) ∧ (∀ j : Nat, (j : Int) < z.1.toInt → z.2 j = f j)) (fun z => (6 - z.1.toInt).toNat) (0, g) ?_ ?_
  ·
    rintro ⟨i_, g1⟩ ⟨hi, hg⟩ ih2
    dsimp only at *
    refine z_run X bx_X10_copy_2_4 kx_X10_copy_2_4 (lv' := [(2, .int i_), (0, .ref ff), (1, .ref tt)]) (st' := [.ref ff, .int i_]) rfl ?_
    refine z_alen X dx_X10_copy_4 0 0 rfl rfl (v := 6) rfl ?_
    refine zc_ge X dx_X10_copy_5 (tgt := 26) (by decide) (a := i_.toInt) (b := 6) rfl (show (6 : Int32).toInt = 6 from by decide) (fun c5_1 => ?_) (fun c5_1 => ?_)
    ·
      exact z_vret X rfl dx_X10_copy_26 (Nat.le_of_ble_eq_true rfl) (Nat.le_of_ble_eq_true rfl) ⟨g1, (fun j hj => hg j (by omega)), rfl, rfl⟩
    ·
      refine z_run X bx_X10_copy_8_10 kx_X10_copy_8_10 (lv' := [(2, .int i_), (0, .ref ff), (1, .ref tt)]) (st' := [.ref tt, .int i_]) rfl ?_
      refine z_alen X dx_X10_copy_10 1 0 rfl rfl (v := 6) rfl ?_
      refine zc_ge X dx_X10_copy_11 (tgt := 26) (by decide) (a := i_.toInt) (b := 6) rfl (show (6 : Int32).toInt = 6 from by decide) (fun c11_2n => absurd c11_2n (by omega)) (fun c11_2 => ?_)
      refine z_run X bx_X10_copy_14_18 kx_X10_copy_14_18 (lv' := [(2, .int i_), (0, .ref ff), (1, .ref tt)]) (st' := [.int i_, .ref ff, .int i_, .ref tt]) rfl ?_
      refine z_iald X dx_X10_copy_18 0 rfl (vin rfl (by omega) (by omega)) (v := (f i_.toNatClampNeg)) rfl ?_
      refine z_iast X dx_X10_copy_19 1 rfl (vin rfl (by omega) (by omega)) (ws' := [(ff, aI G 6 f), (tt, aI G 6 (upd g1 i_.toNatClampNeg (f i_.toNatClampNeg)))]) rfl ?_
      refine z_run X bx_X10_copy_20_23 kx_X10_copy_20_23 (lv' := [(2, .int (i_ + 1)), (0, .ref ff), (1, .ref tt)]) (st' := []) rfl ?_
      refine z_goto X dx_X10_copy_23 (tgt := 2) (by decide) ?_
      exact ih2 ((i_ + 1), (upd g1 i_.toNatClampNeg (f i_.toNatClampNeg))) ⟨(by dsimp only; have e : (i_ + 1).toInt = i_.toInt + 1 := tI_add rfl (show (1 : Int32).toInt = 1 from by decide) (by omega); omega), (by dsimp only; have e : (i_ + 1).toInt = i_.toInt + 1 := tI_add rfl (show (1 : Int32).toInt = 1 from by decide) (by omega); rw [e]; exact st_step hi.1 hg rfl)⟩ (by dsimp only; have e : (i_ + 1).toInt = i_.toInt + 1 := tI_add rfl (show (1 : Int32).toInt = 1 from by decide) (by omega); omega)
  · exact ⟨(by dsimp only; have e0 : (0 : Int32).toInt = 0 := (by decide); omega), (by dsimp only; have e0 : (0 : Int32).toInt = 0 := (by decide); intro j hj; omega)⟩

set_option maxHeartbeats 4000000 in
set_option maxRecDepth 100000 in
theorem cx_X10_copy12 (l : Launch) (G : KG) (ff : Nat) (tt : Nat) (f : Nat → Int32) (g : Nat → Int32) : Ct l G yX10_copy cX10_copy 3 none { frames := 0, cells := 0, slots := 0, locals := 0 } [.ref ff, .ref tt] [(ff, aI G 12 f), (tt, aI G 12 g)] (fun r w1 => ∃ (g2 : Nat → Int32), (∀ j : Nat, j < 12 → g2 j = f j) ∧ r = none ∧ w1 = [(ff, aI G 12 f), (tt, aI G 12 g2)]) := by
  refine ct_of [(0, .ref ff), (1, .ref tt)] (by decide) (Nat.le_of_ble_eq_true rfl) rfl ?_
  intro p0 e0 s0 m0 args0 below0 meth0 c0 A X
  refine z_run X bx_X10_copy_0_2 kx_X10_copy_0_2 (lv' := [(2, .int 0), (0, .ref ff), (1, .ref tt)]) (st' := []) rfl ?_
  refine zloop (σ := Int32 × (Nat → Int32)) (fun z => [(2, .int z.1), (0, .ref ff), (1, .ref tt)]) (fun z => []) (fun z => [(ff, aI G 12 f), (tt, aI G 12 z.2)]) (fun z => (0 ≤ z.1.toInt ∧ z.1.toInt ≤ 12) ∧ (∀ j : Nat, (j : Int) < z.1.toInt → z.2 j = f j)) (fun z => (12 - z.1.toInt).toNat) (0, g) ?_ ?_
  ·
    rintro ⟨i_, g1⟩ ⟨hi, hg⟩ ih2
    dsimp only at *
    refine z_run X bx_X10_copy_2_4 kx_X10_copy_2_4 (lv' := [(2, .int i_), (0, .ref ff), (1, .ref tt)]) (st' := [.ref ff, .int i_]) rfl ?_
    refine z_alen X dx_X10_copy_4 0 0 rfl rfl (v := 12) rfl ?_
    refine zc_ge X dx_X10_copy_5 (tgt := 26) (by decide) (a := i_.toInt) (b := 12) rfl (show (12 : Int32).toInt = 12 from by decide) (fun c5_1 => ?_) (fun c5_1 => ?_)
    ·
      exact z_vret X rfl dx_X10_copy_26 (Nat.le_of_ble_eq_true rfl) (Nat.le_of_ble_eq_true rfl) ⟨g1, (fun j hj => hg j (by omega)), rfl, rfl⟩
    ·
      refine z_run X bx_X10_copy_8_10 kx_X10_copy_8_10 (lv' := [(2, .int i_), (0, .ref ff), (1, .ref tt)]) (st' := [.ref tt, .int i_]) rfl ?_
      refine z_alen X dx_X10_copy_10 1 0 rfl rfl (v := 12) rfl ?_
      refine zc_ge X dx_X10_copy_11 (tgt := 26) (by decide) (a := i_.toInt) (b := 12) rfl (show (12 : Int32).toInt = 12 from by decide) (fun c11_2n => absurd c11_2n (by omega)) (fun c11_2 => ?_)
      refine z_run X bx_X10_copy_14_18 kx_X10_copy_14_18 (lv' := [(2, .int i_), (0, .ref ff), (1, .ref tt)]) (st' := [.int i_, .ref ff, .int i_, .ref tt]) rfl ?_
      refine z_iald X dx_X10_copy_18 0 rfl (vin rfl (by omega) (by omega)) (v := (f i_.toNatClampNeg)) rfl ?_
      refine z_iast X dx_X10_copy_19 1 rfl (vin rfl (by omega) (by omega)) (ws' := [(ff, aI G 12 f), (tt, aI G 12 (upd g1 i_.toNatClampNeg (f i_.toNatClampNeg)))]) rfl ?_
      refine z_run X bx_X10_copy_20_23 kx_X10_copy_20_23 (lv' := [(2, .int (i_ + 1)), (0, .ref ff), (1, .ref tt)]) (st' := []) rfl ?_
      refine z_goto X dx_X10_copy_23 (tgt := 2) (by decide) ?_
      exact ih2 ((i_ + 1), (upd g1 i_.toNatClampNeg (f i_.toNatClampNeg))) ⟨(by dsimp only; have e : (i_ + 1).toInt = i_.toInt + 1 := tI_add rfl (show (1 : Int32).toInt = 1 from by decide) (by omega); omega), (by dsimp only; have e : (i_ + 1).toInt = i_.toInt + 1 := tI_add rfl (show (1 : Int32).toInt = 1 from by decide) (by omega); rw [e]; exact st_step hi.1 hg rfl)⟩ (by dsimp only; have e : (i_ + 1).toInt = i_.toInt + 1 := tI_add rfl (show (1 : Int32).toInt = 1 from by decide) (by omega); omega)
  · exact ⟨(by dsimp only; have e0 : (0 : Int32).toInt = 0 := (by decide); omega), (by dsimp only; have e0 : (0 : Int32).toInt = 0 := (by decide); intro j hj; omega)⟩

set_option maxHeartbeats 4000000 in
set_option maxRecDepth 100000 in
theorem cx_X10_copy48 (l : Launch) (G : KG) (ff : Nat) (tt : Nat) (f : Nat → Int32) (g : Nat → Int32) : Ct l G yX10_copy cX10_copy 3 none { frames := 0, cells := 0, slots := 0, locals := 0 } [.ref ff, .ref tt] [(ff, aI G 48 f), (tt, aI G 48 g)] (fun r w1 => ∃ (g2 : Nat → Int32), (∀ j : Nat, j < 48 → g2 j = f j) ∧ r = none ∧ w1 = [(ff, aI G 48 f), (tt, aI G 48 g2)]) := by
  refine ct_of [(0, .ref ff), (1, .ref tt)] (by decide) (Nat.le_of_ble_eq_true rfl) rfl ?_
  intro p0 e0 s0 m0 args0 below0 meth0 c0 A X
  refine z_run X bx_X10_copy_0_2 kx_X10_copy_0_2 (lv' := [(2, .int 0), (0, .ref ff), (1, .ref tt)]) (st' := []) rfl ?_
  refine zloop (σ := Int32 × (Nat → Int32)) (fun z => [(2, .int z.1), (0, .ref ff), (1, .ref tt)]) (fun z => []) (fun z => [(ff, aI G 48 f), (tt, aI G 48 z.2)]) (fun z => (0 ≤ z.1.toInt ∧ z.1.toInt ≤ 48) ∧ (∀ j : Nat, (j : Int) < z.1.toInt → z.2 j = f j)) (fun z => (48 - z.1.toInt).toNat) (0, g) ?_ ?_
  ·
    rintro ⟨i_, g1⟩ ⟨hi, hg⟩ ih2
    dsimp only at *
    refine z_run X bx_X10_copy_2_4 kx_X10_copy_2_4 (lv' := [(2, .int i_), (0, .ref ff), (1, .ref tt)]) (st' := [.ref ff, .int i_]) rfl ?_
    refine z_alen X dx_X10_copy_4 0 0 rfl rfl (v := 48) rfl ?_
    refine zc_ge X dx_X10_copy_5 (tgt := 26) (by decide) (a := i_.toInt) (b := 48) rfl (show (48 : Int32).toInt = 48 from by decide) (fun c5_1 => ?_) (fun c5_1 => ?_)
    ·
      exact z_vret X rfl dx_X10_copy_26 (Nat.le_of_ble_eq_true rfl) (Nat.le_of_ble_eq_true rfl) ⟨g1, (fun j hj => hg j (by omega)), rfl, rfl⟩
    ·
      refine z_run X bx_X10_copy_8_10 kx_X10_copy_8_10 (lv' := [(2, .int i_), (0, .ref ff), (1, .ref tt)]) (st' := [.ref tt, .int i_]) rfl ?_
      refine z_alen X dx_X10_copy_10 1 0 rfl rfl (v := 48) rfl ?_
      refine zc_ge X dx_X10_copy_11 (tgt := 26) (by decide) (a := i_.toInt) (b := 48) rfl (show (48 : Int32).toInt = 48 from by decide) (fun c11_2n => absurd c11_2n (by omega)) (fun c11_2 => ?_)
      refine z_run X bx_X10_copy_14_18 kx_X10_copy_14_18 (lv' := [(2, .int i_), (0, .ref ff), (1, .ref tt)]) (st' := [.int i_, .ref ff, .int i_, .ref tt]) rfl ?_
      refine z_iald X dx_X10_copy_18 0 rfl (vin rfl (by omega) (by omega)) (v := (f i_.toNatClampNeg)) rfl ?_
      refine z_iast X dx_X10_copy_19 1 rfl (vin rfl (by omega) (by omega)) (ws' := [(ff, aI G 48 f), (tt, aI G 48 (upd g1 i_.toNatClampNeg (f i_.toNatClampNeg)))]) rfl ?_
      refine z_run X bx_X10_copy_20_23 kx_X10_copy_20_23 (lv' := [(2, .int (i_ + 1)), (0, .ref ff), (1, .ref tt)]) (st' := []) rfl ?_
      refine z_goto X dx_X10_copy_23 (tgt := 2) (by decide) ?_
      exact ih2 ((i_ + 1), (upd g1 i_.toNatClampNeg (f i_.toNatClampNeg))) ⟨(by dsimp only; have e : (i_ + 1).toInt = i_.toInt + 1 := tI_add rfl (show (1 : Int32).toInt = 1 from by decide) (by omega); omega), (by dsimp only; have e : (i_ + 1).toInt = i_.toInt + 1 := tI_add rfl (show (1 : Int32).toInt = 1 from by decide) (by omega); rw [e]; exact st_step hi.1 hg rfl)⟩ (by dsimp only; have e : (i_ + 1).toInt = i_.toInt + 1 := tI_add rfl (show (1 : Int32).toInt = 1 from by decide) (by omega); omega)
  · exact ⟨(by dsimp only; have e0 : (0 : Int32).toInt = 0 := (by decide); omega), (by dsimp only; have e0 : (0 : Int32).toInt = 0 := (by decide); intro j hj; omega)⟩

theorem dx_X7_copyApart_1 : decode cX7_copyApart 1 = .ok (.getfield 22, 3) := by decide +kernel
theorem dx_X7_copyApart_5 : decode cX7_copyApart 5 = .ok (.getfield 22, 3) := by decide +kernel
theorem dx_X7_copyApart_8 : decode cX7_copyApart 8 = .ok (.invokestatic 32, 3) := by decide +kernel
theorem dx_X7_copyApart_12 : decode cX7_copyApart 12 = .ok (.getfield 25, 3) := by decide +kernel
theorem dx_X7_copyApart_16 : decode cX7_copyApart 16 = .ok (.getfield 25, 3) := by decide +kernel
theorem dx_X7_copyApart_19 : decode cX7_copyApart 19 = .ok (.invokestatic 32, 3) := by decide +kernel
theorem dx_X7_copyApart_27 : decode cX7_copyApart 27 = .ok (.if_icmp .ge 21, 3) := by decide +kernel
theorem dx_X7_copyApart_48 : decode cX7_copyApart 48 = .ok (.return_, 1) := by decide +kernel
theorem dx_X7_copyApart_31 : decode cX7_copyApart 31 = .ok (.getfield 18, 3) := by decide +kernel
theorem dx_X7_copyApart_36 : decode cX7_copyApart 36 = .ok (.getfield 18, 3) := by decide +kernel
theorem dx_X7_copyApart_40 : decode cX7_copyApart 40 = .ok (.baload, 1) := by decide +kernel
theorem dx_X7_copyApart_41 : decode cX7_copyApart 41 = .ok (.bastore, 1) := by decide +kernel
theorem dx_X7_copyApart_45 : decode cX7_copyApart 45 = .ok (.goto (-21), 3) := by decide +kernel
abbrev bx_X7_copyApart_0_1 : ZB := [(.aload_n 1, .null)]
theorem kx_X7_copyApart_0_1 : zchk cX7_copyApart bx_X7_copyApart_0_1 0 = true ∧ zpc bx_X7_copyApart_0_1 0 = 1 := ⟨by decide +kernel, rfl⟩
abbrev bx_X7_copyApart_4_5 : ZB := [(.aload_n 0, .null)]
theorem kx_X7_copyApart_4_5 : zchk cX7_copyApart bx_X7_copyApart_4_5 4 = true ∧ zpc bx_X7_copyApart_4_5 4 = 5 := ⟨by decide +kernel, rfl⟩
abbrev bx_X7_copyApart_11_12 : ZB := [(.aload_n 1, .null)]
theorem kx_X7_copyApart_11_12 : zchk cX7_copyApart bx_X7_copyApart_11_12 11 = true ∧ zpc bx_X7_copyApart_11_12 11 = 12 := ⟨by decide +kernel, rfl⟩
abbrev bx_X7_copyApart_15_16 : ZB := [(.aload_n 0, .null)]
theorem kx_X7_copyApart_15_16 : zchk cX7_copyApart bx_X7_copyApart_15_16 15 = true ∧ zpc bx_X7_copyApart_15_16 15 = 16 := ⟨by decide +kernel, rfl⟩
abbrev bx_X7_copyApart_22_24 : ZB := [(.iconst 0, .int 0), (.istore_n 2, .null)]
theorem kx_X7_copyApart_22_24 : zchk cX7_copyApart bx_X7_copyApart_22_24 22 = true ∧ zpc bx_X7_copyApart_22_24 22 = 24 := ⟨by decide +kernel, rfl⟩
abbrev bx_X7_copyApart_24_27 : ZB := [(.iload_n 2, .null), (.bipush 6, .int 6)]
theorem kx_X7_copyApart_24_27 : zchk cX7_copyApart bx_X7_copyApart_24_27 24 = true ∧ zpc bx_X7_copyApart_24_27 24 = 27 := ⟨by decide +kernel, rfl⟩
abbrev bx_X7_copyApart_30_31 : ZB := [(.aload_n 0, .null)]
theorem kx_X7_copyApart_30_31 : zchk cX7_copyApart bx_X7_copyApart_30_31 30 = true ∧ zpc bx_X7_copyApart_30_31 30 = 31 := ⟨by decide +kernel, rfl⟩
abbrev bx_X7_copyApart_34_36 : ZB := [(.iload_n 2, .null), (.aload_n 1, .null)]
theorem kx_X7_copyApart_34_36 : zchk cX7_copyApart bx_X7_copyApart_34_36 34 = true ∧ zpc bx_X7_copyApart_34_36 34 = 36 := ⟨by decide +kernel, rfl⟩
abbrev bx_X7_copyApart_39_40 : ZB := [(.iload_n 2, .null)]
theorem kx_X7_copyApart_39_40 : zchk cX7_copyApart bx_X7_copyApart_39_40 39 = true ∧ zpc bx_X7_copyApart_39_40 39 = 40 := ⟨by decide +kernel, rfl⟩
abbrev bx_X7_copyApart_42_45 : ZB := [(.iinc 2 1, .int 1)]
theorem kx_X7_copyApart_42_45 : zchk cX7_copyApart bx_X7_copyApart_42_45 42 = true ∧ zpc bx_X7_copyApart_42_45 42 = 45 := ⟨by decide +kernel, rfl⟩
set_option maxHeartbeats 4000000 in
set_option maxRecDepth 100000 in
theorem cx_X7_copyApart (l : Launch) (G : KG) (dS : Nat) (dS0 : Value) (dS1 : Value) (dS2 : Value) (dA : Nat) (dX : Nat) (dY : Nat) (sS : Nat) (sS0 : Value) (sS1 : Value) (sS2 : Value) (sA : Nat) (sX : Nat) (sY : Nat) (dfA : Nat → Int32) (dfX : Nat → Int32) (dfY : Nat → Int32) (sfA : Nat → Int32) (sfX : Nat → Int32) (sfY : Nat → Int32) : Ct l G yX7_copyApart cX7_copyApart 3 none { frames := 1, cells := 0, slots := 0, locals := 22 } [.ref dS, .ref sS] [(dS, ob 7 [dS0, dS1, dS2, .ref dA, .ref dX, .ref dY]), (sS, ob 7 [sS0, sS1, sS2, .ref sA, .ref sX, .ref sY]), (dA, aZ G 6 dfA), (dX, aI G 6 dfX), (dY, aI G 6 dfY), (sA, aZ G 6 sfA), (sX, aI G 6 sfX), (sY, aI G 6 sfY)] (fun r w1 => ∃ (dfA2 : Nat → Int32), ∃ (dfX2 : Nat → Int32), ∃ (dfY2 : Nat → Int32), (∀ j : Nat, j < 6 → dfX2 j = sfX j) ∧ (∀ j : Nat, j < 6 → dfY2 j = sfY j) ∧ (∀ j : Nat, j < 6 → dfA2 j = vp_nar .boolean (sfA j)) ∧ r = none ∧ w1 = [(dS, ob 7 [dS0, dS1, dS2, .ref dA, .ref dX, .ref dY]), (sS, ob 7 [sS0, sS1, sS2, .ref sA, .ref sX, .ref sY]), (dA, aZ G 6 dfA2), (dX, aI G 6 dfX2), (dY, aI G 6 dfY2), (sA, aZ G 6 sfA), (sX, aI G 6 sfX), (sY, aI G 6 sfY)]) := by
  refine ct_of [(0, .ref dS), (1, .ref sS)] (by decide) (Nat.le_of_ble_eq_true rfl) rfl ?_
  intro p0 e0 s0 m0 args0 below0 meth0 c0 A X
  refine z_run X bx_X7_copyApart_0_1 kx_X7_copyApart_0_1 (lv' := [(0, .ref dS), (1, .ref sS)]) (st' := [.ref sS]) rfl ?_
  refine z_get X fl_7_22 dx_X7_copyApart_1 1 rfl (v := .ref sX) rfl ?_
  refine z_run X bx_X7_copyApart_4_5 kx_X7_copyApart_4_5 (lv' := [(0, .ref dS), (1, .ref sS)]) (st' := [.ref dS, .ref sX]) rfl ?_
  refine z_get X fl_7_22 dx_X7_copyApart_5 0 rfl (v := .ref dX) rfl ?_
  refine z_callSN X k_7_32 (cx_X10_copy6 l G sX dX sfX dfX) dx_X7_copyApart_8 ⟨Nat.le_of_ble_eq_true rfl, Nat.le_of_ble_eq_true rfl⟩ ⟨Nat.le_of_ble_eq_true rfl, Nat.le_of_ble_eq_true rfl⟩ rfl (rest := []) (As := [.ref sX, .ref dX]) rfl (Nat.le_of_ble_eq_true rfl) [6, 3] [0, 1, 2, 4, 5, 7] rfl (by decide) (wr := [(dS, ob 7 [dS0, dS1, dS2, .ref dA, .ref dX, .ref dY]), (sS, ob 7 [sS0, sS1, sS2, .ref sA, .ref sX, .ref sY]), (dA, aZ G 6 dfA), (dY, aI G 6 dfY), (sA, aZ G 6 sfA), (sY, aI G 6 sfY)]) rfl (by decide) (by decide) ?_
  rintro _ _ ⟨g2_1, f8_2, rfl, rfl⟩
  refine Z.at (pc' := 11) (st' := []) (ws' := [(dS, ob 7 [dS0, dS1, dS2, .ref dA, .ref dX, .ref dY]), (sS, ob 7 [sS0, sS1, sS2, .ref sA, .ref sX, .ref sY]), (dA, aZ G 6 dfA), (dY, aI G 6 dfY), (sA, aZ G 6 sfA), (sY, aI G 6 sfY), (sX, aI G 6 sfX), (dX, aI G 6 g2_1)]) (kc' := 0) (ks' := 0) rfl rfl rfl rfl rfl ?_
  refine z_run X bx_X7_copyApart_11_12 kx_X7_copyApart_11_12 (lv' := [(0, .ref dS), (1, .ref sS)]) (st' := [.ref sS]) rfl ?_
  refine z_get X fl_7_25 dx_X7_copyApart_12 1 rfl (v := .ref sY) rfl ?_
  refine z_run X bx_X7_copyApart_15_16 kx_X7_copyApart_15_16 (lv' := [(0, .ref dS), (1, .ref sS)]) (st' := [.ref dS, .ref sY]) rfl ?_
  refine z_get X fl_7_25 dx_X7_copyApart_16 0 rfl (v := .ref dY) rfl ?_
  refine z_callSN X k_7_32 (cx_X10_copy6 l G sY dY sfY dfY) dx_X7_copyApart_19 ⟨Nat.le_of_ble_eq_true rfl, Nat.le_of_ble_eq_true rfl⟩ ⟨Nat.le_of_ble_eq_true rfl, Nat.le_of_ble_eq_true rfl⟩ rfl (rest := []) (As := [.ref sY, .ref dY]) rfl (Nat.le_of_ble_eq_true rfl) [5, 3] [0, 1, 2, 4, 6, 7] rfl (by decide) (wr := [(dS, ob 7 [dS0, dS1, dS2, .ref dA, .ref dX, .ref dY]), (sS, ob 7 [sS0, sS1, sS2, .ref sA, .ref sX, .ref sY]), (dA, aZ G 6 dfA), (sA, aZ G 6 sfA), (sX, aI G 6 sfX), (dX, aI G 6 g2_1)]) rfl (by decide) (by decide) ?_
  rintro _ _ ⟨g2_3, f19_4, rfl, rfl⟩
  refine Z.at (pc' := 22) (st' := []) (ws' := [(dS, ob 7 [dS0, dS1, dS2, .ref dA, .ref dX, .ref dY]), (sS, ob 7 [sS0, sS1, sS2, .ref sA, .ref sX, .ref sY]), (dA, aZ G 6 dfA), (sA, aZ G 6 sfA), (sX, aI G 6 sfX), (dX, aI G 6 g2_1), (sY, aI G 6 sfY), (dY, aI G 6 g2_3)]) (kc' := 0) (ks' := 0) rfl rfl rfl rfl rfl ?_
  refine z_run X bx_X7_copyApart_22_24 kx_X7_copyApart_22_24 (lv' := [(2, .int 0), (0, .ref dS), (1, .ref sS)]) (st' := []) rfl ?_
  refine zloop (σ := Int32 × (Nat → Int32)) (fun z => [(2, .int z.1), (0, .ref dS), (1, .ref sS)]) (fun z => []) (fun z => [(dS, ob 7 [dS0, dS1, dS2, .ref dA, .ref dX, .ref dY]), (sS, ob 7 [sS0, sS1, sS2, .ref sA, .ref sX, .ref sY]), (dA, aZ G 6 z.2), (sA, aZ G 6 sfA), (sX, aI G 6 sfX), (dX, aI G 6 g2_1), (sY, aI G 6 sfY), (dY, aI G 6 g2_3)]) (fun z => (0 ≤ z.1.toInt ∧ z.1.toInt ≤ 6) ∧ (∀ j : Nat, (j : Int) < z.1.toInt → z.2 j = vp_nar .boolean (sfA j))) (fun z => (6 - z.1.toInt).toNat) (0, dfA) ?_ ?_
  ·
    rintro ⟨i_, g1⟩ ⟨hi, hg⟩ ih24
    dsimp only at *
    refine z_run X bx_X7_copyApart_24_27 kx_X7_copyApart_24_27 (lv' := [(2, .int i_), (0, .ref dS), (1, .ref sS)]) (st' := [.int 6, .int i_]) rfl ?_
    refine zc_ge X dx_X7_copyApart_27 (tgt := 48) (by decide) (a := i_.toInt) (b := 6) rfl (show (6 : Int32).toInt = 6 from by decide) (fun c27_5 => ?_) (fun c27_5 => ?_)
    ·
      refine Z.sub (lv' := []) [] rfl [0, 1, 2, 5, 7, 3, 4, 6] (ws' := [(dS, ob 7 [dS0, dS1, dS2, .ref dA, .ref dX, .ref dY]), (sS, ob 7 [sS0, sS1, sS2, .ref sA, .ref sX, .ref sY]), (dA, aZ G 6 g1), (dX, aI G 6 g2_1), (dY, aI G 6 g2_3), (sA, aZ G 6 sfA), (sX, aI G 6 sfX), (sY, aI G 6 sfY)]) rfl (by decide) ?_
      exact z_vret X rfl dx_X7_copyApart_48 (Nat.le_of_ble_eq_true rfl) (Nat.le_of_ble_eq_true rfl) ⟨g1, g2_1, g2_3, f8_2, f19_4, (fun j hj => hg j (by omega)), rfl, rfl⟩
    ·
      refine z_run X bx_X7_copyApart_30_31 kx_X7_copyApart_30_31 (lv' := [(2, .int i_), (0, .ref dS), (1, .ref sS)]) (st' := [.ref dS]) rfl ?_
      refine z_get X fl_7_18 dx_X7_copyApart_31 0 rfl (v := .ref dA) rfl ?_
      refine z_run X bx_X7_copyApart_34_36 kx_X7_copyApart_34_36 (lv' := [(2, .int i_), (0, .ref dS), (1, .ref sS)]) (st' := [.ref sS, .int i_, .ref dA]) rfl ?_
      refine z_get X fl_7_18 dx_X7_copyApart_36 1 rfl (v := .ref sA) rfl ?_
      refine z_run X bx_X7_copyApart_39_40 kx_X7_copyApart_39_40 (lv' := [(2, .int i_), (0, .ref dS), (1, .ref sS)]) (st' := [.int i_, .ref sA, .int i_, .ref dA]) rfl ?_
      refine z_zald X dx_X7_copyApart_40 3 rfl (vin rfl (by omega) (by omega)) (v := (sfA i_.toNatClampNeg)) rfl ?_
      refine z_zast X dx_X7_copyApart_41 2 rfl (vin rfl (by omega) (by omega)) (ws' := [(dS, ob 7 [dS0, dS1, dS2, .ref dA, .ref dX, .ref dY]), (sS, ob 7 [sS0, sS1, sS2, .ref sA, .ref sX, .ref sY]), (dA, aZ G 6 (upd g1 i_.toNatClampNeg (vp_nar .boolean (sfA i_.toNatClampNeg)))), (sA, aZ G 6 sfA), (sX, aI G 6 sfX), (dX, aI G 6 g2_1), (sY, aI G 6 sfY), (dY, aI G 6 g2_3)]) rfl ?_
      refine z_run X bx_X7_copyApart_42_45 kx_X7_copyApart_42_45 (lv' := [(2, .int (i_ + 1)), (0, .ref dS), (1, .ref sS)]) (st' := []) rfl ?_
      refine z_goto X dx_X7_copyApart_45 (tgt := 24) (by decide) ?_
      exact ih24 ((i_ + 1), (upd g1 i_.toNatClampNeg (vp_nar .boolean (sfA i_.toNatClampNeg)))) ⟨(by dsimp only; have e : (i_ + 1).toInt = i_.toInt + 1 := tI_add rfl (show (1 : Int32).toInt = 1 from by decide) (by omega); omega), (by dsimp only; have e : (i_ + 1).toInt = i_.toInt + 1 := tI_add rfl (show (1 : Int32).toInt = 1 from by decide) (by omega); rw [e]; exact st_step (F := fun j => vp_nar .boolean (sfA j)) hi.1 hg rfl)⟩ (by dsimp only; have e : (i_ + 1).toInt = i_.toInt + 1 := tI_add rfl (show (1 : Int32).toInt = 1 from by decide) (by omega); omega)
  · exact ⟨(by dsimp only; have e0 : (0 : Int32).toInt = 0 := (by decide); omega), (by dsimp only; have e0 : (0 : Int32).toInt = 0 := (by decide); intro j hj; omega)⟩

theorem dx_X9_copyTrials_2 : decode cX9_copyTrials 2 = .ok (.getfield 44, 3) := by decide +kernel
theorem dx_X9_copyTrials_5 : decode cX9_copyTrials 5 = .ok (.putfield 44, 3) := by decide +kernel
theorem dx_X9_copyTrials_9 : decode cX9_copyTrials 9 = .ok (.getfield 9, 3) := by decide +kernel
theorem dx_X9_copyTrials_13 : decode cX9_copyTrials 13 = .ok (.getfield 9, 3) := by decide +kernel
theorem dx_X9_copyTrials_16 : decode cX9_copyTrials 16 = .ok (.invokestatic 66, 3) := by decide +kernel
theorem dx_X9_copyTrials_20 : decode cX9_copyTrials 20 = .ok (.getfield 19, 3) := by decide +kernel
theorem dx_X9_copyTrials_24 : decode cX9_copyTrials 24 = .ok (.getfield 19, 3) := by decide +kernel
theorem dx_X9_copyTrials_27 : decode cX9_copyTrials 27 = .ok (.invokestatic 66, 3) := by decide +kernel
theorem dx_X9_copyTrials_31 : decode cX9_copyTrials 31 = .ok (.getfield 22, 3) := by decide +kernel
theorem dx_X9_copyTrials_35 : decode cX9_copyTrials 35 = .ok (.getfield 22, 3) := by decide +kernel
theorem dx_X9_copyTrials_38 : decode cX9_copyTrials 38 = .ok (.invokestatic 66, 3) := by decide +kernel
theorem dx_X9_copyTrials_42 : decode cX9_copyTrials 42 = .ok (.getfield 25, 3) := by decide +kernel
theorem dx_X9_copyTrials_46 : decode cX9_copyTrials 46 = .ok (.getfield 25, 3) := by decide +kernel
theorem dx_X9_copyTrials_49 : decode cX9_copyTrials 49 = .ok (.invokestatic 66, 3) := by decide +kernel
theorem dx_X9_copyTrials_53 : decode cX9_copyTrials 53 = .ok (.getfield 28, 3) := by decide +kernel
theorem dx_X9_copyTrials_57 : decode cX9_copyTrials 57 = .ok (.getfield 28, 3) := by decide +kernel
theorem dx_X9_copyTrials_60 : decode cX9_copyTrials 60 = .ok (.invokestatic 66, 3) := by decide +kernel
theorem dx_X9_copyTrials_68 : decode cX9_copyTrials 68 = .ok (.if_icmp .ge 21, 3) := by decide +kernel
theorem dx_X9_copyTrials_89 : decode cX9_copyTrials 89 = .ok (.return_, 1) := by decide +kernel
theorem dx_X9_copyTrials_72 : decode cX9_copyTrials 72 = .ok (.getfield 15, 3) := by decide +kernel
theorem dx_X9_copyTrials_77 : decode cX9_copyTrials 77 = .ok (.getfield 15, 3) := by decide +kernel
theorem dx_X9_copyTrials_81 : decode cX9_copyTrials 81 = .ok (.baload, 1) := by decide +kernel
theorem dx_X9_copyTrials_82 : decode cX9_copyTrials 82 = .ok (.bastore, 1) := by decide +kernel
theorem dx_X9_copyTrials_86 : decode cX9_copyTrials 86 = .ok (.goto (-21), 3) := by decide +kernel
abbrev bx_X9_copyTrials_0_2 : ZB := [(.aload_n 0, .null), (.aload_n 1, .null)]
theorem kx_X9_copyTrials_0_2 : zchk cX9_copyTrials bx_X9_copyTrials_0_2 0 = true ∧ zpc bx_X9_copyTrials_0_2 0 = 2 := ⟨by decide +kernel, rfl⟩
abbrev bx_X9_copyTrials_8_9 : ZB := [(.aload_n 1, .null)]
theorem kx_X9_copyTrials_8_9 : zchk cX9_copyTrials bx_X9_copyTrials_8_9 8 = true ∧ zpc bx_X9_copyTrials_8_9 8 = 9 := ⟨by decide +kernel, rfl⟩
abbrev bx_X9_copyTrials_12_13 : ZB := [(.aload_n 0, .null)]
theorem kx_X9_copyTrials_12_13 : zchk cX9_copyTrials bx_X9_copyTrials_12_13 12 = true ∧ zpc bx_X9_copyTrials_12_13 12 = 13 := ⟨by decide +kernel, rfl⟩
abbrev bx_X9_copyTrials_19_20 : ZB := [(.aload_n 1, .null)]
theorem kx_X9_copyTrials_19_20 : zchk cX9_copyTrials bx_X9_copyTrials_19_20 19 = true ∧ zpc bx_X9_copyTrials_19_20 19 = 20 := ⟨by decide +kernel, rfl⟩
abbrev bx_X9_copyTrials_23_24 : ZB := [(.aload_n 0, .null)]
theorem kx_X9_copyTrials_23_24 : zchk cX9_copyTrials bx_X9_copyTrials_23_24 23 = true ∧ zpc bx_X9_copyTrials_23_24 23 = 24 := ⟨by decide +kernel, rfl⟩
abbrev bx_X9_copyTrials_30_31 : ZB := [(.aload_n 1, .null)]
theorem kx_X9_copyTrials_30_31 : zchk cX9_copyTrials bx_X9_copyTrials_30_31 30 = true ∧ zpc bx_X9_copyTrials_30_31 30 = 31 := ⟨by decide +kernel, rfl⟩
abbrev bx_X9_copyTrials_34_35 : ZB := [(.aload_n 0, .null)]
theorem kx_X9_copyTrials_34_35 : zchk cX9_copyTrials bx_X9_copyTrials_34_35 34 = true ∧ zpc bx_X9_copyTrials_34_35 34 = 35 := ⟨by decide +kernel, rfl⟩
abbrev bx_X9_copyTrials_41_42 : ZB := [(.aload_n 1, .null)]
theorem kx_X9_copyTrials_41_42 : zchk cX9_copyTrials bx_X9_copyTrials_41_42 41 = true ∧ zpc bx_X9_copyTrials_41_42 41 = 42 := ⟨by decide +kernel, rfl⟩
abbrev bx_X9_copyTrials_45_46 : ZB := [(.aload_n 0, .null)]
theorem kx_X9_copyTrials_45_46 : zchk cX9_copyTrials bx_X9_copyTrials_45_46 45 = true ∧ zpc bx_X9_copyTrials_45_46 45 = 46 := ⟨by decide +kernel, rfl⟩
abbrev bx_X9_copyTrials_52_53 : ZB := [(.aload_n 1, .null)]
theorem kx_X9_copyTrials_52_53 : zchk cX9_copyTrials bx_X9_copyTrials_52_53 52 = true ∧ zpc bx_X9_copyTrials_52_53 52 = 53 := ⟨by decide +kernel, rfl⟩
abbrev bx_X9_copyTrials_56_57 : ZB := [(.aload_n 0, .null)]
theorem kx_X9_copyTrials_56_57 : zchk cX9_copyTrials bx_X9_copyTrials_56_57 56 = true ∧ zpc bx_X9_copyTrials_56_57 56 = 57 := ⟨by decide +kernel, rfl⟩
abbrev bx_X9_copyTrials_63_65 : ZB := [(.iconst 0, .int 0), (.istore_n 2, .null)]
theorem kx_X9_copyTrials_63_65 : zchk cX9_copyTrials bx_X9_copyTrials_63_65 63 = true ∧ zpc bx_X9_copyTrials_63_65 63 = 65 := ⟨by decide +kernel, rfl⟩
abbrev bx_X9_copyTrials_65_68 : ZB := [(.iload_n 2, .null), (.bipush 12, .int 12)]
theorem kx_X9_copyTrials_65_68 : zchk cX9_copyTrials bx_X9_copyTrials_65_68 65 = true ∧ zpc bx_X9_copyTrials_65_68 65 = 68 := ⟨by decide +kernel, rfl⟩
abbrev bx_X9_copyTrials_71_72 : ZB := [(.aload_n 0, .null)]
theorem kx_X9_copyTrials_71_72 : zchk cX9_copyTrials bx_X9_copyTrials_71_72 71 = true ∧ zpc bx_X9_copyTrials_71_72 71 = 72 := ⟨by decide +kernel, rfl⟩
abbrev bx_X9_copyTrials_75_77 : ZB := [(.iload_n 2, .null), (.aload_n 1, .null)]
theorem kx_X9_copyTrials_75_77 : zchk cX9_copyTrials bx_X9_copyTrials_75_77 75 = true ∧ zpc bx_X9_copyTrials_75_77 75 = 77 := ⟨by decide +kernel, rfl⟩
abbrev bx_X9_copyTrials_80_81 : ZB := [(.iload_n 2, .null)]
theorem kx_X9_copyTrials_80_81 : zchk cX9_copyTrials bx_X9_copyTrials_80_81 80 = true ∧ zpc bx_X9_copyTrials_80_81 80 = 81 := ⟨by decide +kernel, rfl⟩
abbrev bx_X9_copyTrials_83_86 : ZB := [(.iinc 2 1, .int 1)]
theorem kx_X9_copyTrials_83_86 : zchk cX9_copyTrials bx_X9_copyTrials_83_86 83 = true ∧ zpc bx_X9_copyTrials_83_86 83 = 86 := ⟨by decide +kernel, rfl⟩
set_option maxHeartbeats 4000000 in
set_option maxRecDepth 100000 in
theorem cx_X9_copyTrials (l : Launch) (G : KG) (dT : Nat) (dc : Int32) (dsp : Nat) (dwh : Nat) (dfi : Nat) (dse : Nat) (dgi : Nat) (dle : Nat) (dT0 : Value) (dT1 : Value) (dT2 : Value) (sT : Nat) (sc : Int32) (ssp : Nat) (swh : Nat) (sfi : Nat) (sse : Nat) (sgi : Nat) (sle : Nat) (sT0 : Value) (sT1 : Value) (sT2 : Value) (dfsp : Nat → Int32) (dfwh : Nat → Int32) (dffi : Nat → Int32) (dfse : Nat → Int32) (dfgi : Nat → Int32) (dfle : Nat → Int32) (sfsp : Nat → Int32) (sfwh : Nat → Int32) (sffi : Nat → Int32) (sfse : Nat → Int32) (sfgi : Nat → Int32) (sfle : Nat → Int32) : Ct l G yX9_copyTrials cX9_copyTrials 3 none { frames := 1, cells := 0, slots := 0, locals := 22 } [.ref dT, .ref sT] [(dT, ob 9 [.int dc, .ref dsp, .ref dwh, .ref dfi, .ref dse, .ref dgi, .ref dle, dT0, dT1, dT2]), (sT, ob 9 [.int sc, .ref ssp, .ref swh, .ref sfi, .ref sse, .ref sgi, .ref sle, sT0, sT1, sT2]), (dsp, aI G 12 dfsp), (dwh, aZ G 12 dfwh), (dfi, aI G 12 dffi), (dse, aI G 12 dfse), (dgi, aI G 12 dfgi), (dle, aI G 48 dfle), (ssp, aI G 12 sfsp), (swh, aZ G 12 sfwh), (sfi, aI G 12 sffi), (sse, aI G 12 sfse), (sgi, aI G 12 sfgi), (sle, aI G 48 sfle)] (fun r w1 => ∃ (dfsp2 : Nat → Int32), ∃ (dfwh2 : Nat → Int32), ∃ (dffi2 : Nat → Int32), ∃ (dfse2 : Nat → Int32), ∃ (dfgi2 : Nat → Int32), ∃ (dfle2 : Nat → Int32), (∀ j : Nat, j < 12 → dfsp2 j = sfsp j) ∧ (∀ j : Nat, j < 12 → dfwh2 j = vp_nar .boolean (sfwh j)) ∧ (∀ j : Nat, j < 12 → dffi2 j = sffi j) ∧ (∀ j : Nat, j < 12 → dfse2 j = sfse j) ∧ (∀ j : Nat, j < 12 → dfgi2 j = sfgi j) ∧ (∀ j : Nat, j < 48 → dfle2 j = sfle j) ∧ r = none ∧ w1 = [(dT, ob 9 [.int sc, .ref dsp, .ref dwh, .ref dfi, .ref dse, .ref dgi, .ref dle, dT0, dT1, dT2]), (sT, ob 9 [.int sc, .ref ssp, .ref swh, .ref sfi, .ref sse, .ref sgi, .ref sle, sT0, sT1, sT2]), (dsp, aI G 12 dfsp2), (dwh, aZ G 12 dfwh2), (dfi, aI G 12 dffi2), (dse, aI G 12 dfse2), (dgi, aI G 12 dfgi2), (dle, aI G 48 dfle2), (ssp, aI G 12 sfsp), (swh, aZ G 12 sfwh), (sfi, aI G 12 sffi), (sse, aI G 12 sfse), (sgi, aI G 12 sfgi), (sle, aI G 48 sfle)]) := by
  refine ct_of [(0, .ref dT), (1, .ref sT)] (by decide) (Nat.le_of_ble_eq_true rfl) rfl ?_
  intro p0 e0 s0 m0 args0 below0 meth0 c0 A X
  refine z_run X bx_X9_copyTrials_0_2 kx_X9_copyTrials_0_2 (lv' := [(0, .ref dT), (1, .ref sT)]) (st' := [.ref sT, .ref dT]) rfl ?_
  refine z_get X fl_9_44 dx_X9_copyTrials_2 1 rfl (v := .int sc) rfl ?_
  refine z_put X fl_9_44 dx_X9_copyTrials_5 0 rfl (ty := .int) (T := TX9) (N := 10) rfl (Or.inl rfl) (by decide +kernel) rfl (by rfl) (Nat.le_of_ble_eq_true rfl) (ws' := [(dT, ob 9 [.int sc, .ref dsp, .ref dwh, .ref dfi, .ref dse, .ref dgi, .ref dle, dT0, dT1, dT2]), (sT, ob 9 [.int sc, .ref ssp, .ref swh, .ref sfi, .ref sse, .ref sgi, .ref sle, sT0, sT1, sT2]), (dsp, aI G 12 dfsp), (dwh, aZ G 12 dfwh), (dfi, aI G 12 dffi), (dse, aI G 12 dfse), (dgi, aI G 12 dfgi), (dle, aI G 48 dfle), (ssp, aI G 12 sfsp), (swh, aZ G 12 sfwh), (sfi, aI G 12 sffi), (sse, aI G 12 sfse), (sgi, aI G 12 sfgi), (sle, aI G 48 sfle)]) rfl ?_
  refine z_run X bx_X9_copyTrials_8_9 kx_X9_copyTrials_8_9 (lv' := [(0, .ref dT), (1, .ref sT)]) (st' := [.ref sT]) rfl ?_
  refine z_get X fl_9_9 dx_X9_copyTrials_9 1 rfl (v := .ref ssp) rfl ?_
  refine z_run X bx_X9_copyTrials_12_13 kx_X9_copyTrials_12_13 (lv' := [(0, .ref dT), (1, .ref sT)]) (st' := [.ref dT, .ref ssp]) rfl ?_
  refine z_get X fl_9_9 dx_X9_copyTrials_13 0 rfl (v := .ref dsp) rfl ?_
  refine z_callSN X k_9_66 (cx_X10_copy12 l G ssp dsp sfsp dfsp) dx_X9_copyTrials_16 ⟨Nat.le_of_ble_eq_true rfl, Nat.le_of_ble_eq_true rfl⟩ ⟨Nat.le_of_ble_eq_true rfl, Nat.le_of_ble_eq_true rfl⟩ rfl (rest := []) (As := [.ref ssp, .ref dsp]) rfl (Nat.le_of_ble_eq_true rfl) [8, 2] [0, 1, 3, 4, 5, 6, 7, 9, 10, 11, 12, 13] rfl (by decide) (wr := [(dT, ob 9 [.int sc, .ref dsp, .ref dwh, .ref dfi, .ref dse, .ref dgi, .ref dle, dT0, dT1, dT2]), (sT, ob 9 [.int sc, .ref ssp, .ref swh, .ref sfi, .ref sse, .ref sgi, .ref sle, sT0, sT1, sT2]), (dwh, aZ G 12 dfwh), (dfi, aI G 12 dffi), (dse, aI G 12 dfse), (dgi, aI G 12 dfgi), (dle, aI G 48 dfle), (swh, aZ G 12 sfwh), (sfi, aI G 12 sffi), (sse, aI G 12 sfse), (sgi, aI G 12 sfgi), (sle, aI G 48 sfle)]) rfl (by decide) (by decide) ?_
  rintro _ _ ⟨g2_1, f16_2, rfl, rfl⟩
  refine Z.at (pc' := 19) (st' := []) (ws' := [(dT, ob 9 [.int sc, .ref dsp, .ref dwh, .ref dfi, .ref dse, .ref dgi, .ref dle, dT0, dT1, dT2]), (sT, ob 9 [.int sc, .ref ssp, .ref swh, .ref sfi, .ref sse, .ref sgi, .ref sle, sT0, sT1, sT2]), (dwh, aZ G 12 dfwh), (dfi, aI G 12 dffi), (dse, aI G 12 dfse), (dgi, aI G 12 dfgi), (dle, aI G 48 dfle), (swh, aZ G 12 sfwh), (sfi, aI G 12 sffi), (sse, aI G 12 sfse), (sgi, aI G 12 sfgi), (sle, aI G 48 sfle), (ssp, aI G 12 sfsp), (dsp, aI G 12 g2_1)]) (kc' := 0) (ks' := 0) rfl rfl rfl rfl rfl ?_
  refine z_run X bx_X9_copyTrials_19_20 kx_X9_copyTrials_19_20 (lv' := [(0, .ref dT), (1, .ref sT)]) (st' := [.ref sT]) rfl ?_
  refine z_get X fl_9_19 dx_X9_copyTrials_20 1 rfl (v := .ref sfi) rfl ?_
  refine z_run X bx_X9_copyTrials_23_24 kx_X9_copyTrials_23_24 (lv' := [(0, .ref dT), (1, .ref sT)]) (st' := [.ref dT, .ref sfi]) rfl ?_
  refine z_get X fl_9_19 dx_X9_copyTrials_24 0 rfl (v := .ref dfi) rfl ?_
  refine z_callSN X k_9_66 (cx_X10_copy12 l G sfi dfi sffi dffi) dx_X9_copyTrials_27 ⟨Nat.le_of_ble_eq_true rfl, Nat.le_of_ble_eq_true rfl⟩ ⟨Nat.le_of_ble_eq_true rfl, Nat.le_of_ble_eq_true rfl⟩ rfl (rest := []) (As := [.ref sfi, .ref dfi]) rfl (Nat.le_of_ble_eq_true rfl) [8, 3] [0, 1, 2, 4, 5, 6, 7, 9, 10, 11, 12, 13] rfl (by decide) (wr := [(dT, ob 9 [.int sc, .ref dsp, .ref dwh, .ref dfi, .ref dse, .ref dgi, .ref dle, dT0, dT1, dT2]), (sT, ob 9 [.int sc, .ref ssp, .ref swh, .ref sfi, .ref sse, .ref sgi, .ref sle, sT0, sT1, sT2]), (dwh, aZ G 12 dfwh), (dse, aI G 12 dfse), (dgi, aI G 12 dfgi), (dle, aI G 48 dfle), (swh, aZ G 12 sfwh), (sse, aI G 12 sfse), (sgi, aI G 12 sfgi), (sle, aI G 48 sfle), (ssp, aI G 12 sfsp), (dsp, aI G 12 g2_1)]) rfl (by decide) (by decide) ?_
  rintro _ _ ⟨g2_3, f27_4, rfl, rfl⟩
  refine Z.at (pc' := 30) (st' := []) (ws' := [(dT, ob 9 [.int sc, .ref dsp, .ref dwh, .ref dfi, .ref dse, .ref dgi, .ref dle, dT0, dT1, dT2]), (sT, ob 9 [.int sc, .ref ssp, .ref swh, .ref sfi, .ref sse, .ref sgi, .ref sle, sT0, sT1, sT2]), (dwh, aZ G 12 dfwh), (dse, aI G 12 dfse), (dgi, aI G 12 dfgi), (dle, aI G 48 dfle), (swh, aZ G 12 sfwh), (sse, aI G 12 sfse), (sgi, aI G 12 sfgi), (sle, aI G 48 sfle), (ssp, aI G 12 sfsp), (dsp, aI G 12 g2_1), (sfi, aI G 12 sffi), (dfi, aI G 12 g2_3)]) (kc' := 0) (ks' := 0) rfl rfl rfl rfl rfl ?_
  refine z_run X bx_X9_copyTrials_30_31 kx_X9_copyTrials_30_31 (lv' := [(0, .ref dT), (1, .ref sT)]) (st' := [.ref sT]) rfl ?_
  refine z_get X fl_9_22 dx_X9_copyTrials_31 1 rfl (v := .ref sse) rfl ?_
  refine z_run X bx_X9_copyTrials_34_35 kx_X9_copyTrials_34_35 (lv' := [(0, .ref dT), (1, .ref sT)]) (st' := [.ref dT, .ref sse]) rfl ?_
  refine z_get X fl_9_22 dx_X9_copyTrials_35 0 rfl (v := .ref dse) rfl ?_
  refine z_callSN X k_9_66 (cx_X10_copy12 l G sse dse sfse dfse) dx_X9_copyTrials_38 ⟨Nat.le_of_ble_eq_true rfl, Nat.le_of_ble_eq_true rfl⟩ ⟨Nat.le_of_ble_eq_true rfl, Nat.le_of_ble_eq_true rfl⟩ rfl (rest := []) (As := [.ref sse, .ref dse]) rfl (Nat.le_of_ble_eq_true rfl) [7, 3] [0, 1, 2, 4, 5, 6, 8, 9, 10, 11, 12, 13] rfl (by decide) (wr := [(dT, ob 9 [.int sc, .ref dsp, .ref dwh, .ref dfi, .ref dse, .ref dgi, .ref dle, dT0, dT1, dT2]), (sT, ob 9 [.int sc, .ref ssp, .ref swh, .ref sfi, .ref sse, .ref sgi, .ref sle, sT0, sT1, sT2]), (dwh, aZ G 12 dfwh), (dgi, aI G 12 dfgi), (dle, aI G 48 dfle), (swh, aZ G 12 sfwh), (sgi, aI G 12 sfgi), (sle, aI G 48 sfle), (ssp, aI G 12 sfsp), (dsp, aI G 12 g2_1), (sfi, aI G 12 sffi), (dfi, aI G 12 g2_3)]) rfl (by decide) (by decide) ?_
  rintro _ _ ⟨g2_5, f38_6, rfl, rfl⟩
  refine Z.at (pc' := 41) (st' := []) (ws' := [(dT, ob 9 [.int sc, .ref dsp, .ref dwh, .ref dfi, .ref dse, .ref dgi, .ref dle, dT0, dT1, dT2]), (sT, ob 9 [.int sc, .ref ssp, .ref swh, .ref sfi, .ref sse, .ref sgi, .ref sle, sT0, sT1, sT2]), (dwh, aZ G 12 dfwh), (dgi, aI G 12 dfgi), (dle, aI G 48 dfle), (swh, aZ G 12 sfwh), (sgi, aI G 12 sfgi), (sle, aI G 48 sfle), (ssp, aI G 12 sfsp), (dsp, aI G 12 g2_1), (sfi, aI G 12 sffi), (dfi, aI G 12 g2_3), (sse, aI G 12 sfse), (dse, aI G 12 g2_5)]) (kc' := 0) (ks' := 0) rfl rfl rfl rfl rfl ?_
  refine z_run X bx_X9_copyTrials_41_42 kx_X9_copyTrials_41_42 (lv' := [(0, .ref dT), (1, .ref sT)]) (st' := [.ref sT]) rfl ?_
  refine z_get X fl_9_25 dx_X9_copyTrials_42 1 rfl (v := .ref sgi) rfl ?_
  refine z_run X bx_X9_copyTrials_45_46 kx_X9_copyTrials_45_46 (lv' := [(0, .ref dT), (1, .ref sT)]) (st' := [.ref dT, .ref sgi]) rfl ?_
  refine z_get X fl_9_25 dx_X9_copyTrials_46 0 rfl (v := .ref dgi) rfl ?_
  refine z_callSN X k_9_66 (cx_X10_copy12 l G sgi dgi sfgi dfgi) dx_X9_copyTrials_49 ⟨Nat.le_of_ble_eq_true rfl, Nat.le_of_ble_eq_true rfl⟩ ⟨Nat.le_of_ble_eq_true rfl, Nat.le_of_ble_eq_true rfl⟩ rfl (rest := []) (As := [.ref sgi, .ref dgi]) rfl (Nat.le_of_ble_eq_true rfl) [6, 3] [0, 1, 2, 4, 5, 7, 8, 9, 10, 11, 12, 13] rfl (by decide) (wr := [(dT, ob 9 [.int sc, .ref dsp, .ref dwh, .ref dfi, .ref dse, .ref dgi, .ref dle, dT0, dT1, dT2]), (sT, ob 9 [.int sc, .ref ssp, .ref swh, .ref sfi, .ref sse, .ref sgi, .ref sle, sT0, sT1, sT2]), (dwh, aZ G 12 dfwh), (dle, aI G 48 dfle), (swh, aZ G 12 sfwh), (sle, aI G 48 sfle), (ssp, aI G 12 sfsp), (dsp, aI G 12 g2_1), (sfi, aI G 12 sffi), (dfi, aI G 12 g2_3), (sse, aI G 12 sfse), (dse, aI G 12 g2_5)]) rfl (by decide) (by decide) ?_
  rintro _ _ ⟨g2_7, f49_8, rfl, rfl⟩
  refine Z.at (pc' := 52) (st' := []) (ws' := [(dT, ob 9 [.int sc, .ref dsp, .ref dwh, .ref dfi, .ref dse, .ref dgi, .ref dle, dT0, dT1, dT2]), (sT, ob 9 [.int sc, .ref ssp, .ref swh, .ref sfi, .ref sse, .ref sgi, .ref sle, sT0, sT1, sT2]), (dwh, aZ G 12 dfwh), (dle, aI G 48 dfle), (swh, aZ G 12 sfwh), (sle, aI G 48 sfle), (ssp, aI G 12 sfsp), (dsp, aI G 12 g2_1), (sfi, aI G 12 sffi), (dfi, aI G 12 g2_3), (sse, aI G 12 sfse), (dse, aI G 12 g2_5), (sgi, aI G 12 sfgi), (dgi, aI G 12 g2_7)]) (kc' := 0) (ks' := 0) rfl rfl rfl rfl rfl ?_
  refine z_run X bx_X9_copyTrials_52_53 kx_X9_copyTrials_52_53 (lv' := [(0, .ref dT), (1, .ref sT)]) (st' := [.ref sT]) rfl ?_
  refine z_get X fl_9_28 dx_X9_copyTrials_53 1 rfl (v := .ref sle) rfl ?_
  refine z_run X bx_X9_copyTrials_56_57 kx_X9_copyTrials_56_57 (lv' := [(0, .ref dT), (1, .ref sT)]) (st' := [.ref dT, .ref sle]) rfl ?_
  refine z_get X fl_9_28 dx_X9_copyTrials_57 0 rfl (v := .ref dle) rfl ?_
  refine z_callSN X k_9_66 (cx_X10_copy48 l G sle dle sfle dfle) dx_X9_copyTrials_60 ⟨Nat.le_of_ble_eq_true rfl, Nat.le_of_ble_eq_true rfl⟩ ⟨Nat.le_of_ble_eq_true rfl, Nat.le_of_ble_eq_true rfl⟩ rfl (rest := []) (As := [.ref sle, .ref dle]) rfl (Nat.le_of_ble_eq_true rfl) [5, 3] [0, 1, 2, 4, 6, 7, 8, 9, 10, 11, 12, 13] rfl (by decide) (wr := [(dT, ob 9 [.int sc, .ref dsp, .ref dwh, .ref dfi, .ref dse, .ref dgi, .ref dle, dT0, dT1, dT2]), (sT, ob 9 [.int sc, .ref ssp, .ref swh, .ref sfi, .ref sse, .ref sgi, .ref sle, sT0, sT1, sT2]), (dwh, aZ G 12 dfwh), (swh, aZ G 12 sfwh), (ssp, aI G 12 sfsp), (dsp, aI G 12 g2_1), (sfi, aI G 12 sffi), (dfi, aI G 12 g2_3), (sse, aI G 12 sfse), (dse, aI G 12 g2_5), (sgi, aI G 12 sfgi), (dgi, aI G 12 g2_7)]) rfl (by decide) (by decide) ?_
  rintro _ _ ⟨g2_9, f60_10, rfl, rfl⟩
  refine Z.at (pc' := 63) (st' := []) (ws' := [(dT, ob 9 [.int sc, .ref dsp, .ref dwh, .ref dfi, .ref dse, .ref dgi, .ref dle, dT0, dT1, dT2]), (sT, ob 9 [.int sc, .ref ssp, .ref swh, .ref sfi, .ref sse, .ref sgi, .ref sle, sT0, sT1, sT2]), (dwh, aZ G 12 dfwh), (swh, aZ G 12 sfwh), (ssp, aI G 12 sfsp), (dsp, aI G 12 g2_1), (sfi, aI G 12 sffi), (dfi, aI G 12 g2_3), (sse, aI G 12 sfse), (dse, aI G 12 g2_5), (sgi, aI G 12 sfgi), (dgi, aI G 12 g2_7), (sle, aI G 48 sfle), (dle, aI G 48 g2_9)]) (kc' := 0) (ks' := 0) rfl rfl rfl rfl rfl ?_
  refine z_run X bx_X9_copyTrials_63_65 kx_X9_copyTrials_63_65 (lv' := [(2, .int 0), (0, .ref dT), (1, .ref sT)]) (st' := []) rfl ?_
  refine zloop (σ := Int32 × (Nat → Int32)) (fun z => [(2, .int z.1), (0, .ref dT), (1, .ref sT)]) (fun z => []) (fun z => [(dT, ob 9 [.int sc, .ref dsp, .ref dwh, .ref dfi, .ref dse, .ref dgi, .ref dle, dT0, dT1, dT2]), (sT, ob 9 [.int sc, .ref ssp, .ref swh, .ref sfi, .ref sse, .ref sgi, .ref sle, sT0, sT1, sT2]), (dwh, aZ G 12 z.2), (swh, aZ G 12 sfwh), (ssp, aI G 12 sfsp), (dsp, aI G 12 g2_1), (sfi, aI G 12 sffi), (dfi, aI G 12 g2_3), (sse, aI G 12 sfse), (dse, aI G 12 g2_5), (sgi, aI G 12 sfgi), (dgi, aI G 12 g2_7), (sle, aI G 48 sfle), (dle, aI G 48 g2_9)]) (fun z => (0 ≤ z.1.toInt ∧ z.1.toInt ≤ 12) ∧ (∀ j : Nat, (j : Int) < z.1.toInt → z.2 j = vp_nar .boolean (sfwh j))) (fun z => (12 - z.1.toInt).toNat) (0, dfwh) ?_ ?_
  ·
    rintro ⟨i_, g1⟩ ⟨hi, hg⟩ ih65
    dsimp only at *
    refine z_run X bx_X9_copyTrials_65_68 kx_X9_copyTrials_65_68 (lv' := [(2, .int i_), (0, .ref dT), (1, .ref sT)]) (st' := [.int 12, .int i_]) rfl ?_
    refine zc_ge X dx_X9_copyTrials_68 (tgt := 89) (by decide) (a := i_.toInt) (b := 12) rfl (show (12 : Int32).toInt = 12 from by decide) (fun c68_11 => ?_) (fun c68_11 => ?_)
    ·
      refine Z.sub (lv' := []) [] rfl [0, 1, 5, 2, 7, 9, 11, 13, 4, 3, 6, 8, 10, 12] (ws' := [(dT, ob 9 [.int sc, .ref dsp, .ref dwh, .ref dfi, .ref dse, .ref dgi, .ref dle, dT0, dT1, dT2]), (sT, ob 9 [.int sc, .ref ssp, .ref swh, .ref sfi, .ref sse, .ref sgi, .ref sle, sT0, sT1, sT2]), (dsp, aI G 12 g2_1), (dwh, aZ G 12 g1), (dfi, aI G 12 g2_3), (dse, aI G 12 g2_5), (dgi, aI G 12 g2_7), (dle, aI G 48 g2_9), (ssp, aI G 12 sfsp), (swh, aZ G 12 sfwh), (sfi, aI G 12 sffi), (sse, aI G 12 sfse), (sgi, aI G 12 sfgi), (sle, aI G 48 sfle)]) rfl (by decide) ?_
      exact z_vret X rfl dx_X9_copyTrials_89 (Nat.le_of_ble_eq_true rfl) (Nat.le_of_ble_eq_true rfl) ⟨g2_1, g1, g2_3, g2_5, g2_7, g2_9, f16_2, (fun j hj => hg j (by omega)), f27_4, f38_6, f49_8, f60_10, rfl, rfl⟩
    ·
      refine z_run X bx_X9_copyTrials_71_72 kx_X9_copyTrials_71_72 (lv' := [(2, .int i_), (0, .ref dT), (1, .ref sT)]) (st' := [.ref dT]) rfl ?_
      refine z_get X fl_9_15 dx_X9_copyTrials_72 0 rfl (v := .ref dwh) rfl ?_
      refine z_run X bx_X9_copyTrials_75_77 kx_X9_copyTrials_75_77 (lv' := [(2, .int i_), (0, .ref dT), (1, .ref sT)]) (st' := [.ref sT, .int i_, .ref dwh]) rfl ?_
      refine z_get X fl_9_15 dx_X9_copyTrials_77 1 rfl (v := .ref swh) rfl ?_
      refine z_run X bx_X9_copyTrials_80_81 kx_X9_copyTrials_80_81 (lv' := [(2, .int i_), (0, .ref dT), (1, .ref sT)]) (st' := [.int i_, .ref swh, .int i_, .ref dwh]) rfl ?_
      refine z_zald X dx_X9_copyTrials_81 3 rfl (vin rfl (by omega) (by omega)) (v := (sfwh i_.toNatClampNeg)) rfl ?_
      refine z_zast X dx_X9_copyTrials_82 2 rfl (vin rfl (by omega) (by omega)) (ws' := [(dT, ob 9 [.int sc, .ref dsp, .ref dwh, .ref dfi, .ref dse, .ref dgi, .ref dle, dT0, dT1, dT2]), (sT, ob 9 [.int sc, .ref ssp, .ref swh, .ref sfi, .ref sse, .ref sgi, .ref sle, sT0, sT1, sT2]), (dwh, aZ G 12 (upd g1 i_.toNatClampNeg (vp_nar .boolean (sfwh i_.toNatClampNeg)))), (swh, aZ G 12 sfwh), (ssp, aI G 12 sfsp), (dsp, aI G 12 g2_1), (sfi, aI G 12 sffi), (dfi, aI G 12 g2_3), (sse, aI G 12 sfse), (dse, aI G 12 g2_5), (sgi, aI G 12 sfgi), (dgi, aI G 12 g2_7), (sle, aI G 48 sfle), (dle, aI G 48 g2_9)]) rfl ?_
      refine z_run X bx_X9_copyTrials_83_86 kx_X9_copyTrials_83_86 (lv' := [(2, .int (i_ + 1)), (0, .ref dT), (1, .ref sT)]) (st' := []) rfl ?_
      refine z_goto X dx_X9_copyTrials_86 (tgt := 65) (by decide) ?_
      exact ih65 ((i_ + 1), (upd g1 i_.toNatClampNeg (vp_nar .boolean (sfwh i_.toNatClampNeg)))) ⟨(by dsimp only; have e : (i_ + 1).toInt = i_.toInt + 1 := tI_add rfl (show (1 : Int32).toInt = 1 from by decide) (by omega); omega), (by dsimp only; have e : (i_ + 1).toInt = i_.toInt + 1 := tI_add rfl (show (1 : Int32).toInt = 1 from by decide) (by omega); rw [e]; exact st_step (F := fun j => vp_nar .boolean (sfwh j)) hi.1 hg rfl)⟩ (by dsimp only; have e : (i_ + 1).toInt = i_.toInt + 1 := tI_add rfl (show (1 : Int32).toInt = 1 from by decide) (by omega); omega)
  · exact ⟨(by dsimp only; have e0 : (0 : Int32).toInt = 0 := (by decide); omega), (by dsimp only; have e0 : (0 : Int32).toInt = 0 := (by decide); intro j hj; omega)⟩

theorem dx_X2_store_2 : decode cX2_store 2 = .ok (.putfield 32, 3) := by decide +kernel
theorem dx_X2_store_6 : decode cX2_store 6 = .ok (.getfield 36, 3) := by decide +kernel
theorem dx_X2_store_10 : decode cX2_store 10 = .ok (.getfield 9, 3) := by decide +kernel
theorem dx_X2_store_13 : decode cX2_store 13 = .ok (.invokestatic 39, 3) := by decide +kernel
theorem dx_X2_store_19 : decode cX2_store 19 = .ok (.getfield 15, 3) := by decide +kernel
theorem dx_X2_store_22 : decode cX2_store 22 = .ok (.invokestatic 39, 3) := by decide +kernel
theorem dx_X2_store_26 : decode cX2_store 26 = .ok (.getfield 21, 3) := by decide +kernel
theorem dx_X2_store_30 : decode cX2_store 30 = .ok (.invokevirtual 43, 3) := by decide +kernel
theorem dx_X2_store_34 : decode cX2_store 34 = .ok (.getfield 28, 3) := by decide +kernel
theorem dx_X2_store_38 : decode cX2_store 38 = .ok (.invokevirtual 47, 3) := by decide +kernel
theorem dx_X2_store_43 : decode cX2_store 43 = .ok (.getfield 51, 3) := by decide +kernel
theorem dx_X2_store_46 : decode cX2_store 46 = .ok (.putfield 55, 3) := by decide +kernel
theorem dx_X2_store_51 : decode cX2_store 51 = .ok (.getfield 56, 3) := by decide +kernel
theorem dx_X2_store_54 : decode cX2_store 54 = .ok (.putfield 59, 3) := by decide +kernel
theorem dx_X2_store_57 : decode cX2_store 57 = .ok (.return_, 1) := by decide +kernel
abbrev bx_X2_store_0_2 : ZB := [(.aload_n 0, .null), (.iconst 1, .int 1)]
theorem kx_X2_store_0_2 : zchk cX2_store bx_X2_store_0_2 0 = true ∧ zpc bx_X2_store_0_2 0 = 2 := ⟨by decide +kernel, rfl⟩
abbrev bx_X2_store_5_6 : ZB := [(.aload_n 1, .null)]
theorem kx_X2_store_5_6 : zchk cX2_store bx_X2_store_5_6 5 = true ∧ zpc bx_X2_store_5_6 5 = 6 := ⟨by decide +kernel, rfl⟩
abbrev bx_X2_store_9_10 : ZB := [(.aload_n 0, .null)]
theorem kx_X2_store_9_10 : zchk cX2_store bx_X2_store_9_10 9 = true ∧ zpc bx_X2_store_9_10 9 = 10 := ⟨by decide +kernel, rfl⟩
abbrev bx_X2_store_16_19 : ZB := [(.aload 4, .null), (.aload_n 0, .null)]
theorem kx_X2_store_16_19 : zchk cX2_store bx_X2_store_16_19 16 = true ∧ zpc bx_X2_store_16_19 16 = 19 := ⟨by decide +kernel, rfl⟩
abbrev bx_X2_store_25_26 : ZB := [(.aload_n 0, .null)]
theorem kx_X2_store_25_26 : zchk cX2_store bx_X2_store_25_26 25 = true ∧ zpc bx_X2_store_25_26 25 = 26 := ⟨by decide +kernel, rfl⟩
abbrev bx_X2_store_29_30 : ZB := [(.aload_n 2, .null)]
theorem kx_X2_store_29_30 : zchk cX2_store bx_X2_store_29_30 29 = true ∧ zpc bx_X2_store_29_30 29 = 30 := ⟨by decide +kernel, rfl⟩
abbrev bx_X2_store_33_34 : ZB := [(.aload_n 0, .null)]
theorem kx_X2_store_33_34 : zchk cX2_store bx_X2_store_33_34 33 = true ∧ zpc bx_X2_store_33_34 33 = 34 := ⟨by decide +kernel, rfl⟩
abbrev bx_X2_store_37_38 : ZB := [(.aload_n 3, .null)]
theorem kx_X2_store_37_38 : zchk cX2_store bx_X2_store_37_38 37 = true ∧ zpc bx_X2_store_37_38 37 = 38 := ⟨by decide +kernel, rfl⟩
abbrev bx_X2_store_41_43 : ZB := [(.aload_n 0, .null), (.aload_n 1, .null)]
theorem kx_X2_store_41_43 : zchk cX2_store bx_X2_store_41_43 41 = true ∧ zpc bx_X2_store_41_43 41 = 43 := ⟨by decide +kernel, rfl⟩
abbrev bx_X2_store_49_51 : ZB := [(.aload_n 0, .null), (.aload_n 1, .null)]
theorem kx_X2_store_49_51 : zchk cX2_store bx_X2_store_49_51 49 = true ∧ zpc bx_X2_store_49_51 49 = 51 := ⟨by decide +kernel, rfl⟩
set_option maxHeartbeats 4000000 in
set_option maxRecDepth 100000 in
theorem cx_X2_store (l : Launch) (G : KG) (kO : Nat) (kf : Int32) (kh : Nat) (kt : Nat) (kp : Int32) (ko : Int32) (kS : Nat) (kS0 : Value) (kS1 : Value) (kS2 : Value) (kA : Nat) (kX : Nat) (kY : Nat) (kT : Nat) (kc : Int32) (ksp : Nat) (kwh : Nat) (kfi : Nat) (kse : Nat) (kgi : Nat) (kle : Nat) (kT0 : Value) (kT1 : Value) (kT2 : Value) (ring : Nat) (g_hc : Value) (g_0 : Value) (g_1 : Value) (g_2 : Value) (g_3 : Value) (rh : Nat) (g_rd : Value) (ph : Int32) (po : Int32) (sS : Nat) (sS0 : Value) (sS1 : Value) (sS2 : Value) (sA : Nat) (sX : Nat) (sY : Nat) (sT : Nat) (sc : Int32) (ssp : Nat) (swh : Nat) (sfi : Nat) (sse : Nat) (sgi : Nat) (sle : Nat) (sT0 : Value) (sT1 : Value) (sT2 : Value) (th_ : Nat) (kfh : Nat → Int32) (kft : Nat → Int32) (kfA : Nat → Int32) (kfX : Nat → Int32) (kfY : Nat → Int32) (kfsp : Nat → Int32) (kfwh : Nat → Int32) (kffi : Nat → Int32) (kfse : Nat → Int32) (kfgi : Nat → Int32) (kfle : Nat → Int32) (rfh : Nat → Int32) (sfA : Nat → Int32) (sfX : Nat → Int32) (sfY : Nat → Int32) (sfsp : Nat → Int32) (sfwh : Nat → Int32) (sffi : Nat → Int32) (sfse : Nat → Int32) (sfgi : Nat → Int32) (sfle : Nat → Int32) (tft : Nat → Int32) : Ct l G yX2_store cX2_store 5 none { frames := 2, cells := 0, slots := 0, locals := 44 } [.ref kO, .ref ring, .ref sS, .ref sT, .ref th_] [(kO, ob 2 [.int kf, .ref kh, .ref kt, .ref kS, .ref kT, .int kp, .int ko]), (kh, aI G 16 kfh), (kt, aI G 8 kft), (kS, ob 7 [kS0, kS1, kS2, .ref kA, .ref kX, .ref kY]), (kA, aZ G 6 kfA), (kX, aI G 6 kfX), (kY, aI G 6 kfY), (kT, ob 9 [.int kc, .ref ksp, .ref kwh, .ref kfi, .ref kse, .ref kgi, .ref kle, kT0, kT1, kT2]), (ksp, aI G 12 kfsp), (kwh, aZ G 12 kfwh), (kfi, aI G 12 kffi), (kse, aI G 12 kfse), (kgi, aI G 12 kfgi), (kle, aI G 48 kfle), (ring, ob 5 [g_hc, g_0, g_1, g_2, g_3, .ref rh, g_rd, .int ph, .int po]), (rh, aI G 16 rfh), (sS, ob 7 [sS0, sS1, sS2, .ref sA, .ref sX, .ref sY]), (sA, aZ G 6 sfA), (sX, aI G 6 sfX), (sY, aI G 6 sfY), (sT, ob 9 [.int sc, .ref ssp, .ref swh, .ref sfi, .ref sse, .ref sgi, .ref sle, sT0, sT1, sT2]), (ssp, aI G 12 sfsp), (swh, aZ G 12 sfwh), (sfi, aI G 12 sffi), (sse, aI G 12 sfse), (sgi, aI G 12 sfgi), (sle, aI G 48 sfle), (th_, aI G 8 tft)] (fun r w1 => ∃ (kfh2 : Nat → Int32), ∃ (kft2 : Nat → Int32), ∃ (kfA2 : Nat → Int32), ∃ (kfX2 : Nat → Int32), ∃ (kfY2 : Nat → Int32), ∃ (kfsp2 : Nat → Int32), ∃ (kfwh2 : Nat → Int32), ∃ (kffi2 : Nat → Int32), ∃ (kfse2 : Nat → Int32), ∃ (kfgi2 : Nat → Int32), ∃ (kfle2 : Nat → Int32), (∀ j : Nat, j < 16 → kfh2 j = rfh j) ∧ (∀ j : Nat, j < 8 → kft2 j = tft j) ∧ (∀ j : Nat, j < 6 → kfX2 j = sfX j) ∧ (∀ j : Nat, j < 6 → kfY2 j = sfY j) ∧ (∀ j : Nat, j < 6 → kfA2 j = vp_nar .boolean (sfA j)) ∧ (∀ j : Nat, j < 12 → kfsp2 j = sfsp j) ∧ (∀ j : Nat, j < 12 → kfwh2 j = vp_nar .boolean (sfwh j)) ∧ (∀ j : Nat, j < 12 → kffi2 j = sffi j) ∧ (∀ j : Nat, j < 12 → kfse2 j = sfse j) ∧ (∀ j : Nat, j < 12 → kfgi2 j = sfgi j) ∧ (∀ j : Nat, j < 48 → kfle2 j = sfle j) ∧ r = none ∧ w1 = [(kO, ob 2 [.int (1 : Int32), .ref kh, .ref kt, .ref kS, .ref kT, .int ph, .int po]), (kh, aI G 16 kfh2), (kt, aI G 8 kft2), (kS, ob 7 [kS0, kS1, kS2, .ref kA, .ref kX, .ref kY]), (kA, aZ G 6 kfA2), (kX, aI G 6 kfX2), (kY, aI G 6 kfY2), (kT, ob 9 [.int sc, .ref ksp, .ref kwh, .ref kfi, .ref kse, .ref kgi, .ref kle, kT0, kT1, kT2]), (ksp, aI G 12 kfsp2), (kwh, aZ G 12 kfwh2), (kfi, aI G 12 kffi2), (kse, aI G 12 kfse2), (kgi, aI G 12 kfgi2), (kle, aI G 48 kfle2), (ring, ob 5 [g_hc, g_0, g_1, g_2, g_3, .ref rh, g_rd, .int ph, .int po]), (rh, aI G 16 rfh), (sS, ob 7 [sS0, sS1, sS2, .ref sA, .ref sX, .ref sY]), (sA, aZ G 6 sfA), (sX, aI G 6 sfX), (sY, aI G 6 sfY), (sT, ob 9 [.int sc, .ref ssp, .ref swh, .ref sfi, .ref sse, .ref sgi, .ref sle, sT0, sT1, sT2]), (ssp, aI G 12 sfsp), (swh, aZ G 12 sfwh), (sfi, aI G 12 sffi), (sse, aI G 12 sfse), (sgi, aI G 12 sfgi), (sle, aI G 48 sfle), (th_, aI G 8 tft)]) := by
  refine ct_of [(0, .ref kO), (1, .ref ring), (2, .ref sS), (3, .ref sT), (4, .ref th_)] (by decide) (Nat.le_of_ble_eq_true rfl) rfl ?_
  intro p0 e0 s0 m0 args0 below0 meth0 c0 A X
  refine z_run X bx_X2_store_0_2 kx_X2_store_0_2 (lv' := [(0, .ref kO), (1, .ref ring), (2, .ref sS), (3, .ref sT), (4, .ref th_)]) (st' := [.int 1, .ref kO]) rfl ?_
  refine z_put X fl_2_32 dx_X2_store_2 0 rfl (ty := .boolean) (T := TX2) (N := 7) rfl (Or.inl rfl) (by decide +kernel) rfl (by rfl) (Nat.le_of_ble_eq_true rfl) (ws' := [(kO, ob 2 [.int 1, .ref kh, .ref kt, .ref kS, .ref kT, .int kp, .int ko]), (kh, aI G 16 kfh), (kt, aI G 8 kft), (kS, ob 7 [kS0, kS1, kS2, .ref kA, .ref kX, .ref kY]), (kA, aZ G 6 kfA), (kX, aI G 6 kfX), (kY, aI G 6 kfY), (kT, ob 9 [.int kc, .ref ksp, .ref kwh, .ref kfi, .ref kse, .ref kgi, .ref kle, kT0, kT1, kT2]), (ksp, aI G 12 kfsp), (kwh, aZ G 12 kfwh), (kfi, aI G 12 kffi), (kse, aI G 12 kfse), (kgi, aI G 12 kfgi), (kle, aI G 48 kfle), (ring, ob 5 [g_hc, g_0, g_1, g_2, g_3, .ref rh, g_rd, .int ph, .int po]), (rh, aI G 16 rfh), (sS, ob 7 [sS0, sS1, sS2, .ref sA, .ref sX, .ref sY]), (sA, aZ G 6 sfA), (sX, aI G 6 sfX), (sY, aI G 6 sfY), (sT, ob 9 [.int sc, .ref ssp, .ref swh, .ref sfi, .ref sse, .ref sgi, .ref sle, sT0, sT1, sT2]), (ssp, aI G 12 sfsp), (swh, aZ G 12 sfwh), (sfi, aI G 12 sffi), (sse, aI G 12 sfse), (sgi, aI G 12 sfgi), (sle, aI G 48 sfle), (th_, aI G 8 tft)]) rfl ?_
  refine z_run X bx_X2_store_5_6 kx_X2_store_5_6 (lv' := [(0, .ref kO), (1, .ref ring), (2, .ref sS), (3, .ref sT), (4, .ref th_)]) (st' := [.ref ring]) rfl ?_
  refine z_getN X fl_2_36 dx_X2_store_6 14 rfl (v := .ref rh) rfl ?_
  refine z_run X bx_X2_store_9_10 kx_X2_store_9_10 (lv' := [(0, .ref kO), (1, .ref ring), (2, .ref sS), (3, .ref sT), (4, .ref th_)]) (st' := [.ref kO, .ref rh]) rfl ?_
  refine z_get X fl_2_9 dx_X2_store_10 0 rfl (v := .ref kh) rfl ?_
  refine z_callSN X k_2_39 (cx_X10_copy16 l G rh kh rfh kfh) dx_X2_store_13 ⟨Nat.le_of_ble_eq_true rfl, Nat.le_of_ble_eq_true rfl⟩ ⟨Nat.le_of_ble_eq_true rfl, Nat.le_of_ble_eq_true rfl⟩ rfl (rest := []) (As := [.ref rh, .ref kh]) rfl (Nat.le_of_ble_eq_true rfl) [15, 1] [0, 2, 3, 4, 5, 6, 7, 8, 9, 10, 11, 12, 13, 14, 16, 17, 18, 19, 20, 21, 22, 23, 24, 25, 26, 27] rfl (by decide) (wr := [(kO, ob 2 [.int 1, .ref kh, .ref kt, .ref kS, .ref kT, .int kp, .int ko]), (kt, aI G 8 kft), (kS, ob 7 [kS0, kS1, kS2, .ref kA, .ref kX, .ref kY]), (kA, aZ G 6 kfA), (kX, aI G 6 kfX), (kY, aI G 6 kfY), (kT, ob 9 [.int kc, .ref ksp, .ref kwh, .ref kfi, .ref kse, .ref kgi, .ref kle, kT0, kT1, kT2]), (ksp, aI G 12 kfsp), (kwh, aZ G 12 kfwh), (kfi, aI G 12 kffi), (kse, aI G 12 kfse), (kgi, aI G 12 kfgi), (kle, aI G 48 kfle), (ring, ob 5 [g_hc, g_0, g_1, g_2, g_3, .ref rh, g_rd, .int ph, .int po]), (sS, ob 7 [sS0, sS1, sS2, .ref sA, .ref sX, .ref sY]), (sA, aZ G 6 sfA), (sX, aI G 6 sfX), (sY, aI G 6 sfY), (sT, ob 9 [.int sc, .ref ssp, .ref swh, .ref sfi, .ref sse, .ref sgi, .ref sle, sT0, sT1, sT2]), (ssp, aI G 12 sfsp), (swh, aZ G 12 sfwh), (sfi, aI G 12 sffi), (sse, aI G 12 sfse), (sgi, aI G 12 sfgi), (sle, aI G 48 sfle), (th_, aI G 8 tft)]) rfl (by decide) (by decide) ?_
  rintro _ _ ⟨g2_1, f13_2, rfl, rfl⟩
  refine Z.at (pc' := 16) (st' := []) (ws' := [(kO, ob 2 [.int 1, .ref kh, .ref kt, .ref kS, .ref kT, .int kp, .int ko]), (kt, aI G 8 kft), (kS, ob 7 [kS0, kS1, kS2, .ref kA, .ref kX, .ref kY]), (kA, aZ G 6 kfA), (kX, aI G 6 kfX), (kY, aI G 6 kfY), (kT, ob 9 [.int kc, .ref ksp, .ref kwh, .ref kfi, .ref kse, .ref kgi, .ref kle, kT0, kT1, kT2]), (ksp, aI G 12 kfsp), (kwh, aZ G 12 kfwh), (kfi, aI G 12 kffi), (kse, aI G 12 kfse), (kgi, aI G 12 kfgi), (kle, aI G 48 kfle), (ring, ob 5 [g_hc, g_0, g_1, g_2, g_3, .ref rh, g_rd, .int ph, .int po]), (sS, ob 7 [sS0, sS1, sS2, .ref sA, .ref sX, .ref sY]), (sA, aZ G 6 sfA), (sX, aI G 6 sfX), (sY, aI G 6 sfY), (sT, ob 9 [.int sc, .ref ssp, .ref swh, .ref sfi, .ref sse, .ref sgi, .ref sle, sT0, sT1, sT2]), (ssp, aI G 12 sfsp), (swh, aZ G 12 sfwh), (sfi, aI G 12 sffi), (sse, aI G 12 sfse), (sgi, aI G 12 sfgi), (sle, aI G 48 sfle), (th_, aI G 8 tft), (rh, aI G 16 rfh), (kh, aI G 16 g2_1)]) (kc' := 0) (ks' := 0) rfl rfl rfl rfl rfl ?_
  refine z_run X bx_X2_store_16_19 kx_X2_store_16_19 (lv' := [(0, .ref kO), (1, .ref ring), (2, .ref sS), (3, .ref sT), (4, .ref th_)]) (st' := [.ref kO, .ref th_]) rfl ?_
  refine z_get X fl_2_15 dx_X2_store_19 0 rfl (v := .ref kt) rfl ?_
  refine z_callSN X k_2_39 (cx_X10_copy8 l G th_ kt tft kft) dx_X2_store_22 ⟨Nat.le_of_ble_eq_true rfl, Nat.le_of_ble_eq_true rfl⟩ ⟨Nat.le_of_ble_eq_true rfl, Nat.le_of_ble_eq_true rfl⟩ rfl (rest := []) (As := [.ref th_, .ref kt]) rfl (Nat.le_of_ble_eq_true rfl) [25, 1] [0, 2, 3, 4, 5, 6, 7, 8, 9, 10, 11, 12, 13, 14, 15, 16, 17, 18, 19, 20, 21, 22, 23, 24, 26, 27] rfl (by decide) (wr := [(kO, ob 2 [.int 1, .ref kh, .ref kt, .ref kS, .ref kT, .int kp, .int ko]), (kS, ob 7 [kS0, kS1, kS2, .ref kA, .ref kX, .ref kY]), (kA, aZ G 6 kfA), (kX, aI G 6 kfX), (kY, aI G 6 kfY), (kT, ob 9 [.int kc, .ref ksp, .ref kwh, .ref kfi, .ref kse, .ref kgi, .ref kle, kT0, kT1, kT2]), (ksp, aI G 12 kfsp), (kwh, aZ G 12 kfwh), (kfi, aI G 12 kffi), (kse, aI G 12 kfse), (kgi, aI G 12 kfgi), (kle, aI G 48 kfle), (ring, ob 5 [g_hc, g_0, g_1, g_2, g_3, .ref rh, g_rd, .int ph, .int po]), (sS, ob 7 [sS0, sS1, sS2, .ref sA, .ref sX, .ref sY]), (sA, aZ G 6 sfA), (sX, aI G 6 sfX), (sY, aI G 6 sfY), (sT, ob 9 [.int sc, .ref ssp, .ref swh, .ref sfi, .ref sse, .ref sgi, .ref sle, sT0, sT1, sT2]), (ssp, aI G 12 sfsp), (swh, aZ G 12 sfwh), (sfi, aI G 12 sffi), (sse, aI G 12 sfse), (sgi, aI G 12 sfgi), (sle, aI G 48 sfle), (rh, aI G 16 rfh), (kh, aI G 16 g2_1)]) rfl (by decide) (by decide) ?_
  rintro _ _ ⟨g2_3, f22_4, rfl, rfl⟩
  refine Z.at (pc' := 25) (st' := []) (ws' := [(kO, ob 2 [.int 1, .ref kh, .ref kt, .ref kS, .ref kT, .int kp, .int ko]), (kS, ob 7 [kS0, kS1, kS2, .ref kA, .ref kX, .ref kY]), (kA, aZ G 6 kfA), (kX, aI G 6 kfX), (kY, aI G 6 kfY), (kT, ob 9 [.int kc, .ref ksp, .ref kwh, .ref kfi, .ref kse, .ref kgi, .ref kle, kT0, kT1, kT2]), (ksp, aI G 12 kfsp), (kwh, aZ G 12 kfwh), (kfi, aI G 12 kffi), (kse, aI G 12 kfse), (kgi, aI G 12 kfgi), (kle, aI G 48 kfle), (ring, ob 5 [g_hc, g_0, g_1, g_2, g_3, .ref rh, g_rd, .int ph, .int po]), (sS, ob 7 [sS0, sS1, sS2, .ref sA, .ref sX, .ref sY]), (sA, aZ G 6 sfA), (sX, aI G 6 sfX), (sY, aI G 6 sfY), (sT, ob 9 [.int sc, .ref ssp, .ref swh, .ref sfi, .ref sse, .ref sgi, .ref sle, sT0, sT1, sT2]), (ssp, aI G 12 sfsp), (swh, aZ G 12 sfwh), (sfi, aI G 12 sffi), (sse, aI G 12 sfse), (sgi, aI G 12 sfgi), (sle, aI G 48 sfle), (rh, aI G 16 rfh), (kh, aI G 16 g2_1), (th_, aI G 8 tft), (kt, aI G 8 g2_3)]) (kc' := 0) (ks' := 0) rfl rfl rfl rfl rfl ?_
  refine z_run X bx_X2_store_25_26 kx_X2_store_25_26 (lv' := [(0, .ref kO), (1, .ref ring), (2, .ref sS), (3, .ref sT), (4, .ref th_)]) (st' := [.ref kO]) rfl ?_
  refine z_get X fl_2_21 dx_X2_store_26 0 rfl (v := .ref kS) rfl ?_
  refine z_run X bx_X2_store_29_30 kx_X2_store_29_30 (lv' := [(0, .ref kO), (1, .ref ring), (2, .ref sS), (3, .ref sT), (4, .ref th_)]) (st' := [.ref sS, .ref kS]) rfl ?_
  refine z_callV X k_2_43 (cx_X7_copyApart l G kS kS0 kS1 kS2 kA kX kY sS sS0 sS1 sS2 sA sX sY kfA kfX kfY sfA sfX sfY) dx_X2_store_30 1 rfl rfl rfl ⟨Nat.le_of_ble_eq_true rfl, Nat.le_of_ble_eq_true rfl⟩ ⟨Nat.le_of_ble_eq_true rfl, Nat.le_of_ble_eq_true rfl⟩ rfl (rest := []) (As := [.ref sS]) rfl (Nat.le_of_ble_eq_true rfl) [1, 13, 2, 3, 4, 14, 15, 16] [0, 5, 6, 7, 8, 9, 10, 11, 12, 17, 18, 19, 20, 21, 22, 23, 24, 25, 26, 27] rfl (by decide) (wr := [(kO, ob 2 [.int 1, .ref kh, .ref kt, .ref kS, .ref kT, .int kp, .int ko]), (kT, ob 9 [.int kc, .ref ksp, .ref kwh, .ref kfi, .ref kse, .ref kgi, .ref kle, kT0, kT1, kT2]), (ksp, aI G 12 kfsp), (kwh, aZ G 12 kfwh), (kfi, aI G 12 kffi), (kse, aI G 12 kfse), (kgi, aI G 12 kfgi), (kle, aI G 48 kfle), (ring, ob 5 [g_hc, g_0, g_1, g_2, g_3, .ref rh, g_rd, .int ph, .int po]), (sT, ob 9 [.int sc, .ref ssp, .ref swh, .ref sfi, .ref sse, .ref sgi, .ref sle, sT0, sT1, sT2]), (ssp, aI G 12 sfsp), (swh, aZ G 12 sfwh), (sfi, aI G 12 sffi), (sse, aI G 12 sfse), (sgi, aI G 12 sfgi), (sle, aI G 48 sfle), (rh, aI G 16 rfh), (kh, aI G 16 g2_1), (th_, aI G 8 tft), (kt, aI G 8 g2_3)]) rfl (by decide) (by decide) ?_
  rintro _ _ ⟨dfA2_5, dfX2_6, dfY2_7, f30_8, f30_9, f30_10, rfl, rfl⟩
  refine Z.at (pc' := 33) (st' := []) (ws' := [(kO, ob 2 [.int 1, .ref kh, .ref kt, .ref kS, .ref kT, .int kp, .int ko]), (kT, ob 9 [.int kc, .ref ksp, .ref kwh, .ref kfi, .ref kse, .ref kgi, .ref kle, kT0, kT1, kT2]), (ksp, aI G 12 kfsp), (kwh, aZ G 12 kfwh), (kfi, aI G 12 kffi), (kse, aI G 12 kfse), (kgi, aI G 12 kfgi), (kle, aI G 48 kfle), (ring, ob 5 [g_hc, g_0, g_1, g_2, g_3, .ref rh, g_rd, .int ph, .int po]), (sT, ob 9 [.int sc, .ref ssp, .ref swh, .ref sfi, .ref sse, .ref sgi, .ref sle, sT0, sT1, sT2]), (ssp, aI G 12 sfsp), (swh, aZ G 12 sfwh), (sfi, aI G 12 sffi), (sse, aI G 12 sfse), (sgi, aI G 12 sfgi), (sle, aI G 48 sfle), (rh, aI G 16 rfh), (kh, aI G 16 g2_1), (th_, aI G 8 tft), (kt, aI G 8 g2_3), (kS, ob 7 [kS0, kS1, kS2, .ref kA, .ref kX, .ref kY]), (sS, ob 7 [sS0, sS1, sS2, .ref sA, .ref sX, .ref sY]), (kA, aZ G 6 dfA2_5), (kX, aI G 6 dfX2_6), (kY, aI G 6 dfY2_7), (sA, aZ G 6 sfA), (sX, aI G 6 sfX), (sY, aI G 6 sfY)]) (kc' := 0) (ks' := 0) rfl rfl rfl rfl rfl ?_
  refine z_run X bx_X2_store_33_34 kx_X2_store_33_34 (lv' := [(0, .ref kO), (1, .ref ring), (2, .ref sS), (3, .ref sT), (4, .ref th_)]) (st' := [.ref kO]) rfl ?_
  refine z_get X fl_2_28 dx_X2_store_34 0 rfl (v := .ref kT) rfl ?_
  refine z_run X bx_X2_store_37_38 kx_X2_store_37_38 (lv' := [(0, .ref kO), (1, .ref ring), (2, .ref sS), (3, .ref sT), (4, .ref th_)]) (st' := [.ref sT, .ref kT]) rfl ?_
  refine z_callV X k_2_47 (cx_X9_copyTrials l G kT kc ksp kwh kfi kse kgi kle kT0 kT1 kT2 sT sc ssp swh sfi sse sgi sle sT0 sT1 sT2 kfsp kfwh kffi kfse kfgi kfle sfsp sfwh sffi sfse sfgi sfle) dx_X2_store_38 1 rfl rfl rfl ⟨Nat.le_of_ble_eq_true rfl, Nat.le_of_ble_eq_true rfl⟩ ⟨Nat.le_of_ble_eq_true rfl, Nat.le_of_ble_eq_true rfl⟩ rfl (rest := []) (As := [.ref sT]) rfl (Nat.le_of_ble_eq_true rfl) [1, 9, 2, 3, 4, 5, 6, 7, 10, 11, 12, 13, 14, 15] [0, 8, 16, 17, 18, 19, 20, 21, 22, 23, 24, 25, 26, 27] rfl (by decide) (wr := [(kO, ob 2 [.int 1, .ref kh, .ref kt, .ref kS, .ref kT, .int kp, .int ko]), (ring, ob 5 [g_hc, g_0, g_1, g_2, g_3, .ref rh, g_rd, .int ph, .int po]), (rh, aI G 16 rfh), (kh, aI G 16 g2_1), (th_, aI G 8 tft), (kt, aI G 8 g2_3), (kS, ob 7 [kS0, kS1, kS2, .ref kA, .ref kX, .ref kY]), (sS, ob 7 [sS0, sS1, sS2, .ref sA, .ref sX, .ref sY]), (kA, aZ G 6 dfA2_5), (kX, aI G 6 dfX2_6), (kY, aI G 6 dfY2_7), (sA, aZ G 6 sfA), (sX, aI G 6 sfX), (sY, aI G 6 sfY)]) rfl (by decide) (by decide) ?_
  rintro _ _ ⟨dfsp2_11, dfwh2_12, dffi2_13, dfse2_14, dfgi2_15, dfle2_16, f38_17, f38_18, f38_19, f38_20, f38_21, f38_22, rfl, rfl⟩
  refine Z.at (pc' := 41) (st' := []) (ws' := [(kO, ob 2 [.int 1, .ref kh, .ref kt, .ref kS, .ref kT, .int kp, .int ko]), (ring, ob 5 [g_hc, g_0, g_1, g_2, g_3, .ref rh, g_rd, .int ph, .int po]), (rh, aI G 16 rfh), (kh, aI G 16 g2_1), (th_, aI G 8 tft), (kt, aI G 8 g2_3), (kS, ob 7 [kS0, kS1, kS2, .ref kA, .ref kX, .ref kY]), (sS, ob 7 [sS0, sS1, sS2, .ref sA, .ref sX, .ref sY]), (kA, aZ G 6 dfA2_5), (kX, aI G 6 dfX2_6), (kY, aI G 6 dfY2_7), (sA, aZ G 6 sfA), (sX, aI G 6 sfX), (sY, aI G 6 sfY), (kT, ob 9 [.int sc, .ref ksp, .ref kwh, .ref kfi, .ref kse, .ref kgi, .ref kle, kT0, kT1, kT2]), (sT, ob 9 [.int sc, .ref ssp, .ref swh, .ref sfi, .ref sse, .ref sgi, .ref sle, sT0, sT1, sT2]), (ksp, aI G 12 dfsp2_11), (kwh, aZ G 12 dfwh2_12), (kfi, aI G 12 dffi2_13), (kse, aI G 12 dfse2_14), (kgi, aI G 12 dfgi2_15), (kle, aI G 48 dfle2_16), (ssp, aI G 12 sfsp), (swh, aZ G 12 sfwh), (sfi, aI G 12 sffi), (sse, aI G 12 sfse), (sgi, aI G 12 sfgi), (sle, aI G 48 sfle)]) (kc' := 0) (ks' := 0) rfl rfl rfl rfl rfl ?_
  refine z_run X bx_X2_store_41_43 kx_X2_store_41_43 (lv' := [(0, .ref kO), (1, .ref ring), (2, .ref sS), (3, .ref sT), (4, .ref th_)]) (st' := [.ref ring, .ref kO]) rfl ?_
  refine z_getN X fl_2_51 dx_X2_store_43 1 rfl (v := .int ph) rfl ?_
  refine z_put X fl_2_55 dx_X2_store_46 0 rfl (ty := .int) (T := TX2) (N := 7) rfl (Or.inl rfl) (by decide +kernel) rfl (by rfl) (Nat.le_of_ble_eq_true rfl) (ws' := [(kO, ob 2 [.int 1, .ref kh, .ref kt, .ref kS, .ref kT, .int ph, .int ko]), (ring, ob 5 [g_hc, g_0, g_1, g_2, g_3, .ref rh, g_rd, .int ph, .int po]), (rh, aI G 16 rfh), (kh, aI G 16 g2_1), (th_, aI G 8 tft), (kt, aI G 8 g2_3), (kS, ob 7 [kS0, kS1, kS2, .ref kA, .ref kX, .ref kY]), (sS, ob 7 [sS0, sS1, sS2, .ref sA, .ref sX, .ref sY]), (kA, aZ G 6 dfA2_5), (kX, aI G 6 dfX2_6), (kY, aI G 6 dfY2_7), (sA, aZ G 6 sfA), (sX, aI G 6 sfX), (sY, aI G 6 sfY), (kT, ob 9 [.int sc, .ref ksp, .ref kwh, .ref kfi, .ref kse, .ref kgi, .ref kle, kT0, kT1, kT2]), (sT, ob 9 [.int sc, .ref ssp, .ref swh, .ref sfi, .ref sse, .ref sgi, .ref sle, sT0, sT1, sT2]), (ksp, aI G 12 dfsp2_11), (kwh, aZ G 12 dfwh2_12), (kfi, aI G 12 dffi2_13), (kse, aI G 12 dfse2_14), (kgi, aI G 12 dfgi2_15), (kle, aI G 48 dfle2_16), (ssp, aI G 12 sfsp), (swh, aZ G 12 sfwh), (sfi, aI G 12 sffi), (sse, aI G 12 sfse), (sgi, aI G 12 sfgi), (sle, aI G 48 sfle)]) rfl ?_
  refine z_run X bx_X2_store_49_51 kx_X2_store_49_51 (lv' := [(0, .ref kO), (1, .ref ring), (2, .ref sS), (3, .ref sT), (4, .ref th_)]) (st' := [.ref ring, .ref kO]) rfl ?_
  refine z_getN X fl_2_56 dx_X2_store_51 1 rfl (v := .int po) rfl ?_
  refine z_put X fl_2_59 dx_X2_store_54 0 rfl (ty := .int) (T := TX2) (N := 7) rfl (Or.inl rfl) (by decide +kernel) rfl (by rfl) (Nat.le_of_ble_eq_true rfl) (ws' := [(kO, ob 2 [.int 1, .ref kh, .ref kt, .ref kS, .ref kT, .int ph, .int po]), (ring, ob 5 [g_hc, g_0, g_1, g_2, g_3, .ref rh, g_rd, .int ph, .int po]), (rh, aI G 16 rfh), (kh, aI G 16 g2_1), (th_, aI G 8 tft), (kt, aI G 8 g2_3), (kS, ob 7 [kS0, kS1, kS2, .ref kA, .ref kX, .ref kY]), (sS, ob 7 [sS0, sS1, sS2, .ref sA, .ref sX, .ref sY]), (kA, aZ G 6 dfA2_5), (kX, aI G 6 dfX2_6), (kY, aI G 6 dfY2_7), (sA, aZ G 6 sfA), (sX, aI G 6 sfX), (sY, aI G 6 sfY), (kT, ob 9 [.int sc, .ref ksp, .ref kwh, .ref kfi, .ref kse, .ref kgi, .ref kle, kT0, kT1, kT2]), (sT, ob 9 [.int sc, .ref ssp, .ref swh, .ref sfi, .ref sse, .ref sgi, .ref sle, sT0, sT1, sT2]), (ksp, aI G 12 dfsp2_11), (kwh, aZ G 12 dfwh2_12), (kfi, aI G 12 dffi2_13), (kse, aI G 12 dfse2_14), (kgi, aI G 12 dfgi2_15), (kle, aI G 48 dfle2_16), (ssp, aI G 12 sfsp), (swh, aZ G 12 sfwh), (sfi, aI G 12 sffi), (sse, aI G 12 sfse), (sgi, aI G 12 sfgi), (sle, aI G 48 sfle)]) rfl ?_
  refine Z.sub (lv' := []) [] rfl [0, 3, 5, 6, 8, 9, 10, 14, 16, 17, 18, 19, 20, 21, 1, 2, 7, 11, 12, 13, 15, 22, 23, 24, 25, 26, 27, 4] (ws' := [(kO, ob 2 [.int 1, .ref kh, .ref kt, .ref kS, .ref kT, .int ph, .int po]), (kh, aI G 16 g2_1), (kt, aI G 8 g2_3), (kS, ob 7 [kS0, kS1, kS2, .ref kA, .ref kX, .ref kY]), (kA, aZ G 6 dfA2_5), (kX, aI G 6 dfX2_6), (kY, aI G 6 dfY2_7), (kT, ob 9 [.int sc, .ref ksp, .ref kwh, .ref kfi, .ref kse, .ref kgi, .ref kle, kT0, kT1, kT2]), (ksp, aI G 12 dfsp2_11), (kwh, aZ G 12 dfwh2_12), (kfi, aI G 12 dffi2_13), (kse, aI G 12 dfse2_14), (kgi, aI G 12 dfgi2_15), (kle, aI G 48 dfle2_16), (ring, ob 5 [g_hc, g_0, g_1, g_2, g_3, .ref rh, g_rd, .int ph, .int po]), (rh, aI G 16 rfh), (sS, ob 7 [sS0, sS1, sS2, .ref sA, .ref sX, .ref sY]), (sA, aZ G 6 sfA), (sX, aI G 6 sfX), (sY, aI G 6 sfY), (sT, ob 9 [.int sc, .ref ssp, .ref swh, .ref sfi, .ref sse, .ref sgi, .ref sle, sT0, sT1, sT2]), (ssp, aI G 12 sfsp), (swh, aZ G 12 sfwh), (sfi, aI G 12 sffi), (sse, aI G 12 sfse), (sgi, aI G 12 sfgi), (sle, aI G 48 sfle), (th_, aI G 8 tft)]) rfl (by decide) ?_
  exact z_vret X rfl dx_X2_store_57 (Nat.le_of_ble_eq_true rfl) (Nat.le_of_ble_eq_true rfl) ⟨g2_1, g2_3, dfA2_5, dfX2_6, dfY2_7, dfsp2_11, dfwh2_12, dffi2_13, dfse2_14, dfgi2_15, dfle2_16, f13_2, f22_4, f30_8, f30_9, f30_10, f38_17, f38_18, f38_19, f38_20, f38_21, f38_22, rfl, rfl⟩

theorem dx_X2_bringBack_1 : decode cX2_bringBack 1 = .ok (.getfield 9, 3) := by decide +kernel
theorem dx_X2_bringBack_5 : decode cX2_bringBack 5 = .ok (.getfield 36, 3) := by decide +kernel
theorem dx_X2_bringBack_8 : decode cX2_bringBack 8 = .ok (.invokestatic 39, 3) := by decide +kernel
theorem dx_X2_bringBack_12 : decode cX2_bringBack 12 = .ok (.getfield 15, 3) := by decide +kernel
theorem dx_X2_bringBack_17 : decode cX2_bringBack 17 = .ok (.invokestatic 39, 3) := by decide +kernel
theorem dx_X2_bringBack_22 : decode cX2_bringBack 22 = .ok (.getfield 21, 3) := by decide +kernel
theorem dx_X2_bringBack_25 : decode cX2_bringBack 25 = .ok (.invokevirtual 43, 3) := by decide +kernel
theorem dx_X2_bringBack_30 : decode cX2_bringBack 30 = .ok (.getfield 28, 3) := by decide +kernel
theorem dx_X2_bringBack_33 : decode cX2_bringBack 33 = .ok (.invokevirtual 47, 3) := by decide +kernel
theorem dx_X2_bringBack_38 : decode cX2_bringBack 38 = .ok (.getfield 55, 3) := by decide +kernel
theorem dx_X2_bringBack_41 : decode cX2_bringBack 41 = .ok (.putfield 51, 3) := by decide +kernel
theorem dx_X2_bringBack_46 : decode cX2_bringBack 46 = .ok (.getfield 59, 3) := by decide +kernel
theorem dx_X2_bringBack_49 : decode cX2_bringBack 49 = .ok (.putfield 56, 3) := by decide +kernel
theorem dx_X2_bringBack_52 : decode cX2_bringBack 52 = .ok (.return_, 1) := by decide +kernel
abbrev bx_X2_bringBack_0_1 : ZB := [(.aload_n 0, .null)]
theorem kx_X2_bringBack_0_1 : zchk cX2_bringBack bx_X2_bringBack_0_1 0 = true ∧ zpc bx_X2_bringBack_0_1 0 = 1 := ⟨by decide +kernel, rfl⟩
abbrev bx_X2_bringBack_4_5 : ZB := [(.aload_n 1, .null)]
theorem kx_X2_bringBack_4_5 : zchk cX2_bringBack bx_X2_bringBack_4_5 4 = true ∧ zpc bx_X2_bringBack_4_5 4 = 5 := ⟨by decide +kernel, rfl⟩
abbrev bx_X2_bringBack_11_12 : ZB := [(.aload_n 0, .null)]
theorem kx_X2_bringBack_11_12 : zchk cX2_bringBack bx_X2_bringBack_11_12 11 = true ∧ zpc bx_X2_bringBack_11_12 11 = 12 := ⟨by decide +kernel, rfl⟩
abbrev bx_X2_bringBack_15_17 : ZB := [(.aload 4, .null)]
theorem kx_X2_bringBack_15_17 : zchk cX2_bringBack bx_X2_bringBack_15_17 15 = true ∧ zpc bx_X2_bringBack_15_17 15 = 17 := ⟨by decide +kernel, rfl⟩
abbrev bx_X2_bringBack_20_22 : ZB := [(.aload_n 2, .null), (.aload_n 0, .null)]
theorem kx_X2_bringBack_20_22 : zchk cX2_bringBack bx_X2_bringBack_20_22 20 = true ∧ zpc bx_X2_bringBack_20_22 20 = 22 := ⟨by decide +kernel, rfl⟩
abbrev bx_X2_bringBack_28_30 : ZB := [(.aload_n 3, .null), (.aload_n 0, .null)]
theorem kx_X2_bringBack_28_30 : zchk cX2_bringBack bx_X2_bringBack_28_30 28 = true ∧ zpc bx_X2_bringBack_28_30 28 = 30 := ⟨by decide +kernel, rfl⟩
abbrev bx_X2_bringBack_36_38 : ZB := [(.aload_n 1, .null), (.aload_n 0, .null)]
theorem kx_X2_bringBack_36_38 : zchk cX2_bringBack bx_X2_bringBack_36_38 36 = true ∧ zpc bx_X2_bringBack_36_38 36 = 38 := ⟨by decide +kernel, rfl⟩
abbrev bx_X2_bringBack_44_46 : ZB := [(.aload_n 1, .null), (.aload_n 0, .null)]
theorem kx_X2_bringBack_44_46 : zchk cX2_bringBack bx_X2_bringBack_44_46 44 = true ∧ zpc bx_X2_bringBack_44_46 44 = 46 := ⟨by decide +kernel, rfl⟩
set_option maxHeartbeats 4000000 in
set_option maxRecDepth 100000 in
theorem cx_X2_bringBack (l : Launch) (G : KG) (kO : Nat) (kf : Int32) (kh : Nat) (kt : Nat) (kp : Int32) (ko : Int32) (kS : Nat) (kS0 : Value) (kS1 : Value) (kS2 : Value) (kA : Nat) (kX : Nat) (kY : Nat) (kT : Nat) (kc : Int32) (ksp : Nat) (kwh : Nat) (kfi : Nat) (kse : Nat) (kgi : Nat) (kle : Nat) (kT0 : Value) (kT1 : Value) (kT2 : Value) (ring : Nat) (g_hc : Value) (g_0 : Value) (g_1 : Value) (g_2 : Value) (g_3 : Value) (rh : Nat) (g_rd : Value) (ph : Int32) (po : Int32) (sS : Nat) (sS0 : Value) (sS1 : Value) (sS2 : Value) (sA : Nat) (sX : Nat) (sY : Nat) (sT : Nat) (sc : Int32) (ssp : Nat) (swh : Nat) (sfi : Nat) (sse : Nat) (sgi : Nat) (sle : Nat) (sT0 : Value) (sT1 : Value) (sT2 : Value) (th_ : Nat) (kfh : Nat → Int32) (kft : Nat → Int32) (kfA : Nat → Int32) (kfX : Nat → Int32) (kfY : Nat → Int32) (kfsp : Nat → Int32) (kfwh : Nat → Int32) (kffi : Nat → Int32) (kfse : Nat → Int32) (kfgi : Nat → Int32) (kfle : Nat → Int32) (rfh : Nat → Int32) (sfA : Nat → Int32) (sfX : Nat → Int32) (sfY : Nat → Int32) (sfsp : Nat → Int32) (sfwh : Nat → Int32) (sffi : Nat → Int32) (sfse : Nat → Int32) (sfgi : Nat → Int32) (sfle : Nat → Int32) (tft : Nat → Int32) : Ct l G yX2_bringBack cX2_bringBack 5 none { frames := 2, cells := 0, slots := 0, locals := 44 } [.ref kO, .ref ring, .ref sS, .ref sT, .ref th_] [(kO, ob 2 [.int kf, .ref kh, .ref kt, .ref kS, .ref kT, .int kp, .int ko]), (kh, aI G 16 kfh), (kt, aI G 8 kft), (kS, ob 7 [kS0, kS1, kS2, .ref kA, .ref kX, .ref kY]), (kA, aZ G 6 kfA), (kX, aI G 6 kfX), (kY, aI G 6 kfY), (kT, ob 9 [.int kc, .ref ksp, .ref kwh, .ref kfi, .ref kse, .ref kgi, .ref kle, kT0, kT1, kT2]), (ksp, aI G 12 kfsp), (kwh, aZ G 12 kfwh), (kfi, aI G 12 kffi), (kse, aI G 12 kfse), (kgi, aI G 12 kfgi), (kle, aI G 48 kfle), (ring, ob 5 [g_hc, g_0, g_1, g_2, g_3, .ref rh, g_rd, .int ph, .int po]), (rh, aI G 16 rfh), (sS, ob 7 [sS0, sS1, sS2, .ref sA, .ref sX, .ref sY]), (sA, aZ G 6 sfA), (sX, aI G 6 sfX), (sY, aI G 6 sfY), (sT, ob 9 [.int sc, .ref ssp, .ref swh, .ref sfi, .ref sse, .ref sgi, .ref sle, sT0, sT1, sT2]), (ssp, aI G 12 sfsp), (swh, aZ G 12 sfwh), (sfi, aI G 12 sffi), (sse, aI G 12 sfse), (sgi, aI G 12 sfgi), (sle, aI G 48 sfle), (th_, aI G 8 tft)] (fun r w1 => ∃ (rfh2 : Nat → Int32), ∃ (tft2 : Nat → Int32), ∃ (sfA2 : Nat → Int32), ∃ (sfX2 : Nat → Int32), ∃ (sfY2 : Nat → Int32), ∃ (sfsp2 : Nat → Int32), ∃ (sfwh2 : Nat → Int32), ∃ (sffi2 : Nat → Int32), ∃ (sfse2 : Nat → Int32), ∃ (sfgi2 : Nat → Int32), ∃ (sfle2 : Nat → Int32), (∀ j : Nat, j < 16 → rfh2 j = kfh j) ∧ (∀ j : Nat, j < 8 → tft2 j = kft j) ∧ (∀ j : Nat, j < 6 → sfX2 j = kfX j) ∧ (∀ j : Nat, j < 6 → sfY2 j = kfY j) ∧ (∀ j : Nat, j < 6 → sfA2 j = vp_nar .boolean (kfA j)) ∧ (∀ j : Nat, j < 12 → sfsp2 j = kfsp j) ∧ (∀ j : Nat, j < 12 → sfwh2 j = vp_nar .boolean (kfwh j)) ∧ (∀ j : Nat, j < 12 → sffi2 j = kffi j) ∧ (∀ j : Nat, j < 12 → sfse2 j = kfse j) ∧ (∀ j : Nat, j < 12 → sfgi2 j = kfgi j) ∧ (∀ j : Nat, j < 48 → sfle2 j = kfle j) ∧ r = none ∧ w1 = [(kO, ob 2 [.int kf, .ref kh, .ref kt, .ref kS, .ref kT, .int kp, .int ko]), (kh, aI G 16 kfh), (kt, aI G 8 kft), (kS, ob 7 [kS0, kS1, kS2, .ref kA, .ref kX, .ref kY]), (kA, aZ G 6 kfA), (kX, aI G 6 kfX), (kY, aI G 6 kfY), (kT, ob 9 [.int kc, .ref ksp, .ref kwh, .ref kfi, .ref kse, .ref kgi, .ref kle, kT0, kT1, kT2]), (ksp, aI G 12 kfsp), (kwh, aZ G 12 kfwh), (kfi, aI G 12 kffi), (kse, aI G 12 kfse), (kgi, aI G 12 kfgi), (kle, aI G 48 kfle), (ring, ob 5 [g_hc, g_0, g_1, g_2, g_3, .ref rh, g_rd, .int kp, .int ko]), (rh, aI G 16 rfh2), (sS, ob 7 [sS0, sS1, sS2, .ref sA, .ref sX, .ref sY]), (sA, aZ G 6 sfA2), (sX, aI G 6 sfX2), (sY, aI G 6 sfY2), (sT, ob 9 [.int kc, .ref ssp, .ref swh, .ref sfi, .ref sse, .ref sgi, .ref sle, sT0, sT1, sT2]), (ssp, aI G 12 sfsp2), (swh, aZ G 12 sfwh2), (sfi, aI G 12 sffi2), (sse, aI G 12 sfse2), (sgi, aI G 12 sfgi2), (sle, aI G 48 sfle2), (th_, aI G 8 tft2)]) := by
  refine ct_of [(0, .ref kO), (1, .ref ring), (2, .ref sS), (3, .ref sT), (4, .ref th_)] (by decide) (Nat.le_of_ble_eq_true rfl) rfl ?_
  intro p0 e0 s0 m0 args0 below0 meth0 c0 A X
  refine z_run X bx_X2_bringBack_0_1 kx_X2_bringBack_0_1 (lv' := [(0, .ref kO), (1, .ref ring), (2, .ref sS), (3, .ref sT), (4, .ref th_)]) (st' := [.ref kO]) rfl ?_
  refine z_get X fl_2_9 dx_X2_bringBack_1 0 rfl (v := .ref kh) rfl ?_
  refine z_run X bx_X2_bringBack_4_5 kx_X2_bringBack_4_5 (lv' := [(0, .ref kO), (1, .ref ring), (2, .ref sS), (3, .ref sT), (4, .ref th_)]) (st' := [.ref ring, .ref kh]) rfl ?_
  refine z_getN X fl_2_36 dx_X2_bringBack_5 14 rfl (v := .ref rh) rfl ?_
  refine z_callSN X k_2_39 (cx_X10_copy16 l G kh rh kfh rfh) dx_X2_bringBack_8 ⟨Nat.le_of_ble_eq_true rfl, Nat.le_of_ble_eq_true rfl⟩ ⟨Nat.le_of_ble_eq_true rfl, Nat.le_of_ble_eq_true rfl⟩ rfl (rest := []) (As := [.ref kh, .ref rh]) rfl (Nat.le_of_ble_eq_true rfl) [1, 15] [0, 2, 3, 4, 5, 6, 7, 8, 9, 10, 11, 12, 13, 14, 16, 17, 18, 19, 20, 21, 22, 23, 24, 25, 26, 27] rfl (by decide) (wr := [(kO, ob 2 [.int kf, .ref kh, .ref kt, .ref kS, .ref kT, .int kp, .int ko]), (kt, aI G 8 kft), (kS, ob 7 [kS0, kS1, kS2, .ref kA, .ref kX, .ref kY]), (kA, aZ G 6 kfA), (kX, aI G 6 kfX), (kY, aI G 6 kfY), (kT, ob 9 [.int kc, .ref ksp, .ref kwh, .ref kfi, .ref kse, .ref kgi, .ref kle, kT0, kT1, kT2]), (ksp, aI G 12 kfsp), (kwh, aZ G 12 kfwh), (kfi, aI G 12 kffi), (kse, aI G 12 kfse), (kgi, aI G 12 kfgi), (kle, aI G 48 kfle), (ring, ob 5 [g_hc, g_0, g_1, g_2, g_3, .ref rh, g_rd, .int ph, .int po]), (sS, ob 7 [sS0, sS1, sS2, .ref sA, .ref sX, .ref sY]), (sA, aZ G 6 sfA), (sX, aI G 6 sfX), (sY, aI G 6 sfY), (sT, ob 9 [.int sc, .ref ssp, .ref swh, .ref sfi, .ref sse, .ref sgi, .ref sle, sT0, sT1, sT2]), (ssp, aI G 12 sfsp), (swh, aZ G 12 sfwh), (sfi, aI G 12 sffi), (sse, aI G 12 sfse), (sgi, aI G 12 sfgi), (sle, aI G 48 sfle), (th_, aI G 8 tft)]) rfl (by decide) (by decide) ?_
  rintro _ _ ⟨g2_1, f8_2, rfl, rfl⟩
  refine Z.at (pc' := 11) (st' := []) (ws' := [(kO, ob 2 [.int kf, .ref kh, .ref kt, .ref kS, .ref kT, .int kp, .int ko]), (kt, aI G 8 kft), (kS, ob 7 [kS0, kS1, kS2, .ref kA, .ref kX, .ref kY]), (kA, aZ G 6 kfA), (kX, aI G 6 kfX), (kY, aI G 6 kfY), (kT, ob 9 [.int kc, .ref ksp, .ref kwh, .ref kfi, .ref kse, .ref kgi, .ref kle, kT0, kT1, kT2]), (ksp, aI G 12 kfsp), (kwh, aZ G 12 kfwh), (kfi, aI G 12 kffi), (kse, aI G 12 kfse), (kgi, aI G 12 kfgi), (kle, aI G 48 kfle), (ring, ob 5 [g_hc, g_0, g_1, g_2, g_3, .ref rh, g_rd, .int ph, .int po]), (sS, ob 7 [sS0, sS1, sS2, .ref sA, .ref sX, .ref sY]), (sA, aZ G 6 sfA), (sX, aI G 6 sfX), (sY, aI G 6 sfY), (sT, ob 9 [.int sc, .ref ssp, .ref swh, .ref sfi, .ref sse, .ref sgi, .ref sle, sT0, sT1, sT2]), (ssp, aI G 12 sfsp), (swh, aZ G 12 sfwh), (sfi, aI G 12 sffi), (sse, aI G 12 sfse), (sgi, aI G 12 sfgi), (sle, aI G 48 sfle), (th_, aI G 8 tft), (kh, aI G 16 kfh), (rh, aI G 16 g2_1)]) (kc' := 0) (ks' := 0) rfl rfl rfl rfl rfl ?_
  refine z_run X bx_X2_bringBack_11_12 kx_X2_bringBack_11_12 (lv' := [(0, .ref kO), (1, .ref ring), (2, .ref sS), (3, .ref sT), (4, .ref th_)]) (st' := [.ref kO]) rfl ?_
  refine z_get X fl_2_15 dx_X2_bringBack_12 0 rfl (v := .ref kt) rfl ?_
  refine z_run X bx_X2_bringBack_15_17 kx_X2_bringBack_15_17 (lv' := [(0, .ref kO), (1, .ref ring), (2, .ref sS), (3, .ref sT), (4, .ref th_)]) (st' := [.ref th_, .ref kt]) rfl ?_
  refine z_callSN X k_2_39 (cx_X10_copy8 l G kt th_ kft tft) dx_X2_bringBack_17 ⟨Nat.le_of_ble_eq_true rfl, Nat.le_of_ble_eq_true rfl⟩ ⟨Nat.le_of_ble_eq_true rfl, Nat.le_of_ble_eq_true rfl⟩ rfl (rest := []) (As := [.ref kt, .ref th_]) rfl (Nat.le_of_ble_eq_true rfl) [1, 25] [0, 2, 3, 4, 5, 6, 7, 8, 9, 10, 11, 12, 13, 14, 15, 16, 17, 18, 19, 20, 21, 22, 23, 24, 26, 27] rfl (by decide) (wr := [(kO, ob 2 [.int kf, .ref kh, .ref kt, .ref kS, .ref kT, .int kp, .int ko]), (kS, ob 7 [kS0, kS1, kS2, .ref kA, .ref kX, .ref kY]), (kA, aZ G 6 kfA), (kX, aI G 6 kfX), (kY, aI G 6 kfY), (kT, ob 9 [.int kc, .ref ksp, .ref kwh, .ref kfi, .ref kse, .ref kgi, .ref kle, kT0, kT1, kT2]), (ksp, aI G 12 kfsp), (kwh, aZ G 12 kfwh), (kfi, aI G 12 kffi), (kse, aI G 12 kfse), (kgi, aI G 12 kfgi), (kle, aI G 48 kfle), (ring, ob 5 [g_hc, g_0, g_1, g_2, g_3, .ref rh, g_rd, .int ph, .int po]), (sS, ob 7 [sS0, sS1, sS2, .ref sA, .ref sX, .ref sY]), (sA, aZ G 6 sfA), (sX, aI G 6 sfX), (sY, aI G 6 sfY), (sT, ob 9 [.int sc, .ref ssp, .ref swh, .ref sfi, .ref sse, .ref sgi, .ref sle, sT0, sT1, sT2]), (ssp, aI G 12 sfsp), (swh, aZ G 12 sfwh), (sfi, aI G 12 sffi), (sse, aI G 12 sfse), (sgi, aI G 12 sfgi), (sle, aI G 48 sfle), (kh, aI G 16 kfh), (rh, aI G 16 g2_1)]) rfl (by decide) (by decide) ?_
  rintro _ _ ⟨g2_3, f17_4, rfl, rfl⟩
  refine Z.at (pc' := 20) (st' := []) (ws' := [(kO, ob 2 [.int kf, .ref kh, .ref kt, .ref kS, .ref kT, .int kp, .int ko]), (kS, ob 7 [kS0, kS1, kS2, .ref kA, .ref kX, .ref kY]), (kA, aZ G 6 kfA), (kX, aI G 6 kfX), (kY, aI G 6 kfY), (kT, ob 9 [.int kc, .ref ksp, .ref kwh, .ref kfi, .ref kse, .ref kgi, .ref kle, kT0, kT1, kT2]), (ksp, aI G 12 kfsp), (kwh, aZ G 12 kfwh), (kfi, aI G 12 kffi), (kse, aI G 12 kfse), (kgi, aI G 12 kfgi), (kle, aI G 48 kfle), (ring, ob 5 [g_hc, g_0, g_1, g_2, g_3, .ref rh, g_rd, .int ph, .int po]), (sS, ob 7 [sS0, sS1, sS2, .ref sA, .ref sX, .ref sY]), (sA, aZ G 6 sfA), (sX, aI G 6 sfX), (sY, aI G 6 sfY), (sT, ob 9 [.int sc, .ref ssp, .ref swh, .ref sfi, .ref sse, .ref sgi, .ref sle, sT0, sT1, sT2]), (ssp, aI G 12 sfsp), (swh, aZ G 12 sfwh), (sfi, aI G 12 sffi), (sse, aI G 12 sfse), (sgi, aI G 12 sfgi), (sle, aI G 48 sfle), (kh, aI G 16 kfh), (rh, aI G 16 g2_1), (kt, aI G 8 kft), (th_, aI G 8 g2_3)]) (kc' := 0) (ks' := 0) rfl rfl rfl rfl rfl ?_
  refine z_run X bx_X2_bringBack_20_22 kx_X2_bringBack_20_22 (lv' := [(0, .ref kO), (1, .ref ring), (2, .ref sS), (3, .ref sT), (4, .ref th_)]) (st' := [.ref kO, .ref sS]) rfl ?_
  refine z_get X fl_2_21 dx_X2_bringBack_22 0 rfl (v := .ref kS) rfl ?_
  refine z_callV X k_2_43 (cx_X7_copyApart l G sS sS0 sS1 sS2 sA sX sY kS kS0 kS1 kS2 kA kX kY sfA sfX sfY kfA kfX kfY) dx_X2_bringBack_25 13 rfl rfl rfl ⟨Nat.le_of_ble_eq_true rfl, Nat.le_of_ble_eq_true rfl⟩ ⟨Nat.le_of_ble_eq_true rfl, Nat.le_of_ble_eq_true rfl⟩ rfl (rest := []) (As := [.ref kS]) rfl (Nat.le_of_ble_eq_true rfl) [13, 1, 14, 15, 16, 2, 3, 4] [0, 5, 6, 7, 8, 9, 10, 11, 12, 17, 18, 19, 20, 21, 22, 23, 24, 25, 26, 27] rfl (by decide) (wr := [(kO, ob 2 [.int kf, .ref kh, .ref kt, .ref kS, .ref kT, .int kp, .int ko]), (kT, ob 9 [.int kc, .ref ksp, .ref kwh, .ref kfi, .ref kse, .ref kgi, .ref kle, kT0, kT1, kT2]), (ksp, aI G 12 kfsp), (kwh, aZ G 12 kfwh), (kfi, aI G 12 kffi), (kse, aI G 12 kfse), (kgi, aI G 12 kfgi), (kle, aI G 48 kfle), (ring, ob 5 [g_hc, g_0, g_1, g_2, g_3, .ref rh, g_rd, .int ph, .int po]), (sT, ob 9 [.int sc, .ref ssp, .ref swh, .ref sfi, .ref sse, .ref sgi, .ref sle, sT0, sT1, sT2]), (ssp, aI G 12 sfsp), (swh, aZ G 12 sfwh), (sfi, aI G 12 sffi), (sse, aI G 12 sfse), (sgi, aI G 12 sfgi), (sle, aI G 48 sfle), (kh, aI G 16 kfh), (rh, aI G 16 g2_1), (kt, aI G 8 kft), (th_, aI G 8 g2_3)]) rfl (by decide) (by decide) ?_
  rintro _ _ ⟨dfA2_5, dfX2_6, dfY2_7, f25_8, f25_9, f25_10, rfl, rfl⟩
  refine Z.at (pc' := 28) (st' := []) (ws' := [(kO, ob 2 [.int kf, .ref kh, .ref kt, .ref kS, .ref kT, .int kp, .int ko]), (kT, ob 9 [.int kc, .ref ksp, .ref kwh, .ref kfi, .ref kse, .ref kgi, .ref kle, kT0, kT1, kT2]), (ksp, aI G 12 kfsp), (kwh, aZ G 12 kfwh), (kfi, aI G 12 kffi), (kse, aI G 12 kfse), (kgi, aI G 12 kfgi), (kle, aI G 48 kfle), (ring, ob 5 [g_hc, g_0, g_1, g_2, g_3, .ref rh, g_rd, .int ph, .int po]), (sT, ob 9 [.int sc, .ref ssp, .ref swh, .ref sfi, .ref sse, .ref sgi, .ref sle, sT0, sT1, sT2]), (ssp, aI G 12 sfsp), (swh, aZ G 12 sfwh), (sfi, aI G 12 sffi), (sse, aI G 12 sfse), (sgi, aI G 12 sfgi), (sle, aI G 48 sfle), (kh, aI G 16 kfh), (rh, aI G 16 g2_1), (kt, aI G 8 kft), (th_, aI G 8 g2_3), (sS, ob 7 [sS0, sS1, sS2, .ref sA, .ref sX, .ref sY]), (kS, ob 7 [kS0, kS1, kS2, .ref kA, .ref kX, .ref kY]), (sA, aZ G 6 dfA2_5), (sX, aI G 6 dfX2_6), (sY, aI G 6 dfY2_7), (kA, aZ G 6 kfA), (kX, aI G 6 kfX), (kY, aI G 6 kfY)]) (kc' := 0) (ks' := 0) rfl rfl rfl rfl rfl ?_
  refine z_run X bx_X2_bringBack_28_30 kx_X2_bringBack_28_30 (lv' := [(0, .ref kO), (1, .ref ring), (2, .ref sS), (3, .ref sT), (4, .ref th_)]) (st' := [.ref kO, .ref sT]) rfl ?_
  refine z_get X fl_2_28 dx_X2_bringBack_30 0 rfl (v := .ref kT) rfl ?_
  refine z_callV X k_2_47 (cx_X9_copyTrials l G sT sc ssp swh sfi sse sgi sle sT0 sT1 sT2 kT kc ksp kwh kfi kse kgi kle kT0 kT1 kT2 sfsp sfwh sffi sfse sfgi sfle kfsp kfwh kffi kfse kfgi kfle) dx_X2_bringBack_33 9 rfl rfl rfl ⟨Nat.le_of_ble_eq_true rfl, Nat.le_of_ble_eq_true rfl⟩ ⟨Nat.le_of_ble_eq_true rfl, Nat.le_of_ble_eq_true rfl⟩ rfl (rest := []) (As := [.ref kT]) rfl (Nat.le_of_ble_eq_true rfl) [9, 1, 10, 11, 12, 13, 14, 15, 2, 3, 4, 5, 6, 7] [0, 8, 16, 17, 18, 19, 20, 21, 22, 23, 24, 25, 26, 27] rfl (by decide) (wr := [(kO, ob 2 [.int kf, .ref kh, .ref kt, .ref kS, .ref kT, .int kp, .int ko]), (ring, ob 5 [g_hc, g_0, g_1, g_2, g_3, .ref rh, g_rd, .int ph, .int po]), (kh, aI G 16 kfh), (rh, aI G 16 g2_1), (kt, aI G 8 kft), (th_, aI G 8 g2_3), (sS, ob 7 [sS0, sS1, sS2, .ref sA, .ref sX, .ref sY]), (kS, ob 7 [kS0, kS1, kS2, .ref kA, .ref kX, .ref kY]), (sA, aZ G 6 dfA2_5), (sX, aI G 6 dfX2_6), (sY, aI G 6 dfY2_7), (kA, aZ G 6 kfA), (kX, aI G 6 kfX), (kY, aI G 6 kfY)]) rfl (by decide) (by decide) ?_
  rintro _ _ ⟨dfsp2_11, dfwh2_12, dffi2_13, dfse2_14, dfgi2_15, dfle2_16, f33_17, f33_18, f33_19, f33_20, f33_21, f33_22, rfl, rfl⟩
  refine Z.at (pc' := 36) (st' := []) (ws' := [(kO, ob 2 [.int kf, .ref kh, .ref kt, .ref kS, .ref kT, .int kp, .int ko]), (ring, ob 5 [g_hc, g_0, g_1, g_2, g_3, .ref rh, g_rd, .int ph, .int po]), (kh, aI G 16 kfh), (rh, aI G 16 g2_1), (kt, aI G 8 kft), (th_, aI G 8 g2_3), (sS, ob 7 [sS0, sS1, sS2, .ref sA, .ref sX, .ref sY]), (kS, ob 7 [kS0, kS1, kS2, .ref kA, .ref kX, .ref kY]), (sA, aZ G 6 dfA2_5), (sX, aI G 6 dfX2_6), (sY, aI G 6 dfY2_7), (kA, aZ G 6 kfA), (kX, aI G 6 kfX), (kY, aI G 6 kfY), (sT, ob 9 [.int kc, .ref ssp, .ref swh, .ref sfi, .ref sse, .ref sgi, .ref sle, sT0, sT1, sT2]), (kT, ob 9 [.int kc, .ref ksp, .ref kwh, .ref kfi, .ref kse, .ref kgi, .ref kle, kT0, kT1, kT2]), (ssp, aI G 12 dfsp2_11), (swh, aZ G 12 dfwh2_12), (sfi, aI G 12 dffi2_13), (sse, aI G 12 dfse2_14), (sgi, aI G 12 dfgi2_15), (sle, aI G 48 dfle2_16), (ksp, aI G 12 kfsp), (kwh, aZ G 12 kfwh), (kfi, aI G 12 kffi), (kse, aI G 12 kfse), (kgi, aI G 12 kfgi), (kle, aI G 48 kfle)]) (kc' := 0) (ks' := 0) rfl rfl rfl rfl rfl ?_
  refine z_run X bx_X2_bringBack_36_38 kx_X2_bringBack_36_38 (lv' := [(0, .ref kO), (1, .ref ring), (2, .ref sS), (3, .ref sT), (4, .ref th_)]) (st' := [.ref kO, .ref ring]) rfl ?_
  refine z_get X fl_2_55 dx_X2_bringBack_38 0 rfl (v := .int kp) rfl ?_
  refine z_putN X fl_2_51 dx_X2_bringBack_41 1 rfl (ty := .int) (T := TX5) (N := 9) rfl rfl (by decide +kernel) rfl (by rfl) (Nat.le_of_ble_eq_true rfl) (ws' := [(kO, ob 2 [.int kf, .ref kh, .ref kt, .ref kS, .ref kT, .int kp, .int ko]), (ring, ob 5 [g_hc, g_0, g_1, g_2, g_3, .ref rh, g_rd, .int kp, .int po]), (kh, aI G 16 kfh), (rh, aI G 16 g2_1), (kt, aI G 8 kft), (th_, aI G 8 g2_3), (sS, ob 7 [sS0, sS1, sS2, .ref sA, .ref sX, .ref sY]), (kS, ob 7 [kS0, kS1, kS2, .ref kA, .ref kX, .ref kY]), (sA, aZ G 6 dfA2_5), (sX, aI G 6 dfX2_6), (sY, aI G 6 dfY2_7), (kA, aZ G 6 kfA), (kX, aI G 6 kfX), (kY, aI G 6 kfY), (sT, ob 9 [.int kc, .ref ssp, .ref swh, .ref sfi, .ref sse, .ref sgi, .ref sle, sT0, sT1, sT2]), (kT, ob 9 [.int kc, .ref ksp, .ref kwh, .ref kfi, .ref kse, .ref kgi, .ref kle, kT0, kT1, kT2]), (ssp, aI G 12 dfsp2_11), (swh, aZ G 12 dfwh2_12), (sfi, aI G 12 dffi2_13), (sse, aI G 12 dfse2_14), (sgi, aI G 12 dfgi2_15), (sle, aI G 48 dfle2_16), (ksp, aI G 12 kfsp), (kwh, aZ G 12 kfwh), (kfi, aI G 12 kffi), (kse, aI G 12 kfse), (kgi, aI G 12 kfgi), (kle, aI G 48 kfle)]) rfl ?_
  refine z_run X bx_X2_bringBack_44_46 kx_X2_bringBack_44_46 (lv' := [(0, .ref kO), (1, .ref ring), (2, .ref sS), (3, .ref sT), (4, .ref th_)]) (st' := [.ref kO, .ref ring]) rfl ?_
  refine z_get X fl_2_59 dx_X2_bringBack_46 0 rfl (v := .int ko) rfl ?_
  refine z_putN X fl_2_56 dx_X2_bringBack_49 1 rfl (ty := .int) (T := TX5) (N := 9) rfl rfl (by decide +kernel) rfl (by rfl) (Nat.le_of_ble_eq_true rfl) (ws' := [(kO, ob 2 [.int kf, .ref kh, .ref kt, .ref kS, .ref kT, .int kp, .int ko]), (ring, ob 5 [g_hc, g_0, g_1, g_2, g_3, .ref rh, g_rd, .int kp, .int ko]), (kh, aI G 16 kfh), (rh, aI G 16 g2_1), (kt, aI G 8 kft), (th_, aI G 8 g2_3), (sS, ob 7 [sS0, sS1, sS2, .ref sA, .ref sX, .ref sY]), (kS, ob 7 [kS0, kS1, kS2, .ref kA, .ref kX, .ref kY]), (sA, aZ G 6 dfA2_5), (sX, aI G 6 dfX2_6), (sY, aI G 6 dfY2_7), (kA, aZ G 6 kfA), (kX, aI G 6 kfX), (kY, aI G 6 kfY), (sT, ob 9 [.int kc, .ref ssp, .ref swh, .ref sfi, .ref sse, .ref sgi, .ref sle, sT0, sT1, sT2]), (kT, ob 9 [.int kc, .ref ksp, .ref kwh, .ref kfi, .ref kse, .ref kgi, .ref kle, kT0, kT1, kT2]), (ssp, aI G 12 dfsp2_11), (swh, aZ G 12 dfwh2_12), (sfi, aI G 12 dffi2_13), (sse, aI G 12 dfse2_14), (sgi, aI G 12 dfgi2_15), (sle, aI G 48 dfle2_16), (ksp, aI G 12 kfsp), (kwh, aZ G 12 kfwh), (kfi, aI G 12 kffi), (kse, aI G 12 kfse), (kgi, aI G 12 kfgi), (kle, aI G 48 kfle)]) rfl ?_
  refine Z.sub (lv' := []) [] rfl [0, 2, 4, 7, 11, 12, 13, 15, 22, 23, 24, 25, 26, 27, 1, 3, 6, 8, 9, 10, 14, 16, 17, 18, 19, 20, 21, 5] (ws' := [(kO, ob 2 [.int kf, .ref kh, .ref kt, .ref kS, .ref kT, .int kp, .int ko]), (kh, aI G 16 kfh), (kt, aI G 8 kft), (kS, ob 7 [kS0, kS1, kS2, .ref kA, .ref kX, .ref kY]), (kA, aZ G 6 kfA), (kX, aI G 6 kfX), (kY, aI G 6 kfY), (kT, ob 9 [.int kc, .ref ksp, .ref kwh, .ref kfi, .ref kse, .ref kgi, .ref kle, kT0, kT1, kT2]), (ksp, aI G 12 kfsp), (kwh, aZ G 12 kfwh), (kfi, aI G 12 kffi), (kse, aI G 12 kfse), (kgi, aI G 12 kfgi), (kle, aI G 48 kfle), (ring, ob 5 [g_hc, g_0, g_1, g_2, g_3, .ref rh, g_rd, .int kp, .int ko]), (rh, aI G 16 g2_1), (sS, ob 7 [sS0, sS1, sS2, .ref sA, .ref sX, .ref sY]), (sA, aZ G 6 dfA2_5), (sX, aI G 6 dfX2_6), (sY, aI G 6 dfY2_7), (sT, ob 9 [.int kc, .ref ssp, .ref swh, .ref sfi, .ref sse, .ref sgi, .ref sle, sT0, sT1, sT2]), (ssp, aI G 12 dfsp2_11), (swh, aZ G 12 dfwh2_12), (sfi, aI G 12 dffi2_13), (sse, aI G 12 dfse2_14), (sgi, aI G 12 dfgi2_15), (sle, aI G 48 dfle2_16), (th_, aI G 8 g2_3)]) rfl (by decide) ?_
  exact z_vret X rfl dx_X2_bringBack_52 (Nat.le_of_ble_eq_true rfl) (Nat.le_of_ble_eq_true rfl) ⟨g2_1, g2_3, dfA2_5, dfX2_6, dfY2_7, dfsp2_11, dfwh2_12, dffi2_13, dfse2_14, dfgi2_15, dfle2_16, f8_2, f17_4, f25_8, f25_9, f25_10, f33_17, f33_18, f33_19, f33_20, f33_21, f33_22, rfl, rfl⟩

