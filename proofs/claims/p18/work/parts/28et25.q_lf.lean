/-! lead, think, settle, mill in the typed worlds -/
set_option maxHeartbeats 4000000 in
set_option maxRecDepth 100000 in
theorem ac_ldx (l : Launch) (G : KG) {ad : Nat → Nat} {w0 : va_W} {h a v : Int32} {zr zh : Nat → Int32} (hW : WT G ad TX w0) (eh : fget w0 5 0 = some (.int h)) (er : cget w0 9 0 = some (.inr (cyI G, 16, .inl zr))) (ez : cget w0 10 0 = some (.inr (cyI G, 16, .inl zh))) : Ct l G yX10_lead cX10_lead 4 (some .int) { frames := 1, cells := 0, slots := 0, locals := 21 } [.ref (ad 0), .int a, .int v] w0 (fun r w1 => WT G ad TX w1 ∧ FRM C_X10_lead_0.2.2.2.2.1 w0 w1 ∧ (r = some (.int (mLead h.toInt zr zh a v).1) ∧ CQ G w1 10 16 (mLead h.toInt zr zh a v).2)) := by
  obtain ⟨g0, q0, t0⟩ := WT.tab hW (k := 0) rfl
  have r0_2 : g0 2 = .ref (ad 5) := vty2 (t0 2 _ rfl).1 rfl
  have c0 : w0[0]? = some ((ad 0), ob 10 [(g0 0), (g0 1), .ref (ad 5), (g0 3), (g0 4), (g0 5), (g0 6), (g0 7), (g0 8), (g0 9), (g0 10), (g0 11), (g0 12), (g0 13), (g0 14), (g0 15)]) := by
    rw [q0]
    show some (ad 0, ob 10 [g0 0, g0 1, g0 2, g0 3, g0 4, g0 5, g0 6, g0 7, g0 8, g0 9, g0 10, g0 11, g0 12, g0 13, g0 14, g0 15]) = _
    rw [r0_2]
  obtain ⟨g5, q5, t5⟩ := WT.tab hW (k := 5) rfl
  have r5_0 : g5 0 = .int h := Option.some.inj ((t5 0 _ rfl).2.symm.trans eh)
  have b5_0 : 0 ≤ h.toInt ∧ h.toInt ≤ 16 := by
    have h := (t5 0 _ rfl).1
    rw [r5_0] at h
    obtain ⟨y, e, l1, u1⟩ := vty0 h rfl
    obtain rfl := Value.int.inj e
    exact ⟨l1, u1⟩
  have r5_4 : g5 4 = .ref (ad 9) := vty2 (t5 4 _ rfl).1 rfl
  have r5_5 : g5 5 = .ref (ad 10) := vty2 (t5 5 _ rfl).1 rfl
  have c5 : w0[5]? = some ((ad 5), ob 5 [.int h, (g5 1), (g5 2), (g5 3), .ref (ad 9), .ref (ad 10), (g5 6), (g5 7), (g5 8)]) := by
    rw [q5]
    show some (ad 5, ob 5 [g5 0, g5 1, g5 2, g5 3, g5 4, g5 5, g5 6, g5 7, g5 8]) = _
    rw [r5_0, r5_4, r5_5]
  obtain ⟨f9, c9, -⟩ := WT.ints hW (k := 9) rfl
  have ef9 : f9 = zr := arrinj ((cgetI c9 0).symm.trans er)
  rw [ef9] at c9
  obtain ⟨f10, c10, -⟩ := WT.ints hW (k := 10) rfl
  have ef10 : f10 = zh := arrinj ((cgetI c10 0).symm.trans ez)
  rw [ef10] at c10
  have h2 := cl_X10_lead l G (ad 0) (g0 0) (g0 1) (ad 5) (g0 3) (g0 4) (g0 5) (g0 6) (g0 7) (g0 8) (g0 9) (g0 10) (g0 11) (g0 12) (g0 13) (g0 14) (g0 15) (ad 5) h (g5 1) (g5 2) (g5 3) (ad 9) (ad 10) (g5 6) (g5 7) (g5 8) zr zh a v h.toInt a.toInt v.toInt rfl rfl rfl (by omega)
  refine Ct.weak (Ct.and (show Ct l G yX10_lead cX10_lead 4 (some .int) { frames := 1, cells := 0, slots := 0, locals := 21 } [.ref (ad 0), .int a, .int v] w0 (fun r w1 => POST G ad TX C_X10_lead_0 (fun k => ((Value.ref (ad 0) :: [.int a, .int v])[k]?).getD .null) w0 r w1) from ac_X10_lead_0 l G ad w0 _ hW (pre_mu (C := C_X10_lead_0) (ts := [tI0, tI0]) (As := [.int a, .int v]) rfl rfl rfl rfl ⟨fun _ => vty_i0 _, fun _ => vty_i0 _, trivial⟩ ad w0 rfl)) h2 [0, 5, 9, 10] (pk_cons c0 (pk_cons c5 (pk_cons c9 (pk_cons c10 rfl)))) (by decide)) ?_
  rintro r w1 ⟨hp, w2, ⟨rz, fh2, hr, hd, rfl, rfl⟩, hS⟩
  obtain ⟨A1, hA1, μ2, -, -, -, -, -, -, hW1, hF1⟩ := hp
  obtain ⟨fs0, -, u0, ul0, -, -⟩ := WT.obj hW1 (k := 0) (j := 0) rfl rfl
  obtain ⟨fs5, -, u5, ul5, -, -⟩ := WT.obj hW1 (k := 5) (j := 0) rfl rfl
  obtain ⟨p9, u9, -⟩ := WT.ints hW1 (k := 9) rfl
  obtain ⟨p10, u10, -⟩ := WT.ints hW1 (k := 10) rfl
  exact ⟨hW1, hF1, by rw [hr], p10, cgetI u10 0, fun k hk => by rw [← hd]; exact (same_I hS (k := 10) (j := 3) u10 rfl) k hk⟩
set_option maxHeartbeats 4000000 in
set_option maxRecDepth 100000 in
theorem ac_ldm (l : Launch) (G : KG) {ad : Nat → Nat} {w0 : va_W} {h a v : Int32} {zr zh : Nat → Int32} (hW : WT G ad TM w0) (eh : fget w0 0 3 = some (.int h)) (er : cget w0 5 0 = some (.inr (cyI G, 16, .inl zr))) (ez : cget w0 6 0 = some (.inr (cyI G, 16, .inl zh))) : Ct l G yX11_lead cX11_lead 4 (some .int) { frames := 2, cells := 0, slots := 0, locals := 46 } [.ref (ad 0), .int a, .int v] w0 (fun r w1 => WT G ad TM w1 ∧ FRM C_X11_lead_0.2.2.2.2.1 w0 w1 ∧ (r = some (.int (mLead h.toInt zr zh a v).1) ∧ CQ G w1 6 16 (mLead h.toInt zr zh a v).2)) := by
  obtain ⟨g0, q0, t0⟩ := WT.tab hW (k := 0) rfl
  obtain ⟨y0_0, r0_0, -, -⟩ := vty0 (t0 0 _ rfl).1 rfl
  have r0_3 : g0 3 = .int h := Option.some.inj ((t0 3 _ rfl).2.symm.trans eh)
  have b0_3 : 0 ≤ h.toInt ∧ h.toInt ≤ 16 := by
    have h := (t0 3 _ rfl).1
    rw [r0_3] at h
    obtain ⟨y, e, l1, u1⟩ := vty0 h rfl
    obtain rfl := Value.int.inj e
    exact ⟨l1, u1⟩
  have r0_4 : g0 4 = .ref (ad 2) := vty2 (t0 4 _ rfl).1 rfl
  have r0_5 : g0 5 = .ref (ad 3) := vty2 (t0 5 _ rfl).1 rfl
  have r0_6 : g0 6 = .ref (ad 4) := vty2 (t0 6 _ rfl).1 rfl
  have r0_7 : g0 7 = .ref (ad 5) := vty2 (t0 7 _ rfl).1 rfl
  have r0_8 : g0 8 = .ref (ad 6) := vty2 (t0 8 _ rfl).1 rfl
  have r0_9 : g0 9 = .ref (ad 7) := vty2 (t0 9 _ rfl).1 rfl
  obtain ⟨y0_10, r0_10, -, -⟩ := vty0 (t0 10 _ rfl).1 rfl
  have r0_11 : g0 11 = .ref (ad 8) := vty2 (t0 11 _ rfl).1 rfl
  have r0_12 : g0 12 = .ref (ad 9) := vty2 (t0 12 _ rfl).1 rfl
  have r0_13 : g0 13 = .ref (ad 10) := vty2 (t0 13 _ rfl).1 rfl
  obtain ⟨y0_16, r0_16, -, -⟩ := vty0 (t0 16 _ rfl).1 rfl
  have r0_17 : g0 17 = .ref (ad 13) := vty2 (t0 17 _ rfl).1 rfl
  have r0_18 : g0 18 = .ref (ad 14) := vty2 (t0 18 _ rfl).1 rfl
  obtain ⟨y0_19, r0_19, -, -⟩ := vty0 (t0 19 _ rfl).1 rfl
  obtain ⟨y0_20, r0_20, -, -⟩ := vty0 (t0 20 _ rfl).1 rfl
  obtain ⟨y0_21, r0_21, -, -⟩ := vty0 (t0 21 _ rfl).1 rfl
  obtain ⟨y0_22, r0_22, -, -⟩ := vty0 (t0 22 _ rfl).1 rfl
  have c0 : w0[0]? = some ((ad 0), ob 11 [.int y0_0, (g0 1), (g0 2), .int h, .ref (ad 2), .ref (ad 3), .ref (ad 4), .ref (ad 5), .ref (ad 6), .ref (ad 7), .int y0_10, .ref (ad 8), .ref (ad 9), .ref (ad 10), (g0 14), (g0 15), .int y0_16, .ref (ad 13), .ref (ad 14), .int y0_19, .int y0_20, .int y0_21, .int y0_22, (g0 23), (g0 24), (g0 25), (g0 26), (g0 27), (g0 28), (g0 29), (g0 30), (g0 31), (g0 32), (g0 33), (g0 34), (g0 35), (g0 36), (g0 37), (g0 38), (g0 39), (g0 40), (g0 41), (g0 42), (g0 43), (g0 44), (g0 45), (g0 46), (g0 47), (g0 48), (g0 49), (g0 50), (g0 51), (g0 52), (g0 53), (g0 54), (g0 55), (g0 56), (g0 57), (g0 58), (g0 59), (g0 60), (g0 61), (g0 62), (g0 63), (g0 64), (g0 65), (g0 66), (g0 67), (g0 68), (g0 69), (g0 70), (g0 71), (g0 72), (g0 73), (g0 74)]) := by
    rw [q0]
    show some (ad 0, ob 11 [g0 0, g0 1, g0 2, g0 3, g0 4, g0 5, g0 6, g0 7, g0 8, g0 9, g0 10, g0 11, g0 12, g0 13, g0 14, g0 15, g0 16, g0 17, g0 18, g0 19, g0 20, g0 21, g0 22, g0 23, g0 24, g0 25, g0 26, g0 27, g0 28, g0 29, g0 30, g0 31, g0 32, g0 33, g0 34, g0 35, g0 36, g0 37, g0 38, g0 39, g0 40, g0 41, g0 42, g0 43, g0 44, g0 45, g0 46, g0 47, g0 48, g0 49, g0 50, g0 51, g0 52, g0 53, g0 54, g0 55, g0 56, g0 57, g0 58, g0 59, g0 60, g0 61, g0 62, g0 63, g0 64, g0 65, g0 66, g0 67, g0 68, g0 69, g0 70, g0 71, g0 72, g0 73, g0 74]) = _
    rw [r0_0, r0_3, r0_4, r0_5, r0_6, r0_7, r0_8, r0_9, r0_10, r0_11, r0_12, r0_13, r0_16, r0_17, r0_18, r0_19, r0_20, r0_21, r0_22]
  obtain ⟨f5, c5, -⟩ := WT.ints hW (k := 5) rfl
  have ef5 : f5 = zr := arrinj ((cgetI c5 0).symm.trans er)
  rw [ef5] at c5
  obtain ⟨f6, c6, -⟩ := WT.ints hW (k := 6) rfl
  have ef6 : f6 = zh := arrinj ((cgetI c6 0).symm.trans ez)
  rw [ef6] at c6
  have h2 := cl_X11_lead l G (ad 0) y0_0 (g0 1) (g0 2) h (ad 2) (ad 3) (ad 4) (ad 5) (ad 6) (ad 7) y0_10 (ad 8) (ad 9) (ad 10) (g0 14) (g0 15) y0_16 (ad 13) (ad 14) y0_19 y0_20 y0_21 y0_22 (g0 23) (g0 24) (g0 25) (g0 26) (g0 27) (g0 28) (g0 29) (g0 30) (g0 31) (g0 32) (g0 33) (g0 34) (g0 35) (g0 36) (g0 37) (g0 38) (g0 39) (g0 40) (g0 41) (g0 42) (g0 43) (g0 44) (g0 45) (g0 46) (g0 47) (g0 48) (g0 49) (g0 50) (g0 51) (g0 52) (g0 53) (g0 54) (g0 55) (g0 56) (g0 57) (g0 58) (g0 59) (g0 60) (g0 61) (g0 62) (g0 63) (g0 64) (g0 65) (g0 66) (g0 67) (g0 68) (g0 69) (g0 70) (g0 71) (g0 72) (g0 73) (g0 74) zr zh a v h.toInt a.toInt v.toInt rfl rfl rfl (by omega)
  refine Ct.weak (Ct.and (show Ct l G yX11_lead cX11_lead 4 (some .int) { frames := 2, cells := 0, slots := 0, locals := 46 } [.ref (ad 0), .int a, .int v] w0 (fun r w1 => POST G ad TM C_X11_lead_0 (fun k => ((Value.ref (ad 0) :: [.int a, .int v])[k]?).getD .null) w0 r w1) from ac_X11_lead_0 l G ad w0 _ hW (pre_mu (C := C_X11_lead_0) (ts := [tI0, tI0]) (As := [.int a, .int v]) rfl rfl rfl rfl ⟨fun _ => vty_i0 _, fun _ => vty_i0 _, trivial⟩ ad w0 rfl)) h2 [0, 5, 6] (pk_cons c0 (pk_cons c5 (pk_cons c6 rfl))) (by decide)) ?_
  rintro r w1 ⟨hp, w2, ⟨rz, fh2, hr, hd, rfl, rfl⟩, hS⟩
  obtain ⟨A1, hA1, μ2, -, -, -, -, -, -, hW1, hF1⟩ := hp
  obtain ⟨fs0, -, u0, ul0, -, -⟩ := WT.obj hW1 (k := 0) (j := 0) rfl rfl
  obtain ⟨p5, u5, -⟩ := WT.ints hW1 (k := 5) rfl
  obtain ⟨p6, u6, -⟩ := WT.ints hW1 (k := 6) rfl
  exact ⟨hW1, hF1, by rw [hr], p6, cgetI u6 0, fun k hk => by rw [← hd]; exact (same_I hS (k := 6) (j := 2) u6 rfl) k hk⟩
set_option maxHeartbeats 4000000 in
set_option maxRecDepth 100000 in
theorem ac_tkx (l : Launch) (G : KG) {ad : Nat → Nat} {w0 : va_W} {aq bq cq : Int32} {zt : Nat → Int32} (hW : WT G ad TX w0) (ez : cget w0 105 0 = some (.inr (cyI G, 8, .inl zt))) : Ct l G yX10_think cX10_think 4 (some .boolean) { frames := 2, cells := 0, slots := 0, locals := 44 } [.ref (ad 0), .int aq, .int bq, .int cq] w0 (fun r w1 => WT G ad TX w1 ∧ FRM C_X10_think_0.2.2.2.2.1 w0 w1 ∧ ((∃ v : Int32, r = some (.int v)) ∧ CQ G w1 105 8 (mMass zt aq bq cq))) := by
  obtain ⟨g0, q0, t0⟩ := WT.tab hW (k := 0) rfl
  have r0_11 : g0 11 = .ref (ad 105) := vty2 (t0 11 _ rfl).1 rfl
  have c0 : w0[0]? = some ((ad 0), ob 10 [(g0 0), (g0 1), (g0 2), (g0 3), (g0 4), (g0 5), (g0 6), (g0 7), (g0 8), (g0 9), (g0 10), .ref (ad 105), (g0 12), (g0 13), (g0 14), (g0 15)]) := by
    rw [q0]
    show some (ad 0, ob 10 [g0 0, g0 1, g0 2, g0 3, g0 4, g0 5, g0 6, g0 7, g0 8, g0 9, g0 10, g0 11, g0 12, g0 13, g0 14, g0 15]) = _
    rw [r0_11]
  obtain ⟨f105, c105, -⟩ := WT.ints hW (k := 105) rfl
  have ef105 : f105 = zt := arrinj ((cgetI c105 0).symm.trans ez)
  rw [ef105] at c105
  have h2 := cl_X10_think l G (ad 0) (g0 0) (g0 1) (g0 2) (g0 3) (g0 4) (g0 5) (g0 6) (g0 7) (g0 8) (g0 9) (g0 10) (ad 105) (g0 12) (g0 13) (g0 14) (g0 15) zt aq bq cq aq.toInt bq.toInt cq.toInt rfl rfl rfl 
  refine Ct.weak (Ct.and (show Ct l G yX10_think cX10_think 4 (some .boolean) { frames := 2, cells := 0, slots := 0, locals := 44 } [.ref (ad 0), .int aq, .int bq, .int cq] w0 (fun r w1 => POST G ad TX C_X10_think_0 (fun k => ((Value.ref (ad 0) :: [.int aq, .int bq, .int cq])[k]?).getD .null) w0 r w1) from ac_X10_think_0 l G ad w0 _ hW (pre_mu (C := C_X10_think_0) (ts := [tI0, tI0, tI0]) (As := [.int aq, .int bq, .int cq]) rfl rfl rfl rfl ⟨fun _ => vty_i0 _, fun _ => vty_i0 _, fun _ => vty_i0 _, trivial⟩ ad w0 rfl)) h2 [0, 105] (pk_cons c0 (pk_cons c105 rfl)) (by decide)) ?_
  rintro r w1 ⟨hp, w2, ⟨fm2, hf, rfl, rfl⟩, hS⟩
  obtain ⟨A1, hA1, μ2, -, -, -, -, -, -, hW1, hF1⟩ := hp
  obtain ⟨fs0, -, u0, ul0, -, -⟩ := WT.obj hW1 (k := 0) (j := 0) rfl rfl
  obtain ⟨p105, u105, -⟩ := WT.ints hW1 (k := 105) rfl
  exact ⟨hW1, hF1, ⟨_, rfl⟩, ⟨p105, cgetI u105 0, fun k hk => by rw [← hf]; exact (same_I hS (k := 105) (j := 1) u105 rfl) k hk⟩⟩
set_option maxHeartbeats 4000000 in
set_option maxRecDepth 100000 in
theorem ac_tkm (l : Launch) (G : KG) {ad : Nat → Nat} {w0 : va_W} {aq bq cq : Int32} {zx zy : Nat → Int32} (hW : WT G ad TM w0) (ex : cget w0 18 0 = some (.inr (cyI G, 4, .inl zx))) (ey : cget w0 19 0 = some (.inr (cyI G, 4, .inl zy))) : Ct l G yX11_think cX11_think 4 (some .boolean) { frames := 2, cells := 0, slots := 0, locals := 47 } [.ref (ad 0), .int aq, .int bq, .int cq] w0 (fun r w1 => WT G ad TM w1 ∧ FRM C_X11_think_0.2.2.2.2.1 w0 w1 ∧ ((∃ v : Int32, r = some (.int v)) ∧ CQ G w1 18 4 (mMx zx aq bq cq) ∧ CQ G w1 19 4 (mMy zy aq bq cq))) := by
  obtain ⟨g0, q0, t0⟩ := WT.tab hW (k := 0) rfl
  obtain ⟨y0_0, r0_0, -, -⟩ := vty0 (t0 0 _ rfl).1 rfl
  obtain ⟨y0_3, r0_3, bl0_3, bu0_3⟩ := vty0 (t0 3 _ rfl).1 rfl
  have b0_3 : 0 ≤ y0_3.toInt ∧ y0_3.toInt ≤ 16 := ⟨bl0_3, bu0_3⟩
  have r0_4 : g0 4 = .ref (ad 2) := vty2 (t0 4 _ rfl).1 rfl
  have r0_5 : g0 5 = .ref (ad 3) := vty2 (t0 5 _ rfl).1 rfl
  have r0_6 : g0 6 = .ref (ad 4) := vty2 (t0 6 _ rfl).1 rfl
  have r0_7 : g0 7 = .ref (ad 5) := vty2 (t0 7 _ rfl).1 rfl
  have r0_8 : g0 8 = .ref (ad 6) := vty2 (t0 8 _ rfl).1 rfl
  have r0_9 : g0 9 = .ref (ad 7) := vty2 (t0 9 _ rfl).1 rfl
  obtain ⟨y0_10, r0_10, -, -⟩ := vty0 (t0 10 _ rfl).1 rfl
  have r0_11 : g0 11 = .ref (ad 8) := vty2 (t0 11 _ rfl).1 rfl
  have r0_12 : g0 12 = .ref (ad 9) := vty2 (t0 12 _ rfl).1 rfl
  have r0_13 : g0 13 = .ref (ad 10) := vty2 (t0 13 _ rfl).1 rfl
  obtain ⟨y0_16, r0_16, -, -⟩ := vty0 (t0 16 _ rfl).1 rfl
  have r0_17 : g0 17 = .ref (ad 13) := vty2 (t0 17 _ rfl).1 rfl
  have r0_18 : g0 18 = .ref (ad 14) := vty2 (t0 18 _ rfl).1 rfl
  obtain ⟨y0_19, r0_19, -, -⟩ := vty0 (t0 19 _ rfl).1 rfl
  obtain ⟨y0_20, r0_20, -, -⟩ := vty0 (t0 20 _ rfl).1 rfl
  obtain ⟨y0_21, r0_21, -, -⟩ := vty0 (t0 21 _ rfl).1 rfl
  obtain ⟨y0_22, r0_22, -, -⟩ := vty0 (t0 22 _ rfl).1 rfl
  have r0_26 : g0 26 = .ref (ad 18) := vty2 (t0 26 _ rfl).1 rfl
  have r0_27 : g0 27 = .ref (ad 19) := vty2 (t0 27 _ rfl).1 rfl
  have c0 : w0[0]? = some ((ad 0), ob 11 [.int y0_0, (g0 1), (g0 2), .int y0_3, .ref (ad 2), .ref (ad 3), .ref (ad 4), .ref (ad 5), .ref (ad 6), .ref (ad 7), .int y0_10, .ref (ad 8), .ref (ad 9), .ref (ad 10), (g0 14), (g0 15), .int y0_16, .ref (ad 13), .ref (ad 14), .int y0_19, .int y0_20, .int y0_21, .int y0_22, (g0 23), (g0 24), (g0 25), .ref (ad 18), .ref (ad 19), (g0 28), (g0 29), (g0 30), (g0 31), (g0 32), (g0 33), (g0 34), (g0 35), (g0 36), (g0 37), (g0 38), (g0 39), (g0 40), (g0 41), (g0 42), (g0 43), (g0 44), (g0 45), (g0 46), (g0 47), (g0 48), (g0 49), (g0 50), (g0 51), (g0 52), (g0 53), (g0 54), (g0 55), (g0 56), (g0 57), (g0 58), (g0 59), (g0 60), (g0 61), (g0 62), (g0 63), (g0 64), (g0 65), (g0 66), (g0 67), (g0 68), (g0 69), (g0 70), (g0 71), (g0 72), (g0 73), (g0 74)]) := by
    rw [q0]
    show some (ad 0, ob 11 [g0 0, g0 1, g0 2, g0 3, g0 4, g0 5, g0 6, g0 7, g0 8, g0 9, g0 10, g0 11, g0 12, g0 13, g0 14, g0 15, g0 16, g0 17, g0 18, g0 19, g0 20, g0 21, g0 22, g0 23, g0 24, g0 25, g0 26, g0 27, g0 28, g0 29, g0 30, g0 31, g0 32, g0 33, g0 34, g0 35, g0 36, g0 37, g0 38, g0 39, g0 40, g0 41, g0 42, g0 43, g0 44, g0 45, g0 46, g0 47, g0 48, g0 49, g0 50, g0 51, g0 52, g0 53, g0 54, g0 55, g0 56, g0 57, g0 58, g0 59, g0 60, g0 61, g0 62, g0 63, g0 64, g0 65, g0 66, g0 67, g0 68, g0 69, g0 70, g0 71, g0 72, g0 73, g0 74]) = _
    rw [r0_0, r0_3, r0_4, r0_5, r0_6, r0_7, r0_8, r0_9, r0_10, r0_11, r0_12, r0_13, r0_16, r0_17, r0_18, r0_19, r0_20, r0_21, r0_22, r0_26, r0_27]
  obtain ⟨f18, c18, -⟩ := WT.ints hW (k := 18) rfl
  have ef18 : f18 = zx := arrinj ((cgetI c18 0).symm.trans ex)
  rw [ef18] at c18
  obtain ⟨f19, c19, -⟩ := WT.ints hW (k := 19) rfl
  have ef19 : f19 = zy := arrinj ((cgetI c19 0).symm.trans ey)
  rw [ef19] at c19
  have h2 := cl_X11_think l G (ad 0) y0_0 (g0 1) (g0 2) y0_3 (ad 2) (ad 3) (ad 4) (ad 5) (ad 6) (ad 7) y0_10 (ad 8) (ad 9) (ad 10) (g0 14) (g0 15) y0_16 (ad 13) (ad 14) y0_19 y0_20 y0_21 y0_22 (g0 23) (g0 24) (g0 25) (ad 18) (ad 19) (g0 28) (g0 29) (g0 30) (g0 31) (g0 32) (g0 33) (g0 34) (g0 35) (g0 36) (g0 37) (g0 38) (g0 39) (g0 40) (g0 41) (g0 42) (g0 43) (g0 44) (g0 45) (g0 46) (g0 47) (g0 48) (g0 49) (g0 50) (g0 51) (g0 52) (g0 53) (g0 54) (g0 55) (g0 56) (g0 57) (g0 58) (g0 59) (g0 60) (g0 61) (g0 62) (g0 63) (g0 64) (g0 65) (g0 66) (g0 67) (g0 68) (g0 69) (g0 70) (g0 71) (g0 72) (g0 73) (g0 74) zx zy aq bq cq aq.toInt bq.toInt cq.toInt rfl rfl rfl 
  refine Ct.weak (Ct.and (show Ct l G yX11_think cX11_think 4 (some .boolean) { frames := 2, cells := 0, slots := 0, locals := 47 } [.ref (ad 0), .int aq, .int bq, .int cq] w0 (fun r w1 => POST G ad TM C_X11_think_0 (fun k => ((Value.ref (ad 0) :: [.int aq, .int bq, .int cq])[k]?).getD .null) w0 r w1) from ac_X11_think_0 l G ad w0 _ hW (pre_mu (C := C_X11_think_0) (ts := [tI0, tI0, tI0]) (As := [.int aq, .int bq, .int cq]) rfl rfl rfl rfl ⟨fun _ => vty_i0 _, fun _ => vty_i0 _, fun _ => vty_i0 _, trivial⟩ ad w0 rfl)) h2 [0, 18, 19] (pk_cons c0 (pk_cons c18 (pk_cons c19 rfl))) (by decide)) ?_
  rintro r w1 ⟨hp, w2, ⟨k1, k2, h1, h2_, rfl, rfl⟩, hS⟩
  obtain ⟨A1, hA1, μ2, -, -, -, -, -, -, hW1, hF1⟩ := hp
  obtain ⟨fs0, -, u0, ul0, -, -⟩ := WT.obj hW1 (k := 0) (j := 0) rfl rfl
  obtain ⟨p18, u18, -⟩ := WT.ints hW1 (k := 18) rfl
  obtain ⟨p19, u19, -⟩ := WT.ints hW1 (k := 19) rfl
  exact ⟨hW1, hF1, ⟨_, rfl⟩, ⟨p18, cgetI u18 0, fun k hk => by rw [← h1]; exact (same_I hS (k := 18) (j := 1) u18 rfl) k hk⟩, ⟨p19, cgetI u19 0, fun k hk => by rw [← h2_]; exact (same_I hS (k := 19) (j := 2) u19 rfl) k hk⟩⟩
set_option maxHeartbeats 4000000 in
set_option maxRecDepth 100000 in
theorem ac_sex (l : Launch) (G : KG) {ad : Nat → Nat} {w0 : va_W} {h pq : Int32} {zp zx zy zr zh zt : Nat → Int32} (hW : WT G ad TX w0) (eh : fget w0 5 0 = some (.int h)) (ezp : cget w0 6 0 = some (.inr (cyI G, 16, .inl zp))) (ezx : cget w0 7 0 = some (.inr (cyI G, 16, .inl zx))) (ezy : cget w0 8 0 = some (.inr (cyI G, 16, .inl zy))) (ezr : cget w0 9 0 = some (.inr (cyI G, 16, .inl zr))) (ezh : cget w0 10 0 = some (.inr (cyI G, 16, .inl zh))) (ezt : cget w0 105 0 = some (.inr (cyI G, 8, .inl zt))) (hsb : 0 ≤ pq.toInt ∧ pq.toInt ≤ 1 → SB h.toInt zp zh zr zx zy (tX zt pq) (tY zt pq)) : Ct l G yX10_settle cX10_settle 3 (some .int) { frames := 5, cells := 0, slots := 0, locals := 129 } [.ref (ad 0), .int pq] w0 (fun r w1 => WT G ad TX w1 ∧ FRM C_t_X10_settle_0.2.2.2.2.1 w0 w1 ∧ (∃ (v : Int32) (q : Nat → Int32), r = some (.int v) ∧ SetE h.toInt zp zr zx zy (tX zt pq) (tY zt pq) pq.toInt zh v q ∧ CQ G w1 10 16 q)) := by
  obtain ⟨g0, q0, t0⟩ := WT.tab hW (k := 0) rfl
  have r0_2 : g0 2 = .ref (ad 5) := vty2 (t0 2 _ rfl).1 rfl
  have r0_11 : g0 11 = .ref (ad 105) := vty2 (t0 11 _ rfl).1 rfl
  have c0 : w0[0]? = some ((ad 0), ob 10 [(g0 0), (g0 1), .ref (ad 5), (g0 3), (g0 4), (g0 5), (g0 6), (g0 7), (g0 8), (g0 9), (g0 10), .ref (ad 105), (g0 12), (g0 13), (g0 14), (g0 15)]) := by
    rw [q0]
    show some (ad 0, ob 10 [g0 0, g0 1, g0 2, g0 3, g0 4, g0 5, g0 6, g0 7, g0 8, g0 9, g0 10, g0 11, g0 12, g0 13, g0 14, g0 15]) = _
    rw [r0_2, r0_11]
  obtain ⟨g5, q5, t5⟩ := WT.tab hW (k := 5) rfl
  have r5_0 : g5 0 = .int h := Option.some.inj ((t5 0 _ rfl).2.symm.trans eh)
  have b5_0 : 0 ≤ h.toInt ∧ h.toInt ≤ 16 := by
    have h := (t5 0 _ rfl).1
    rw [r5_0] at h
    obtain ⟨y, e, l1, u1⟩ := vty0 h rfl
    obtain rfl := Value.int.inj e
    exact ⟨l1, u1⟩
  have r5_1 : g5 1 = .ref (ad 6) := vty2 (t5 1 _ rfl).1 rfl
  have r5_2 : g5 2 = .ref (ad 7) := vty2 (t5 2 _ rfl).1 rfl
  have r5_3 : g5 3 = .ref (ad 8) := vty2 (t5 3 _ rfl).1 rfl
  have r5_4 : g5 4 = .ref (ad 9) := vty2 (t5 4 _ rfl).1 rfl
  have r5_5 : g5 5 = .ref (ad 10) := vty2 (t5 5 _ rfl).1 rfl
  obtain ⟨y5_7, r5_7, -, -⟩ := vty0 (t5 7 _ rfl).1 rfl
  obtain ⟨y5_8, r5_8, -, -⟩ := vty0 (t5 8 _ rfl).1 rfl
  have c5 : w0[5]? = some ((ad 5), ob 5 [.int h, .ref (ad 6), .ref (ad 7), .ref (ad 8), .ref (ad 9), .ref (ad 10), (g5 6), .int y5_7, .int y5_8]) := by
    rw [q5]
    show some (ad 5, ob 5 [g5 0, g5 1, g5 2, g5 3, g5 4, g5 5, g5 6, g5 7, g5 8]) = _
    rw [r5_0, r5_1, r5_2, r5_3, r5_4, r5_5, r5_7, r5_8]
  obtain ⟨f6, c6, -⟩ := WT.ints hW (k := 6) rfl
  have ef6 : f6 = zp := arrinj ((cgetI c6 0).symm.trans ezp)
  rw [ef6] at c6
  obtain ⟨f7, c7, -⟩ := WT.ints hW (k := 7) rfl
  have ef7 : f7 = zx := arrinj ((cgetI c7 0).symm.trans ezx)
  rw [ef7] at c7
  obtain ⟨f8, c8, -⟩ := WT.ints hW (k := 8) rfl
  have ef8 : f8 = zy := arrinj ((cgetI c8 0).symm.trans ezy)
  rw [ef8] at c8
  obtain ⟨f9, c9, -⟩ := WT.ints hW (k := 9) rfl
  have ef9 : f9 = zr := arrinj ((cgetI c9 0).symm.trans ezr)
  rw [ef9] at c9
  obtain ⟨f10, c10, -⟩ := WT.ints hW (k := 10) rfl
  have ef10 : f10 = zh := arrinj ((cgetI c10 0).symm.trans ezh)
  rw [ef10] at c10
  obtain ⟨f105, c105, -⟩ := WT.ints hW (k := 105) rfl
  have ef105 : f105 = zt := arrinj ((cgetI c105 0).symm.trans ezt)
  rw [ef105] at c105
  have h2 := cg_X10_settle l G (ad 0) (g0 0) (g0 1) (ad 5) (g0 3) (g0 4) (g0 5) (g0 6) (g0 7) (g0 8) (g0 9) (g0 10) (ad 105) (g0 12) (g0 13) (g0 14) (g0 15) h (ad 6) (ad 7) (ad 8) (ad 9) (ad 10) (g5 6) y5_7 y5_8 zp zx zy zr zh zt pq h.toInt pq.toInt rfl rfl (by omega) hsb
  refine Ct.weak (Ct.and (show Ct l G yX10_settle cX10_settle 3 (some .int) { frames := 5, cells := 0, slots := 0, locals := 129 } [.ref (ad 0), .int pq] w0 (fun r w1 => POST G ad TX C_t_X10_settle_0 (fun k => ((Value.ref (ad 0) :: [.int pq])[k]?).getD .null) w0 r w1) from ac_t_X10_settle_0 l G ad w0 _ hW (pre_mu (C := C_t_X10_settle_0) (ts := [tI0]) (As := [.int pq]) rfl rfl rfl rfl ⟨fun _ => vty_i0 _, trivial⟩ ad w0 rfl)) h2 [0, 5, 6, 7, 8, 9, 10, 105] (pk_cons c0 (pk_cons c5 (pk_cons c6 (pk_cons c7 (pk_cons c8 (pk_cons c9 (pk_cons c10 (pk_cons c105 rfl)))))))) (by decide)) ?_
  rintro r w1 ⟨hp, w2, ⟨rz, fh2, hs, rfl, rfl⟩, hS⟩
  obtain ⟨A1, hA1, μ2, -, -, -, -, -, -, hW1, hF1⟩ := hp
  obtain ⟨fs0, -, u0, ul0, -, -⟩ := WT.obj hW1 (k := 0) (j := 0) rfl rfl
  obtain ⟨fs5, -, u5, ul5, -, -⟩ := WT.obj hW1 (k := 5) (j := 0) rfl rfl
  obtain ⟨p6, u6, -⟩ := WT.ints hW1 (k := 6) rfl
  obtain ⟨p7, u7, -⟩ := WT.ints hW1 (k := 7) rfl
  obtain ⟨p8, u8, -⟩ := WT.ints hW1 (k := 8) rfl
  obtain ⟨p9, u9, -⟩ := WT.ints hW1 (k := 9) rfl
  obtain ⟨p10, u10, -⟩ := WT.ints hW1 (k := 10) rfl
  obtain ⟨p105, u105, -⟩ := WT.ints hW1 (k := 105) rfl
  exact ⟨hW1, hF1, rz, fh2, rfl, hs, p10, cgetI u10 0, fun k hk => (same_I hS (k := 10) (j := 6) u10 rfl) k hk⟩
set_option maxHeartbeats 4000000 in
set_option maxRecDepth 100000 in
theorem ac_sem (l : Launch) (G : KG) {ad : Nat → Nat} {w0 : va_W} {h pq : Int32} {zp zx zy zr zh zX zY : Nat → Int32} (hW : WT G ad TM w0) (eh : fget w0 0 3 = some (.int h)) (ezp : cget w0 2 0 = some (.inr (cyI G, 16, .inl zp))) (ezx : cget w0 3 0 = some (.inr (cyI G, 16, .inl zx))) (ezy : cget w0 4 0 = some (.inr (cyI G, 16, .inl zy))) (ezr : cget w0 5 0 = some (.inr (cyI G, 16, .inl zr))) (ezh : cget w0 6 0 = some (.inr (cyI G, 16, .inl zh))) (ezX : cget w0 18 0 = some (.inr (cyI G, 4, .inl zX))) (ezY : cget w0 19 0 = some (.inr (cyI G, 4, .inl zY))) : Ct l G yX11_settle cX11_settle 9 (some .int) { frames := 3, cells := 0, slots := 0, locals := 69 } [.ref (ad 0), .int pq] w0 (fun r w1 => WT G ad TM w1 ∧ FRM C_settle.2.2.2.2.1 w0 w1 ∧ (∃ (v : Int32) (q : Nat → Int32), r = some (.int v) ∧ SetE h.toInt zp zr zx zy (zX pq.toNatClampNeg) (zY pq.toNatClampNeg) pq.toInt zh v q ∧ CQ G w1 6 16 q)) := by
  obtain ⟨g0, q0, t0⟩ := WT.tab hW (k := 0) rfl
  obtain ⟨y0_0, r0_0, -, -⟩ := vty0 (t0 0 _ rfl).1 rfl
  have r0_3 : g0 3 = .int h := Option.some.inj ((t0 3 _ rfl).2.symm.trans eh)
  have b0_3 : 0 ≤ h.toInt ∧ h.toInt ≤ 16 := by
    have h := (t0 3 _ rfl).1
    rw [r0_3] at h
    obtain ⟨y, e, l1, u1⟩ := vty0 h rfl
    obtain rfl := Value.int.inj e
    exact ⟨l1, u1⟩
  have r0_4 : g0 4 = .ref (ad 2) := vty2 (t0 4 _ rfl).1 rfl
  have r0_5 : g0 5 = .ref (ad 3) := vty2 (t0 5 _ rfl).1 rfl
  have r0_6 : g0 6 = .ref (ad 4) := vty2 (t0 6 _ rfl).1 rfl
  have r0_7 : g0 7 = .ref (ad 5) := vty2 (t0 7 _ rfl).1 rfl
  have r0_8 : g0 8 = .ref (ad 6) := vty2 (t0 8 _ rfl).1 rfl
  have r0_9 : g0 9 = .ref (ad 7) := vty2 (t0 9 _ rfl).1 rfl
  obtain ⟨y0_10, r0_10, -, -⟩ := vty0 (t0 10 _ rfl).1 rfl
  have r0_11 : g0 11 = .ref (ad 8) := vty2 (t0 11 _ rfl).1 rfl
  have r0_12 : g0 12 = .ref (ad 9) := vty2 (t0 12 _ rfl).1 rfl
  have r0_13 : g0 13 = .ref (ad 10) := vty2 (t0 13 _ rfl).1 rfl
  obtain ⟨y0_16, r0_16, -, -⟩ := vty0 (t0 16 _ rfl).1 rfl
  have r0_17 : g0 17 = .ref (ad 13) := vty2 (t0 17 _ rfl).1 rfl
  have r0_18 : g0 18 = .ref (ad 14) := vty2 (t0 18 _ rfl).1 rfl
  obtain ⟨y0_19, r0_19, -, -⟩ := vty0 (t0 19 _ rfl).1 rfl
  obtain ⟨y0_20, r0_20, -, -⟩ := vty0 (t0 20 _ rfl).1 rfl
  obtain ⟨y0_21, r0_21, -, -⟩ := vty0 (t0 21 _ rfl).1 rfl
  obtain ⟨y0_22, r0_22, -, -⟩ := vty0 (t0 22 _ rfl).1 rfl
  have r0_26 : g0 26 = .ref (ad 18) := vty2 (t0 26 _ rfl).1 rfl
  have r0_27 : g0 27 = .ref (ad 19) := vty2 (t0 27 _ rfl).1 rfl
  obtain ⟨y0_28, r0_28, -, -⟩ := vty0 (t0 28 _ rfl).1 rfl
  obtain ⟨y0_29, r0_29, -, -⟩ := vty0 (t0 29 _ rfl).1 rfl
  have r0_30 : g0 30 = .ref (ad 20) := vty2 (t0 30 _ rfl).1 rfl
  obtain ⟨y0_65, r0_65, -, -⟩ := vty1 (t0 65 _ rfl).1 rfl
  have c0 : w0[0]? = some ((ad 0), ob 11 [.int y0_0, (g0 1), (g0 2), .int h, .ref (ad 2), .ref (ad 3), .ref (ad 4), .ref (ad 5), .ref (ad 6), .ref (ad 7), .int y0_10, .ref (ad 8), .ref (ad 9), .ref (ad 10), (g0 14), (g0 15), .int y0_16, .ref (ad 13), .ref (ad 14), .int y0_19, .int y0_20, .int y0_21, .int y0_22, (g0 23), (g0 24), (g0 25), .ref (ad 18), .ref (ad 19), .int y0_28, .int y0_29, .ref (ad 20), (g0 31), (g0 32), (g0 33), (g0 34), (g0 35), (g0 36), (g0 37), (g0 38), (g0 39), (g0 40), (g0 41), (g0 42), (g0 43), (g0 44), (g0 45), (g0 46), (g0 47), (g0 48), (g0 49), (g0 50), (g0 51), (g0 52), (g0 53), (g0 54), (g0 55), (g0 56), (g0 57), (g0 58), (g0 59), (g0 60), (g0 61), (g0 62), (g0 63), (g0 64), .long y0_65, (g0 66), (g0 67), (g0 68), (g0 69), (g0 70), (g0 71), (g0 72), (g0 73), (g0 74)]) := by
    rw [q0]
    show some (ad 0, ob 11 [g0 0, g0 1, g0 2, g0 3, g0 4, g0 5, g0 6, g0 7, g0 8, g0 9, g0 10, g0 11, g0 12, g0 13, g0 14, g0 15, g0 16, g0 17, g0 18, g0 19, g0 20, g0 21, g0 22, g0 23, g0 24, g0 25, g0 26, g0 27, g0 28, g0 29, g0 30, g0 31, g0 32, g0 33, g0 34, g0 35, g0 36, g0 37, g0 38, g0 39, g0 40, g0 41, g0 42, g0 43, g0 44, g0 45, g0 46, g0 47, g0 48, g0 49, g0 50, g0 51, g0 52, g0 53, g0 54, g0 55, g0 56, g0 57, g0 58, g0 59, g0 60, g0 61, g0 62, g0 63, g0 64, g0 65, g0 66, g0 67, g0 68, g0 69, g0 70, g0 71, g0 72, g0 73, g0 74]) = _
    rw [r0_0, r0_3, r0_4, r0_5, r0_6, r0_7, r0_8, r0_9, r0_10, r0_11, r0_12, r0_13, r0_16, r0_17, r0_18, r0_19, r0_20, r0_21, r0_22, r0_26, r0_27, r0_28, r0_29, r0_30, r0_65]
  obtain ⟨f20, c20, -⟩ := WT.ints hW (k := 20) rfl
  obtain ⟨f2, c2, -⟩ := WT.ints hW (k := 2) rfl
  have ef2 : f2 = zp := arrinj ((cgetI c2 0).symm.trans ezp)
  rw [ef2] at c2
  obtain ⟨f3, c3, -⟩ := WT.ints hW (k := 3) rfl
  have ef3 : f3 = zx := arrinj ((cgetI c3 0).symm.trans ezx)
  rw [ef3] at c3
  obtain ⟨f4, c4, -⟩ := WT.ints hW (k := 4) rfl
  have ef4 : f4 = zy := arrinj ((cgetI c4 0).symm.trans ezy)
  rw [ef4] at c4
  obtain ⟨f6, c6, -⟩ := WT.ints hW (k := 6) rfl
  have ef6 : f6 = zh := arrinj ((cgetI c6 0).symm.trans ezh)
  rw [ef6] at c6
  obtain ⟨f5, c5, -⟩ := WT.ints hW (k := 5) rfl
  have ef5 : f5 = zr := arrinj ((cgetI c5 0).symm.trans ezr)
  rw [ef5] at c5
  obtain ⟨f18, c18, -⟩ := WT.ints hW (k := 18) rfl
  have ef18 : f18 = zX := arrinj ((cgetI c18 0).symm.trans ezX)
  rw [ef18] at c18
  obtain ⟨f19, c19, -⟩ := WT.ints hW (k := 19) rfl
  have ef19 : f19 = zY := arrinj ((cgetI c19 0).symm.trans ezY)
  rw [ef19] at c19
  have hpl := ref_plane hW eh ezp
  have h2 := cg_X11_settle l G (ad 0) y0_0 (g0 1) (g0 2) h (ad 2) (ad 3) (ad 4) (ad 5) (ad 6) (ad 7) y0_10 (ad 8) (ad 9) (ad 10) (g0 14) (g0 15) y0_16 (ad 13) (ad 14) y0_19 y0_20 y0_21 y0_22 (g0 23) (g0 24) (g0 25) (ad 18) (ad 19) y0_28 y0_29 (ad 20) (g0 31) (g0 32) (g0 33) (g0 34) (g0 35) (g0 36) (g0 37) (g0 38) (g0 39) (g0 40) (g0 41) (g0 42) (g0 43) (g0 44) (g0 45) (g0 46) (g0 47) (g0 48) (g0 49) (g0 50) (g0 51) (g0 52) (g0 53) (g0 54) (g0 55) (g0 56) (g0 57) (g0 58) (g0 59) (g0 60) (g0 61) (g0 62) (g0 63) (g0 64) y0_65 (g0 66) (g0 67) (g0 68) (g0 69) (g0 70) (g0 71) (g0 72) (g0 73) (g0 74) zp zx zy zh f20 zr zX zY pq h.toInt pq.toInt rfl rfl (by omega) (by omega)
  refine Ct.weak (Ct.and (show Ct l G yX11_settle cX11_settle 9 (some .int) { frames := 3, cells := 0, slots := 0, locals := 69 } [.ref (ad 0), .int pq] w0 (fun r w1 => POST G ad TM C_settle (fun k => ((Value.ref (ad 0) :: [.int pq])[k]?).getD .null) w0 r w1) from ac_settle l G ad w0 _ hW (pre_mu (C := C_settle) (ts := [tI0]) (As := [.int pq]) rfl rfl rfl rfl ⟨fun _ => vty_i0 _, trivial⟩ ad w0 rfl)) h2 [0, 20, 2, 3, 4, 6, 5, 18, 19] (pk_cons c0 (pk_cons c20 (pk_cons c2 (pk_cons c3 (pk_cons c4 (pk_cons c6 (pk_cons c5 (pk_cons c18 (pk_cons c19 rfl))))))))) (by decide)) ?_
  rintro r w1 ⟨hp, w2, ⟨rz, fh2, fl2, q2, hs, rfl, rfl⟩, hS⟩
  obtain ⟨A1, hA1, μ2, -, -, -, -, -, -, hW1, hF1⟩ := hp
  obtain ⟨fs0, -, u0, ul0, -, -⟩ := WT.obj hW1 (k := 0) (j := 0) rfl rfl
  obtain ⟨p2, u2, -⟩ := WT.ints hW1 (k := 2) rfl
  obtain ⟨p3, u3, -⟩ := WT.ints hW1 (k := 3) rfl
  obtain ⟨p4, u4, -⟩ := WT.ints hW1 (k := 4) rfl
  obtain ⟨p5, u5, -⟩ := WT.ints hW1 (k := 5) rfl
  obtain ⟨p6, u6, -⟩ := WT.ints hW1 (k := 6) rfl
  obtain ⟨p18, u18, -⟩ := WT.ints hW1 (k := 18) rfl
  obtain ⟨p19, u19, -⟩ := WT.ints hW1 (k := 19) rfl
  obtain ⟨p20, u20, -⟩ := WT.ints hW1 (k := 20) rfl
  exact ⟨hW1, hF1, rz, fh2, rfl, hs, p6, cgetI u6 0, fun k hk => (same_I hS (k := 6) (j := 5) u6 rfl) k hk⟩
set_option maxHeartbeats 4000000 in
set_option maxRecDepth 100000 in
theorem ac_mi3x (l : Launch) (G : KG) {ad : Nat → Nat} {w0 : va_W} {n h s c : Int32} {f zp zr zf0 zo zw zx0 zy0 : Nat → Int32} (hW : WT G ad TX w0) (en : fget w0 3 1 = some (.int n)) (eh : fget w0 5 0 = some (.int h)) (es : fget w0 12 0 = some (.int s)) (ec : fget w0 18 0 = some (.int c)) (ef : cget w0 4 0 = some (.inr (cyI G, 80, .inl f))) (ep : cget w0 6 0 = some (.inr (cyI G, 16, .inl zp))) (er : cget w0 9 0 = some (.inr (cyI G, 16, .inl zr))) (ez : cget w0 13 0 = some (.inr (cyI G, 6, .inl zf0))) (eo : cget w0 14 0 = some (.inr (cyI G, 6, .inl zo))) (ew : cget w0 19 0 = some (.inr (cyI G, 8, .inl zw))) (exx : cget w0 7 0 = some (.inr (cyI G, 16, .inl zx0))) (eyy : cget w0 8 0 = some (.inr (cyI G, 16, .inl zy0))) : Ct l G yX10_mill cX10_mill 2 (some .int) { frames := 6, cells := 0, slots := 0, locals := 132 } [.ref (ad 0)] w0 (fun r w1 => WT G ad TX w1 ∧ FRM C_t_X10_mill_0.2.2.2.2.1 w0 w1 ∧ (MilE 3 1 5 0 12 0 18 0 n f h s c r w1 ∧ MilA G 5 0 12 0 18 0 6 9 13 14 19 f (if 60 < n then 60 else n) h s c zp zr zf0 zo zw w1 ∧ MilX G 5 0 7 8 f (if 60 < n then 60 else n) h s c zx0 zy0 w1)) := by
  obtain ⟨g0, q0, t0⟩ := WT.tab hW (k := 0) rfl
  have r0_1 : g0 1 = .ref (ad 3) := vty2 (t0 1 _ rfl).1 rfl
  have r0_2 : g0 2 = .ref (ad 5) := vty2 (t0 2 _ rfl).1 rfl
  have r0_3 : g0 3 = .ref (ad 12) := vty2 (t0 3 _ rfl).1 rfl
  have r0_4 : g0 4 = .ref (ad 18) := vty2 (t0 4 _ rfl).1 rfl
  have c0 : w0[0]? = some ((ad 0), ob 10 [(g0 0), .ref (ad 3), .ref (ad 5), .ref (ad 12), .ref (ad 18), (g0 5), (g0 6), (g0 7), (g0 8), (g0 9), (g0 10), (g0 11), (g0 12), (g0 13), (g0 14), (g0 15)]) := by
    rw [q0]
    show some (ad 0, ob 10 [g0 0, g0 1, g0 2, g0 3, g0 4, g0 5, g0 6, g0 7, g0 8, g0 9, g0 10, g0 11, g0 12, g0 13, g0 14, g0 15]) = _
    rw [r0_1, r0_2, r0_3, r0_4]
  obtain ⟨g3, q3, t3⟩ := WT.tab hW (k := 3) rfl
  have r3_0 : g3 0 = .ref (ad 4) := vty2 (t3 0 _ rfl).1 rfl
  have r3_1 : g3 1 = .int n := Option.some.inj ((t3 1 _ rfl).2.symm.trans en)
  have b3_1 : 0 ≤ n.toInt ∧ n.toInt ≤ 80 := by
    have h := (t3 1 _ rfl).1
    rw [r3_1] at h
    obtain ⟨y, e, l1, u1⟩ := vty0 h rfl
    obtain rfl := Value.int.inj e
    exact ⟨l1, u1⟩
  obtain ⟨y3_2, r3_2, -, -⟩ := vty0 (t3 2 _ rfl).1 rfl
  obtain ⟨y3_3, r3_3, -, -⟩ := vty0 (t3 3 _ rfl).1 rfl
  obtain ⟨y3_4, r3_4, -, -⟩ := vty0 (t3 4 _ rfl).1 rfl
  obtain ⟨y3_5, r3_5, -, -⟩ := vty0 (t3 5 _ rfl).1 rfl
  obtain ⟨y3_6, r3_6, -, -⟩ := vty0 (t3 6 _ rfl).1 rfl
  obtain ⟨y3_7, r3_7, -, -⟩ := vty0 (t3 7 _ rfl).1 rfl
  have c3 : w0[3]? = some ((ad 3), ob 4 [.ref (ad 4), .int n, .int y3_2, .int y3_3, .int y3_4, .int y3_5, .int y3_6, .int y3_7]) := by
    rw [q3]
    show some (ad 3, ob 4 [g3 0, g3 1, g3 2, g3 3, g3 4, g3 5, g3 6, g3 7]) = _
    rw [r3_0, r3_1, r3_2, r3_3, r3_4, r3_5, r3_6, r3_7]
  obtain ⟨f4, c4, -⟩ := WT.ints hW (k := 4) rfl
  have ef4 : f4 = f := arrinj ((cgetI c4 0).symm.trans ef)
  rw [ef4] at c4
  obtain ⟨g5, q5, t5⟩ := WT.tab hW (k := 5) rfl
  have r5_0 : g5 0 = .int h := Option.some.inj ((t5 0 _ rfl).2.symm.trans eh)
  have b5_0 : 0 ≤ h.toInt ∧ h.toInt ≤ 16 := by
    have h := (t5 0 _ rfl).1
    rw [r5_0] at h
    obtain ⟨y, e, l1, u1⟩ := vty0 h rfl
    obtain rfl := Value.int.inj e
    exact ⟨l1, u1⟩
  have r5_1 : g5 1 = .ref (ad 6) := vty2 (t5 1 _ rfl).1 rfl
  have r5_2 : g5 2 = .ref (ad 7) := vty2 (t5 2 _ rfl).1 rfl
  have r5_3 : g5 3 = .ref (ad 8) := vty2 (t5 3 _ rfl).1 rfl
  have r5_4 : g5 4 = .ref (ad 9) := vty2 (t5 4 _ rfl).1 rfl
  have c5 : w0[5]? = some ((ad 5), ob 5 [.int h, .ref (ad 6), .ref (ad 7), .ref (ad 8), .ref (ad 9), (g5 5), (g5 6), (g5 7), (g5 8)]) := by
    rw [q5]
    show some (ad 5, ob 5 [g5 0, g5 1, g5 2, g5 3, g5 4, g5 5, g5 6, g5 7, g5 8]) = _
    rw [r5_0, r5_1, r5_2, r5_3, r5_4]
  obtain ⟨f6, c6, -⟩ := WT.ints hW (k := 6) rfl
  have ef6 : f6 = zp := arrinj ((cgetI c6 0).symm.trans ep)
  rw [ef6] at c6
  obtain ⟨f7, c7, -⟩ := WT.ints hW (k := 7) rfl
  have ef7 : f7 = zx0 := arrinj ((cgetI c7 0).symm.trans exx)
  rw [ef7] at c7
  obtain ⟨f8, c8, -⟩ := WT.ints hW (k := 8) rfl
  have ef8 : f8 = zy0 := arrinj ((cgetI c8 0).symm.trans eyy)
  rw [ef8] at c8
  obtain ⟨f9, c9, -⟩ := WT.ints hW (k := 9) rfl
  have ef9 : f9 = zr := arrinj ((cgetI c9 0).symm.trans er)
  rw [ef9] at c9
  obtain ⟨g12, q12, t12⟩ := WT.tab hW (k := 12) rfl
  have r12_0 : g12 0 = .int s := Option.some.inj ((t12 0 _ rfl).2.symm.trans es)
  have b12_0 : 0 ≤ s.toInt ∧ s.toInt ≤ 6 := by
    have h := (t12 0 _ rfl).1
    rw [r12_0] at h
    obtain ⟨y, e, l1, u1⟩ := vty0 h rfl
    obtain rfl := Value.int.inj e
    exact ⟨l1, u1⟩
  have r12_1 : g12 1 = .ref (ad 13) := vty2 (t12 1 _ rfl).1 rfl
  have r12_2 : g12 2 = .ref (ad 14) := vty2 (t12 2 _ rfl).1 rfl
  have c12 : w0[12]? = some ((ad 12), ob 7 [.int s, .ref (ad 13), .ref (ad 14), (g12 3), (g12 4), (g12 5)]) := by
    rw [q12]
    show some (ad 12, ob 7 [g12 0, g12 1, g12 2, g12 3, g12 4, g12 5]) = _
    rw [r12_0, r12_1, r12_2]
  obtain ⟨f13, c13, -⟩ := WT.ints hW (k := 13) rfl
  have ef13 : f13 = zf0 := arrinj ((cgetI c13 0).symm.trans ez)
  rw [ef13] at c13
  obtain ⟨f14, c14, -⟩ := WT.ints hW (k := 14) rfl
  have ef14 : f14 = zo := arrinj ((cgetI c14 0).symm.trans eo)
  rw [ef14] at c14
  obtain ⟨g18, q18, t18⟩ := WT.tab hW (k := 18) rfl
  have r18_0 : g18 0 = .int c := Option.some.inj ((t18 0 _ rfl).2.symm.trans ec)
  have b18_0 : 0 ≤ c.toInt ∧ c.toInt ≤ 8 := by
    have h := (t18 0 _ rfl).1
    rw [r18_0] at h
    obtain ⟨y, e, l1, u1⟩ := vty0 h rfl
    obtain rfl := Value.int.inj e
    exact ⟨l1, u1⟩
  have r18_1 : g18 1 = .ref (ad 19) := vty2 (t18 1 _ rfl).1 rfl
  have c18 : w0[18]? = some ((ad 18), ob 0 [.int c, .ref (ad 19), (g18 2), (g18 3), (g18 4), (g18 5), (g18 6)]) := by
    rw [q18]
    show some (ad 18, ob 0 [g18 0, g18 1, g18 2, g18 3, g18 4, g18 5, g18 6]) = _
    rw [r18_0, r18_1]
  obtain ⟨f19, c19, -⟩ := WT.ints hW (k := 19) rfl
  have ef19 : f19 = zw := arrinj ((cgetI c19 0).symm.trans ew)
  rw [ef19] at c19
  have h2 := cm_X10_mill l G (ad 0) (g0 0) (g0 5) (g0 6) (g0 7) (g0 8) (g0 9) (g0 10) (g0 11) (g0 12) (g0 13) (g0 14) (g0 15) (ad 3) (ad 4) f n y3_2 y3_3 y3_4 y3_5 y3_6 y3_7 (ad 5) (ad 6) (ad 7) (ad 8) (ad 9) h (g5 5) (g5 6) (g5 7) (g5 8) zp zx0 zy0 zr (ad 12) (ad 13) (ad 14) s (g12 3) (g12 4) (g12 5) zf0 zo (ad 18) (ad 19) c (g18 2) (g18 3) (g18 4) (g18 5) (g18 6) zw n.toInt h.toInt s.toInt c.toInt rfl rfl rfl rfl (by omega) (by omega)
  refine Ct.weak (Ct.and (show Ct l G yX10_mill cX10_mill 2 (some .int) { frames := 6, cells := 0, slots := 0, locals := 132 } [.ref (ad 0)] w0 (fun r w1 => POST G ad TX C_t_X10_mill_0 (fun k => ((Value.ref (ad 0) :: ([] : List Value))[k]?).getD .null) w0 r w1) from ac_t_X10_mill_0 l G ad w0 _ hW (pre_mu (C := C_t_X10_mill_0) (ts := []) (As := []) rfl rfl rfl rfl trivial ad w0 rfl)) h2 [0, 3, 4, 5, 6, 7, 8, 9, 12, 13, 14, 18, 19] (pk_cons c0 (pk_cons c3 (pk_cons c4 (pk_cons c5 (pk_cons c6 (pk_cons c7 (pk_cons c8 (pk_cons c9 (pk_cons c12 (pk_cons c13 (pk_cons c14 (pk_cons c18 (pk_cons c19 rfl))))))))))))) (by decide)) ?_
  rintro r w1 ⟨hp, w2, ⟨lim2, q, m, mh2, ms2, mc2, hc2, sc2, cc2, fp2, fx2, fy2, fr2, ff2, fo2, fw2, rz, hCN, hA7, hB, rfl, rfl⟩, hS⟩
  obtain ⟨A1, hA1, μ2, -, -, -, -, -, -, hW1, hF1⟩ := hp
  obtain ⟨fs0, -, u0, ul0, -, -⟩ := WT.obj hW1 (k := 0) (j := 0) rfl rfl
  obtain ⟨fs3, -, u3, ul3, -, -⟩ := WT.obj hW1 (k := 3) (j := 0) rfl rfl
  obtain ⟨p4, u4, -⟩ := WT.ints hW1 (k := 4) rfl
  obtain ⟨fs5, -, u5, ul5, -, -⟩ := WT.obj hW1 (k := 5) (j := 0) rfl rfl
  obtain ⟨p6, u6, -⟩ := WT.ints hW1 (k := 6) rfl
  obtain ⟨p7, u7, -⟩ := WT.ints hW1 (k := 7) rfl
  obtain ⟨p8, u8, -⟩ := WT.ints hW1 (k := 8) rfl
  obtain ⟨p9, u9, -⟩ := WT.ints hW1 (k := 9) rfl
  obtain ⟨fs12, -, u12, ul12, -, -⟩ := WT.obj hW1 (k := 12) (j := 0) rfl rfl
  obtain ⟨p13, u13, -⟩ := WT.ints hW1 (k := 13) rfl
  obtain ⟨p14, u14, -⟩ := WT.ints hW1 (k := 14) rfl
  obtain ⟨fs18, -, u18, ul18, -, -⟩ := WT.obj hW1 (k := 18) (j := 0) rfl rfl
  obtain ⟨p19, u19, -⟩ := WT.ints hW1 (k := 19) rfl
  exact ⟨hW1, hF1, ⟨rz, hc2, sc2, cc2, rfl, hCN, hB, (same_f hS (k := 3) (j := 1) (q := (RX4, TX4, 8)) rfl u3 rfl (by decide) ul3 rfl), (same_f hS (k := 5) (j := 3) (q := (RX5, TX5, 9)) rfl u5 rfl (by decide) ul5 rfl), (same_f hS (k := 12) (j := 8) (q := (RX7, TX7, 6)) rfl u12 rfl (by decide) ul12 rfl), (same_f hS (k := 18) (j := 11) (q := (RX0, TX0, 7)) rfl u18 rfl (by decide) ul18 rfl)⟩, ⟨hc2, sc2, cc2, ⟨(same_f hS (k := 5) (j := 3) (q := (RX5, TX5, 9)) rfl u5 rfl (by decide) ul5 rfl), (same_f hS (k := 12) (j := 8) (q := (RX7, TX7, 6)) rfl u12 rfl (by decide) ul12 rfl), (same_f hS (k := 18) (j := 11) (q := (RX0, TX0, 7)) rfl u18 rfl (by decide) ul18 rfl)⟩, AFc.of hA7.1 (cgetI u6 0) (same_I hS (k := 6) (j := 4) u6 rfl), AFc.of hA7.2.2.2.1 (cgetI u9 0) (same_I hS (k := 9) (j := 7) u9 rfl), AFc.of hA7.2.2.2.2.1 (cgetI u13 0) (same_I hS (k := 13) (j := 9) u13 rfl), AFc.of hA7.2.2.2.2.2.1 (cgetI u14 0) (same_I hS (k := 14) (j := 10) u14 rfl), AFc.of hA7.2.2.2.2.2.2 (cgetI u19 0) (same_I hS (k := 19) (j := 12) u19 rfl)⟩, ⟨hc2, (same_f hS (k := 5) (j := 3) (q := (RX5, TX5, 9)) rfl u5 rfl (by decide) ul5 rfl), AFc.of hA7.2.1 (cgetI u7 0) (same_I hS (k := 7) (j := 5) u7 rfl), AFc.of hA7.2.2.1 (cgetI u8 0) (same_I hS (k := 8) (j := 6) u8 rfl)⟩⟩
set_option maxHeartbeats 4000000 in
set_option maxRecDepth 100000 in
theorem ac_mi3m (l : Launch) (G : KG) {ad : Nat → Nat} {w0 : va_W} {n h s c : Int32} {f zp zr zf0 zo zw zx0 zy0 zd zh : Nat → Int32} (hW : WT G ad TM w0) (en : fget w0 0 19 = some (.int n)) (eh : fget w0 0 3 = some (.int h)) (es : fget w0 0 10 = some (.int s)) (ec : fget w0 0 16 = some (.int c)) (ef : cget w0 14 0 = some (.inr (cyI G, 80, .inl f))) (ep : cget w0 2 0 = some (.inr (cyI G, 16, .inl zp))) (er : cget w0 5 0 = some (.inr (cyI G, 16, .inl zr))) (ez : cget w0 8 0 = some (.inr (cyI G, 6, .inl zf0))) (eo : cget w0 9 0 = some (.inr (cyI G, 6, .inl zo))) (ew : cget w0 13 0 = some (.inr (cyI G, 8, .inl zw))) (exx : cget w0 3 0 = some (.inr (cyI G, 16, .inl zx0))) (eyy : cget w0 4 0 = some (.inr (cyI G, 16, .inl zy0))) (ed : cget w0 7 0 = some (.inr (cyI G, 16, .inl zd))) (eh6 : cget w0 6 0 = some (.inr (cyI G, 16, .inl zh))) : Ct l G yX11_mill cX11_mill 10 (some .int) { frames := 5, cells := 0, slots := 0, locals := 110 } [.ref (ad 0)] w0 (fun r w1 => WT G ad TM w1 ∧ FRM C_mill1.2.2.2.2.1 w0 w1 ∧ (MilE 0 19 0 3 0 10 0 16 n f h s c r w1 ∧ MilA G 0 3 0 10 0 16 2 5 8 9 13 f (if 60 < n then 60 else n) h s c zp zr zf0 zo zw w1 ∧ MilX G 0 3 3 4 f (if 60 < n then 60 else n) h s c zx0 zy0 w1 ∧ MilD G 0 3 7 f (if 60 < n then 60 else n) h s c zd w1 ∧ MilD G 0 3 6 f (if 60 < n then 60 else n) h s c zh w1)) := by
  obtain ⟨g0, q0, t0⟩ := WT.tab hW (k := 0) rfl
  obtain ⟨y0_0, r0_0, -, -⟩ := vty0 (t0 0 _ rfl).1 rfl
  have r0_3 : g0 3 = .int h := Option.some.inj ((t0 3 _ rfl).2.symm.trans eh)
  have b0_3 : 0 ≤ h.toInt ∧ h.toInt ≤ 16 := by
    have h := (t0 3 _ rfl).1
    rw [r0_3] at h
    obtain ⟨y, e, l1, u1⟩ := vty0 h rfl
    obtain rfl := Value.int.inj e
    exact ⟨l1, u1⟩
  have r0_4 : g0 4 = .ref (ad 2) := vty2 (t0 4 _ rfl).1 rfl
  have r0_5 : g0 5 = .ref (ad 3) := vty2 (t0 5 _ rfl).1 rfl
  have r0_6 : g0 6 = .ref (ad 4) := vty2 (t0 6 _ rfl).1 rfl
  have r0_7 : g0 7 = .ref (ad 5) := vty2 (t0 7 _ rfl).1 rfl
  have r0_8 : g0 8 = .ref (ad 6) := vty2 (t0 8 _ rfl).1 rfl
  have r0_9 : g0 9 = .ref (ad 7) := vty2 (t0 9 _ rfl).1 rfl
  have r0_10 : g0 10 = .int s := Option.some.inj ((t0 10 _ rfl).2.symm.trans es)
  have b0_10 : 0 ≤ s.toInt ∧ s.toInt ≤ 6 := by
    have h := (t0 10 _ rfl).1
    rw [r0_10] at h
    obtain ⟨y, e, l1, u1⟩ := vty0 h rfl
    obtain rfl := Value.int.inj e
    exact ⟨l1, u1⟩
  have r0_11 : g0 11 = .ref (ad 8) := vty2 (t0 11 _ rfl).1 rfl
  have r0_12 : g0 12 = .ref (ad 9) := vty2 (t0 12 _ rfl).1 rfl
  have r0_13 : g0 13 = .ref (ad 10) := vty2 (t0 13 _ rfl).1 rfl
  have r0_16 : g0 16 = .int c := Option.some.inj ((t0 16 _ rfl).2.symm.trans ec)
  have b0_16 : 0 ≤ c.toInt ∧ c.toInt ≤ 8 := by
    have h := (t0 16 _ rfl).1
    rw [r0_16] at h
    obtain ⟨y, e, l1, u1⟩ := vty0 h rfl
    obtain rfl := Value.int.inj e
    exact ⟨l1, u1⟩
  have r0_17 : g0 17 = .ref (ad 13) := vty2 (t0 17 _ rfl).1 rfl
  have r0_18 : g0 18 = .ref (ad 14) := vty2 (t0 18 _ rfl).1 rfl
  have r0_19 : g0 19 = .int n := Option.some.inj ((t0 19 _ rfl).2.symm.trans en)
  have b0_19 : 0 ≤ n.toInt ∧ n.toInt ≤ 80 := by
    have h := (t0 19 _ rfl).1
    rw [r0_19] at h
    obtain ⟨y, e, l1, u1⟩ := vty0 h rfl
    obtain rfl := Value.int.inj e
    exact ⟨l1, u1⟩
  obtain ⟨y0_20, r0_20, -, -⟩ := vty0 (t0 20 _ rfl).1 rfl
  obtain ⟨y0_21, r0_21, -, -⟩ := vty0 (t0 21 _ rfl).1 rfl
  obtain ⟨y0_22, r0_22, -, -⟩ := vty0 (t0 22 _ rfl).1 rfl
  have c0 : w0[0]? = some ((ad 0), ob 11 [.int y0_0, (g0 1), (g0 2), .int h, .ref (ad 2), .ref (ad 3), .ref (ad 4), .ref (ad 5), .ref (ad 6), .ref (ad 7), .int s, .ref (ad 8), .ref (ad 9), .ref (ad 10), (g0 14), (g0 15), .int c, .ref (ad 13), .ref (ad 14), .int n, .int y0_20, .int y0_21, .int y0_22, (g0 23), (g0 24), (g0 25), (g0 26), (g0 27), (g0 28), (g0 29), (g0 30), (g0 31), (g0 32), (g0 33), (g0 34), (g0 35), (g0 36), (g0 37), (g0 38), (g0 39), (g0 40), (g0 41), (g0 42), (g0 43), (g0 44), (g0 45), (g0 46), (g0 47), (g0 48), (g0 49), (g0 50), (g0 51), (g0 52), (g0 53), (g0 54), (g0 55), (g0 56), (g0 57), (g0 58), (g0 59), (g0 60), (g0 61), (g0 62), (g0 63), (g0 64), (g0 65), (g0 66), (g0 67), (g0 68), (g0 69), (g0 70), (g0 71), (g0 72), (g0 73), (g0 74)]) := by
    rw [q0]
    show some (ad 0, ob 11 [g0 0, g0 1, g0 2, g0 3, g0 4, g0 5, g0 6, g0 7, g0 8, g0 9, g0 10, g0 11, g0 12, g0 13, g0 14, g0 15, g0 16, g0 17, g0 18, g0 19, g0 20, g0 21, g0 22, g0 23, g0 24, g0 25, g0 26, g0 27, g0 28, g0 29, g0 30, g0 31, g0 32, g0 33, g0 34, g0 35, g0 36, g0 37, g0 38, g0 39, g0 40, g0 41, g0 42, g0 43, g0 44, g0 45, g0 46, g0 47, g0 48, g0 49, g0 50, g0 51, g0 52, g0 53, g0 54, g0 55, g0 56, g0 57, g0 58, g0 59, g0 60, g0 61, g0 62, g0 63, g0 64, g0 65, g0 66, g0 67, g0 68, g0 69, g0 70, g0 71, g0 72, g0 73, g0 74]) = _
    rw [r0_0, r0_3, r0_4, r0_5, r0_6, r0_7, r0_8, r0_9, r0_10, r0_11, r0_12, r0_13, r0_16, r0_17, r0_18, r0_19, r0_20, r0_21, r0_22]
  obtain ⟨f14, c14, -⟩ := WT.ints hW (k := 14) rfl
  have ef14 : f14 = f := arrinj ((cgetI c14 0).symm.trans ef)
  rw [ef14] at c14
  obtain ⟨f2, c2, -⟩ := WT.ints hW (k := 2) rfl
  have ef2 : f2 = zp := arrinj ((cgetI c2 0).symm.trans ep)
  rw [ef2] at c2
  obtain ⟨f3, c3, -⟩ := WT.ints hW (k := 3) rfl
  have ef3 : f3 = zx0 := arrinj ((cgetI c3 0).symm.trans exx)
  rw [ef3] at c3
  obtain ⟨f4, c4, -⟩ := WT.ints hW (k := 4) rfl
  have ef4 : f4 = zy0 := arrinj ((cgetI c4 0).symm.trans eyy)
  rw [ef4] at c4
  obtain ⟨f5, c5, -⟩ := WT.ints hW (k := 5) rfl
  have ef5 : f5 = zr := arrinj ((cgetI c5 0).symm.trans er)
  rw [ef5] at c5
  obtain ⟨f6, c6, -⟩ := WT.ints hW (k := 6) rfl
  have ef6 : f6 = zh := arrinj ((cgetI c6 0).symm.trans eh6)
  rw [ef6] at c6
  obtain ⟨f7, c7, -⟩ := WT.ints hW (k := 7) rfl
  have ef7 : f7 = zd := arrinj ((cgetI c7 0).symm.trans ed)
  rw [ef7] at c7
  obtain ⟨f8, c8, -⟩ := WT.ints hW (k := 8) rfl
  have ef8 : f8 = zf0 := arrinj ((cgetI c8 0).symm.trans ez)
  rw [ef8] at c8
  obtain ⟨f9, c9, -⟩ := WT.ints hW (k := 9) rfl
  have ef9 : f9 = zo := arrinj ((cgetI c9 0).symm.trans eo)
  rw [ef9] at c9
  obtain ⟨f10, c10, -⟩ := WT.bools hW (k := 10) rfl
  obtain ⟨f13, c13, -⟩ := WT.ints hW (k := 13) rfl
  have ef13 : f13 = zw := arrinj ((cgetI c13 0).symm.trans ew)
  rw [ef13] at c13
  have h2 := cm_X11_mill l G (ad 0) y0_0 (g0 1) (g0 2) h (ad 2) (ad 3) (ad 4) (ad 5) (ad 6) (ad 7) s (ad 8) (ad 9) (ad 10) (g0 14) (g0 15) c (ad 13) (ad 14) n y0_20 y0_21 y0_22 (g0 23) (g0 24) (g0 25) (g0 26) (g0 27) (g0 28) (g0 29) (g0 30) (g0 31) (g0 32) (g0 33) (g0 34) (g0 35) (g0 36) (g0 37) (g0 38) (g0 39) (g0 40) (g0 41) (g0 42) (g0 43) (g0 44) (g0 45) (g0 46) (g0 47) (g0 48) (g0 49) (g0 50) (g0 51) (g0 52) (g0 53) (g0 54) (g0 55) (g0 56) (g0 57) (g0 58) (g0 59) (g0 60) (g0 61) (g0 62) (g0 63) (g0 64) (g0 65) (g0 66) (g0 67) (g0 68) (g0 69) (g0 70) (g0 71) (g0 72) (g0 73) (g0 74) f zp zx0 zy0 zr zh zd zf0 zo f10 zw n.toInt h.toInt s.toInt c.toInt rfl rfl rfl rfl (by omega) (by omega)
  refine Ct.weak (Ct.and (show Ct l G yX11_mill cX11_mill 10 (some .int) { frames := 5, cells := 0, slots := 0, locals := 110 } [.ref (ad 0)] w0 (fun r w1 => POST G ad TM C_mill1 (fun k => ((Value.ref (ad 0) :: ([] : List Value))[k]?).getD .null) w0 r w1) from ac_mill1 l G ad w0 _ hW (pre_mu (C := C_mill1) (ts := []) (As := []) rfl rfl rfl rfl trivial ad w0 rfl)) h2 [0, 14, 2, 3, 4, 5, 6, 7, 8, 9, 10, 13] (pk_cons c0 (pk_cons c14 (pk_cons c2 (pk_cons c3 (pk_cons c4 (pk_cons c5 (pk_cons c6 (pk_cons c7 (pk_cons c8 (pk_cons c9 (pk_cons c10 (pk_cons c13 rfl)))))))))))) (by decide)) ?_
  rintro r w1 ⟨hp, w2, ⟨lim2, q, fi2, hc2, sc2, cc2, fp2, fx2, fy2, fr2, fu2, fd2, ff2, fo2, fa2, fw2, rz, hCN, hA7, hE4, hE5, hE8, hB, rfl, rfl⟩, hS⟩
  obtain ⟨A1, hA1, μ2, -, -, -, -, -, -, hW1, hF1⟩ := hp
  obtain ⟨fs0, -, u0, ul0, -, -⟩ := WT.obj hW1 (k := 0) (j := 0) rfl rfl
  obtain ⟨p2, u2, -⟩ := WT.ints hW1 (k := 2) rfl
  obtain ⟨p3, u3, -⟩ := WT.ints hW1 (k := 3) rfl
  obtain ⟨p4, u4, -⟩ := WT.ints hW1 (k := 4) rfl
  obtain ⟨p5, u5, -⟩ := WT.ints hW1 (k := 5) rfl
  obtain ⟨p6, u6, -⟩ := WT.ints hW1 (k := 6) rfl
  obtain ⟨p7, u7, -⟩ := WT.ints hW1 (k := 7) rfl
  obtain ⟨p8, u8, -⟩ := WT.ints hW1 (k := 8) rfl
  obtain ⟨p9, u9, -⟩ := WT.ints hW1 (k := 9) rfl
  obtain ⟨p10, u10, -⟩ := WT.bools hW1 (k := 10) rfl
  obtain ⟨p13, u13, -⟩ := WT.ints hW1 (k := 13) rfl
  obtain ⟨p14, u14, -⟩ := WT.ints hW1 (k := 14) rfl
  exact ⟨hW1, hF1, ⟨rz, hc2, sc2, cc2, rfl, hCN, hB, (same_f hS (k := 0) (j := 0) (q := (RX11, TX11, 75)) rfl u0 rfl (by decide) ul0 rfl), (same_f hS (k := 0) (j := 0) (q := (RX11, TX11, 75)) rfl u0 rfl (by decide) ul0 rfl), (same_f hS (k := 0) (j := 0) (q := (RX11, TX11, 75)) rfl u0 rfl (by decide) ul0 rfl), (same_f hS (k := 0) (j := 0) (q := (RX11, TX11, 75)) rfl u0 rfl (by decide) ul0 rfl)⟩, ⟨hc2, sc2, cc2, ⟨(same_f hS (k := 0) (j := 0) (q := (RX11, TX11, 75)) rfl u0 rfl (by decide) ul0 rfl), (same_f hS (k := 0) (j := 0) (q := (RX11, TX11, 75)) rfl u0 rfl (by decide) ul0 rfl), (same_f hS (k := 0) (j := 0) (q := (RX11, TX11, 75)) rfl u0 rfl (by decide) ul0 rfl)⟩, AFc.of hA7.1 (cgetI u2 0) (same_I hS (k := 2) (j := 2) u2 rfl), AFc.of hA7.2.2.2.1 (cgetI u5 0) (same_I hS (k := 5) (j := 5) u5 rfl), AFc.of hA7.2.2.2.2.1 (cgetI u8 0) (same_I hS (k := 8) (j := 8) u8 rfl), AFc.of hA7.2.2.2.2.2.1 (cgetI u9 0) (same_I hS (k := 9) (j := 9) u9 rfl), AFc.of hA7.2.2.2.2.2.2 (cgetI u13 0) (same_I hS (k := 13) (j := 11) u13 rfl)⟩, ⟨hc2, (same_f hS (k := 0) (j := 0) (q := (RX11, TX11, 75)) rfl u0 rfl (by decide) ul0 rfl), AFc.of hA7.2.1 (cgetI u3 0) (same_I hS (k := 3) (j := 3) u3 rfl), AFc.of hA7.2.2.1 (cgetI u4 0) (same_I hS (k := 4) (j := 4) u4 rfl)⟩, ⟨hc2, (same_f hS (k := 0) (j := 0) (q := (RX11, TX11, 75)) rfl u0 rfl (by decide) ul0 rfl), AFc.of hE5 (cgetI u7 0) (same_I hS (k := 7) (j := 7) u7 rfl)⟩, ⟨hc2, (same_f hS (k := 0) (j := 0) (q := (RX11, TX11, 75)) rfl u0 rfl (by decide) ul0 rfl), AFc.of hE4 (cgetI u6 0) (same_I hS (k := 6) (j := 6) u6 rfl)⟩⟩
