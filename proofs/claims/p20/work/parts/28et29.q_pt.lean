/-! pound, truly in the typed worlds -/
set_option maxHeartbeats 4000000 in
set_option maxRecDepth 100000 in
theorem ac_pdx (l : Launch) (G : KG) {ad : Nat → Nat} {w0 : va_W} {h p o a v : Int32} (hW : WT G ad TX w0) (eh : fget w0 5 0 = some (.int h)) (ep : fget w0 5 7 = some (.int p)) (eo : fget w0 5 8 = some (.int o)) : Ct l G yX10_pound cX10_pound 3 (some .boolean) { frames := 1, cells := 0, slots := 0, locals := 21 } [.ref (ad 0), .int a, .int v] w0 (fun r w1 => WT G ad TX w1 ∧ FRM C_X10_pound_0.2.2.2.2.1 w0 w1 ∧ (r = some (.int (mPound h.toInt p o a v).1) ∧ fget w1 5 7 = some (.int (mPound h.toInt p o a v).2.1) ∧ fget w1 5 8 = some (.int (mPound h.toInt p o a v).2.2))) := by
  obtain ⟨g0, q0, t0⟩ := WT.tab hW (k := 0) rfl
  have r0_2 : g0 2 = .ref (ad 5) := vty2 (t0 2 _ rfl).1 rfl
  have c0 : w0[0]? = some ((ad 0), ob 10 [(g0 0), (g0 1), .ref (ad 5), (g0 3), (g0 4), (g0 5), (g0 6), (g0 7), (g0 8), (g0 9), (g0 10), (g0 11), (g0 12), (g0 13), (g0 14), (g0 15)]) := by
    rw [q0]
    show some (ad 0, ob 10 [g0 0, g0 1, g0 2, g0 3, g0 4, g0 5, g0 6, g0 7, g0 8, g0 9, g0 10, g0 11, g0 12, g0 13, g0 14, g0 15]) = _
    rw [r0_2]
  obtain ⟨g5, q5, t5⟩ := WT.tab hW (k := 5) rfl
  have r5_0 : g5 0 = .int h := Option.some.inj ((t5 0 _ rfl).2.symm.trans eh)
  have b5_0 : 0 ≤ h.toInt ∧ h.toInt ≤ 16 := by
    have h := (t5 0 _ rfl).1
    rw [r5_0] at h
    obtain ⟨y, e, l1, u1⟩ := vty0 h rfl
    obtain rfl := Value.int.inj e
    exact ⟨l1, u1⟩
  have r5_7 : g5 7 = .int p := Option.some.inj ((t5 7 _ rfl).2.symm.trans ep)
  have b5_7 : (-1) ≤ p.toInt ∧ p.toInt ≤ 15 := by
    have h := (t5 7 _ rfl).1
    rw [r5_7] at h
    obtain ⟨y, e, l1, u1⟩ := vty0 h rfl
    obtain rfl := Value.int.inj e
    exact ⟨l1, u1⟩
  have r5_8 : g5 8 = .int o := Option.some.inj ((t5 8 _ rfl).2.symm.trans eo)
  have b5_8 : (-2147483648) ≤ o.toInt ∧ o.toInt ≤ 2147483647 := by
    have h := (t5 8 _ rfl).1
    rw [r5_8] at h
    obtain ⟨y, e, l1, u1⟩ := vty0 h rfl
    obtain rfl := Value.int.inj e
    exact ⟨l1, u1⟩
  have c5 : w0[5]? = some ((ad 5), ob 5 [.int h, (g5 1), (g5 2), (g5 3), (g5 4), (g5 5), (g5 6), .int p, .int o]) := by
    rw [q5]
    show some (ad 5, ob 5 [g5 0, g5 1, g5 2, g5 3, g5 4, g5 5, g5 6, g5 7, g5 8]) = _
    rw [r5_0, r5_7, r5_8]
  have h2 := cl_X10_pound l G (ad 0) (g0 0) (g0 1) (ad 5) (g0 3) (g0 4) (g0 5) (g0 6) (g0 7) (g0 8) (g0 9) (g0 10) (g0 11) (g0 12) (g0 13) (g0 14) (g0 15) (ad 5) h (g5 1) (g5 2) (g5 3) (g5 4) (g5 5) (g5 6) p o a v h.toInt a.toInt v.toInt rfl rfl rfl (by omega)
  refine Ct.weak (Ct.and (show Ct l G yX10_pound cX10_pound 3 (some .boolean) { frames := 1, cells := 0, slots := 0, locals := 21 } [.ref (ad 0), .int a, .int v] w0 (fun r w1 => POST G ad TX C_X10_pound_0 (fun k => ((Value.ref (ad 0) :: [.int a, .int v])[k]?).getD .null) w0 r w1) from ac_X10_pound_0 l G ad w0 _ hW (pre_mu (C := C_X10_pound_0) (ts := [tI0, tI0]) (As := [.int a, .int v]) rfl rfl rfl rfl ⟨fun _ => vty_i0 _, fun _ => vty_i0 _, trivial⟩ ad w0 rfl)) h2 [0, 5] (pk_cons c0 (pk_cons c5 rfl)) (by decide)) ?_
  rintro r w1 ⟨hp, w2, ⟨rz, ph2, po2, hr, h1, h2, rfl, rfl⟩, hS⟩
  obtain ⟨A1, hA1, μ2, -, -, -, -, -, -, hW1, hF1⟩ := hp
  obtain ⟨fs0, -, u0, ul0, -, -⟩ := WT.obj hW1 (k := 0) (j := 0) rfl rfl
  obtain ⟨fs5, -, u5, ul5, -, -⟩ := WT.obj hW1 (k := 5) (j := 0) rfl rfl
  exact ⟨hW1, hF1, by rw [hr], (same_f hS (k := 5) (j := 1) (q := (RX5, TX5, 9)) rfl u5 rfl (by decide) ul5 rfl).trans (by rw [h1]), (same_f hS (k := 5) (j := 1) (q := (RX5, TX5, 9)) rfl u5 rfl (by decide) ul5 rfl).trans (by rw [h2])⟩
set_option maxHeartbeats 4000000 in
set_option maxRecDepth 100000 in
theorem ac_pdm (l : Launch) (G : KG) {ad : Nat → Nat} {w0 : va_W} {h p o a v : Int32} (hW : WT G ad TM w0) (eh : fget w0 0 3 = some (.int h)) (ep : fget w0 0 28 = some (.int p)) (eo : fget w0 0 29 = some (.int o)) : Ct l G yX11_pound cX11_pound 3 (some .boolean) { frames := 2, cells := 0, slots := 0, locals := 46 } [.ref (ad 0), .int a, .int v] w0 (fun r w1 => WT G ad TM w1 ∧ FRM C_X11_pound_0.2.2.2.2.1 w0 w1 ∧ (r = some (.int (mPound h.toInt p o a v).1) ∧ fget w1 0 28 = some (.int (mPound h.toInt p o a v).2.1) ∧ fget w1 0 29 = some (.int (mPound h.toInt p o a v).2.2))) := by
  obtain ⟨g0, q0, t0⟩ := WT.tab hW (k := 0) rfl
  obtain ⟨y0_0, r0_0, -, -⟩ := vty0 (t0 0 _ rfl).1 rfl
  have r0_3 : g0 3 = .int h := Option.some.inj ((t0 3 _ rfl).2.symm.trans eh)
  have b0_3 : 0 ≤ h.toInt ∧ h.toInt ≤ 16 := by
    have h := (t0 3 _ rfl).1
    rw [r0_3] at h
    obtain ⟨y, e, l1, u1⟩ := vty0 h rfl
    obtain rfl := Value.int.inj e
    exact ⟨l1, u1⟩
  have r0_4 : g0 4 = .ref (ad 2) := vty2 (t0 4 _ rfl).1 rfl
  have r0_5 : g0 5 = .ref (ad 3) := vty2 (t0 5 _ rfl).1 rfl
  have r0_6 : g0 6 = .ref (ad 4) := vty2 (t0 6 _ rfl).1 rfl
  have r0_7 : g0 7 = .ref (ad 5) := vty2 (t0 7 _ rfl).1 rfl
  have r0_8 : g0 8 = .ref (ad 6) := vty2 (t0 8 _ rfl).1 rfl
  have r0_9 : g0 9 = .ref (ad 7) := vty2 (t0 9 _ rfl).1 rfl
  obtain ⟨y0_10, r0_10, -, -⟩ := vty0 (t0 10 _ rfl).1 rfl
  have r0_11 : g0 11 = .ref (ad 8) := vty2 (t0 11 _ rfl).1 rfl
  have r0_12 : g0 12 = .ref (ad 9) := vty2 (t0 12 _ rfl).1 rfl
  have r0_13 : g0 13 = .ref (ad 10) := vty2 (t0 13 _ rfl).1 rfl
  obtain ⟨y0_16, r0_16, -, -⟩ := vty0 (t0 16 _ rfl).1 rfl
  have r0_17 : g0 17 = .ref (ad 13) := vty2 (t0 17 _ rfl).1 rfl
  have r0_18 : g0 18 = .ref (ad 14) := vty2 (t0 18 _ rfl).1 rfl
  obtain ⟨y0_19, r0_19, -, -⟩ := vty0 (t0 19 _ rfl).1 rfl
  obtain ⟨y0_20, r0_20, -, -⟩ := vty0 (t0 20 _ rfl).1 rfl
  obtain ⟨y0_21, r0_21, -, -⟩ := vty0 (t0 21 _ rfl).1 rfl
  obtain ⟨y0_22, r0_22, -, -⟩ := vty0 (t0 22 _ rfl).1 rfl
  have r0_28 : g0 28 = .int p := Option.some.inj ((t0 28 _ rfl).2.symm.trans ep)
  have b0_28 : (-1) ≤ p.toInt ∧ p.toInt ≤ 15 := by
    have h := (t0 28 _ rfl).1
    rw [r0_28] at h
    obtain ⟨y, e, l1, u1⟩ := vty0 h rfl
    obtain rfl := Value.int.inj e
    exact ⟨l1, u1⟩
  have r0_29 : g0 29 = .int o := Option.some.inj ((t0 29 _ rfl).2.symm.trans eo)
  have b0_29 : (-2147483648) ≤ o.toInt ∧ o.toInt ≤ 2147483647 := by
    have h := (t0 29 _ rfl).1
    rw [r0_29] at h
    obtain ⟨y, e, l1, u1⟩ := vty0 h rfl
    obtain rfl := Value.int.inj e
    exact ⟨l1, u1⟩
  have c0 : w0[0]? = some ((ad 0), ob 11 [.int y0_0, (g0 1), (g0 2), .int h, .ref (ad 2), .ref (ad 3), .ref (ad 4), .ref (ad 5), .ref (ad 6), .ref (ad 7), .int y0_10, .ref (ad 8), .ref (ad 9), .ref (ad 10), (g0 14), (g0 15), .int y0_16, .ref (ad 13), .ref (ad 14), .int y0_19, .int y0_20, .int y0_21, .int y0_22, (g0 23), (g0 24), (g0 25), (g0 26), (g0 27), .int p, .int o, (g0 30), (g0 31), (g0 32), (g0 33), (g0 34), (g0 35), (g0 36), (g0 37), (g0 38), (g0 39), (g0 40), (g0 41), (g0 42), (g0 43), (g0 44), (g0 45), (g0 46), (g0 47), (g0 48), (g0 49), (g0 50), (g0 51), (g0 52), (g0 53), (g0 54), (g0 55), (g0 56), (g0 57), (g0 58), (g0 59), (g0 60), (g0 61), (g0 62), (g0 63), (g0 64), (g0 65), (g0 66), (g0 67), (g0 68), (g0 69), (g0 70), (g0 71), (g0 72), (g0 73), (g0 74)]) := by
    rw [q0]
    show some (ad 0, ob 11 [g0 0, g0 1, g0 2, g0 3, g0 4, g0 5, g0 6, g0 7, g0 8, g0 9, g0 10, g0 11, g0 12, g0 13, g0 14, g0 15, g0 16, g0 17, g0 18, g0 19, g0 20, g0 21, g0 22, g0 23, g0 24, g0 25, g0 26, g0 27, g0 28, g0 29, g0 30, g0 31, g0 32, g0 33, g0 34, g0 35, g0 36, g0 37, g0 38, g0 39, g0 40, g0 41, g0 42, g0 43, g0 44, g0 45, g0 46, g0 47, g0 48, g0 49, g0 50, g0 51, g0 52, g0 53, g0 54, g0 55, g0 56, g0 57, g0 58, g0 59, g0 60, g0 61, g0 62, g0 63, g0 64, g0 65, g0 66, g0 67, g0 68, g0 69, g0 70, g0 71, g0 72, g0 73, g0 74]) = _
    rw [r0_0, r0_3, r0_4, r0_5, r0_6, r0_7, r0_8, r0_9, r0_10, r0_11, r0_12, r0_13, r0_16, r0_17, r0_18, r0_19, r0_20, r0_21, r0_22, r0_28, r0_29]
  have h2 := cl_X11_pound l G (ad 0) y0_0 (g0 1) (g0 2) h (ad 2) (ad 3) (ad 4) (ad 5) (ad 6) (ad 7) y0_10 (ad 8) (ad 9) (ad 10) (g0 14) (g0 15) y0_16 (ad 13) (ad 14) y0_19 y0_20 y0_21 y0_22 (g0 23) (g0 24) (g0 25) (g0 26) (g0 27) p o (g0 30) (g0 31) (g0 32) (g0 33) (g0 34) (g0 35) (g0 36) (g0 37) (g0 38) (g0 39) (g0 40) (g0 41) (g0 42) (g0 43) (g0 44) (g0 45) (g0 46) (g0 47) (g0 48) (g0 49) (g0 50) (g0 51) (g0 52) (g0 53) (g0 54) (g0 55) (g0 56) (g0 57) (g0 58) (g0 59) (g0 60) (g0 61) (g0 62) (g0 63) (g0 64) (g0 65) (g0 66) (g0 67) (g0 68) (g0 69) (g0 70) (g0 71) (g0 72) (g0 73) (g0 74) a v h.toInt a.toInt v.toInt rfl rfl rfl (by omega)
  refine Ct.weak (Ct.and (show Ct l G yX11_pound cX11_pound 3 (some .boolean) { frames := 2, cells := 0, slots := 0, locals := 46 } [.ref (ad 0), .int a, .int v] w0 (fun r w1 => POST G ad TM C_X11_pound_0 (fun k => ((Value.ref (ad 0) :: [.int a, .int v])[k]?).getD .null) w0 r w1) from ac_X11_pound_0 l G ad w0 _ hW (pre_mu (C := C_X11_pound_0) (ts := [tI0, tI0]) (As := [.int a, .int v]) rfl rfl rfl rfl ⟨fun _ => vty_i0 _, fun _ => vty_i0 _, trivial⟩ ad w0 rfl)) h2 [0] (pk_cons c0 rfl) (by decide)) ?_
  rintro r w1 ⟨hp, w2, ⟨rz, ph2, po2, hr, h1, h2, rfl, rfl⟩, hS⟩
  obtain ⟨A1, hA1, μ2, -, -, -, -, -, -, hW1, hF1⟩ := hp
  obtain ⟨fs0, -, u0, ul0, -, -⟩ := WT.obj hW1 (k := 0) (j := 0) rfl rfl
  exact ⟨hW1, hF1, by rw [hr], (same_f hS (k := 0) (j := 0) (q := (RX11, TX11, 75)) rfl u0 rfl (by decide) ul0 rfl).trans (by rw [h1]), (same_f hS (k := 0) (j := 0) (q := (RX11, TX11, 75)) rfl u0 rfl (by decide) ul0 rfl).trans (by rw [h2])⟩
set_option maxHeartbeats 4000000 in
set_option maxRecDepth 100000 in
theorem ac_trx (l : Launch) (G : KG) {ad : Nat → Nat} {w0 : va_W} {aq bq cq : Int32} {zt : Nat → Int32} (hW : WT G ad TX w0) (ez : cget w0 104 0 = some (.inr (cyI G, 8, .inl zt))) : Ct l G yX10_truly cX10_truly 4 (some .boolean) { frames := 2, cells := 0, slots := 0, locals := 44 } [.ref (ad 0), .int aq, .int bq, .int cq] w0 (fun r w1 => WT G ad TX w1 ∧ FRM C_X10_truly_0.2.2.2.2.1 w0 w1 ∧ ((∃ v : Int32, r = some (.int v)) ∧ CQ G w1 104 8 (mMass zt aq bq cq))) := by
  obtain ⟨g0, q0, t0⟩ := WT.tab hW (k := 0) rfl
  have r0_10 : g0 10 = .ref (ad 104) := vty2 (t0 10 _ rfl).1 rfl
  have c0 : w0[0]? = some ((ad 0), ob 10 [(g0 0), (g0 1), (g0 2), (g0 3), (g0 4), (g0 5), (g0 6), (g0 7), (g0 8), (g0 9), .ref (ad 104), (g0 11), (g0 12), (g0 13), (g0 14), (g0 15)]) := by
    rw [q0]
    show some (ad 0, ob 10 [g0 0, g0 1, g0 2, g0 3, g0 4, g0 5, g0 6, g0 7, g0 8, g0 9, g0 10, g0 11, g0 12, g0 13, g0 14, g0 15]) = _
    rw [r0_10]
  obtain ⟨f104, c104, -⟩ := WT.ints hW (k := 104) rfl
  have ef104 : f104 = zt := arrinj ((cgetI c104 0).symm.trans ez)
  rw [ef104] at c104
  have h2 := cl_X10_truly l G (ad 0) (g0 0) (g0 1) (g0 2) (g0 3) (g0 4) (g0 5) (g0 6) (g0 7) (g0 8) (g0 9) (ad 104) (g0 11) (g0 12) (g0 13) (g0 14) (g0 15) zt aq bq cq aq.toInt bq.toInt cq.toInt rfl rfl rfl 
  refine Ct.weak (Ct.and (show Ct l G yX10_truly cX10_truly 4 (some .boolean) { frames := 2, cells := 0, slots := 0, locals := 44 } [.ref (ad 0), .int aq, .int bq, .int cq] w0 (fun r w1 => POST G ad TX C_X10_truly_0 (fun k => ((Value.ref (ad 0) :: [.int aq, .int bq, .int cq])[k]?).getD .null) w0 r w1) from ac_X10_truly_0 l G ad w0 _ hW (pre_mu (C := C_X10_truly_0) (ts := [tI0, tI0, tI0]) (As := [.int aq, .int bq, .int cq]) rfl rfl rfl rfl ⟨fun _ => vty_i0 _, fun _ => vty_i0 _, fun _ => vty_i0 _, trivial⟩ ad w0 rfl)) h2 [0, 104] (pk_cons c0 (pk_cons c104 rfl)) (by decide)) ?_
  rintro r w1 ⟨hp, w2, ⟨fm2, hf, rfl, rfl⟩, hS⟩
  obtain ⟨A1, hA1, μ2, -, -, -, -, -, -, hW1, hF1⟩ := hp
  obtain ⟨fs0, -, u0, ul0, -, -⟩ := WT.obj hW1 (k := 0) (j := 0) rfl rfl
  obtain ⟨p104, u104, -⟩ := WT.ints hW1 (k := 104) rfl
  exact ⟨hW1, hF1, ⟨_, rfl⟩, ⟨p104, cgetI u104 0, fun k hk => by rw [← hf]; exact (same_I hS (k := 104) (j := 1) u104 rfl) k hk⟩⟩
set_option maxHeartbeats 4000000 in
set_option maxRecDepth 100000 in
theorem ac_trm (l : Launch) (G : KG) {ad : Nat → Nat} {w0 : va_W} {aq bq cq : Int32} {zx zy : Nat → Int32} (hW : WT G ad TM w0) (ex : cget w0 16 0 = some (.inr (cyI G, 4, .inl zx))) (ey : cget w0 17 0 = some (.inr (cyI G, 4, .inl zy))) : Ct l G yX11_truly cX11_truly 4 (some .boolean) { frames := 2, cells := 0, slots := 0, locals := 47 } [.ref (ad 0), .int aq, .int bq, .int cq] w0 (fun r w1 => WT G ad TM w1 ∧ FRM C_X11_truly_0.2.2.2.2.1 w0 w1 ∧ ((∃ v : Int32, r = some (.int v)) ∧ CQ G w1 16 4 (mMx zx aq bq cq) ∧ CQ G w1 17 4 (mMy zy aq bq cq))) := by
  obtain ⟨g0, q0, t0⟩ := WT.tab hW (k := 0) rfl
  obtain ⟨y0_0, r0_0, -, -⟩ := vty0 (t0 0 _ rfl).1 rfl
  obtain ⟨y0_3, r0_3, bl0_3, bu0_3⟩ := vty0 (t0 3 _ rfl).1 rfl
  have b0_3 : 0 ≤ y0_3.toInt ∧ y0_3.toInt ≤ 16 := ⟨bl0_3, bu0_3⟩
  have r0_4 : g0 4 = .ref (ad 2) := vty2 (t0 4 _ rfl).1 rfl
  have r0_5 : g0 5 = .ref (ad 3) := vty2 (t0 5 _ rfl).1 rfl
  have r0_6 : g0 6 = .ref (ad 4) := vty2 (t0 6 _ rfl).1 rfl
  have r0_7 : g0 7 = .ref (ad 5) := vty2 (t0 7 _ rfl).1 rfl
  have r0_8 : g0 8 = .ref (ad 6) := vty2 (t0 8 _ rfl).1 rfl
  have r0_9 : g0 9 = .ref (ad 7) := vty2 (t0 9 _ rfl).1 rfl
  obtain ⟨y0_10, r0_10, -, -⟩ := vty0 (t0 10 _ rfl).1 rfl
  have r0_11 : g0 11 = .ref (ad 8) := vty2 (t0 11 _ rfl).1 rfl
  have r0_12 : g0 12 = .ref (ad 9) := vty2 (t0 12 _ rfl).1 rfl
  have r0_13 : g0 13 = .ref (ad 10) := vty2 (t0 13 _ rfl).1 rfl
  obtain ⟨y0_16, r0_16, -, -⟩ := vty0 (t0 16 _ rfl).1 rfl
  have r0_17 : g0 17 = .ref (ad 13) := vty2 (t0 17 _ rfl).1 rfl
  have r0_18 : g0 18 = .ref (ad 14) := vty2 (t0 18 _ rfl).1 rfl
  obtain ⟨y0_19, r0_19, -, -⟩ := vty0 (t0 19 _ rfl).1 rfl
  obtain ⟨y0_20, r0_20, -, -⟩ := vty0 (t0 20 _ rfl).1 rfl
  obtain ⟨y0_21, r0_21, -, -⟩ := vty0 (t0 21 _ rfl).1 rfl
  obtain ⟨y0_22, r0_22, -, -⟩ := vty0 (t0 22 _ rfl).1 rfl
  have r0_24 : g0 24 = .ref (ad 16) := vty2 (t0 24 _ rfl).1 rfl
  have r0_25 : g0 25 = .ref (ad 17) := vty2 (t0 25 _ rfl).1 rfl
  have c0 : w0[0]? = some ((ad 0), ob 11 [.int y0_0, (g0 1), (g0 2), .int y0_3, .ref (ad 2), .ref (ad 3), .ref (ad 4), .ref (ad 5), .ref (ad 6), .ref (ad 7), .int y0_10, .ref (ad 8), .ref (ad 9), .ref (ad 10), (g0 14), (g0 15), .int y0_16, .ref (ad 13), .ref (ad 14), .int y0_19, .int y0_20, .int y0_21, .int y0_22, (g0 23), .ref (ad 16), .ref (ad 17), (g0 26), (g0 27), (g0 28), (g0 29), (g0 30), (g0 31), (g0 32), (g0 33), (g0 34), (g0 35), (g0 36), (g0 37), (g0 38), (g0 39), (g0 40), (g0 41), (g0 42), (g0 43), (g0 44), (g0 45), (g0 46), (g0 47), (g0 48), (g0 49), (g0 50), (g0 51), (g0 52), (g0 53), (g0 54), (g0 55), (g0 56), (g0 57), (g0 58), (g0 59), (g0 60), (g0 61), (g0 62), (g0 63), (g0 64), (g0 65), (g0 66), (g0 67), (g0 68), (g0 69), (g0 70), (g0 71), (g0 72), (g0 73), (g0 74)]) := by
    rw [q0]
    show some (ad 0, ob 11 [g0 0, g0 1, g0 2, g0 3, g0 4, g0 5, g0 6, g0 7, g0 8, g0 9, g0 10, g0 11, g0 12, g0 13, g0 14, g0 15, g0 16, g0 17, g0 18, g0 19, g0 20, g0 21, g0 22, g0 23, g0 24, g0 25, g0 26, g0 27, g0 28, g0 29, g0 30, g0 31, g0 32, g0 33, g0 34, g0 35, g0 36, g0 37, g0 38, g0 39, g0 40, g0 41, g0 42, g0 43, g0 44, g0 45, g0 46, g0 47, g0 48, g0 49, g0 50, g0 51, g0 52, g0 53, g0 54, g0 55, g0 56, g0 57, g0 58, g0 59, g0 60, g0 61, g0 62, g0 63, g0 64, g0 65, g0 66, g0 67, g0 68, g0 69, g0 70, g0 71, g0 72, g0 73, g0 74]) = _
    rw [r0_0, r0_3, r0_4, r0_5, r0_6, r0_7, r0_8, r0_9, r0_10, r0_11, r0_12, r0_13, r0_16, r0_17, r0_18, r0_19, r0_20, r0_21, r0_22, r0_24, r0_25]
  obtain ⟨f16, c16, -⟩ := WT.ints hW (k := 16) rfl
  have ef16 : f16 = zx := arrinj ((cgetI c16 0).symm.trans ex)
  rw [ef16] at c16
  obtain ⟨f17, c17, -⟩ := WT.ints hW (k := 17) rfl
  have ef17 : f17 = zy := arrinj ((cgetI c17 0).symm.trans ey)
  rw [ef17] at c17
  have h2 := cl_X11_truly l G (ad 0) y0_0 (g0 1) (g0 2) y0_3 (ad 2) (ad 3) (ad 4) (ad 5) (ad 6) (ad 7) y0_10 (ad 8) (ad 9) (ad 10) (g0 14) (g0 15) y0_16 (ad 13) (ad 14) y0_19 y0_20 y0_21 y0_22 (g0 23) (ad 16) (ad 17) (g0 26) (g0 27) (g0 28) (g0 29) (g0 30) (g0 31) (g0 32) (g0 33) (g0 34) (g0 35) (g0 36) (g0 37) (g0 38) (g0 39) (g0 40) (g0 41) (g0 42) (g0 43) (g0 44) (g0 45) (g0 46) (g0 47) (g0 48) (g0 49) (g0 50) (g0 51) (g0 52) (g0 53) (g0 54) (g0 55) (g0 56) (g0 57) (g0 58) (g0 59) (g0 60) (g0 61) (g0 62) (g0 63) (g0 64) (g0 65) (g0 66) (g0 67) (g0 68) (g0 69) (g0 70) (g0 71) (g0 72) (g0 73) (g0 74) zx zy aq bq cq aq.toInt bq.toInt cq.toInt rfl rfl rfl 
  refine Ct.weak (Ct.and (show Ct l G yX11_truly cX11_truly 4 (some .boolean) { frames := 2, cells := 0, slots := 0, locals := 47 } [.ref (ad 0), .int aq, .int bq, .int cq] w0 (fun r w1 => POST G ad TM C_X11_truly_0 (fun k => ((Value.ref (ad 0) :: [.int aq, .int bq, .int cq])[k]?).getD .null) w0 r w1) from ac_X11_truly_0 l G ad w0 _ hW (pre_mu (C := C_X11_truly_0) (ts := [tI0, tI0, tI0]) (As := [.int aq, .int bq, .int cq]) rfl rfl rfl rfl ⟨fun _ => vty_i0 _, fun _ => vty_i0 _, fun _ => vty_i0 _, trivial⟩ ad w0 rfl)) h2 [0, 16, 17] (pk_cons c0 (pk_cons c16 (pk_cons c17 rfl))) (by decide)) ?_
  rintro r w1 ⟨hp, w2, ⟨k1, k2, h1, h2_, rfl, rfl⟩, hS⟩
  obtain ⟨A1, hA1, μ2, -, -, -, -, -, -, hW1, hF1⟩ := hp
  obtain ⟨fs0, -, u0, ul0, -, -⟩ := WT.obj hW1 (k := 0) (j := 0) rfl rfl
  obtain ⟨p16, u16, -⟩ := WT.ints hW1 (k := 16) rfl
  obtain ⟨p17, u17, -⟩ := WT.ints hW1 (k := 17) rfl
  exact ⟨hW1, hF1, ⟨_, rfl⟩, ⟨p16, cgetI u16 0, fun k hk => by rw [← h1]; exact (same_I hS (k := 16) (j := 1) u16 rfl) k hk⟩, ⟨p17, cgetI u17 0, fun k hk => by rw [← h2_]; exact (same_I hS (k := 17) (j := 2) u17 rfl) k hk⟩⟩
