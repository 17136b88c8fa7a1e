/-! hums, part in the typed worlds -/
set_option maxHeartbeats 4000000 in
set_option maxRecDepth 100000 in
theorem ac_hux (l : Launch) (G : KG) {ad : Nat → Nat} {w0 : va_W} {h p o s bq wq : Int32} {zp zx zy zh zf zo zc zt : Nat → Int32} (hW : WT G ad TX w0) (eh : fget w0 5 0 = some (.int h)) (ep : fget w0 5 7 = some (.int p)) (eo : fget w0 5 8 = some (.int o)) (es : fget w0 12 0 = some (.int s)) (ezp : cget w0 6 0 = some (.inr (cyI G, 16, .inl zp))) (ezx : cget w0 7 0 = some (.inr (cyI G, 16, .inl zx))) (ezy : cget w0 8 0 = some (.inr (cyI G, 16, .inl zy))) (ezh : cget w0 10 0 = some (.inr (cyI G, 16, .inl zh))) (ezf : cget w0 13 0 = some (.inr (cyI G, 6, .inl zf))) (ezo : cget w0 14 0 = some (.inr (cyI G, 6, .inl zo))) (ezc : cget w0 103 0 = some (.inr (cyI G, 4, .inl zc))) (ezt : cget w0 104 0 = some (.inr (cyI G, 8, .inl zt))) : Ct l G yX10_hums cX10_hums 9 (some .int) { frames := 3, cells := 0, slots := 0, locals := 74 } [.ref (ad 0), .int bq, .int wq] w0 (fun r w1 => WT G ad TX w1 ∧ FRM C_X10_hums_0.2.2.2.2.1 w0 w1 ∧ (∃ v : Int32, r = some (.int v) ∧ v.toInt = mHums bq.toInt wq.toInt s.toInt (hb wq.toInt (fun k => (sz (fTx h.toInt zp zh zx zy p o zc zt zf zo bq 0 0 k) (fTx h.toInt zp zh zx zy p o zc zt zf zo bq 1 1 k)).toInt) s.toInt.toNat))) := by
  obtain ⟨g0, q0, t0⟩ := WT.tab hW (k := 0) rfl
  have r0_0 : g0 0 = .ref (ad 1) := vty2 (t0 0 _ rfl).1 rfl
  have r0_2 : g0 2 = .ref (ad 5) := vty2 (t0 2 _ rfl).1 rfl
  have r0_3 : g0 3 = .ref (ad 12) := vty2 (t0 3 _ rfl).1 rfl
  have r0_9 : g0 9 = .ref (ad 103) := vty2 (t0 9 _ rfl).1 rfl
  have r0_10 : g0 10 = .ref (ad 104) := vty2 (t0 10 _ rfl).1 rfl
  have c0 : w0[0]? = some ((ad 0), ob 10 [.ref (ad 1), (g0 1), .ref (ad 5), .ref (ad 12), (g0 4), (g0 5), (g0 6), (g0 7), (g0 8), .ref (ad 103), .ref (ad 104), (g0 11), (g0 12), (g0 13), (g0 14), (g0 15)]) := by
    rw [q0]
    show some (ad 0, ob 10 [g0 0, g0 1, g0 2, g0 3, g0 4, g0 5, g0 6, g0 7, g0 8, g0 9, g0 10, g0 11, g0 12, g0 13, g0 14, g0 15]) = _
    rw [r0_0, r0_2, r0_3, r0_9, r0_10]
  obtain ⟨g1, q1, t1⟩ := WT.tab hW (k := 1) rfl
  have r1_0 : g1 0 = .ref (ad 2) := vty2 (t1 0 _ rfl).1 rfl
  obtain ⟨y1_1, r1_1, bl1_1, bu1_1⟩ := vty0 (t1 1 _ rfl).1 rfl
  have b1_1 : 0 ≤ y1_1.toInt ∧ y1_1.toInt ≤ 16 := ⟨bl1_1, bu1_1⟩
  have c1 : w0[1]? = some ((ad 1), ob 8 [.ref (ad 2), .int y1_1]) := by
    rw [q1]
    show some (ad 1, ob 8 [g1 0, g1 1]) = _
    rw [r1_0, r1_1]
  obtain ⟨f2, c2, -⟩ := WT.longs hW (k := 2) rfl
  obtain ⟨g5, q5, t5⟩ := WT.tab hW (k := 5) rfl
  have r5_0 : g5 0 = .int h := Option.some.inj ((t5 0 _ rfl).2.symm.trans eh)
  have b5_0 : 0 ≤ h.toInt ∧ h.toInt ≤ 16 := by
    have h := (t5 0 _ rfl).1
    rw [r5_0] at h
    obtain ⟨y, e, l1, u1⟩ := vty0 h rfl
    obtain rfl := Value.int.inj e
    exact ⟨l1, u1⟩
  have r5_1 : g5 1 = .ref (ad 6) := vty2 (t5 1 _ rfl).1 rfl
  have r5_2 : g5 2 = .ref (ad 7) := vty2 (t5 2 _ rfl).1 rfl
  have r5_3 : g5 3 = .ref (ad 8) := vty2 (t5 3 _ rfl).1 rfl
  have r5_5 : g5 5 = .ref (ad 10) := vty2 (t5 5 _ rfl).1 rfl
  have r5_7 : g5 7 = .int p := Option.some.inj ((t5 7 _ rfl).2.symm.trans ep)
  have b5_7 : (-1) ≤ p.toInt ∧ p.toInt ≤ 15 := by
    have h := (t5 7 _ rfl).1
    rw [r5_7] at h
    obtain ⟨y, e, l1, u1⟩ := vty0 h rfl
    obtain rfl := Value.int.inj e
    exact ⟨l1, u1⟩
  have r5_8 : g5 8 = .int o := Option.some.inj ((t5 8 _ rfl).2.symm.trans eo)
  have b5_8 : (-2147483648) ≤ o.toInt ∧ o.toInt ≤ 2147483647 := by
    have h := (t5 8 _ rfl).1
    rw [r5_8] at h
    obtain ⟨y, e, l1, u1⟩ := vty0 h rfl
    obtain rfl := Value.int.inj e
    exact ⟨l1, u1⟩
  have c5 : w0[5]? = some ((ad 5), ob 5 [.int h, .ref (ad 6), .ref (ad 7), .ref (ad 8), (g5 4), .ref (ad 10), (g5 6), .int p, .int o]) := by
    rw [q5]
    show some (ad 5, ob 5 [g5 0, g5 1, g5 2, g5 3, g5 4, g5 5, g5 6, g5 7, g5 8]) = _
    rw [r5_0, r5_1, r5_2, r5_3, r5_5, r5_7, r5_8]
  obtain ⟨f6, c6, -⟩ := WT.ints hW (k := 6) rfl
  have ef6 : f6 = zp := arrinj ((cgetI c6 0).symm.trans ezp)
  rw [ef6] at c6
  obtain ⟨f7, c7, -⟩ := WT.ints hW (k := 7) rfl
  have ef7 : f7 = zx := arrinj ((cgetI c7 0).symm.trans ezx)
  rw [ef7] at c7
  obtain ⟨f8, c8, -⟩ := WT.ints hW (k := 8) rfl
  have ef8 : f8 = zy := arrinj ((cgetI c8 0).symm.trans ezy)
  rw [ef8] at c8
  obtain ⟨f10, c10, -⟩ := WT.ints hW (k := 10) rfl
  have ef10 : f10 = zh := arrinj ((cgetI c10 0).symm.trans ezh)
  rw [ef10] at c10
  obtain ⟨g12, q12, t12⟩ := WT.tab hW (k := 12) rfl
  have r12_0 : g12 0 = .int s := Option.some.inj ((t12 0 _ rfl).2.symm.trans es)
  have b12_0 : 0 ≤ s.toInt ∧ s.toInt ≤ 6 := by
    have h := (t12 0 _ rfl).1
    rw [r12_0] at h
    obtain ⟨y, e, l1, u1⟩ := vty0 h rfl
    obtain rfl := Value.int.inj e
    exact ⟨l1, u1⟩
  have r12_1 : g12 1 = .ref (ad 13) := vty2 (t12 1 _ rfl).1 rfl
  have r12_2 : g12 2 = .ref (ad 14) := vty2 (t12 2 _ rfl).1 rfl
  have c12 : w0[12]? = some ((ad 12), ob 7 [.int s, .ref (ad 13), .ref (ad 14), (g12 3), (g12 4), (g12 5)]) := by
    rw [q12]
    show some (ad 12, ob 7 [g12 0, g12 1, g12 2, g12 3, g12 4, g12 5]) = _
    rw [r12_0, r12_1, r12_2]
  obtain ⟨f13, c13, -⟩ := WT.ints hW (k := 13) rfl
  have ef13 : f13 = zf := arrinj ((cgetI c13 0).symm.trans ezf)
  rw [ef13] at c13
  obtain ⟨f14, c14, -⟩ := WT.ints hW (k := 14) rfl
  have ef14 : f14 = zo := arrinj ((cgetI c14 0).symm.trans ezo)
  rw [ef14] at c14
  obtain ⟨f103, c103, -⟩ := WT.ints hW (k := 103) rfl
  have ef103 : f103 = zc := arrinj ((cgetI c103 0).symm.trans ezc)
  rw [ef103] at c103
  obtain ⟨f104, c104, -⟩ := WT.ints hW (k := 104) rfl
  have ef104 : f104 = zt := arrinj ((cgetI c104 0).symm.trans ezt)
  rw [ef104] at c104
  have h2 := cv_X10_humsF l G (ad 0) (ad 1) (g0 1) (ad 5) (ad 12) (g0 4) (g0 5) (g0 6) (g0 7) (g0 8) (ad 103) (ad 104) (g0 11) (g0 12) (g0 13) (g0 14) (g0 15) (ad 2) y1_1 f2 h (ad 6) (ad 7) (ad 8) (g5 4) (ad 10) (g5 6) p o zp zx zy zh s (ad 13) (ad 14) (g12 3) (g12 4) (g12 5) zf zo zc zt bq wq h.toInt s.toInt bq.toInt wq.toInt rfl rfl rfl rfl (by omega) (by omega)
  refine Ct.weak (Ct.and (show Ct l G yX10_hums cX10_hums 9 (some .int) { frames := 3, cells := 0, slots := 0, locals := 74 } [.ref (ad 0), .int bq, .int wq] w0 (fun r w1 => POST G ad TX C_X10_hums_0 (fun k => ((Value.ref (ad 0) :: [.int bq, .int wq])[k]?).getD .null) w0 r w1) from ac_X10_hums_0 l G ad w0 _ hW (pre_mu (C := C_X10_hums_0) (ts := [tI0, tI0]) (As := [.int bq, .int wq]) rfl rfl rfl rfl ⟨fun _ => vty_i0 _, fun _ => vty_i0 _, trivial⟩ ad w0 rfl)) h2 [0, 1, 2, 5, 6, 7, 8, 10, 12, 13, 14, 103, 104] (pk_cons c0 (pk_cons c1 (pk_cons c2 (pk_cons c5 (pk_cons c6 (pk_cons c7 (pk_cons c8 (pk_cons c10 (pk_cons c12 (pk_cons c13 (pk_cons c14 (pk_cons c103 (pk_cons c104 rfl))))))))))))) (by decide)) ?_
  rintro r w1 ⟨hp, w2, ⟨rz, hr, rfl⟩, hS⟩
  obtain ⟨A1, hA1, μ2, -, -, -, -, -, -, hW1, hF1⟩ := hp
  exact ⟨hW1, hF1, _, rfl, hr⟩
set_option maxHeartbeats 4000000 in
set_option maxRecDepth 100000 in
theorem ac_hum (l : Launch) (G : KG) {ad : Nat → Nat} {w0 : va_W} {h p o s bq wq : Int32} {zp zx zy zh zf zo zc zX zY : Nat → Int32} (hW : WT G ad TM w0) (eh : fget w0 0 3 = some (.int h)) (ep : fget w0 0 28 = some (.int p)) (eo : fget w0 0 29 = some (.int o)) (es : fget w0 0 10 = some (.int s)) (ezp : cget w0 2 0 = some (.inr (cyI G, 16, .inl zp))) (ezx : cget w0 3 0 = some (.inr (cyI G, 16, .inl zx))) (ezy : cget w0 4 0 = some (.inr (cyI G, 16, .inl zy))) (ezh : cget w0 6 0 = some (.inr (cyI G, 16, .inl zh))) (ezf : cget w0 8 0 = some (.inr (cyI G, 6, .inl zf))) (ezo : cget w0 9 0 = some (.inr (cyI G, 6, .inl zo))) (ezc : cget w0 15 0 = some (.inr (cyI G, 4, .inl zc))) (ezX : cget w0 16 0 = some (.inr (cyI G, 4, .inl zX))) (ezY : cget w0 17 0 = some (.inr (cyI G, 4, .inl zY))) : Ct l G yX11_hums cX11_hums 9 (some .int) { frames := 2, cells := 0, slots := 0, locals := 45 } [.ref (ad 0), .int bq, .int wq] w0 (fun r w1 => WT G ad TM w1 ∧ FRM C_X11_hums_0.2.2.2.2.1 w0 w1 ∧ (∃ v : Int32, r = some (.int v) ∧ v.toInt = mHums bq.toInt wq.toInt s.toInt (hb wq.toInt (fun k => (szL (fRx zc (ldp h.toInt zp zh zx zy p o) zX zf zo bq 0 k) (fRx zc (ldp h.toInt zp zh zx zy p o) zY zf zo bq 1 k)).toInt) s.toInt.toNat))) := by
  obtain ⟨g0, q0, t0⟩ := WT.tab hW (k := 0) rfl
  obtain ⟨y0_0, r0_0, -, -⟩ := vty0 (t0 0 _ rfl).1 rfl
  obtain ⟨y0_1, r0_1, bl0_1, bu0_1⟩ := vty0 (t0 1 _ rfl).1 rfl
  have b0_1 : 0 ≤ y0_1.toInt ∧ y0_1.toInt ≤ 24 := ⟨bl0_1, bu0_1⟩
  have r0_2 : g0 2 = .ref (ad 1) := vty2 (t0 2 _ rfl).1 rfl
  have r0_3 : g0 3 = .int h := Option.some.inj ((t0 3 _ rfl).2.symm.trans eh)
  have b0_3 : 0 ≤ h.toInt ∧ h.toInt ≤ 16 := by
    have h := (t0 3 _ rfl).1
    rw [r0_3] at h
    obtain ⟨y, e, l1, u1⟩ := vty0 h rfl
    obtain rfl := Value.int.inj e
    exact ⟨l1, u1⟩
  have r0_4 : g0 4 = .ref (ad 2) := vty2 (t0 4 _ rfl).1 rfl
  have r0_5 : g0 5 = .ref (ad 3) := vty2 (t0 5 _ rfl).1 rfl
  have r0_6 : g0 6 = .ref (ad 4) := vty2 (t0 6 _ rfl).1 rfl
  have r0_7 : g0 7 = .ref (ad 5) := vty2 (t0 7 _ rfl).1 rfl
  have r0_8 : g0 8 = .ref (ad 6) := vty2 (t0 8 _ rfl).1 rfl
  have r0_9 : g0 9 = .ref (ad 7) := vty2 (t0 9 _ rfl).1 rfl
  have r0_10 : g0 10 = .int s := Option.some.inj ((t0 10 _ rfl).2.symm.trans es)
  have b0_10 : 0 ≤ s.toInt ∧ s.toInt ≤ 6 := by
    have h := (t0 10 _ rfl).1
    rw [r0_10] at h
    obtain ⟨y, e, l1, u1⟩ := vty0 h rfl
    obtain rfl := Value.int.inj e
    exact ⟨l1, u1⟩
  have r0_11 : g0 11 = .ref (ad 8) := vty2 (t0 11 _ rfl).1 rfl
  have r0_12 : g0 12 = .ref (ad 9) := vty2 (t0 12 _ rfl).1 rfl
  have r0_13 : g0 13 = .ref (ad 10) := vty2 (t0 13 _ rfl).1 rfl
  obtain ⟨y0_16, r0_16, -, -⟩ := vty0 (t0 16 _ rfl).1 rfl
  have r0_17 : g0 17 = .ref (ad 13) := vty2 (t0 17 _ rfl).1 rfl
  have r0_18 : g0 18 = .ref (ad 14) := vty2 (t0 18 _ rfl).1 rfl
  obtain ⟨y0_19, r0_19, -, -⟩ := vty0 (t0 19 _ rfl).1 rfl
  obtain ⟨y0_20, r0_20, -, -⟩ := vty0 (t0 20 _ rfl).1 rfl
  obtain ⟨y0_21, r0_21, -, -⟩ := vty0 (t0 21 _ rfl).1 rfl
  obtain ⟨y0_22, r0_22, -, -⟩ := vty0 (t0 22 _ rfl).1 rfl
  have r0_23 : g0 23 = .ref (ad 15) := vty2 (t0 23 _ rfl).1 rfl
  have r0_24 : g0 24 = .ref (ad 16) := vty2 (t0 24 _ rfl).1 rfl
  have r0_25 : g0 25 = .ref (ad 17) := vty2 (t0 25 _ rfl).1 rfl
  have r0_28 : g0 28 = .int p := Option.some.inj ((t0 28 _ rfl).2.symm.trans ep)
  have b0_28 : (-1) ≤ p.toInt ∧ p.toInt ≤ 15 := by
    have h := (t0 28 _ rfl).1
    rw [r0_28] at h
    obtain ⟨y, e, l1, u1⟩ := vty0 h rfl
    obtain rfl := Value.int.inj e
    exact ⟨l1, u1⟩
  have r0_29 : g0 29 = .int o := Option.some.inj ((t0 29 _ rfl).2.symm.trans eo)
  have b0_29 : (-2147483648) ≤ o.toInt ∧ o.toInt ≤ 2147483647 := by
    have h := (t0 29 _ rfl).1
    rw [r0_29] at h
    obtain ⟨y, e, l1, u1⟩ := vty0 h rfl
    obtain rfl := Value.int.inj e
    exact ⟨l1, u1⟩
  have r0_30 : g0 30 = .ref (ad 20) := vty2 (t0 30 _ rfl).1 rfl
  have c0 : w0[0]? = some ((ad 0), ob 11 [.int y0_0, .int y0_1, .ref (ad 1), .int h, .ref (ad 2), .ref (ad 3), .ref (ad 4), .ref (ad 5), .ref (ad 6), .ref (ad 7), .int s, .ref (ad 8), .ref (ad 9), .ref (ad 10), (g0 14), (g0 15), .int y0_16, .ref (ad 13), .ref (ad 14), .int y0_19, .int y0_20, .int y0_21, .int y0_22, .ref (ad 15), .ref (ad 16), .ref (ad 17), (g0 26), (g0 27), .int p, .int o, .ref (ad 20), (g0 31), (g0 32), (g0 33), (g0 34), (g0 35), (g0 36), (g0 37), (g0 38), (g0 39), (g0 40), (g0 41), (g0 42), (g0 43), (g0 44), (g0 45), (g0 46), (g0 47), (g0 48), (g0 49), (g0 50), (g0 51), (g0 52), (g0 53), (g0 54), (g0 55), (g0 56), (g0 57), (g0 58), (g0 59), (g0 60), (g0 61), (g0 62), (g0 63), (g0 64), (g0 65), (g0 66), (g0 67), (g0 68), (g0 69), (g0 70), (g0 71), (g0 72), (g0 73), (g0 74)]) := by
    rw [q0]
    show some (ad 0, ob 11 [g0 0, g0 1, g0 2, g0 3, g0 4, g0 5, g0 6, g0 7, g0 8, g0 9, g0 10, g0 11, g0 12, g0 13, g0 14, g0 15, g0 16, g0 17, g0 18, g0 19, g0 20, g0 21, g0 22, g0 23, g0 24, g0 25, g0 26, g0 27, g0 28, g0 29, g0 30, g0 31, g0 32, g0 33, g0 34, g0 35, g0 36, g0 37, g0 38, g0 39, g0 40, g0 41, g0 42, g0 43, g0 44, g0 45, g0 46, g0 47, g0 48, g0 49, g0 50, g0 51, g0 52, g0 53, g0 54, g0 55, g0 56, g0 57, g0 58, g0 59, g0 60, g0 61, g0 62, g0 63, g0 64, g0 65, g0 66, g0 67, g0 68, g0 69, g0 70, g0 71, g0 72, g0 73, g0 74]) = _
    rw [r0_0, r0_1, r0_2, r0_3, r0_4, r0_5, r0_6, r0_7, r0_8, r0_9, r0_10, r0_11, r0_12, r0_13, r0_16, r0_17, r0_18, r0_19, r0_20, r0_21, r0_22, r0_23, r0_24, r0_25, r0_28, r0_29, r0_30]
  obtain ⟨f20, c20, -⟩ := WT.ints hW (k := 20) rfl
  obtain ⟨f2, c2, -⟩ := WT.ints hW (k := 2) rfl
  have ef2 : f2 = zp := arrinj ((cgetI c2 0).symm.trans ezp)
  rw [ef2] at c2
  obtain ⟨f3, c3, -⟩ := WT.ints hW (k := 3) rfl
  have ef3 : f3 = zx := arrinj ((cgetI c3 0).symm.trans ezx)
  rw [ef3] at c3
  obtain ⟨f4, c4, -⟩ := WT.ints hW (k := 4) rfl
  have ef4 : f4 = zy := arrinj ((cgetI c4 0).symm.trans ezy)
  rw [ef4] at c4
  obtain ⟨f6, c6, -⟩ := WT.ints hW (k := 6) rfl
  have ef6 : f6 = zh := arrinj ((cgetI c6 0).symm.trans ezh)
  rw [ef6] at c6
  obtain ⟨f8, c8, -⟩ := WT.ints hW (k := 8) rfl
  have ef8 : f8 = zf := arrinj ((cgetI c8 0).symm.trans ezf)
  rw [ef8] at c8
  obtain ⟨f9, c9, -⟩ := WT.ints hW (k := 9) rfl
  have ef9 : f9 = zo := arrinj ((cgetI c9 0).symm.trans ezo)
  rw [ef9] at c9
  obtain ⟨f15, c15, -⟩ := WT.ints hW (k := 15) rfl
  have ef15 : f15 = zc := arrinj ((cgetI c15 0).symm.trans ezc)
  rw [ef15] at c15
  obtain ⟨f16, c16, -⟩ := WT.ints hW (k := 16) rfl
  have ef16 : f16 = zX := arrinj ((cgetI c16 0).symm.trans ezX)
  rw [ef16] at c16
  obtain ⟨f17, c17, -⟩ := WT.ints hW (k := 17) rfl
  have ef17 : f17 = zY := arrinj ((cgetI c17 0).symm.trans ezY)
  rw [ef17] at c17
  obtain ⟨f1, c1, -⟩ := WT.longs hW (k := 1) rfl
  have hpl := ref_plane hW eh ezp
  have h2 := cv_X11_humsF l G (ad 0) y0_0 y0_1 (ad 1) h (ad 2) (ad 3) (ad 4) (ad 5) (ad 6) (ad 7) s (ad 8) (ad 9) (ad 10) (g0 14) (g0 15) y0_16 (ad 13) (ad 14) y0_19 y0_20 y0_21 y0_22 (ad 15) (ad 16) (ad 17) (g0 26) (g0 27) p o (ad 20) (g0 31) (g0 32) (g0 33) (g0 34) (g0 35) (g0 36) (g0 37) (g0 38) (g0 39) (g0 40) (g0 41) (g0 42) (g0 43) (g0 44) (g0 45) (g0 46) (g0 47) (g0 48) (g0 49) (g0 50) (g0 51) (g0 52) (g0 53) (g0 54) (g0 55) (g0 56) (g0 57) (g0 58) (g0 59) (g0 60) (g0 61) (g0 62) (g0 63) (g0 64) (g0 65) (g0 66) (g0 67) (g0 68) (g0 69) (g0 70) (g0 71) (g0 72) (g0 73) (g0 74) zp zx zy zh f20 zf zo zc zX zY f1 f20 bq wq h.toInt s.toInt bq.toInt wq.toInt rfl rfl rfl rfl (by omega) (by omega) (by omega)
  refine Ct.weak (Ct.and (show Ct l G yX11_hums cX11_hums 9 (some .int) { frames := 2, cells := 0, slots := 0, locals := 45 } [.ref (ad 0), .int bq, .int wq] w0 (fun r w1 => POST G ad TM C_X11_hums_0 (fun k => ((Value.ref (ad 0) :: [.int bq, .int wq])[k]?).getD .null) w0 r w1) from ac_X11_hums_0 l G ad w0 _ hW (pre_mu (C := C_X11_hums_0) (ts := [tI0, tI0]) (As := [.int bq, .int wq]) rfl rfl rfl rfl ⟨fun _ => vty_i0 _, fun _ => vty_i0 _, trivial⟩ ad w0 rfl)) h2 [0, 20, 2, 3, 4, 6, 8, 9, 15, 16, 17, 1] (pk_cons c0 (pk_cons c20 (pk_cons c2 (pk_cons c3 (pk_cons c4 (pk_cons c6 (pk_cons c8 (pk_cons c9 (pk_cons c15 (pk_cons c16 (pk_cons c17 (pk_cons c1 rfl)))))))))))) (by decide)) ?_
  rintro r w1 ⟨hp, w2, ⟨rz, hr, rfl⟩, hS⟩
  obtain ⟨A1, hA1, μ2, -, -, -, -, -, -, hW1, hF1⟩ := hp
  exact ⟨hW1, hF1, _, rfl, hr⟩
set_option maxHeartbeats 4000000 in
set_option maxRecDepth 100000 in
theorem ac_pax (l : Launch) (G : KG) {ad : Nat → Nat} {w0 : va_W} {h p o s sq : Int32} {zp zx zy zh zf zo zc zt : Nat → Int32} (hW : WT G ad TX w0) (eh : fget w0 5 0 = some (.int h)) (ep : fget w0 5 7 = some (.int p)) (eo : fget w0 5 8 = some (.int o)) (es : fget w0 12 0 = some (.int s)) (ezp : cget w0 6 0 = some (.inr (cyI G, 16, .inl zp))) (ezx : cget w0 7 0 = some (.inr (cyI G, 16, .inl zx))) (ezy : cget w0 8 0 = some (.inr (cyI G, 16, .inl zy))) (ezh : cget w0 10 0 = some (.inr (cyI G, 16, .inl zh))) (ezf : cget w0 13 0 = some (.inr (cyI G, 6, .inl zf))) (ezo : cget w0 14 0 = some (.inr (cyI G, 6, .inl zo))) (ezc : cget w0 103 0 = some (.inr (cyI G, 4, .inl zc))) (ezt : cget w0 104 0 = some (.inr (cyI G, 8, .inl zt))) : Ct l G yX10_part cX10_part 5 (some .int) { frames := 2, cells := 0, slots := 0, locals := 48 } [.ref (ad 0), .int sq] w0 (fun r w1 => WT G ad TX w1 ∧ FRM C_X10_part_0.2.2.2.2.1 w0 w1 ∧ (∃ v : Int32, r = some (.int v) ∧ v.toInt = mPart sq.toInt s.toInt (gp (pX h.toInt zp zh zx zy p o zc zt zf zo sq.toNatClampNeg) 4))) := by
  obtain ⟨g0, q0, t0⟩ := WT.tab hW (k := 0) rfl
  have r0_0 : g0 0 = .ref (ad 1) := vty2 (t0 0 _ rfl).1 rfl
  have r0_2 : g0 2 = .ref (ad 5) := vty2 (t0 2 _ rfl).1 rfl
  have r0_3 : g0 3 = .ref (ad 12) := vty2 (t0 3 _ rfl).1 rfl
  have r0_9 : g0 9 = .ref (ad 103) := vty2 (t0 9 _ rfl).1 rfl
  have r0_10 : g0 10 = .ref (ad 104) := vty2 (t0 10 _ rfl).1 rfl
  have c0 : w0[0]? = some ((ad 0), ob 10 [.ref (ad 1), (g0 1), .ref (ad 5), .ref (ad 12), (g0 4), (g0 5), (g0 6), (g0 7), (g0 8), .ref (ad 103), .ref (ad 104), (g0 11), (g0 12), (g0 13), (g0 14), (g0 15)]) := by
    rw [q0]
    show some (ad 0, ob 10 [g0 0, g0 1, g0 2, g0 3, g0 4, g0 5, g0 6, g0 7, g0 8, g0 9, g0 10, g0 11, g0 12, g0 13, g0 14, g0 15]) = _
    rw [r0_0, r0_2, r0_3, r0_9, r0_10]
  obtain ⟨g1, q1, t1⟩ := WT.tab hW (k := 1) rfl
  have r1_0 : g1 0 = .ref (ad 2) := vty2 (t1 0 _ rfl).1 rfl
  obtain ⟨y1_1, r1_1, bl1_1, bu1_1⟩ := vty0 (t1 1 _ rfl).1 rfl
  have b1_1 : 0 ≤ y1_1.toInt ∧ y1_1.toInt ≤ 16 := ⟨bl1_1, bu1_1⟩
  have c1 : w0[1]? = some ((ad 1), ob 8 [.ref (ad 2), .int y1_1]) := by
    rw [q1]
    show some (ad 1, ob 8 [g1 0, g1 1]) = _
    rw [r1_0, r1_1]
  obtain ⟨f2, c2, -⟩ := WT.longs hW (k := 2) rfl
  obtain ⟨g5, q5, t5⟩ := WT.tab hW (k := 5) rfl
  have r5_0 : g5 0 = .int h := Option.some.inj ((t5 0 _ rfl).2.symm.trans eh)
  have b5_0 : 0 ≤ h.toInt ∧ h.toInt ≤ 16 := by
    have h := (t5 0 _ rfl).1
    rw [r5_0] at h
    obtain ⟨y, e, l1, u1⟩ := vty0 h rfl
    obtain rfl := Value.int.inj e
    exact ⟨l1, u1⟩
  have r5_1 : g5 1 = .ref (ad 6) := vty2 (t5 1 _ rfl).1 rfl
  have r5_2 : g5 2 = .ref (ad 7) := vty2 (t5 2 _ rfl).1 rfl
  have r5_3 : g5 3 = .ref (ad 8) := vty2 (t5 3 _ rfl).1 rfl
  have r5_5 : g5 5 = .ref (ad 10) := vty2 (t5 5 _ rfl).1 rfl
  have r5_7 : g5 7 = .int p := Option.some.inj ((t5 7 _ rfl).2.symm.trans ep)
  have b5_7 : (-1) ≤ p.toInt ∧ p.toInt ≤ 15 := by
    have h := (t5 7 _ rfl).1
    rw [r5_7] at h
    obtain ⟨y, e, l1, u1⟩ := vty0 h rfl
    obtain rfl := Value.int.inj e
    exact ⟨l1, u1⟩
  have r5_8 : g5 8 = .int o := Option.some.inj ((t5 8 _ rfl).2.symm.trans eo)
  have b5_8 : (-2147483648) ≤ o.toInt ∧ o.toInt ≤ 2147483647 := by
    have h := (t5 8 _ rfl).1
    rw [r5_8] at h
    obtain ⟨y, e, l1, u1⟩ := vty0 h rfl
    obtain rfl := Value.int.inj e
    exact ⟨l1, u1⟩
  have c5 : w0[5]? = some ((ad 5), ob 5 [.int h, .ref (ad 6), .ref (ad 7), .ref (ad 8), (g5 4), .ref (ad 10), (g5 6), .int p, .int o]) := by
    rw [q5]
    show some (ad 5, ob 5 [g5 0, g5 1, g5 2, g5 3, g5 4, g5 5, g5 6, g5 7, g5 8]) = _
    rw [r5_0, r5_1, r5_2, r5_3, r5_5, r5_7, r5_8]
  obtain ⟨f6, c6, -⟩ := WT.ints hW (k := 6) rfl
  have ef6 : f6 = zp := arrinj ((cgetI c6 0).symm.trans ezp)
  rw [ef6] at c6
  obtain ⟨f7, c7, -⟩ := WT.ints hW (k := 7) rfl
  have ef7 : f7 = zx := arrinj ((cgetI c7 0).symm.trans ezx)
  rw [ef7] at c7
  obtain ⟨f8, c8, -⟩ := WT.ints hW (k := 8) rfl
  have ef8 : f8 = zy := arrinj ((cgetI c8 0).symm.trans ezy)
  rw [ef8] at c8
  obtain ⟨f10, c10, -⟩ := WT.ints hW (k := 10) rfl
  have ef10 : f10 = zh := arrinj ((cgetI c10 0).symm.trans ezh)
  rw [ef10] at c10
  obtain ⟨g12, q12, t12⟩ := WT.tab hW (k := 12) rfl
  have r12_0 : g12 0 = .int s := Option.some.inj ((t12 0 _ rfl).2.symm.trans es)
  have b12_0 : 0 ≤ s.toInt ∧ s.toInt ≤ 6 := by
    have h := (t12 0 _ rfl).1
    rw [r12_0] at h
    obtain ⟨y, e, l1, u1⟩ := vty0 h rfl
    obtain rfl := Value.int.inj e
    exact ⟨l1, u1⟩
  have r12_1 : g12 1 = .ref (ad 13) := vty2 (t12 1 _ rfl).1 rfl
  have r12_2 : g12 2 = .ref (ad 14) := vty2 (t12 2 _ rfl).1 rfl
  have c12 : w0[12]? = some ((ad 12), ob 7 [.int s, .ref (ad 13), .ref (ad 14), (g12 3), (g12 4), (g12 5)]) := by
    rw [q12]
    show some (ad 12, ob 7 [g12 0, g12 1, g12 2, g12 3, g12 4, g12 5]) = _
    rw [r12_0, r12_1, r12_2]
  obtain ⟨f13, c13, -⟩ := WT.ints hW (k := 13) rfl
  have ef13 : f13 = zf := arrinj ((cgetI c13 0).symm.trans ezf)
  rw [ef13] at c13
  obtain ⟨f14, c14, -⟩ := WT.ints hW (k := 14) rfl
  have ef14 : f14 = zo := arrinj ((cgetI c14 0).symm.trans ezo)
  rw [ef14] at c14
  obtain ⟨f103, c103, -⟩ := WT.ints hW (k := 103) rfl
  have ef103 : f103 = zc := arrinj ((cgetI c103 0).symm.trans ezc)
  rw [ef103] at c103
  obtain ⟨f104, c104, -⟩ := WT.ints hW (k := 104) rfl
  have ef104 : f104 = zt := arrinj ((cgetI c104 0).symm.trans ezt)
  rw [ef104] at c104
  have h2 := cv_X10_partF l G (ad 0) (ad 1) (g0 1) (ad 5) (ad 12) (g0 4) (g0 5) (g0 6) (g0 7) (g0 8) (ad 103) (ad 104) (g0 11) (g0 12) (g0 13) (g0 14) (g0 15) (ad 2) y1_1 f2 h (ad 6) (ad 7) (ad 8) (g5 4) (ad 10) (g5 6) p o zp zx zy zh s (ad 13) (ad 14) (g12 3) (g12 4) (g12 5) zf zo zc zt sq h.toInt s.toInt sq.toInt rfl rfl rfl (by omega) (by omega)
  refine Ct.weak (Ct.and (show Ct l G yX10_part cX10_part 5 (some .int) { frames := 2, cells := 0, slots := 0, locals := 48 } [.ref (ad 0), .int sq] w0 (fun r w1 => POST G ad TX C_X10_part_0 (fun k => ((Value.ref (ad 0) :: [.int sq])[k]?).getD .null) w0 r w1) from ac_X10_part_0 l G ad w0 _ hW (pre_mu (C := C_X10_part_0) (ts := [tI0]) (As := [.int sq]) rfl rfl rfl rfl ⟨fun _ => vty_i0 _, trivial⟩ ad w0 rfl)) h2 [0, 1, 2, 5, 6, 7, 8, 10, 12, 13, 14, 103, 104] (pk_cons c0 (pk_cons c1 (pk_cons c2 (pk_cons c5 (pk_cons c6 (pk_cons c7 (pk_cons c8 (pk_cons c10 (pk_cons c12 (pk_cons c13 (pk_cons c14 (pk_cons c103 (pk_cons c104 rfl))))))))))))) (by decide)) ?_
  rintro r w1 ⟨hp, w2, ⟨rz, hr, rfl⟩, hS⟩
  obtain ⟨A1, hA1, μ2, -, -, -, -, -, -, hW1, hF1⟩ := hp
  exact ⟨hW1, hF1, _, rfl, hr⟩
set_option maxHeartbeats 4000000 in
set_option maxRecDepth 100000 in
theorem ac_pam (l : Launch) (G : KG) {ad : Nat → Nat} {w0 : va_W} {h p o s sq : Int32} {zp zx zy zh zf zo zc zX zY : Nat → Int32} (hW : WT G ad TM w0) (eh : fget w0 0 3 = some (.int h)) (ep : fget w0 0 28 = some (.int p)) (eo : fget w0 0 29 = some (.int o)) (es : fget w0 0 10 = some (.int s)) (ezp : cget w0 2 0 = some (.inr (cyI G, 16, .inl zp))) (ezx : cget w0 3 0 = some (.inr (cyI G, 16, .inl zx))) (ezy : cget w0 4 0 = some (.inr (cyI G, 16, .inl zy))) (ezh : cget w0 6 0 = some (.inr (cyI G, 16, .inl zh))) (ezf : cget w0 8 0 = some (.inr (cyI G, 6, .inl zf))) (ezo : cget w0 9 0 = some (.inr (cyI G, 6, .inl zo))) (ezc : cget w0 15 0 = some (.inr (cyI G, 4, .inl zc))) (ezX : cget w0 16 0 = some (.inr (cyI G, 4, .inl zX))) (ezY : cget w0 17 0 = some (.inr (cyI G, 4, .inl zY))) (hv4 : 0 ≤ sq.toInt ∧ sq.toInt < s.toInt → ∀ j : Nat, j < 4 → 0 ≤ (pR (ldp h.toInt zp zh zx zy p o) zc zX zY zf zo sq.toNatClampNeg j).toInt) : Ct l G yX11_part cX11_part 14 (some .int) { frames := 2, cells := 0, slots := 0, locals := 46 } [.ref (ad 0), .int sq] w0 (fun r w1 => WT G ad TM w1 ∧ FRM C_X11_part_0.2.2.2.2.1 w0 w1 ∧ (∃ v : Int32, r = some (.int v) ∧ v.toInt = mPart sq.toInt s.toInt (gp (pR (ldp h.toInt zp zh zx zy p o) zc zX zY zf zo sq.toNatClampNeg) 4))) := by
  obtain ⟨g0, q0, t0⟩ := WT.tab hW (k := 0) rfl
  obtain ⟨y0_0, r0_0, -, -⟩ := vty0 (t0 0 _ rfl).1 rfl
  obtain ⟨y0_1, r0_1, bl0_1, bu0_1⟩ := vty0 (t0 1 _ rfl).1 rfl
  have b0_1 : 0 ≤ y0_1.toInt ∧ y0_1.toInt ≤ 24 := ⟨bl0_1, bu0_1⟩
  have r0_2 : g0 2 = .ref (ad 1) := vty2 (t0 2 _ rfl).1 rfl
  have r0_3 : g0 3 = .int h := Option.some.inj ((t0 3 _ rfl).2.symm.trans eh)
  have b0_3 : 0 ≤ h.toInt ∧ h.toInt ≤ 16 := by
    have h := (t0 3 _ rfl).1
    rw [r0_3] at h
    obtain ⟨y, e, l1, u1⟩ := vty0 h rfl
    obtain rfl := Value.int.inj e
    exact ⟨l1, u1⟩
  have r0_4 : g0 4 = .ref (ad 2) := vty2 (t0 4 _ rfl).1 rfl
  have r0_5 : g0 5 = .ref (ad 3) := vty2 (t0 5 _ rfl).1 rfl
  have r0_6 : g0 6 = .ref (ad 4) := vty2 (t0 6 _ rfl).1 rfl
  have r0_7 : g0 7 = .ref (ad 5) := vty2 (t0 7 _ rfl).1 rfl
  have r0_8 : g0 8 = .ref (ad 6) := vty2 (t0 8 _ rfl).1 rfl
  have r0_9 : g0 9 = .ref (ad 7) := vty2 (t0 9 _ rfl).1 rfl
  have r0_10 : g0 10 = .int s := Option.some.inj ((t0 10 _ rfl).2.symm.trans es)
  have b0_10 : 0 ≤ s.toInt ∧ s.toInt ≤ 6 := by
    have h := (t0 10 _ rfl).1
    rw [r0_10] at h
    obtain ⟨y, e, l1, u1⟩ := vty0 h rfl
    obtain rfl := Value.int.inj e
    exact ⟨l1, u1⟩
  have r0_11 : g0 11 = .ref (ad 8) := vty2 (t0 11 _ rfl).1 rfl
  have r0_12 : g0 12 = .ref (ad 9) := vty2 (t0 12 _ rfl).1 rfl
  have r0_13 : g0 13 = .ref (ad 10) := vty2 (t0 13 _ rfl).1 rfl
  obtain ⟨y0_16, r0_16, -, -⟩ := vty0 (t0 16 _ rfl).1 rfl
  have r0_17 : g0 17 = .ref (ad 13) := vty2 (t0 17 _ rfl).1 rfl
  have r0_18 : g0 18 = .ref (ad 14) := vty2 (t0 18 _ rfl).1 rfl
  obtain ⟨y0_19, r0_19, -, -⟩ := vty0 (t0 19 _ rfl).1 rfl
  obtain ⟨y0_20, r0_20, -, -⟩ := vty0 (t0 20 _ rfl).1 rfl
  obtain ⟨y0_21, r0_21, -, -⟩ := vty0 (t0 21 _ rfl).1 rfl
  obtain ⟨y0_22, r0_22, -, -⟩ := vty0 (t0 22 _ rfl).1 rfl
  have r0_23 : g0 23 = .ref (ad 15) := vty2 (t0 23 _ rfl).1 rfl
  have r0_24 : g0 24 = .ref (ad 16) := vty2 (t0 24 _ rfl).1 rfl
  have r0_25 : g0 25 = .ref (ad 17) := vty2 (t0 25 _ rfl).1 rfl
  have r0_28 : g0 28 = .int p := Option.some.inj ((t0 28 _ rfl).2.symm.trans ep)
  have b0_28 : (-1) ≤ p.toInt ∧ p.toInt ≤ 15 := by
    have h := (t0 28 _ rfl).1
    rw [r0_28] at h
    obtain ⟨y, e, l1, u1⟩ := vty0 h rfl
    obtain rfl := Value.int.inj e
    exact ⟨l1, u1⟩
  have r0_29 : g0 29 = .int o := Option.some.inj ((t0 29 _ rfl).2.symm.trans eo)
  have b0_29 : (-2147483648) ≤ o.toInt ∧ o.toInt ≤ 2147483647 := by
    have h := (t0 29 _ rfl).1
    rw [r0_29] at h
    obtain ⟨y, e, l1, u1⟩ := vty0 h rfl
    obtain rfl := Value.int.inj e
    exact ⟨l1, u1⟩
  have r0_30 : g0 30 = .ref (ad 20) := vty2 (t0 30 _ rfl).1 rfl
  have c0 : w0[0]? = some ((ad 0), ob 11 [.int y0_0, .int y0_1, .ref (ad 1), .int h, .ref (ad 2), .ref (ad 3), .ref (ad 4), .ref (ad 5), .ref (ad 6), .ref (ad 7), .int s, .ref (ad 8), .ref (ad 9), .ref (ad 10), (g0 14), (g0 15), .int y0_16, .ref (ad 13), .ref (ad 14), .int y0_19, .int y0_20, .int y0_21, .int y0_22, .ref (ad 15), .ref (ad 16), .ref (ad 17), (g0 26), (g0 27), .int p, .int o, .ref (ad 20), (g0 31), (g0 32), (g0 33), (g0 34), (g0 35), (g0 36), (g0 37), (g0 38), (g0 39), (g0 40), (g0 41), (g0 42), (g0 43), (g0 44), (g0 45), (g0 46), (g0 47), (g0 48), (g0 49), (g0 50), (g0 51), (g0 52), (g0 53), (g0 54), (g0 55), (g0 56), (g0 57), (g0 58), (g0 59), (g0 60), (g0 61), (g0 62), (g0 63), (g0 64), (g0 65), (g0 66), (g0 67), (g0 68), (g0 69), (g0 70), (g0 71), (g0 72), (g0 73), (g0 74)]) := by
    rw [q0]
    show some (ad 0, ob 11 [g0 0, g0 1, g0 2, g0 3, g0 4, g0 5, g0 6, g0 7, g0 8, g0 9, g0 10, g0 11, g0 12, g0 13, g0 14, g0 15, g0 16, g0 17, g0 18, g0 19, g0 20, g0 21, g0 22, g0 23, g0 24, g0 25, g0 26, g0 27, g0 28, g0 29, g0 30, g0 31, g0 32, g0 33, g0 34, g0 35, g0 36, g0 37, g0 38, g0 39, g0 40, g0 41, g0 42, g0 43, g0 44, g0 45, g0 46, g0 47, g0 48, g0 49, g0 50, g0 51, g0 52, g0 53, g0 54, g0 55, g0 56, g0 57, g0 58, g0 59, g0 60, g0 61, g0 62, g0 63, g0 64, g0 65, g0 66, g0 67, g0 68, g0 69, g0 70, g0 71, g0 72, g0 73, g0 74]) = _
    rw [r0_0, r0_1, r0_2, r0_3, r0_4, r0_5, r0_6, r0_7, r0_8, r0_9, r0_10, r0_11, r0_12, r0_13, r0_16, r0_17, r0_18, r0_19, r0_20, r0_21, r0_22, r0_23, r0_24, r0_25, r0_28, r0_29, r0_30]
  obtain ⟨f20, c20, -⟩ := WT.ints hW (k := 20) rfl
  obtain ⟨f2, c2, -⟩ := WT.ints hW (k := 2) rfl
  have ef2 : f2 = zp := arrinj ((cgetI c2 0).symm.trans ezp)
  rw [ef2] at c2
  obtain ⟨f3, c3, -⟩ := WT.ints hW (k := 3) rfl
  have ef3 : f3 = zx := arrinj ((cgetI c3 0).symm.trans ezx)
  rw [ef3] at c3
  obtain ⟨f4, c4, -⟩ := WT.ints hW (k := 4) rfl
  have ef4 : f4 = zy := arrinj ((cgetI c4 0).symm.trans ezy)
  rw [ef4] at c4
  obtain ⟨f6, c6, -⟩ := WT.ints hW (k := 6) rfl
  have ef6 : f6 = zh := arrinj ((cgetI c6 0).symm.trans ezh)
  rw [ef6] at c6
  obtain ⟨f8, c8, -⟩ := WT.ints hW (k := 8) rfl
  have ef8 : f8 = zf := arrinj ((cgetI c8 0).symm.trans ezf)
  rw [ef8] at c8
  obtain ⟨f9, c9, -⟩ := WT.ints hW (k := 9) rfl
  have ef9 : f9 = zo := arrinj ((cgetI c9 0).symm.trans ezo)
  rw [ef9] at c9
  obtain ⟨f15, c15, -⟩ := WT.ints hW (k := 15) rfl
  have ef15 : f15 = zc := arrinj ((cgetI c15 0).symm.trans ezc)
  rw [ef15] at c15
  obtain ⟨f16, c16, -⟩ := WT.ints hW (k := 16) rfl
  have ef16 : f16 = zX := arrinj ((cgetI c16 0).symm.trans ezX)
  rw [ef16] at c16
  obtain ⟨f17, c17, -⟩ := WT.ints hW (k := 17) rfl
  have ef17 : f17 = zY := arrinj ((cgetI c17 0).symm.trans ezY)
  rw [ef17] at c17
  obtain ⟨f1, c1, -⟩ := WT.longs hW (k := 1) rfl
  have hpl := ref_plane hW eh ezp
  have h2 := cv_X11_partF l G (ad 0) y0_0 y0_1 (ad 1) h (ad 2) (ad 3) (ad 4) (ad 5) (ad 6) (ad 7) s (ad 8) (ad 9) (ad 10) (g0 14) (g0 15) y0_16 (ad 13) (ad 14) y0_19 y0_20 y0_21 y0_22 (ad 15) (ad 16) (ad 17) (g0 26) (g0 27) p o (ad 20) (g0 31) (g0 32) (g0 33) (g0 34) (g0 35) (g0 36) (g0 37) (g0 38) (g0 39) (g0 40) (g0 41) (g0 42) (g0 43) (g0 44) (g0 45) (g0 46) (g0 47) (g0 48) (g0 49) (g0 50) (g0 51) (g0 52) (g0 53) (g0 54) (g0 55) (g0 56) (g0 57) (g0 58) (g0 59) (g0 60) (g0 61) (g0 62) (g0 63) (g0 64) (g0 65) (g0 66) (g0 67) (g0 68) (g0 69) (g0 70) (g0 71) (g0 72) (g0 73) (g0 74) zp zx zy zh f20 zf zo zc zX zY f1 f20 sq h.toInt s.toInt sq.toInt rfl rfl rfl (by omega) (by omega) (by omega) hv4
  refine Ct.weak (Ct.and (show Ct l G yX11_part cX11_part 14 (some .int) { frames := 2, cells := 0, slots := 0, locals := 46 } [.ref (ad 0), .int sq] w0 (fun r w1 => POST G ad TM C_X11_part_0 (fun k => ((Value.ref (ad 0) :: [.int sq])[k]?).getD .null) w0 r w1) from ac_X11_part_0 l G ad w0 _ hW (pre_mu (C := C_X11_part_0) (ts := [tI0]) (As := [.int sq]) rfl rfl rfl rfl ⟨fun _ => vty_i0 _, trivial⟩ ad w0 rfl)) h2 [0, 20, 2, 3, 4, 6, 8, 9, 15, 16, 17, 1] (pk_cons c0 (pk_cons c20 (pk_cons c2 (pk_cons c3 (pk_cons c4 (pk_cons c6 (pk_cons c8 (pk_cons c9 (pk_cons c15 (pk_cons c16 (pk_cons c17 (pk_cons c1 rfl)))))))))))) (by decide)) ?_
  rintro r w1 ⟨hp, w2, ⟨rz, hr, rfl⟩, hS⟩
  obtain ⟨A1, hA1, μ2, -, -, -, -, -, -, hW1, hF1⟩ := hp
  exact ⟨hW1, hF1, _, rfl, hr⟩
theorem hums_same {h s w : Int} {fp fh fx fy cr t ff fo gp_ gh gx gy gr X Y gf go : Nat → Int32} {ph po bq : Int32} (B : FB h s fp fh fx fy po cr t ff fo) (E : FE h s fp fh fx fy cr t ff fo gp_ gh gx gy gr X Y gf go) (hs : 0 ≤ s) : mHums bq.toInt w s (hb w (fun k => (sz (fTx h fp fh fx fy ph po cr t ff fo bq 0 0 k) (fTx h fp fh fx fy ph po cr t ff fo bq 1 1 k)).toInt) s.toNat) = mHums bq.toInt w s (hb w (fun k => (szL (fRx gr (ldp h gp_ gh gx gy ph po) X gf go bq 0 k) (fRx gr (ldp h gp_ gh gx gy ph po) Y gf go bq 1 k)).toInt) s.toNat) := by
  by_cases q : (0 ≤ bq.toInt ∧ bq.toInt ≤ 1) ∧ 0 ≤ w ∧ w ≤ 1
  · rw [hb_congr (n := s.toNat) (fun k hk => ?_)]
    have z := felt_same (ph := ph) B E q.1 (k := k) (by omega)
    show (sz _ _).toInt = (szL _ _).toInt
    rw [z.1.1, z.2.1, szL_sz]
  · rw [mHums_no q, mHums_no q]
theorem part_same2 {h s : Int} {fp fh fx fy cr t ff fo gp_ gh gx gy gr X Y gf go : Nat → Int32} {ph po sq : Int32} (B : FB h s fp fh fx fy po cr t ff fo) (E : FE h s fp fh fx fy cr t ff fo gp_ gh gx gy gr X Y gf go) : mPart sq.toInt s (gp (pX h fp fh fx fy ph po cr t ff fo sq.toNatClampNeg) 4) = mPart sq.toInt s (gp (pR (ldp h gp_ gh gx gy ph po) gr X Y gf go sq.toNatClampNeg) 4) := by
  by_cases q : 0 ≤ sq.toInt ∧ sq.toInt < s
  · rw [gp_congr4 (fun j hj => (part_same (ph := ph) B E (k := sq.toNatClampNeg) (show ((sq.toInt.toNat : Nat) : Int) < s by omega) j hj).1)]
  · rw [mPart_no q, mPart_no q]
