/-! round in the typed worlds -/
set_option maxHeartbeats 4000000 in
set_option maxRecDepth 100000 in
theorem ac_rdx (l : Launch) (G : KG) {ad : Nat → Nat} {w0 : va_W} {h c : Int32} {zx zy zw : Nat → Int32} (hW : WT G ad TX w0) (eh : fget w0 5 0 = some (.int h)) (ec : fget w0 18 0 = some (.int c)) (ezx : cget w0 7 0 = some (.inr (cyI G, 16, .inl zx))) (ezy : cget w0 8 0 = some (.inr (cyI G, 16, .inl zy))) (ezw : cget w0 19 0 = some (.inr (cyI G, 8, .inl zw))) : Ct l G yX10_round cX10_round 3 (some .int) { frames := 2, cells := 0, slots := 0, locals := 52 } [.ref (ad 0)] w0 (fun r w1 => WT G ad TX w1 ∧ FRM C_X10_round_0.2.2.2.2.1 w0 w1 ∧ (∃ v : Int32, r = some (.int v) ∧ RdE zw zx zy c.toInt h.toInt v)) := by
  obtain ⟨g0, q0, t0⟩ := WT.tab hW (k := 0) rfl
  have r0_0 : g0 0 = .ref (ad 1) := vty2 (t0 0 _ rfl).1 rfl
  have r0_2 : g0 2 = .ref (ad 5) := vty2 (t0 2 _ rfl).1 rfl
  have r0_4 : g0 4 = .ref (ad 18) := vty2 (t0 4 _ rfl).1 rfl
  have c0 : w0[0]? = some ((ad 0), ob 10 [.ref (ad 1), (g0 1), .ref (ad 5), (g0 3), .ref (ad 18), (g0 5), (g0 6), (g0 7), (g0 8), (g0 9), (g0 10), (g0 11), (g0 12), (g0 13), (g0 14), (g0 15)]) := by
    rw [q0]
    show some (ad 0, ob 10 [g0 0, g0 1, g0 2, g0 3, g0 4, g0 5, g0 6, g0 7, g0 8, g0 9, g0 10, g0 11, g0 12, g0 13, g0 14, g0 15]) = _
    rw [r0_0, r0_2, r0_4]
  obtain ⟨g1, q1, t1⟩ := WT.tab hW (k := 1) rfl
  have r1_0 : g1 0 = .ref (ad 2) := vty2 (t1 0 _ rfl).1 rfl
  obtain ⟨y1_1, r1_1, bl1_1, bu1_1⟩ := vty0 (t1 1 _ rfl).1 rfl
  have b1_1 : 0 ≤ y1_1.toInt ∧ y1_1.toInt ≤ 16 := ⟨bl1_1, bu1_1⟩
  have c1 : w0[1]? = some ((ad 1), ob 8 [.ref (ad 2), .int y1_1]) := by
    rw [q1]
    show some (ad 1, ob 8 [g1 0, g1 1]) = _
    rw [r1_0, r1_1]
  obtain ⟨f2, c2, -⟩ := WT.longs hW (k := 2) rfl
  obtain ⟨g18, q18, t18⟩ := WT.tab hW (k := 18) rfl
  have r18_0 : g18 0 = .int c := Option.some.inj ((t18 0 _ rfl).2.symm.trans ec)
  have b18_0 : 0 ≤ c.toInt ∧ c.toInt ≤ 8 := by
    have h := (t18 0 _ rfl).1
    rw [r18_0] at h
    obtain ⟨y, e, l1, u1⟩ := vty0 h rfl
    obtain rfl := Value.int.inj e
    exact ⟨l1, u1⟩
  have r18_1 : g18 1 = .ref (ad 19) := vty2 (t18 1 _ rfl).1 rfl
  have r18_2 : g18 2 = .ref (ad 20) := vty2 (t18 2 _ rfl).1 rfl
  obtain ⟨y18_4, r18_4, -, -⟩ := vty0 (t18 4 _ rfl).1 rfl
  obtain ⟨y18_5, r18_5, -, -⟩ := vty0 (t18 5 _ rfl).1 rfl
  have c18 : w0[18]? = some ((ad 18), ob 0 [.int c, .ref (ad 19), .ref (ad 20), (g18 3), .int y18_4, .int y18_5, (g18 6)]) := by
    rw [q18]
    show some (ad 18, ob 0 [g18 0, g18 1, g18 2, g18 3, g18 4, g18 5, g18 6]) = _
    rw [r18_0, r18_1, r18_2, r18_4, r18_5]
  obtain ⟨f19, c19, -⟩ := WT.ints hW (k := 19) rfl
  have ef19 : f19 = zw := arrinj ((cgetI c19 0).symm.trans ezw)
  rw [ef19] at c19
  obtain ⟨f20, c20, -⟩ := WT.ints hW (k := 20) rfl
  obtain ⟨g5, q5, t5⟩ := WT.tab hW (k := 5) rfl
  have r5_0 : g5 0 = .int h := Option.some.inj ((t5 0 _ rfl).2.symm.trans eh)
  have b5_0 : 0 ≤ h.toInt ∧ h.toInt ≤ 16 := by
    have h := (t5 0 _ rfl).1
    rw [r5_0] at h
    obtain ⟨y, e, l1, u1⟩ := vty0 h rfl
    obtain rfl := Value.int.inj e
    exact ⟨l1, u1⟩
  have r5_2 : g5 2 = .ref (ad 7) := vty2 (t5 2 _ rfl).1 rfl
  have r5_3 : g5 3 = .ref (ad 8) := vty2 (t5 3 _ rfl).1 rfl
  have c5 : w0[5]? = some ((ad 5), ob 5 [.int h, (g5 1), .ref (ad 7), .ref (ad 8), (g5 4), (g5 5), (g5 6), (g5 7), (g5 8)]) := by
    rw [q5]
    show some (ad 5, ob 5 [g5 0, g5 1, g5 2, g5 3, g5 4, g5 5, g5 6, g5 7, g5 8]) = _
    rw [r5_0, r5_2, r5_3]
  obtain ⟨f7, c7, -⟩ := WT.ints hW (k := 7) rfl
  have ef7 : f7 = zx := arrinj ((cgetI c7 0).symm.trans ezx)
  rw [ef7] at c7
  obtain ⟨f8, c8, -⟩ := WT.ints hW (k := 8) rfl
  have ef8 : f8 = zy := arrinj ((cgetI c8 0).symm.trans ezy)
  rw [ef8] at c8
  have h2 := cr_X10_round l G (ad 0) (ad 1) (g0 1) (ad 5) (g0 3) (ad 18) (g0 5) (g0 6) (g0 7) (g0 8) (g0 9) (g0 10) (g0 11) (g0 12) (g0 13) (g0 14) (g0 15) (ad 2) y1_1 f2 c (ad 19) (ad 20) (g18 3) y18_4 y18_5 (g18 6) zw f20 h (g5 1) (ad 7) (ad 8) (g5 4) (g5 5) (g5 6) (g5 7) (g5 8) zx zy c.toInt h.toInt y1_1.toInt rfl rfl rfl (by omega) (by omega) (by omega)
  refine Ct.weak (Ct.and (show Ct l G yX10_round cX10_round 3 (some .int) { frames := 2, cells := 0, slots := 0, locals := 52 } [.ref (ad 0)] w0 (fun r w1 => POST G ad TX C_X10_round_0 (fun k => ((Value.ref (ad 0) :: ([] : List Value))[k]?).getD .null) w0 r w1) from ac_X10_round_0 l G ad w0 _ hW (pre_mu (C := C_X10_round_0) (ts := []) (As := []) rfl rfl rfl rfl trivial ad w0 rfl)) h2 [0, 1, 2, 18, 19, 20, 5, 7, 8] (pk_cons c0 (pk_cons c1 (pk_cons c2 (pk_cons c18 (pk_cons c19 (pk_cons c20 (pk_cons c5 (pk_cons c7 (pk_cons c8 rfl))))))))) (by decide)) ?_
  rintro r w1 ⟨hp, w2, ⟨rz, a2, b2, g2, tl2, fn2, hr, rfl, rfl⟩, hS⟩
  obtain ⟨A1, hA1, μ2, -, -, -, -, -, -, hW1, hF1⟩ := hp
  obtain ⟨fs0, -, u0, ul0, -, -⟩ := WT.obj hW1 (k := 0) (j := 0) rfl rfl
  obtain ⟨fs1, -, u1, ul1, -, -⟩ := WT.obj hW1 (k := 1) (j := 0) rfl rfl
  obtain ⟨p2, u2, -⟩ := WT.longs hW1 (k := 2) rfl
  obtain ⟨fs5, -, u5, ul5, -, -⟩ := WT.obj hW1 (k := 5) (j := 0) rfl rfl
  obtain ⟨p7, u7, -⟩ := WT.ints hW1 (k := 7) rfl
  obtain ⟨p8, u8, -⟩ := WT.ints hW1 (k := 8) rfl
  obtain ⟨fs18, -, u18, ul18, -, -⟩ := WT.obj hW1 (k := 18) (j := 0) rfl rfl
  obtain ⟨p19, u19, -⟩ := WT.ints hW1 (k := 19) rfl
  obtain ⟨p20, u20, -⟩ := WT.ints hW1 (k := 20) rfl
  exact ⟨hW1, hF1, _, rfl, hr⟩
set_option maxHeartbeats 4000000 in
set_option maxRecDepth 100000 in
theorem ac_rdm (l : Launch) (G : KG) {ad : Nat → Nat} {w0 : va_W} {h c : Int32} {zx zy zw : Nat → Int32} (hW : WT G ad TM w0) (eh : fget w0 0 3 = some (.int h)) (ec : fget w0 0 16 = some (.int c)) (ezx : cget w0 3 0 = some (.inr (cyI G, 16, .inl zx))) (ezy : cget w0 4 0 = some (.inr (cyI G, 16, .inl zy))) (ezw : cget w0 13 0 = some (.inr (cyI G, 8, .inl zw))) (hwb : ∀ j : Nat, j < c.toInt.toNat → 0 ≤ (zw j).toInt ∧ (zw j).toInt ≤ 99) (hx9 : ∀ j : Nat, (j : Int) < h.toInt → -99 ≤ (zx j).toInt ∧ (zx j).toInt ≤ 99) (hy9 : ∀ j : Nat, (j : Int) < h.toInt → -99 ≤ (zy j).toInt ∧ (zy j).toInt ≤ 99) : Ct l G yX11_round cX11_round 9 (some .int) { frames := 2, cells := 0, slots := 0, locals := 52 } [.ref (ad 0)] w0 (fun r w1 => WT G ad TM w1 ∧ FRM C_round.2.2.2.2.1 w0 w1 ∧ (∃ v : Int32, r = some (.int v) ∧ RdE zw zx zy c.toInt h.toInt v)) := by
  obtain ⟨g0, q0, t0⟩ := WT.tab hW (k := 0) rfl
  obtain ⟨y0_0, r0_0, -, -⟩ := vty0 (t0 0 _ rfl).1 rfl
  obtain ⟨y0_1, r0_1, -, -⟩ := vty0 (t0 1 _ rfl).1 rfl
  have r0_2 : g0 2 = .ref (ad 1) := vty2 (t0 2 _ rfl).1 rfl
  have r0_3 : g0 3 = .int h := Option.some.inj ((t0 3 _ rfl).2.symm.trans eh)
  have b0_3 : 0 ≤ h.toInt ∧ h.toInt ≤ 16 := by
    have h := (t0 3 _ rfl).1
    rw [r0_3] at h
    obtain ⟨y, e, l1, u1⟩ := vty0 h rfl
    obtain rfl := Value.int.inj e
    exact ⟨l1, u1⟩
  have r0_4 : g0 4 = .ref (ad 2) := vty2 (t0 4 _ rfl).1 rfl
  have r0_5 : g0 5 = .ref (ad 3) := vty2 (t0 5 _ rfl).1 rfl
  have r0_6 : g0 6 = .ref (ad 4) := vty2 (t0 6 _ rfl).1 rfl
  have r0_7 : g0 7 = .ref (ad 5) := vty2 (t0 7 _ rfl).1 rfl
  have r0_8 : g0 8 = .ref (ad 6) := vty2 (t0 8 _ rfl).1 rfl
  have r0_9 : g0 9 = .ref (ad 7) := vty2 (t0 9 _ rfl).1 rfl
  obtain ⟨y0_10, r0_10, -, -⟩ := vty0 (t0 10 _ rfl).1 rfl
  have r0_11 : g0 11 = .ref (ad 8) := vty2 (t0 11 _ rfl).1 rfl
  have r0_12 : g0 12 = .ref (ad 9) := vty2 (t0 12 _ rfl).1 rfl
  have r0_13 : g0 13 = .ref (ad 10) := vty2 (t0 13 _ rfl).1 rfl
  have r0_16 : g0 16 = .int c := Option.some.inj ((t0 16 _ rfl).2.symm.trans ec)
  have b0_16 : 0 ≤ c.toInt ∧ c.toInt ≤ 8 := by
    have h := (t0 16 _ rfl).1
    rw [r0_16] at h
    obtain ⟨y, e, l1, u1⟩ := vty0 h rfl
    obtain rfl := Value.int.inj e
    exact ⟨l1, u1⟩
  have r0_17 : g0 17 = .ref (ad 13) := vty2 (t0 17 _ rfl).1 rfl
  have r0_18 : g0 18 = .ref (ad 14) := vty2 (t0 18 _ rfl).1 rfl
  obtain ⟨y0_19, r0_19, -, -⟩ := vty0 (t0 19 _ rfl).1 rfl
  obtain ⟨y0_20, r0_20, -, -⟩ := vty0 (t0 20 _ rfl).1 rfl
  obtain ⟨y0_21, r0_21, -, -⟩ := vty0 (t0 21 _ rfl).1 rfl
  obtain ⟨y0_22, r0_22, -, -⟩ := vty0 (t0 22 _ rfl).1 rfl
  have r0_68 : g0 68 = .ref (ad 43) := vty2 (t0 68 _ rfl).1 rfl
  have c0 : w0[0]? = some ((ad 0), ob 11 [.int y0_0, .int y0_1, .ref (ad 1), .int h, .ref (ad 2), .ref (ad 3), .ref (ad 4), .ref (ad 5), .ref (ad 6), .ref (ad 7), .int y0_10, .ref (ad 8), .ref (ad 9), .ref (ad 10), (g0 14), (g0 15), .int c, .ref (ad 13), .ref (ad 14), .int y0_19, .int y0_20, .int y0_21, .int y0_22, (g0 23), (g0 24), (g0 25), (g0 26), (g0 27), (g0 28), (g0 29), (g0 30), (g0 31), (g0 32), (g0 33), (g0 34), (g0 35), (g0 36), (g0 37), (g0 38), (g0 39), (g0 40), (g0 41), (g0 42), (g0 43), (g0 44), (g0 45), (g0 46), (g0 47), (g0 48), (g0 49), (g0 50), (g0 51), (g0 52), (g0 53), (g0 54), (g0 55), (g0 56), (g0 57), (g0 58), (g0 59), (g0 60), (g0 61), (g0 62), (g0 63), (g0 64), (g0 65), (g0 66), (g0 67), .ref (ad 43), (g0 69), (g0 70), (g0 71), (g0 72), (g0 73), (g0 74)]) := by
    rw [q0]
    show some (ad 0, ob 11 [g0 0, g0 1, g0 2, g0 3, g0 4, g0 5, g0 6, g0 7, g0 8, g0 9, g0 10, g0 11, g0 12, g0 13, g0 14, g0 15, g0 16, g0 17, g0 18, g0 19, g0 20, g0 21, g0 22, g0 23, g0 24, g0 25, g0 26, g0 27, g0 28, g0 29, g0 30, g0 31, g0 32, g0 33, g0 34, g0 35, g0 36, g0 37, g0 38, g0 39, g0 40, g0 41, g0 42, g0 43, g0 44, g0 45, g0 46, g0 47, g0 48, g0 49, g0 50, g0 51, g0 52, g0 53, g0 54, g0 55, g0 56, g0 57, g0 58, g0 59, g0 60, g0 61, g0 62, g0 63, g0 64, g0 65, g0 66, g0 67, g0 68, g0 69, g0 70, g0 71, g0 72, g0 73, g0 74]) = _
    rw [r0_0, r0_1, r0_2, r0_3, r0_4, r0_5, r0_6, r0_7, r0_8, r0_9, r0_10, r0_11, r0_12, r0_13, r0_16, r0_17, r0_18, r0_19, r0_20, r0_21, r0_22, r0_68]
  obtain ⟨f13, c13, -⟩ := WT.ints hW (k := 13) rfl
  have ef13 : f13 = zw := arrinj ((cgetI c13 0).symm.trans ezw)
  rw [ef13] at c13
  obtain ⟨f43, c43, -⟩ := WT.ints hW (k := 43) rfl
  obtain ⟨f3, c3, -⟩ := WT.ints hW (k := 3) rfl
  have ef3 : f3 = zx := arrinj ((cgetI c3 0).symm.trans ezx)
  rw [ef3] at c3
  obtain ⟨f4, c4, -⟩ := WT.ints hW (k := 4) rfl
  have ef4 : f4 = zy := arrinj ((cgetI c4 0).symm.trans ezy)
  rw [ef4] at c4
  obtain ⟨f1, c1, -⟩ := WT.longs hW (k := 1) rfl
  have h2 := cr_X11_round l G (ad 0) y0_0 y0_1 (ad 1) h (ad 2) (ad 3) (ad 4) (ad 5) (ad 6) (ad 7) y0_10 (ad 8) (ad 9) (ad 10) (g0 14) (g0 15) c (ad 13) (ad 14) y0_19 y0_20 y0_21 y0_22 (g0 23) (g0 24) (g0 25) (g0 26) (g0 27) (g0 28) (g0 29) (g0 30) (g0 31) (g0 32) (g0 33) (g0 34) (g0 35) (g0 36) (g0 37) (g0 38) (g0 39) (g0 40) (g0 41) (g0 42) (g0 43) (g0 44) (g0 45) (g0 46) (g0 47) (g0 48) (g0 49) (g0 50) (g0 51) (g0 52) (g0 53) (g0 54) (g0 55) (g0 56) (g0 57) (g0 58) (g0 59) (g0 60) (g0 61) (g0 62) (g0 63) (g0 64) (g0 65) (g0 66) (g0 67) (ad 43) (g0 69) (g0 70) (g0 71) (g0 72) (g0 73) (g0 74) zw f43 zx zy f1 c.toInt h.toInt rfl rfl (by omega) (by omega) hwb hx9 hy9
  refine Ct.weak (Ct.and (show Ct l G yX11_round cX11_round 9 (some .int) { frames := 2, cells := 0, slots := 0, locals := 52 } [.ref (ad 0)] w0 (fun r w1 => POST G ad TM C_round (fun k => ((Value.ref (ad 0) :: ([] : List Value))[k]?).getD .null) w0 r w1) from ac_round l G ad w0 _ hW (pre_mu (C := C_round) (ts := []) (As := []) rfl rfl rfl rfl trivial ad w0 rfl)) h2 [0, 13, 43, 3, 4, 1] (pk_cons c0 (pk_cons c13 (pk_cons c43 (pk_cons c3 (pk_cons c4 (pk_cons c1 rfl)))))) (by decide)) ?_
  rintro r w1 ⟨hp, w2, ⟨rz, g2, rw2, fz2, hr, rfl, rfl⟩, hS⟩
  obtain ⟨A1, hA1, μ2, -, -, -, -, -, -, hW1, hF1⟩ := hp
  obtain ⟨fs0, -, u0, ul0, -, -⟩ := WT.obj hW1 (k := 0) (j := 0) rfl rfl
  obtain ⟨p1, u1, -⟩ := WT.longs hW1 (k := 1) rfl
  obtain ⟨p3, u3, -⟩ := WT.ints hW1 (k := 3) rfl
  obtain ⟨p4, u4, -⟩ := WT.ints hW1 (k := 4) rfl
  obtain ⟨p13, u13, -⟩ := WT.ints hW1 (k := 13) rfl
  obtain ⟨p43, u43, -⟩ := WT.ints hW1 (k := 43) rfl
  exact ⟨hW1, hF1, _, rfl, hr⟩
theorem ex_rd {w x y : Nat → Int32} {c h : Int} {v : Int32} (H : ∃ v' : Int32, (some (.int v) : Option Value) = some (.int v') ∧ RdE w x y c h v') : RdE w x y c h v := by
  obtain ⟨v', e, H⟩ := H
  rw [some_int e]
  exact H
