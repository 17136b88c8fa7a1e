/-! which, ends, judge in the typed worlds -/
set_option maxHeartbeats 4000000 in
set_option maxRecDepth 100000 in
theorem ac_wcx (l : Launch) (G : KG) {ad : Nat → Nat} {w0 : va_W} {t : Int32} {zf zo zc zt : Nat → Int32} {F : Nat → Nat → Int32} (hW : WT G ad TX w0) (et : fget w0 22 0 = some (.int t)) (ezf : cget w0 13 0 = some (.inr (cyI G, 6, .inl zf))) (ezo : cget w0 14 0 = some (.inr (cyI G, 6, .inl zo))) (ezc : cget w0 103 0 = some (.inr (cyI G, 4, .inl zc))) (ezt : cget w0 105 0 = some (.inr (cyI G, 8, .inl zt))) (eF : TRx G w0 23 F) (hsp : ∀ j : Nat, (j : Int) < t.toInt → 0 ≤ (F 0 j).toInt ∧ (F 0 j).toInt < 6) (hg : ∀ j : Nat, (j : Int) < t.toInt → 0 ≤ (F 4 j).toInt ∧ (F 4 j).toInt ≤ 1000000) : Ct l G yX10_which cX10_which 1 (some .int) { frames := 4, cells := 0, slots := 0, locals := 95 } [.ref (ad 0)] w0 (fun r w1 => WT G ad TX w1 ∧ FRM C_X10_which_0.2.2.2.2.1 w0 w1 ∧ (∃ v : Int32, r = some (.int v) ∧ v.toInt = ((ct (fun k => fa (AGx zf zo zc zt (tr6 (F 0) (F 1) (F 2) (F 3) (F 4) (F 5)) (PX k) (PY k)) t.toInt.toNat 0 = -2) 14641 : Nat) : Int))) := by
  obtain ⟨g0, q0, t0⟩ := WT.tab hW (k := 0) rfl
  have r0_0 : g0 0 = .ref (ad 1) := vty2 (t0 0 _ rfl).1 rfl
  have r0_3 : g0 3 = .ref (ad 12) := vty2 (t0 3 _ rfl).1 rfl
  have r0_5 : g0 5 = .ref (ad 22) := vty2 (t0 5 _ rfl).1 rfl
  have r0_6 : g0 6 = .ref (ad 32) := vty2 (t0 6 _ rfl).1 rfl
  have r0_9 : g0 9 = .ref (ad 103) := vty2 (t0 9 _ rfl).1 rfl
  have r0_11 : g0 11 = .ref (ad 105) := vty2 (t0 11 _ rfl).1 rfl
  have c0 : w0[0]? = some ((ad 0), ob 10 [.ref (ad 1), (g0 1), (g0 2), .ref (ad 12), (g0 4), .ref (ad 22), .ref (ad 32), (g0 7), (g0 8), .ref (ad 103), (g0 10), .ref (ad 105), (g0 12), (g0 13), (g0 14), (g0 15)]) := by
    rw [q0]
    show some (ad 0, ob 10 [g0 0, g0 1, g0 2, g0 3, g0 4, g0 5, g0 6, g0 7, g0 8, g0 9, g0 10, g0 11, g0 12, g0 13, g0 14, g0 15]) = _
    rw [r0_0, r0_3, r0_5, r0_6, r0_9, r0_11]
  obtain ⟨g1, q1, t1⟩ := WT.tab hW (k := 1) rfl
  have r1_0 : g1 0 = .ref (ad 2) := vty2 (t1 0 _ rfl).1 rfl
  obtain ⟨y1_1, r1_1, bl1_1, bu1_1⟩ := vty0 (t1 1 _ rfl).1 rfl
  have b1_1 : 0 ≤ y1_1.toInt ∧ y1_1.toInt ≤ 16 := ⟨bl1_1, bu1_1⟩
  have c1 : w0[1]? = some ((ad 1), ob 8 [.ref (ad 2), .int y1_1]) := by
    rw [q1]
    show some (ad 1, ob 8 [g1 0, g1 1]) = _
    rw [r1_0, r1_1]
  obtain ⟨f2, c2, -⟩ := WT.longs hW (k := 2) rfl
  obtain ⟨g12, q12, t12⟩ := WT.tab hW (k := 12) rfl
  obtain ⟨y12_0, r12_0, -, -⟩ := vty0 (t12 0 _ rfl).1 rfl
  have r12_1 : g12 1 = .ref (ad 13) := vty2 (t12 1 _ rfl).1 rfl
  have r12_2 : g12 2 = .ref (ad 14) := vty2 (t12 2 _ rfl).1 rfl
  have c12 : w0[12]? = some ((ad 12), ob 7 [.int y12_0, .ref (ad 13), .ref (ad 14), (g12 3), (g12 4), (g12 5)]) := by
    rw [q12]
    show some (ad 12, ob 7 [g12 0, g12 1, g12 2, g12 3, g12 4, g12 5]) = _
    rw [r12_0, r12_1, r12_2]
  obtain ⟨f13, c13, -⟩ := WT.ints hW (k := 13) rfl
  have ef13 : f13 = zf := arrinj ((cgetI c13 0).symm.trans ezf)
  rw [ef13] at c13
  obtain ⟨f14, c14, -⟩ := WT.ints hW (k := 14) rfl
  have ef14 : f14 = zo := arrinj ((cgetI c14 0).symm.trans ezo)
  rw [ef14] at c14
  obtain ⟨f103, c103, -⟩ := WT.ints hW (k := 103) rfl
  have ef103 : f103 = zc := arrinj ((cgetI c103 0).symm.trans ezc)
  rw [ef103] at c103
  obtain ⟨f105, c105, -⟩ := WT.ints hW (k := 105) rfl
  have ef105 : f105 = zt := arrinj ((cgetI c105 0).symm.trans ezt)
  rw [ef105] at c105
  obtain ⟨g22, q22, t22⟩ := WT.tab hW (k := 22) rfl
  have r22_0 : g22 0 = .int t := Option.some.inj ((t22 0 _ rfl).2.symm.trans et)
  have b22_0 : 0 ≤ t.toInt ∧ t.toInt ≤ 12 := by
    have h := (t22 0 _ rfl).1
    rw [r22_0] at h
    obtain ⟨y, e, l1, u1⟩ := vty0 h rfl
    obtain rfl := Value.int.inj e
    exact ⟨l1, u1⟩
  have r22_1 : g22 1 = .ref (ad 23) := vty2 (t22 1 _ rfl).1 rfl
  have r22_2 : g22 2 = .ref (ad 24) := vty2 (t22 2 _ rfl).1 rfl
  have r22_3 : g22 3 = .ref (ad 25) := vty2 (t22 3 _ rfl).1 rfl
  have r22_4 : g22 4 = .ref (ad 26) := vty2 (t22 4 _ rfl).1 rfl
  have r22_5 : g22 5 = .ref (ad 27) := vty2 (t22 5 _ rfl).1 rfl
  have r22_6 : g22 6 = .ref (ad 28) := vty2 (t22 6 _ rfl).1 rfl
  have r22_7 : g22 7 = .ref (ad 29) := vty2 (t22 7 _ rfl).1 rfl
  have r22_8 : g22 8 = .ref (ad 30) := vty2 (t22 8 _ rfl).1 rfl
  have r22_9 : g22 9 = .ref (ad 31) := vty2 (t22 9 _ rfl).1 rfl
  have c22 : w0[22]? = some ((ad 22), ob 9 [.int t, .ref (ad 23), .ref (ad 24), .ref (ad 25), .ref (ad 26), .ref (ad 27), .ref (ad 28), .ref (ad 29), .ref (ad 30), .ref (ad 31)]) := by
    rw [q22]
    show some (ad 22, ob 9 [g22 0, g22 1, g22 2, g22 3, g22 4, g22 5, g22 6, g22 7, g22 8, g22 9]) = _
    rw [r22_0, r22_1, r22_2, r22_3, r22_4, r22_5, r22_6, r22_7, r22_8, r22_9]
  obtain ⟨f23, c23, -⟩ := WT.ints hW (k := 23) rfl
  have ef23 : f23 = (F 0) := arrinj ((cgetI c23 0).symm.trans eF.1)
  rw [ef23] at c23
  obtain ⟨f24, c24, -⟩ := WT.bools hW (k := 24) rfl
  have ef24 : f24 = (F 1) := arrinj ((cgetZ c24 0).symm.trans eF.2.1)
  rw [ef24] at c24
  obtain ⟨f25, c25, -⟩ := WT.ints hW (k := 25) rfl
  have ef25 : f25 = (F 2) := arrinj ((cgetI c25 0).symm.trans eF.2.2.1)
  rw [ef25] at c25
  obtain ⟨f26, c26, -⟩ := WT.ints hW (k := 26) rfl
  have ef26 : f26 = (F 3) := arrinj ((cgetI c26 0).symm.trans eF.2.2.2.1)
  rw [ef26] at c26
  obtain ⟨f27, c27, -⟩ := WT.ints hW (k := 27) rfl
  have ef27 : f27 = (F 4) := arrinj ((cgetI c27 0).symm.trans eF.2.2.2.2.1)
  rw [ef27] at c27
  obtain ⟨f28, c28, -⟩ := WT.ints hW (k := 28) rfl
  have ef28 : f28 = (F 5) := arrinj ((cgetI c28 0).symm.trans eF.2.2.2.2.2)
  rw [ef28] at c28
  obtain ⟨f29, c29, -⟩ := WT.ints hW (k := 29) rfl
  obtain ⟨f30, c30, -⟩ := WT.ints hW (k := 30) rfl
  obtain ⟨f31, c31, -⟩ := WT.ints hW (k := 31) rfl
  obtain ⟨g32, q32, t32⟩ := WT.tab hW (k := 32) rfl
  obtain ⟨y32_0, r32_0, bl32_0, bu32_0⟩ := vty0 (t32 0 _ rfl).1 rfl
  have b32_0 : 0 ≤ y32_0.toInt ∧ y32_0.toInt ≤ 14641 := ⟨bl32_0, bu32_0⟩
  obtain ⟨y32_1, r32_1, -, -⟩ := vty0 (t32 1 _ rfl).1 rfl
  obtain ⟨y32_2, r32_2, -, -⟩ := vty0 (t32 2 _ rfl).1 rfl
  obtain ⟨y32_3, r32_3, -, -⟩ := vty0 (t32 3 _ rfl).1 rfl
  obtain ⟨y32_4, r32_4, -, -⟩ := vty0 (t32 4 _ rfl).1 rfl
  obtain ⟨y32_5, r32_5, -, -⟩ := vty0 (t32 5 _ rfl).1 rfl
  obtain ⟨y32_6, r32_6, -, -⟩ := vty0 (t32 6 _ rfl).1 rfl
  have r32_7 : g32 7 = .ref (ad 33) := vty2 (t32 7 _ rfl).1 rfl
  have r32_8 : g32 8 = .ref (ad 34) := vty2 (t32 8 _ rfl).1 rfl
  have c32 : w0[32]? = some ((ad 32), ob 1 [.int y32_0, .int y32_1, .int y32_2, .int y32_3, .int y32_4, .int y32_5, .int y32_6, .ref (ad 33), .ref (ad 34)]) := by
    rw [q32]
    show some (ad 32, ob 1 [g32 0, g32 1, g32 2, g32 3, g32 4, g32 5, g32 6, g32 7, g32 8]) = _
    rw [r32_0, r32_1, r32_2, r32_3, r32_4, r32_5, r32_6, r32_7, r32_8]
  obtain ⟨f33, c33, -⟩ := WT.ints hW (k := 33) rfl
  obtain ⟨f34, c34, -⟩ := WT.ints hW (k := 34) rfl
  have h2 := cy_X10_whichG l G (ad 0) (ad 1) (g0 1) (g0 2) (ad 12) (g0 4) (ad 22) (ad 32) (g0 7) (g0 8) (ad 103) (g0 10) (ad 105) (g0 12) (g0 13) (g0 14) (g0 15) (ad 2) y1_1 f2 y12_0 (ad 13) (ad 14) (g12 3) (g12 4) (g12 5) zf zo zc zt t (ad 23) (ad 24) (ad 25) (ad 26) (ad 27) (ad 28) (ad 29) (ad 30) (ad 31) (F 0) (F 1) (F 2) (F 3) (F 4) (F 5) f29 f30 f31 y32_0 y32_1 y32_2 y32_3 y32_4 y32_5 y32_6 (ad 33) (ad 34) f33 f34 t.toInt rfl (by omega) hsp hg
  refine Ct.weak (Ct.and (show Ct l G yX10_which cX10_which 1 (some .int) { frames := 4, cells := 0, slots := 0, locals := 95 } [.ref (ad 0)] w0 (fun r w1 => POST G ad TX C_X10_which_0 (fun k => ((Value.ref (ad 0) :: ([] : List Value))[k]?).getD .null) w0 r w1) from ac_X10_which_0 l G ad w0 _ hW (pre_mu (C := C_X10_which_0) (ts := []) (As := []) rfl rfl rfl rfl trivial ad w0 rfl)) h2 [0, 1, 2, 12, 13, 14, 103, 105, 22, 23, 24, 25, 26, 27, 28, 29, 30, 31, 32, 33, 34] (pk_cons c0 (pk_cons c1 (pk_cons c2 (pk_cons c12 (pk_cons c13 (pk_cons c14 (pk_cons c103 (pk_cons c105 (pk_cons c22 (pk_cons c23 (pk_cons c24 (pk_cons c25 (pk_cons c26 (pk_cons c27 (pk_cons c28 (pk_cons c29 (pk_cons c30 (pk_cons c31 (pk_cons c32 (pk_cons c33 (pk_cons c34 rfl))))))))))))))))))))) (by decide)) ?_
  rintro r w1 ⟨hp, w2, ⟨rz, hr, rfl⟩, hS⟩
  obtain ⟨A1, hA1, μ2, -, -, -, -, -, -, hW1, hF1⟩ := hp
  exact ⟨hW1, hF1, _, rfl, hr⟩
set_option maxHeartbeats 4000000 in
set_option maxRecDepth 100000 in
theorem ac_wcm (l : Launch) (G : KG) {ad : Nat → Nat} {w0 : va_W} {t : Int32} {zf zo zc zX zY : Nat → Int32} {H : Nat → Nat → Int32} (hW : WT G ad TM w0) (et : fget w0 0 31 = some (.int t)) (ezf : cget w0 8 0 = some (.inr (cyI G, 6, .inl zf))) (ezo : cget w0 9 0 = some (.inr (cyI G, 6, .inl zo))) (ezc : cget w0 15 0 = some (.inr (cyI G, 4, .inl zc))) (ezX : cget w0 18 0 = some (.inr (cyI G, 4, .inl zX))) (ezY : cget w0 19 0 = some (.inr (cyI G, 4, .inl zY))) (eH : TRx G w0 21 H) (hsp : ∀ j : Nat, (j : Int) < t.toInt → 0 ≤ (H 0 j).toInt ∧ (H 0 j).toInt < 6) : Ct l G yX11_which cX11_which 1 (some .int) { frames := 4, cells := 0, slots := 0, locals := 98 } [.ref (ad 0)] w0 (fun r w1 => WT G ad TM w1 ∧ FRM C_X11_which_0.2.2.2.2.1 w0 w1 ∧ (∃ v : Int32, r = some (.int v) ∧ v.toInt = ((ct (fun k => fa (AGr zf zo zc zX zY (tr6 (H 0) (H 1) (H 2) (H 3) (H 4) (H 5)) (PX k) (PY k)) t.toInt.toNat 0 = -2) 14641 : Nat) : Int))) := by
  obtain ⟨g0, q0, t0⟩ := WT.tab hW (k := 0) rfl
  obtain ⟨y0_0, r0_0, -, -⟩ := vty0 (t0 0 _ rfl).1 rfl
  obtain ⟨y0_1, r0_1, bl0_1, bu0_1⟩ := vty0 (t0 1 _ rfl).1 rfl
  have b0_1 : 0 ≤ y0_1.toInt ∧ y0_1.toInt ≤ 24 := ⟨bl0_1, bu0_1⟩
  have r0_2 : g0 2 = .ref (ad 1) := vty2 (t0 2 _ rfl).1 rfl
  obtain ⟨y0_3, r0_3, -, -⟩ := vty0 (t0 3 _ rfl).1 rfl
  have r0_4 : g0 4 = .ref (ad 2) := vty2 (t0 4 _ rfl).1 rfl
  have r0_5 : g0 5 = .ref (ad 3) := vty2 (t0 5 _ rfl).1 rfl
  have r0_6 : g0 6 = .ref (ad 4) := vty2 (t0 6 _ rfl).1 rfl
  have r0_7 : g0 7 = .ref (ad 5) := vty2 (t0 7 _ rfl).1 rfl
  have r0_8 : g0 8 = .ref (ad 6) := vty2 (t0 8 _ rfl).1 rfl
  have r0_9 : g0 9 = .ref (ad 7) := vty2 (t0 9 _ rfl).1 rfl
  obtain ⟨y0_10, r0_10, -, -⟩ := vty0 (t0 10 _ rfl).1 rfl
  have r0_11 : g0 11 = .ref (ad 8) := vty2 (t0 11 _ rfl).1 rfl
  have r0_12 : g0 12 = .ref (ad 9) := vty2 (t0 12 _ rfl).1 rfl
  have r0_13 : g0 13 = .ref (ad 10) := vty2 (t0 13 _ rfl).1 rfl
  obtain ⟨y0_16, r0_16, -, -⟩ := vty0 (t0 16 _ rfl).1 rfl
  have r0_17 : g0 17 = .ref (ad 13) := vty2 (t0 17 _ rfl).1 rfl
  have r0_18 : g0 18 = .ref (ad 14) := vty2 (t0 18 _ rfl).1 rfl
  obtain ⟨y0_19, r0_19, -, -⟩ := vty0 (t0 19 _ rfl).1 rfl
  obtain ⟨y0_20, r0_20, -, -⟩ := vty0 (t0 20 _ rfl).1 rfl
  obtain ⟨y0_21, r0_21, -, -⟩ := vty0 (t0 21 _ rfl).1 rfl
  obtain ⟨y0_22, r0_22, -, -⟩ := vty0 (t0 22 _ rfl).1 rfl
  have r0_23 : g0 23 = .ref (ad 15) := vty2 (t0 23 _ rfl).1 rfl
  have r0_26 : g0 26 = .ref (ad 18) := vty2 (t0 26 _ rfl).1 rfl
  have r0_27 : g0 27 = .ref (ad 19) := vty2 (t0 27 _ rfl).1 rfl
  have r0_30 : g0 30 = .ref (ad 20) := vty2 (t0 30 _ rfl).1 rfl
  have r0_31 : g0 31 = .int t := Option.some.inj ((t0 31 _ rfl).2.symm.trans et)
  have b0_31 : 0 ≤ t.toInt ∧ t.toInt ≤ 12 := by
    have h := (t0 31 _ rfl).1
    rw [r0_31] at h
    obtain ⟨y, e, l1, u1⟩ := vty0 h rfl
    obtain rfl := Value.int.inj e
    exact ⟨l1, u1⟩
  have r0_32 : g0 32 = .ref (ad 21) := vty2 (t0 32 _ rfl).1 rfl
  have r0_33 : g0 33 = .ref (ad 22) := vty2 (t0 33 _ rfl).1 rfl
  have r0_34 : g0 34 = .ref (ad 23) := vty2 (t0 34 _ rfl).1 rfl
  have r0_35 : g0 35 = .ref (ad 24) := vty2 (t0 35 _ rfl).1 rfl
  have r0_36 : g0 36 = .ref (ad 25) := vty2 (t0 36 _ rfl).1 rfl
  have r0_37 : g0 37 = .ref (ad 26) := vty2 (t0 37 _ rfl).1 rfl
  obtain ⟨y0_38, r0_38, -, -⟩ := vty1 (t0 38 _ rfl).1 rfl
  obtain ⟨y0_39, r0_39, -, -⟩ := vty1 (t0 39 _ rfl).1 rfl
  obtain ⟨y0_40, r0_40, -, -⟩ := vty1 (t0 40 _ rfl).1 rfl
  have r0_41 : g0 41 = .ref (ad 27) := vty2 (t0 41 _ rfl).1 rfl
  have r0_42 : g0 42 = .ref (ad 28) := vty2 (t0 42 _ rfl).1 rfl
  have r0_43 : g0 43 = .ref (ad 29) := vty2 (t0 43 _ rfl).1 rfl
  have r0_44 : g0 44 = .ref (ad 30) := vty2 (t0 44 _ rfl).1 rfl
  obtain ⟨y0_45, r0_45, -, -⟩ := vty0 (t0 45 _ rfl).1 rfl
  have c0 : w0[0]? = some ((ad 0), ob 11 [.int y0_0, .int y0_1, .ref (ad 1), .int y0_3, .ref (ad 2), .ref (ad 3), .ref (ad 4), .ref (ad 5), .ref (ad 6), .ref (ad 7), .int y0_10, .ref (ad 8), .ref (ad 9), .ref (ad 10), (g0 14), (g0 15), .int y0_16, .ref (ad 13), .ref (ad 14), .int y0_19, .int y0_20, .int y0_21, .int y0_22, .ref (ad 15), (g0 24), (g0 25), .ref (ad 18), .ref (ad 19), (g0 28), (g0 29), .ref (ad 20), .int t, .ref (ad 21), .ref (ad 22), .ref (ad 23), .ref (ad 24), .ref (ad 25), .ref (ad 26), .long y0_38, .long y0_39, .long y0_40, .ref (ad 27), .ref (ad 28), .ref (ad 29), .ref (ad 30), .int y0_45, (g0 46), (g0 47), (g0 48), (g0 49), (g0 50), (g0 51), (g0 52), (g0 53), (g0 54), (g0 55), (g0 56), (g0 57), (g0 58), (g0 59), (g0 60), (g0 61), (g0 62), (g0 63), (g0 64), (g0 65), (g0 66), (g0 67), (g0 68), (g0 69), (g0 70), (g0 71), (g0 72), (g0 73), (g0 74)]) := by
    rw [q0]
    show some (ad 0, ob 11 [g0 0, g0 1, g0 2, g0 3, g0 4, g0 5, g0 6, g0 7, g0 8, g0 9, g0 10, g0 11, g0 12, g0 13, g0 14, g0 15, g0 16, g0 17, g0 18, g0 19, g0 20, g0 21, g0 22, g0 23, g0 24, g0 25, g0 26, g0 27, g0 28, g0 29, g0 30, g0 31, g0 32, g0 33, g0 34, g0 35, g0 36, g0 37, g0 38, g0 39, g0 40, g0 41, g0 42, g0 43, g0 44, g0 45, g0 46, g0 47, g0 48, g0 49, g0 50, g0 51, g0 52, g0 53, g0 54, g0 55, g0 56, g0 57, g0 58, g0 59, g0 60, g0 61, g0 62, g0 63, g0 64, g0 65, g0 66, g0 67, g0 68, g0 69, g0 70, g0 71, g0 72, g0 73, g0 74]) = _
    rw [r0_0, r0_1, r0_2, r0_3, r0_4, r0_5, r0_6, r0_7, r0_8, r0_9, r0_10, r0_11, r0_12, r0_13, r0_16, r0_17, r0_18, r0_19, r0_20, r0_21, r0_22, r0_23, r0_26, r0_27, r0_30, r0_31, r0_32, r0_33, r0_34, r0_35, r0_36, r0_37, r0_38, r0_39, r0_40, r0_41, r0_42, r0_43, r0_44, r0_45]
  obtain ⟨f20, c20, -⟩ := WT.ints hW (k := 20) rfl
  obtain ⟨f8, c8, -⟩ := WT.ints hW (k := 8) rfl
  have ef8 : f8 = zf := arrinj ((cgetI c8 0).symm.trans ezf)
  rw [ef8] at c8
  obtain ⟨f9, c9, -⟩ := WT.ints hW (k := 9) rfl
  have ef9 : f9 = zo := arrinj ((cgetI c9 0).symm.trans ezo)
  rw [ef9] at c9
  obtain ⟨f15, c15, -⟩ := WT.ints hW (k := 15) rfl
  have ef15 : f15 = zc := arrinj ((cgetI c15 0).symm.trans ezc)
  rw [ef15] at c15
  obtain ⟨f18, c18, -⟩ := WT.ints hW (k := 18) rfl
  have ef18 : f18 = zX := arrinj ((cgetI c18 0).symm.trans ezX)
  rw [ef18] at c18
  obtain ⟨f19, c19, -⟩ := WT.ints hW (k := 19) rfl
  have ef19 : f19 = zY := arrinj ((cgetI c19 0).symm.trans ezY)
  rw [ef19] at c19
  obtain ⟨f21, c21, -⟩ := WT.ints hW (k := 21) rfl
  have ef21 : f21 = (H 0) := arrinj ((cgetI c21 0).symm.trans eH.1)
  rw [ef21] at c21
  obtain ⟨f22, c22, -⟩ := WT.bools hW (k := 22) rfl
  have ef22 : f22 = (H 1) := arrinj ((cgetZ c22 0).symm.trans eH.2.1)
  rw [ef22] at c22
  obtain ⟨f23, c23, -⟩ := WT.ints hW (k := 23) rfl
  have ef23 : f23 = (H 2) := arrinj ((cgetI c23 0).symm.trans eH.2.2.1)
  rw [ef23] at c23
  obtain ⟨f24, c24, -⟩ := WT.ints hW (k := 24) rfl
  have ef24 : f24 = (H 3) := arrinj ((cgetI c24 0).symm.trans eH.2.2.2.1)
  rw [ef24] at c24
  obtain ⟨f25, c25, -⟩ := WT.ints hW (k := 25) rfl
  have ef25 : f25 = (H 4) := arrinj ((cgetI c25 0).symm.trans eH.2.2.2.2.1)
  rw [ef25] at c25
  obtain ⟨f26, c26, -⟩ := WT.ints hW (k := 26) rfl
  have ef26 : f26 = (H 5) := arrinj ((cgetI c26 0).symm.trans eH.2.2.2.2.2)
  rw [ef26] at c26
  obtain ⟨f29, c29, -⟩ := WT.longs hW (k := 29) rfl
  obtain ⟨f27, c27, -⟩ := WT.longs hW (k := 27) rfl
  obtain ⟨f28, c28, -⟩ := WT.longs hW (k := 28) rfl
  obtain ⟨f30, c30, -⟩ := WT.ints hW (k := 30) rfl
  obtain ⟨f1, c1, -⟩ := WT.longs hW (k := 1) rfl
  have h2 := cy_X11_whichG l G (ad 0) y0_0 y0_1 (ad 1) y0_3 (ad 2) (ad 3) (ad 4) (ad 5) (ad 6) (ad 7) y0_10 (ad 8) (ad 9) (ad 10) (g0 14) (g0 15) y0_16 (ad 13) (ad 14) y0_19 y0_20 y0_21 y0_22 (ad 15) (g0 24) (g0 25) (ad 18) (ad 19) (g0 28) (g0 29) (ad 20) t (ad 21) (ad 22) (ad 23) (ad 24) (ad 25) (ad 26) y0_38 y0_39 y0_40 (ad 27) (ad 28) (ad 29) (ad 30) y0_45 (g0 46) (g0 47) (g0 48) (g0 49) (g0 50) (g0 51) (g0 52) (g0 53) (g0 54) (g0 55) (g0 56) (g0 57) (g0 58) (g0 59) (g0 60) (g0 61) (g0 62) (g0 63) (g0 64) (g0 65) (g0 66) (g0 67) (g0 68) (g0 69) (g0 70) (g0 71) (g0 72) (g0 73) (g0 74) f20 zf zo zc zX zY (H 0) (H 1) (H 2) (H 3) (H 4) (H 5) f29 f27 f28 f30 f1 t.toInt rfl (by omega) hsp
  refine Ct.weak (Ct.and (show Ct l G yX11_which cX11_which 1 (some .int) { frames := 4, cells := 0, slots := 0, locals := 98 } [.ref (ad 0)] w0 (fun r w1 => POST G ad TM C_X11_which_0 (fun k => ((Value.ref (ad 0) :: ([] : List Value))[k]?).getD .null) w0 r w1) from ac_X11_which_0 l G ad w0 _ hW (pre_mu (C := C_X11_which_0) (ts := []) (As := []) rfl rfl rfl rfl trivial ad w0 rfl)) h2 [0, 20, 8, 9, 15, 18, 19, 21, 22, 23, 24, 25, 26, 29, 27, 28, 30, 1] (pk_cons c0 (pk_cons c20 (pk_cons c8 (pk_cons c9 (pk_cons c15 (pk_cons c18 (pk_cons c19 (pk_cons c21 (pk_cons c22 (pk_cons c23 (pk_cons c24 (pk_cons c25 (pk_cons c26 (pk_cons c29 (pk_cons c27 (pk_cons c28 (pk_cons c30 (pk_cons c1 rfl)))))))))))))))))) (by decide)) ?_
  rintro r w1 ⟨hp, w2, ⟨rz, hr, rfl⟩, hS⟩
  obtain ⟨A1, hA1, μ2, -, -, -, -, -, -, hW1, hF1⟩ := hp
  exact ⟨hW1, hF1, _, rfl, hr⟩
set_option maxHeartbeats 4000000 in
set_option maxRecDepth 100000 in
theorem ac_edx (l : Launch) (G : KG) {ad : Nat → Nat} {w0 : va_W} {t : Int32} {zf zo zc zt : Nat → Int32} {F : Nat → Nat → Int32} (hW : WT G ad TX w0) (et : fget w0 22 0 = some (.int t)) (ezf : cget w0 13 0 = some (.inr (cyI G, 6, .inl zf))) (ezo : cget w0 14 0 = some (.inr (cyI G, 6, .inl zo))) (ezc : cget w0 103 0 = some (.inr (cyI G, 4, .inl zc))) (ezt : cget w0 105 0 = some (.inr (cyI G, 8, .inl zt))) (eF : TRx G w0 23 F) (hsp : ∀ j : Nat, (j : Int) < t.toInt → 0 ≤ (F 0 j).toInt ∧ (F 0 j).toInt < 6) (hg : ∀ j : Nat, (j : Int) < t.toInt → 0 ≤ (F 4 j).toInt ∧ (F 4 j).toInt ≤ 1000000) : Ct l G yX10_ends cX10_ends 1 (some .int) { frames := 4, cells := 0, slots := 0, locals := 95 } [.ref (ad 0)] w0 (fun r w1 => WT G ad TX w1 ∧ FRM C_X10_ends_0.2.2.2.2.1 w0 w1 ∧ (∃ v : Int32, r = some (.int v) ∧ v.toInt = ((ct (fun k => fa (AGx zf zo zc zt (tr6 (F 0) (F 1) (F 2) (F 3) (F 4) (F 5)) (PX k) (PY k)) t.toInt.toNat 0 = -2) 14641 : Nat) : Int))) := by
  obtain ⟨g0, q0, t0⟩ := WT.tab hW (k := 0) rfl
  have r0_0 : g0 0 = .ref (ad 1) := vty2 (t0 0 _ rfl).1 rfl
  have r0_3 : g0 3 = .ref (ad 12) := vty2 (t0 3 _ rfl).1 rfl
  have r0_5 : g0 5 = .ref (ad 22) := vty2 (t0 5 _ rfl).1 rfl
  have r0_6 : g0 6 = .ref (ad 32) := vty2 (t0 6 _ rfl).1 rfl
  have r0_9 : g0 9 = .ref (ad 103) := vty2 (t0 9 _ rfl).1 rfl
  have r0_11 : g0 11 = .ref (ad 105) := vty2 (t0 11 _ rfl).1 rfl
  have c0 : w0[0]? = some ((ad 0), ob 10 [.ref (ad 1), (g0 1), (g0 2), .ref (ad 12), (g0 4), .ref (ad 22), .ref (ad 32), (g0 7), (g0 8), .ref (ad 103), (g0 10), .ref (ad 105), (g0 12), (g0 13), (g0 14), (g0 15)]) := by
    rw [q0]
    show some (ad 0, ob 10 [g0 0, g0 1, g0 2, g0 3, g0 4, g0 5, g0 6, g0 7, g0 8, g0 9, g0 10, g0 11, g0 12, g0 13, g0 14, g0 15]) = _
    rw [r0_0, r0_3, r0_5, r0_6, r0_9, r0_11]
  obtain ⟨g1, q1, t1⟩ := WT.tab hW (k := 1) rfl
  have r1_0 : g1 0 = .ref (ad 2) := vty2 (t1 0 _ rfl).1 rfl
  obtain ⟨y1_1, r1_1, bl1_1, bu1_1⟩ := vty0 (t1 1 _ rfl).1 rfl
  have b1_1 : 0 ≤ y1_1.toInt ∧ y1_1.toInt ≤ 16 := ⟨bl1_1, bu1_1⟩
  have c1 : w0[1]? = some ((ad 1), ob 8 [.ref (ad 2), .int y1_1]) := by
    rw [q1]
    show some (ad 1, ob 8 [g1 0, g1 1]) = _
    rw [r1_0, r1_1]
  obtain ⟨f2, c2, -⟩ := WT.longs hW (k := 2) rfl
  obtain ⟨g12, q12, t12⟩ := WT.tab hW (k := 12) rfl
  obtain ⟨y12_0, r12_0, -, -⟩ := vty0 (t12 0 _ rfl).1 rfl
  have r12_1 : g12 1 = .ref (ad 13) := vty2 (t12 1 _ rfl).1 rfl
  have r12_2 : g12 2 = .ref (ad 14) := vty2 (t12 2 _ rfl).1 rfl
  have c12 : w0[12]? = some ((ad 12), ob 7 [.int y12_0, .ref (ad 13), .ref (ad 14), (g12 3), (g12 4), (g12 5)]) := by
    rw [q12]
    show some (ad 12, ob 7 [g12 0, g12 1, g12 2, g12 3, g12 4, g12 5]) = _
    rw [r12_0, r12_1, r12_2]
  obtain ⟨f13, c13, -⟩ := WT.ints hW (k := 13) rfl
  have ef13 : f13 = zf := arrinj ((cgetI c13 0).symm.trans ezf)
  rw [ef13] at c13
  obtain ⟨f14, c14, -⟩ := WT.ints hW (k := 14) rfl
  have ef14 : f14 = zo := arrinj ((cgetI c14 0).symm.trans ezo)
  rw [ef14] at c14
  obtain ⟨f103, c103, -⟩ := WT.ints hW (k := 103) rfl
  have ef103 : f103 = zc := arrinj ((cgetI c103 0).symm.trans ezc)
  rw [ef103] at c103
  obtain ⟨f105, c105, -⟩ := WT.ints hW (k := 105) rfl
  have ef105 : f105 = zt := arrinj ((cgetI c105 0).symm.trans ezt)
  rw [ef105] at c105
  obtain ⟨g22, q22, t22⟩ := WT.tab hW (k := 22) rfl
  have r22_0 : g22 0 = .int t := Option.some.inj ((t22 0 _ rfl).2.symm.trans et)
  have b22_0 : 0 ≤ t.toInt ∧ t.toInt ≤ 12 := by
    have h := (t22 0 _ rfl).1
    rw [r22_0] at h
    obtain ⟨y, e, l1, u1⟩ := vty0 h rfl
    obtain rfl := Value.int.inj e
    exact ⟨l1, u1⟩
  have r22_1 : g22 1 = .ref (ad 23) := vty2 (t22 1 _ rfl).1 rfl
  have r22_2 : g22 2 = .ref (ad 24) := vty2 (t22 2 _ rfl).1 rfl
  have r22_3 : g22 3 = .ref (ad 25) := vty2 (t22 3 _ rfl).1 rfl
  have r22_4 : g22 4 = .ref (ad 26) := vty2 (t22 4 _ rfl).1 rfl
  have r22_5 : g22 5 = .ref (ad 27) := vty2 (t22 5 _ rfl).1 rfl
  have r22_6 : g22 6 = .ref (ad 28) := vty2 (t22 6 _ rfl).1 rfl
  have r22_7 : g22 7 = .ref (ad 29) := vty2 (t22 7 _ rfl).1 rfl
  have r22_8 : g22 8 = .ref (ad 30) := vty2 (t22 8 _ rfl).1 rfl
  have r22_9 : g22 9 = .ref (ad 31) := vty2 (t22 9 _ rfl).1 rfl
  have c22 : w0[22]? = some ((ad 22), ob 9 [.int t, .ref (ad 23), .ref (ad 24), .ref (ad 25), .ref (ad 26), .ref (ad 27), .ref (ad 28), .ref (ad 29), .ref (ad 30), .ref (ad 31)]) := by
    rw [q22]
    show some (ad 22, ob 9 [g22 0, g22 1, g22 2, g22 3, g22 4, g22 5, g22 6, g22 7, g22 8, g22 9]) = _
    rw [r22_0, r22_1, r22_2, r22_3, r22_4, r22_5, r22_6, r22_7, r22_8, r22_9]
  obtain ⟨f23, c23, -⟩ := WT.ints hW (k := 23) rfl
  have ef23 : f23 = (F 0) := arrinj ((cgetI c23 0).symm.trans eF.1)
  rw [ef23] at c23
  obtain ⟨f24, c24, -⟩ := WT.bools hW (k := 24) rfl
  have ef24 : f24 = (F 1) := arrinj ((cgetZ c24 0).symm.trans eF.2.1)
  rw [ef24] at c24
  obtain ⟨f25, c25, -⟩ := WT.ints hW (k := 25) rfl
  have ef25 : f25 = (F 2) := arrinj ((cgetI c25 0).symm.trans eF.2.2.1)
  rw [ef25] at c25
  obtain ⟨f26, c26, -⟩ := WT.ints hW (k := 26) rfl
  have ef26 : f26 = (F 3) := arrinj ((cgetI c26 0).symm.trans eF.2.2.2.1)
  rw [ef26] at c26
  obtain ⟨f27, c27, -⟩ := WT.ints hW (k := 27) rfl
  have ef27 : f27 = (F 4) := arrinj ((cgetI c27 0).symm.trans eF.2.2.2.2.1)
  rw [ef27] at c27
  obtain ⟨f28, c28, -⟩ := WT.ints hW (k := 28) rfl
  have ef28 : f28 = (F 5) := arrinj ((cgetI c28 0).symm.trans eF.2.2.2.2.2)
  rw [ef28] at c28
  obtain ⟨f29, c29, -⟩ := WT.ints hW (k := 29) rfl
  obtain ⟨f30, c30, -⟩ := WT.ints hW (k := 30) rfl
  obtain ⟨f31, c31, -⟩ := WT.ints hW (k := 31) rfl
  obtain ⟨g32, q32, t32⟩ := WT.tab hW (k := 32) rfl
  obtain ⟨y32_0, r32_0, bl32_0, bu32_0⟩ := vty0 (t32 0 _ rfl).1 rfl
  have b32_0 : 0 ≤ y32_0.toInt ∧ y32_0.toInt ≤ 14641 := ⟨bl32_0, bu32_0⟩
  obtain ⟨y32_1, r32_1, -, -⟩ := vty0 (t32 1 _ rfl).1 rfl
  obtain ⟨y32_2, r32_2, -, -⟩ := vty0 (t32 2 _ rfl).1 rfl
  obtain ⟨y32_3, r32_3, -, -⟩ := vty0 (t32 3 _ rfl).1 rfl
  obtain ⟨y32_4, r32_4, -, -⟩ := vty0 (t32 4 _ rfl).1 rfl
  obtain ⟨y32_5, r32_5, -, -⟩ := vty0 (t32 5 _ rfl).1 rfl
  obtain ⟨y32_6, r32_6, -, -⟩ := vty0 (t32 6 _ rfl).1 rfl
  have r32_7 : g32 7 = .ref (ad 33) := vty2 (t32 7 _ rfl).1 rfl
  have r32_8 : g32 8 = .ref (ad 34) := vty2 (t32 8 _ rfl).1 rfl
  have c32 : w0[32]? = some ((ad 32), ob 1 [.int y32_0, .int y32_1, .int y32_2, .int y32_3, .int y32_4, .int y32_5, .int y32_6, .ref (ad 33), .ref (ad 34)]) := by
    rw [q32]
    show some (ad 32, ob 1 [g32 0, g32 1, g32 2, g32 3, g32 4, g32 5, g32 6, g32 7, g32 8]) = _
    rw [r32_0, r32_1, r32_2, r32_3, r32_4, r32_5, r32_6, r32_7, r32_8]
  obtain ⟨f33, c33, -⟩ := WT.ints hW (k := 33) rfl
  obtain ⟨f34, c34, -⟩ := WT.ints hW (k := 34) rfl
  have h2 := cy_X10_endsG l G (ad 0) (ad 1) (g0 1) (g0 2) (ad 12) (g0 4) (ad 22) (ad 32) (g0 7) (g0 8) (ad 103) (g0 10) (ad 105) (g0 12) (g0 13) (g0 14) (g0 15) (ad 2) y1_1 f2 y12_0 (ad 13) (ad 14) (g12 3) (g12 4) (g12 5) zf zo zc zt t (ad 23) (ad 24) (ad 25) (ad 26) (ad 27) (ad 28) (ad 29) (ad 30) (ad 31) (F 0) (F 1) (F 2) (F 3) (F 4) (F 5) f29 f30 f31 y32_0 y32_1 y32_2 y32_3 y32_4 y32_5 y32_6 (ad 33) (ad 34) f33 f34 t.toInt rfl (by omega) hsp hg
  refine Ct.weak (Ct.and (show Ct l G yX10_ends cX10_ends 1 (some .int) { frames := 4, cells := 0, slots := 0, locals := 95 } [.ref (ad 0)] w0 (fun r w1 => POST G ad TX C_X10_ends_0 (fun k => ((Value.ref (ad 0) :: ([] : List Value))[k]?).getD .null) w0 r w1) from ac_X10_ends_0 l G ad w0 _ hW (pre_mu (C := C_X10_ends_0) (ts := []) (As := []) rfl rfl rfl rfl trivial ad w0 rfl)) h2 [0, 1, 2, 12, 13, 14, 103, 105, 22, 23, 24, 25, 26, 27, 28, 29, 30, 31, 32, 33, 34] (pk_cons c0 (pk_cons c1 (pk_cons c2 (pk_cons c12 (pk_cons c13 (pk_cons c14 (pk_cons c103 (pk_cons c105 (pk_cons c22 (pk_cons c23 (pk_cons c24 (pk_cons c25 (pk_cons c26 (pk_cons c27 (pk_cons c28 (pk_cons c29 (pk_cons c30 (pk_cons c31 (pk_cons c32 (pk_cons c33 (pk_cons c34 rfl))))))))))))))))))))) (by decide)) ?_
  rintro r w1 ⟨hp, w2, ⟨rz, hr, rfl⟩, hS⟩
  obtain ⟨A1, hA1, μ2, -, -, -, -, -, -, hW1, hF1⟩ := hp
  exact ⟨hW1, hF1, _, rfl, hr⟩
set_option maxHeartbeats 4000000 in
set_option maxRecDepth 100000 in
theorem ac_edm (l : Launch) (G : KG) {ad : Nat → Nat} {w0 : va_W} {t : Int32} {zf zo zc zX zY : Nat → Int32} {H : Nat → Nat → Int32} (hW : WT G ad TM w0) (et : fget w0 0 31 = some (.int t)) (ezf : cget w0 8 0 = some (.inr (cyI G, 6, .inl zf))) (ezo : cget w0 9 0 = some (.inr (cyI G, 6, .inl zo))) (ezc : cget w0 15 0 = some (.inr (cyI G, 4, .inl zc))) (ezX : cget w0 18 0 = some (.inr (cyI G, 4, .inl zX))) (ezY : cget w0 19 0 = some (.inr (cyI G, 4, .inl zY))) (eH : TRx G w0 21 H) (hsp : ∀ j : Nat, (j : Int) < t.toInt → 0 ≤ (H 0 j).toInt ∧ (H 0 j).toInt < 6) : Ct l G yX11_ends cX11_ends 9 (some .int) { frames := 4, cells := 0, slots := 0, locals := 98 } [.ref (ad 0)] w0 (fun r w1 => WT G ad TM w1 ∧ FRM C_X11_ends_0.2.2.2.2.1 w0 w1 ∧ (∃ v : Int32, r = some (.int v) ∧ v.toInt = ((ct (fun k => fa (AGr zf zo zc zX zY (tr6 (H 0) (H 1) (H 2) (H 3) (H 4) (H 5)) (PX k) (PY k)) t.toInt.toNat 0 = -2) 14641 : Nat) : Int))) := by
  obtain ⟨g0, q0, t0⟩ := WT.tab hW (k := 0) rfl
  obtain ⟨y0_0, r0_0, -, -⟩ := vty0 (t0 0 _ rfl).1 rfl
  obtain ⟨y0_1, r0_1, bl0_1, bu0_1⟩ := vty0 (t0 1 _ rfl).1 rfl
  have b0_1 : 0 ≤ y0_1.toInt ∧ y0_1.toInt ≤ 24 := ⟨bl0_1, bu0_1⟩
  have r0_2 : g0 2 = .ref (ad 1) := vty2 (t0 2 _ rfl).1 rfl
  obtain ⟨y0_3, r0_3, -, -⟩ := vty0 (t0 3 _ rfl).1 rfl
  have r0_4 : g0 4 = .ref (ad 2) := vty2 (t0 4 _ rfl).1 rfl
  have r0_5 : g0 5 = .ref (ad 3) := vty2 (t0 5 _ rfl).1 rfl
  have r0_6 : g0 6 = .ref (ad 4) := vty2 (t0 6 _ rfl).1 rfl
  have r0_7 : g0 7 = .ref (ad 5) := vty2 (t0 7 _ rfl).1 rfl
  have r0_8 : g0 8 = .ref (ad 6) := vty2 (t0 8 _ rfl).1 rfl
  have r0_9 : g0 9 = .ref (ad 7) := vty2 (t0 9 _ rfl).1 rfl
  obtain ⟨y0_10, r0_10, -, -⟩ := vty0 (t0 10 _ rfl).1 rfl
  have r0_11 : g0 11 = .ref (ad 8) := vty2 (t0 11 _ rfl).1 rfl
  have r0_12 : g0 12 = .ref (ad 9) := vty2 (t0 12 _ rfl).1 rfl
  have r0_13 : g0 13 = .ref (ad 10) := vty2 (t0 13 _ rfl).1 rfl
  obtain ⟨y0_16, r0_16, -, -⟩ := vty0 (t0 16 _ rfl).1 rfl
  have r0_17 : g0 17 = .ref (ad 13) := vty2 (t0 17 _ rfl).1 rfl
  have r0_18 : g0 18 = .ref (ad 14) := vty2 (t0 18 _ rfl).1 rfl
  obtain ⟨y0_19, r0_19, -, -⟩ := vty0 (t0 19 _ rfl).1 rfl
  obtain ⟨y0_20, r0_20, -, -⟩ := vty0 (t0 20 _ rfl).1 rfl
  obtain ⟨y0_21, r0_21, -, -⟩ := vty0 (t0 21 _ rfl).1 rfl
  obtain ⟨y0_22, r0_22, -, -⟩ := vty0 (t0 22 _ rfl).1 rfl
  have r0_23 : g0 23 = .ref (ad 15) := vty2 (t0 23 _ rfl).1 rfl
  have r0_26 : g0 26 = .ref (ad 18) := vty2 (t0 26 _ rfl).1 rfl
  have r0_27 : g0 27 = .ref (ad 19) := vty2 (t0 27 _ rfl).1 rfl
  have r0_30 : g0 30 = .ref (ad 20) := vty2 (t0 30 _ rfl).1 rfl
  have r0_31 : g0 31 = .int t := Option.some.inj ((t0 31 _ rfl).2.symm.trans et)
  have b0_31 : 0 ≤ t.toInt ∧ t.toInt ≤ 12 := by
    have h := (t0 31 _ rfl).1
    rw [r0_31] at h
    obtain ⟨y, e, l1, u1⟩ := vty0 h rfl
    obtain rfl := Value.int.inj e
    exact ⟨l1, u1⟩
  have r0_32 : g0 32 = .ref (ad 21) := vty2 (t0 32 _ rfl).1 rfl
  have r0_33 : g0 33 = .ref (ad 22) := vty2 (t0 33 _ rfl).1 rfl
  have r0_34 : g0 34 = .ref (ad 23) := vty2 (t0 34 _ rfl).1 rfl
  have r0_35 : g0 35 = .ref (ad 24) := vty2 (t0 35 _ rfl).1 rfl
  have r0_36 : g0 36 = .ref (ad 25) := vty2 (t0 36 _ rfl).1 rfl
  have r0_37 : g0 37 = .ref (ad 26) := vty2 (t0 37 _ rfl).1 rfl
  obtain ⟨y0_38, r0_38, -, -⟩ := vty1 (t0 38 _ rfl).1 rfl
  obtain ⟨y0_39, r0_39, -, -⟩ := vty1 (t0 39 _ rfl).1 rfl
  obtain ⟨y0_40, r0_40, -, -⟩ := vty1 (t0 40 _ rfl).1 rfl
  have r0_41 : g0 41 = .ref (ad 27) := vty2 (t0 41 _ rfl).1 rfl
  have r0_42 : g0 42 = .ref (ad 28) := vty2 (t0 42 _ rfl).1 rfl
  have r0_43 : g0 43 = .ref (ad 29) := vty2 (t0 43 _ rfl).1 rfl
  have r0_44 : g0 44 = .ref (ad 30) := vty2 (t0 44 _ rfl).1 rfl
  obtain ⟨y0_45, r0_45, -, -⟩ := vty0 (t0 45 _ rfl).1 rfl
  have c0 : w0[0]? = some ((ad 0), ob 11 [.int y0_0, .int y0_1, .ref (ad 1), .int y0_3, .ref (ad 2), .ref (ad 3), .ref (ad 4), .ref (ad 5), .ref (ad 6), .ref (ad 7), .int y0_10, .ref (ad 8), .ref (ad 9), .ref (ad 10), (g0 14), (g0 15), .int y0_16, .ref (ad 13), .ref (ad 14), .int y0_19, .int y0_20, .int y0_21, .int y0_22, .ref (ad 15), (g0 24), (g0 25), .ref (ad 18), .ref (ad 19), (g0 28), (g0 29), .ref (ad 20), .int t, .ref (ad 21), .ref (ad 22), .ref (ad 23), .ref (ad 24), .ref (ad 25), .ref (ad 26), .long y0_38, .long y0_39, .long y0_40, .ref (ad 27), .ref (ad 28), .ref (ad 29), .ref (ad 30), .int y0_45, (g0 46), (g0 47), (g0 48), (g0 49), (g0 50), (g0 51), (g0 52), (g0 53), (g0 54), (g0 55), (g0 56), (g0 57), (g0 58), (g0 59), (g0 60), (g0 61), (g0 62), (g0 63), (g0 64), (g0 65), (g0 66), (g0 67), (g0 68), (g0 69), (g0 70), (g0 71), (g0 72), (g0 73), (g0 74)]) := by
    rw [q0]
    show some (ad 0, ob 11 [g0 0, g0 1, g0 2, g0 3, g0 4, g0 5, g0 6, g0 7, g0 8, g0 9, g0 10, g0 11, g0 12, g0 13, g0 14, g0 15, g0 16, g0 17, g0 18, g0 19, g0 20, g0 21, g0 22, g0 23, g0 24, g0 25, g0 26, g0 27, g0 28, g0 29, g0 30, g0 31, g0 32, g0 33, g0 34, g0 35, g0 36, g0 37, g0 38, g0 39, g0 40, g0 41, g0 42, g0 43, g0 44, g0 45, g0 46, g0 47, g0 48, g0 49, g0 50, g0 51, g0 52, g0 53, g0 54, g0 55, g0 56, g0 57, g0 58, g0 59, g0 60, g0 61, g0 62, g0 63, g0 64, g0 65, g0 66, g0 67, g0 68, g0 69, g0 70, g0 71, g0 72, g0 73, g0 74]) = _
    rw [r0_0, r0_1, r0_2, r0_3, r0_4, r0_5, r0_6, r0_7, r0_8, r0_9, r0_10, r0_11, r0_12, r0_13, r0_16, r0_17, r0_18, r0_19, r0_20, r0_21, r0_22, r0_23, r0_26, r0_27, r0_30, r0_31, r0_32, r0_33, r0_34, r0_35, r0_36, r0_37, r0_38, r0_39, r0_40, r0_41, r0_42, r0_43, r0_44, r0_45]
  obtain ⟨f20, c20, -⟩ := WT.ints hW (k := 20) rfl
  obtain ⟨f8, c8, -⟩ := WT.ints hW (k := 8) rfl
  have ef8 : f8 = zf := arrinj ((cgetI c8 0).symm.trans ezf)
  rw [ef8] at c8
  obtain ⟨f9, c9, -⟩ := WT.ints hW (k := 9) rfl
  have ef9 : f9 = zo := arrinj ((cgetI c9 0).symm.trans ezo)
  rw [ef9] at c9
  obtain ⟨f15, c15, -⟩ := WT.ints hW (k := 15) rfl
  have ef15 : f15 = zc := arrinj ((cgetI c15 0).symm.trans ezc)
  rw [ef15] at c15
  obtain ⟨f18, c18, -⟩ := WT.ints hW (k := 18) rfl
  have ef18 : f18 = zX := arrinj ((cgetI c18 0).symm.trans ezX)
  rw [ef18] at c18
  obtain ⟨f19, c19, -⟩ := WT.ints hW (k := 19) rfl
  have ef19 : f19 = zY := arrinj ((cgetI c19 0).symm.trans ezY)
  rw [ef19] at c19
  obtain ⟨f21, c21, -⟩ := WT.ints hW (k := 21) rfl
  have ef21 : f21 = (H 0) := arrinj ((cgetI c21 0).symm.trans eH.1)
  rw [ef21] at c21
  obtain ⟨f22, c22, -⟩ := WT.bools hW (k := 22) rfl
  have ef22 : f22 = (H 1) := arrinj ((cgetZ c22 0).symm.trans eH.2.1)
  rw [ef22] at c22
  obtain ⟨f23, c23, -⟩ := WT.ints hW (k := 23) rfl
  have ef23 : f23 = (H 2) := arrinj ((cgetI c23 0).symm.trans eH.2.2.1)
  rw [ef23] at c23
  obtain ⟨f24, c24, -⟩ := WT.ints hW (k := 24) rfl
  have ef24 : f24 = (H 3) := arrinj ((cgetI c24 0).symm.trans eH.2.2.2.1)
  rw [ef24] at c24
  obtain ⟨f25, c25, -⟩ := WT.ints hW (k := 25) rfl
  have ef25 : f25 = (H 4) := arrinj ((cgetI c25 0).symm.trans eH.2.2.2.2.1)
  rw [ef25] at c25
  obtain ⟨f26, c26, -⟩ := WT.ints hW (k := 26) rfl
  have ef26 : f26 = (H 5) := arrinj ((cgetI c26 0).symm.trans eH.2.2.2.2.2)
  rw [ef26] at c26
  obtain ⟨f29, c29, -⟩ := WT.longs hW (k := 29) rfl
  obtain ⟨f27, c27, -⟩ := WT.longs hW (k := 27) rfl
  obtain ⟨f28, c28, -⟩ := WT.longs hW (k := 28) rfl
  obtain ⟨f30, c30, -⟩ := WT.ints hW (k := 30) rfl
  obtain ⟨f1, c1, -⟩ := WT.longs hW (k := 1) rfl
  have h2 := cy_X11_endsG l G (ad 0) y0_0 y0_1 (ad 1) y0_3 (ad 2) (ad 3) (ad 4) (ad 5) (ad 6) (ad 7) y0_10 (ad 8) (ad 9) (ad 10) (g0 14) (g0 15) y0_16 (ad 13) (ad 14) y0_19 y0_20 y0_21 y0_22 (ad 15) (g0 24) (g0 25) (ad 18) (ad 19) (g0 28) (g0 29) (ad 20) t (ad 21) (ad 22) (ad 23) (ad 24) (ad 25) (ad 26) y0_38 y0_39 y0_40 (ad 27) (ad 28) (ad 29) (ad 30) y0_45 (g0 46) (g0 47) (g0 48) (g0 49) (g0 50) (g0 51) (g0 52) (g0 53) (g0 54) (g0 55) (g0 56) (g0 57) (g0 58) (g0 59) (g0 60) (g0 61) (g0 62) (g0 63) (g0 64) (g0 65) (g0 66) (g0 67) (g0 68) (g0 69) (g0 70) (g0 71) (g0 72) (g0 73) (g0 74) f20 zf zo zc zX zY (H 0) (H 1) (H 2) (H 3) (H 4) (H 5) f29 f27 f28 f30 f1 t.toInt rfl (by omega) hsp
  refine Ct.weak (Ct.and (show Ct l G yX11_ends cX11_ends 9 (some .int) { frames := 4, cells := 0, slots := 0, locals := 98 } [.ref (ad 0)] w0 (fun r w1 => POST G ad TM C_X11_ends_0 (fun k => ((Value.ref (ad 0) :: ([] : List Value))[k]?).getD .null) w0 r w1) from ac_X11_ends_0 l G ad w0 _ hW (pre_mu (C := C_X11_ends_0) (ts := []) (As := []) rfl rfl rfl rfl trivial ad w0 rfl)) h2 [0, 20, 8, 9, 15, 18, 19, 21, 22, 23, 24, 25, 26, 29, 27, 28, 30, 1] (pk_cons c0 (pk_cons c20 (pk_cons c8 (pk_cons c9 (pk_cons c15 (pk_cons c18 (pk_cons c19 (pk_cons c21 (pk_cons c22 (pk_cons c23 (pk_cons c24 (pk_cons c25 (pk_cons c26 (pk_cons c29 (pk_cons c27 (pk_cons c28 (pk_cons c30 (pk_cons c1 rfl)))))))))))))))))) (by decide)) ?_
  rintro r w1 ⟨hp, w2, ⟨rz, hr, rfl⟩, hS⟩
  obtain ⟨A1, hA1, μ2, -, -, -, -, -, -, hW1, hF1⟩ := hp
  exact ⟨hW1, hF1, _, rfl, hr⟩
set_option maxHeartbeats 4000000 in
set_option maxRecDepth 100000 in
theorem ac_jgx (l : Launch) (G : KG) {ad : Nat → Nat} {w0 : va_W} {t xq yq : Int32} {zf zo zc zt : Nat → Int32} {F : Nat → Nat → Int32} (hW : WT G ad TX w0) (et : fget w0 22 0 = some (.int t)) (ezf : cget w0 13 0 = some (.inr (cyI G, 6, .inl zf))) (ezo : cget w0 14 0 = some (.inr (cyI G, 6, .inl zo))) (ezc : cget w0 103 0 = some (.inr (cyI G, 4, .inl zc))) (ezt : cget w0 105 0 = some (.inr (cyI G, 8, .inl zt))) (eF : TRx G w0 23 F) (hsp : ∀ j : Nat, (j : Int) < t.toInt → 0 ≤ (F 0 j).toInt ∧ (F 0 j).toInt < 6) (hg : ∀ j : Nat, (j : Int) < t.toInt → 0 ≤ (F 4 j).toInt ∧ (F 4 j).toInt ≤ 1000000) : Ct l G yX10_judge cX10_judge 3 (some .int) { frames := 3, cells := 0, slots := 0, locals := 73 } [.ref (ad 0), .int xq, .int yq] w0 (fun r w1 => WT G ad TX w1 ∧ FRM C_X10_judge_0.2.2.2.2.1 w0 w1 ∧ (∃ v : Int32, r = some (.int v) ∧ v.toInt = mJudge xq.toInt yq.toInt (fa (AGx zf zo zc zt (tr6 (F 0) (F 1) (F 2) (F 3) (F 4) (F 5)) xq yq) t.toInt.toNat 0))) := by
  obtain ⟨g0, q0, t0⟩ := WT.tab hW (k := 0) rfl
  have r0_3 : g0 3 = .ref (ad 12) := vty2 (t0 3 _ rfl).1 rfl
  have r0_5 : g0 5 = .ref (ad 22) := vty2 (t0 5 _ rfl).1 rfl
  have r0_9 : g0 9 = .ref (ad 103) := vty2 (t0 9 _ rfl).1 rfl
  have r0_11 : g0 11 = .ref (ad 105) := vty2 (t0 11 _ rfl).1 rfl
  have c0 : w0[0]? = some ((ad 0), ob 10 [(g0 0), (g0 1), (g0 2), .ref (ad 12), (g0 4), .ref (ad 22), (g0 6), (g0 7), (g0 8), .ref (ad 103), (g0 10), .ref (ad 105), (g0 12), (g0 13), (g0 14), (g0 15)]) := by
    rw [q0]
    show some (ad 0, ob 10 [g0 0, g0 1, g0 2, g0 3, g0 4, g0 5, g0 6, g0 7, g0 8, g0 9, g0 10, g0 11, g0 12, g0 13, g0 14, g0 15]) = _
    rw [r0_3, r0_5, r0_9, r0_11]
  obtain ⟨g12, q12, t12⟩ := WT.tab hW (k := 12) rfl
  obtain ⟨y12_0, r12_0, -, -⟩ := vty0 (t12 0 _ rfl).1 rfl
  have r12_1 : g12 1 = .ref (ad 13) := vty2 (t12 1 _ rfl).1 rfl
  have r12_2 : g12 2 = .ref (ad 14) := vty2 (t12 2 _ rfl).1 rfl
  have c12 : w0[12]? = some ((ad 12), ob 7 [.int y12_0, .ref (ad 13), .ref (ad 14), (g12 3), (g12 4), (g12 5)]) := by
    rw [q12]
    show some (ad 12, ob 7 [g12 0, g12 1, g12 2, g12 3, g12 4, g12 5]) = _
    rw [r12_0, r12_1, r12_2]
  obtain ⟨f13, c13, -⟩ := WT.ints hW (k := 13) rfl
  have ef13 : f13 = zf := arrinj ((cgetI c13 0).symm.trans ezf)
  rw [ef13] at c13
  obtain ⟨f14, c14, -⟩ := WT.ints hW (k := 14) rfl
  have ef14 : f14 = zo := arrinj ((cgetI c14 0).symm.trans ezo)
  rw [ef14] at c14
  obtain ⟨f103, c103, -⟩ := WT.ints hW (k := 103) rfl
  have ef103 : f103 = zc := arrinj ((cgetI c103 0).symm.trans ezc)
  rw [ef103] at c103
  obtain ⟨f105, c105, -⟩ := WT.ints hW (k := 105) rfl
  have ef105 : f105 = zt := arrinj ((cgetI c105 0).symm.trans ezt)
  rw [ef105] at c105
  obtain ⟨g22, q22, t22⟩ := WT.tab hW (k := 22) rfl
  have r22_0 : g22 0 = .int t := Option.some.inj ((t22 0 _ rfl).2.symm.trans et)
  have b22_0 : 0 ≤ t.toInt ∧ t.toInt ≤ 12 := by
    have h := (t22 0 _ rfl).1
    rw [r22_0] at h
    obtain ⟨y, e, l1, u1⟩ := vty0 h rfl
    obtain rfl := Value.int.inj e
    exact ⟨l1, u1⟩
  have r22_1 : g22 1 = .ref (ad 23) := vty2 (t22 1 _ rfl).1 rfl
  have r22_2 : g22 2 = .ref (ad 24) := vty2 (t22 2 _ rfl).1 rfl
  have r22_3 : g22 3 = .ref (ad 25) := vty2 (t22 3 _ rfl).1 rfl
  have r22_4 : g22 4 = .ref (ad 26) := vty2 (t22 4 _ rfl).1 rfl
  have r22_5 : g22 5 = .ref (ad 27) := vty2 (t22 5 _ rfl).1 rfl
  have r22_6 : g22 6 = .ref (ad 28) := vty2 (t22 6 _ rfl).1 rfl
  have r22_7 : g22 7 = .ref (ad 29) := vty2 (t22 7 _ rfl).1 rfl
  have r22_8 : g22 8 = .ref (ad 30) := vty2 (t22 8 _ rfl).1 rfl
  have r22_9 : g22 9 = .ref (ad 31) := vty2 (t22 9 _ rfl).1 rfl
  have c22 : w0[22]? = some ((ad 22), ob 9 [.int t, .ref (ad 23), .ref (ad 24), .ref (ad 25), .ref (ad 26), .ref (ad 27), .ref (ad 28), .ref (ad 29), .ref (ad 30), .ref (ad 31)]) := by
    rw [q22]
    show some (ad 22, ob 9 [g22 0, g22 1, g22 2, g22 3, g22 4, g22 5, g22 6, g22 7, g22 8, g22 9]) = _
    rw [r22_0, r22_1, r22_2, r22_3, r22_4, r22_5, r22_6, r22_7, r22_8, r22_9]
  obtain ⟨f23, c23, -⟩ := WT.ints hW (k := 23) rfl
  have ef23 : f23 = (F 0) := arrinj ((cgetI c23 0).symm.trans eF.1)
  rw [ef23] at c23
  obtain ⟨f24, c24, -⟩ := WT.bools hW (k := 24) rfl
  have ef24 : f24 = (F 1) := arrinj ((cgetZ c24 0).symm.trans eF.2.1)
  rw [ef24] at c24
  obtain ⟨f25, c25, -⟩ := WT.ints hW (k := 25) rfl
  have ef25 : f25 = (F 2) := arrinj ((cgetI c25 0).symm.trans eF.2.2.1)
  rw [ef25] at c25
  obtain ⟨f26, c26, -⟩ := WT.ints hW (k := 26) rfl
  have ef26 : f26 = (F 3) := arrinj ((cgetI c26 0).symm.trans eF.2.2.2.1)
  rw [ef26] at c26
  obtain ⟨f27, c27, -⟩ := WT.ints hW (k := 27) rfl
  have ef27 : f27 = (F 4) := arrinj ((cgetI c27 0).symm.trans eF.2.2.2.2.1)
  rw [ef27] at c27
  obtain ⟨f28, c28, -⟩ := WT.ints hW (k := 28) rfl
  have ef28 : f28 = (F 5) := arrinj ((cgetI c28 0).symm.trans eF.2.2.2.2.2)
  rw [ef28] at c28
  obtain ⟨f29, c29, -⟩ := WT.ints hW (k := 29) rfl
  obtain ⟨f30, c30, -⟩ := WT.ints hW (k := 30) rfl
  obtain ⟨f31, c31, -⟩ := WT.ints hW (k := 31) rfl
  have h2 := cy_X10_judgeG l G (ad 0) (g0 0) (g0 1) (g0 2) (ad 12) (g0 4) (ad 22) (g0 6) (g0 7) (g0 8) (ad 103) (g0 10) (ad 105) (g0 12) (g0 13) (g0 14) (g0 15) y12_0 (ad 13) (ad 14) (g12 3) (g12 4) (g12 5) zf zo zc zt t (ad 23) (ad 24) (ad 25) (ad 26) (ad 27) (ad 28) (ad 29) (ad 30) (ad 31) (F 0) (F 1) (F 2) (F 3) (F 4) (F 5) f29 f30 f31 xq yq t.toInt xq.toInt yq.toInt rfl rfl rfl (by omega) hsp hg
  refine Ct.weak (Ct.and (show Ct l G yX10_judge cX10_judge 3 (some .int) { frames := 3, cells := 0, slots := 0, locals := 73 } [.ref (ad 0), .int xq, .int yq] w0 (fun r w1 => POST G ad TX C_X10_judge_0 (fun k => ((Value.ref (ad 0) :: [.int xq, .int yq])[k]?).getD .null) w0 r w1) from ac_X10_judge_0 l G ad w0 _ hW (pre_mu (C := C_X10_judge_0) (ts := [tI0, tI0]) (As := [.int xq, .int yq]) rfl rfl rfl rfl ⟨fun _ => vty_i0 _, fun _ => vty_i0 _, trivial⟩ ad w0 rfl)) h2 [0, 12, 13, 14, 103, 105, 22, 23, 24, 25, 26, 27, 28, 29, 30, 31] (pk_cons c0 (pk_cons c12 (pk_cons c13 (pk_cons c14 (pk_cons c103 (pk_cons c105 (pk_cons c22 (pk_cons c23 (pk_cons c24 (pk_cons c25 (pk_cons c26 (pk_cons c27 (pk_cons c28 (pk_cons c29 (pk_cons c30 (pk_cons c31 rfl)))))))))))))))) (by decide)) ?_
  rintro r w1 ⟨hp, w2, ⟨rz, hr, rfl⟩, hS⟩
  obtain ⟨A1, hA1, μ2, -, -, -, -, -, -, hW1, hF1⟩ := hp
  exact ⟨hW1, hF1, _, rfl, hr⟩
set_option maxHeartbeats 4000000 in
set_option maxRecDepth 100000 in
theorem ac_jgm (l : Launch) (G : KG) {ad : Nat → Nat} {w0 : va_W} {t xq yq : Int32} {zf zo zc zX zY : Nat → Int32} {H : Nat → Nat → Int32} (hW : WT G ad TM w0) (et : fget w0 0 31 = some (.int t)) (ezf : cget w0 8 0 = some (.inr (cyI G, 6, .inl zf))) (ezo : cget w0 9 0 = some (.inr (cyI G, 6, .inl zo))) (ezc : cget w0 15 0 = some (.inr (cyI G, 4, .inl zc))) (ezX : cget w0 18 0 = some (.inr (cyI G, 4, .inl zX))) (ezY : cget w0 19 0 = some (.inr (cyI G, 4, .inl zY))) (eH : TRx G w0 21 H) (hsp : ∀ j : Nat, (j : Int) < t.toInt → 0 ≤ (H 0 j).toInt ∧ (H 0 j).toInt < 6) : Ct l G yX11_judge cX11_judge 4 (some .int) { frames := 3, cells := 0, slots := 0, locals := 70 } [.ref (ad 0), .int xq, .int yq] w0 (fun r w1 => WT G ad TM w1 ∧ FRM C_X11_judge_0.2.2.2.2.1 w0 w1 ∧ (∃ v : Int32, r = some (.int v) ∧ v.toInt = mJudge xq.toInt yq.toInt (fa (AGr zf zo zc zX zY (tr6 (H 0) (H 1) (H 2) (H 3) (H 4) (H 5)) xq yq) t.toInt.toNat 0))) := by
  obtain ⟨g0, q0, t0⟩ := WT.tab hW (k := 0) rfl
  obtain ⟨y0_0, r0_0, -, -⟩ := vty0 (t0 0 _ rfl).1 rfl
  obtain ⟨y0_1, r0_1, bl0_1, bu0_1⟩ := vty0 (t0 1 _ rfl).1 rfl
  have b0_1 : 0 ≤ y0_1.toInt ∧ y0_1.toInt ≤ 24 := ⟨bl0_1, bu0_1⟩
  have r0_2 : g0 2 = .ref (ad 1) := vty2 (t0 2 _ rfl).1 rfl
  obtain ⟨y0_3, r0_3, -, -⟩ := vty0 (t0 3 _ rfl).1 rfl
  have r0_4 : g0 4 = .ref (ad 2) := vty2 (t0 4 _ rfl).1 rfl
  have r0_5 : g0 5 = .ref (ad 3) := vty2 (t0 5 _ rfl).1 rfl
  have r0_6 : g0 6 = .ref (ad 4) := vty2 (t0 6 _ rfl).1 rfl
  have r0_7 : g0 7 = .ref (ad 5) := vty2 (t0 7 _ rfl).1 rfl
  have r0_8 : g0 8 = .ref (ad 6) := vty2 (t0 8 _ rfl).1 rfl
  have r0_9 : g0 9 = .ref (ad 7) := vty2 (t0 9 _ rfl).1 rfl
  obtain ⟨y0_10, r0_10, -, -⟩ := vty0 (t0 10 _ rfl).1 rfl
  have r0_11 : g0 11 = .ref (ad 8) := vty2 (t0 11 _ rfl).1 rfl
  have r0_12 : g0 12 = .ref (ad 9) := vty2 (t0 12 _ rfl).1 rfl
  have r0_13 : g0 13 = .ref (ad 10) := vty2 (t0 13 _ rfl).1 rfl
  obtain ⟨y0_16, r0_16, -, -⟩ := vty0 (t0 16 _ rfl).1 rfl
  have r0_17 : g0 17 = .ref (ad 13) := vty2 (t0 17 _ rfl).1 rfl
  have r0_18 : g0 18 = .ref (ad 14) := vty2 (t0 18 _ rfl).1 rfl
  obtain ⟨y0_19, r0_19, -, -⟩ := vty0 (t0 19 _ rfl).1 rfl
  obtain ⟨y0_20, r0_20, -, -⟩ := vty0 (t0 20 _ rfl).1 rfl
  obtain ⟨y0_21, r0_21, -, -⟩ := vty0 (t0 21 _ rfl).1 rfl
  obtain ⟨y0_22, r0_22, -, -⟩ := vty0 (t0 22 _ rfl).1 rfl
  have r0_23 : g0 23 = .ref (ad 15) := vty2 (t0 23 _ rfl).1 rfl
  have r0_26 : g0 26 = .ref (ad 18) := vty2 (t0 26 _ rfl).1 rfl
  have r0_27 : g0 27 = .ref (ad 19) := vty2 (t0 27 _ rfl).1 rfl
  have r0_30 : g0 30 = .ref (ad 20) := vty2 (t0 30 _ rfl).1 rfl
  have r0_31 : g0 31 = .int t := Option.some.inj ((t0 31 _ rfl).2.symm.trans et)
  have b0_31 : 0 ≤ t.toInt ∧ t.toInt ≤ 12 := by
    have h := (t0 31 _ rfl).1
    rw [r0_31] at h
    obtain ⟨y, e, l1, u1⟩ := vty0 h rfl
    obtain rfl := Value.int.inj e
    exact ⟨l1, u1⟩
  have r0_32 : g0 32 = .ref (ad 21) := vty2 (t0 32 _ rfl).1 rfl
  have r0_33 : g0 33 = .ref (ad 22) := vty2 (t0 33 _ rfl).1 rfl
  have r0_34 : g0 34 = .ref (ad 23) := vty2 (t0 34 _ rfl).1 rfl
  have r0_35 : g0 35 = .ref (ad 24) := vty2 (t0 35 _ rfl).1 rfl
  have r0_36 : g0 36 = .ref (ad 25) := vty2 (t0 36 _ rfl).1 rfl
  have r0_37 : g0 37 = .ref (ad 26) := vty2 (t0 37 _ rfl).1 rfl
  obtain ⟨y0_38, r0_38, -, -⟩ := vty1 (t0 38 _ rfl).1 rfl
  obtain ⟨y0_39, r0_39, -, -⟩ := vty1 (t0 39 _ rfl).1 rfl
  obtain ⟨y0_40, r0_40, -, -⟩ := vty1 (t0 40 _ rfl).1 rfl
  have r0_41 : g0 41 = .ref (ad 27) := vty2 (t0 41 _ rfl).1 rfl
  have r0_42 : g0 42 = .ref (ad 28) := vty2 (t0 42 _ rfl).1 rfl
  have r0_43 : g0 43 = .ref (ad 29) := vty2 (t0 43 _ rfl).1 rfl
  have r0_44 : g0 44 = .ref (ad 30) := vty2 (t0 44 _ rfl).1 rfl
  obtain ⟨y0_45, r0_45, -, -⟩ := vty0 (t0 45 _ rfl).1 rfl
  have c0 : w0[0]? = some ((ad 0), ob 11 [.int y0_0, .int y0_1, .ref (ad 1), .int y0_3, .ref (ad 2), .ref (ad 3), .ref (ad 4), .ref (ad 5), .ref (ad 6), .ref (ad 7), .int y0_10, .ref (ad 8), .ref (ad 9), .ref (ad 10), (g0 14), (g0 15), .int y0_16, .ref (ad 13), .ref (ad 14), .int y0_19, .int y0_20, .int y0_21, .int y0_22, .ref (ad 15), (g0 24), (g0 25), .ref (ad 18), .ref (ad 19), (g0 28), (g0 29), .ref (ad 20), .int t, .ref (ad 21), .ref (ad 22), .ref (ad 23), .ref (ad 24), .ref (ad 25), .ref (ad 26), .long y0_38, .long y0_39, .long y0_40, .ref (ad 27), .ref (ad 28), .ref (ad 29), .ref (ad 30), .int y0_45, (g0 46), (g0 47), (g0 48), (g0 49), (g0 50), (g0 51), (g0 52), (g0 53), (g0 54), (g0 55), (g0 56), (g0 57), (g0 58), (g0 59), (g0 60), (g0 61), (g0 62), (g0 63), (g0 64), (g0 65), (g0 66), (g0 67), (g0 68), (g0 69), (g0 70), (g0 71), (g0 72), (g0 73), (g0 74)]) := by
    rw [q0]
    show some (ad 0, ob 11 [g0 0, g0 1, g0 2, g0 3, g0 4, g0 5, g0 6, g0 7, g0 8, g0 9, g0 10, g0 11, g0 12, g0 13, g0 14, g0 15, g0 16, g0 17, g0 18, g0 19, g0 20, g0 21, g0 22, g0 23, g0 24, g0 25, g0 26, g0 27, g0 28, g0 29, g0 30, g0 31, g0 32, g0 33, g0 34, g0 35, g0 36, g0 37, g0 38, g0 39, g0 40, g0 41, g0 42, g0 43, g0 44, g0 45, g0 46, g0 47, g0 48, g0 49, g0 50, g0 51, g0 52, g0 53, g0 54, g0 55, g0 56, g0 57, g0 58, g0 59, g0 60, g0 61, g0 62, g0 63, g0 64, g0 65, g0 66, g0 67, g0 68, g0 69, g0 70, g0 71, g0 72, g0 73, g0 74]) = _
    rw [r0_0, r0_1, r0_2, r0_3, r0_4, r0_5, r0_6, r0_7, r0_8, r0_9, r0_10, r0_11, r0_12, r0_13, r0_16, r0_17, r0_18, r0_19, r0_20, r0_21, r0_22, r0_23, r0_26, r0_27, r0_30, r0_31, r0_32, r0_33, r0_34, r0_35, r0_36, r0_37, r0_38, r0_39, r0_40, r0_41, r0_42, r0_43, r0_44, r0_45]
  obtain ⟨f20, c20, -⟩ := WT.ints hW (k := 20) rfl
  obtain ⟨f8, c8, -⟩ := WT.ints hW (k := 8) rfl
  have ef8 : f8 = zf := arrinj ((cgetI c8 0).symm.trans ezf)
  rw [ef8] at c8
  obtain ⟨f9, c9, -⟩ := WT.ints hW (k := 9) rfl
  have ef9 : f9 = zo := arrinj ((cgetI c9 0).symm.trans ezo)
  rw [ef9] at c9
  obtain ⟨f15, c15, -⟩ := WT.ints hW (k := 15) rfl
  have ef15 : f15 = zc := arrinj ((cgetI c15 0).symm.trans ezc)
  rw [ef15] at c15
  obtain ⟨f18, c18, -⟩ := WT.ints hW (k := 18) rfl
  have ef18 : f18 = zX := arrinj ((cgetI c18 0).symm.trans ezX)
  rw [ef18] at c18
  obtain ⟨f19, c19, -⟩ := WT.ints hW (k := 19) rfl
  have ef19 : f19 = zY := arrinj ((cgetI c19 0).symm.trans ezY)
  rw [ef19] at c19
  obtain ⟨f21, c21, -⟩ := WT.ints hW (k := 21) rfl
  have ef21 : f21 = (H 0) := arrinj ((cgetI c21 0).symm.trans eH.1)
  rw [ef21] at c21
  obtain ⟨f22, c22, -⟩ := WT.bools hW (k := 22) rfl
  have ef22 : f22 = (H 1) := arrinj ((cgetZ c22 0).symm.trans eH.2.1)
  rw [ef22] at c22
  obtain ⟨f23, c23, -⟩ := WT.ints hW (k := 23) rfl
  have ef23 : f23 = (H 2) := arrinj ((cgetI c23 0).symm.trans eH.2.2.1)
  rw [ef23] at c23
  obtain ⟨f24, c24, -⟩ := WT.ints hW (k := 24) rfl
  have ef24 : f24 = (H 3) := arrinj ((cgetI c24 0).symm.trans eH.2.2.2.1)
  rw [ef24] at c24
  obtain ⟨f25, c25, -⟩ := WT.ints hW (k := 25) rfl
  have ef25 : f25 = (H 4) := arrinj ((cgetI c25 0).symm.trans eH.2.2.2.2.1)
  rw [ef25] at c25
  obtain ⟨f26, c26, -⟩ := WT.ints hW (k := 26) rfl
  have ef26 : f26 = (H 5) := arrinj ((cgetI c26 0).symm.trans eH.2.2.2.2.2)
  rw [ef26] at c26
  obtain ⟨f29, c29, -⟩ := WT.longs hW (k := 29) rfl
  obtain ⟨f27, c27, -⟩ := WT.longs hW (k := 27) rfl
  obtain ⟨f28, c28, -⟩ := WT.longs hW (k := 28) rfl
  have h2 := cy_X11_judgeG l G (ad 0) y0_0 y0_1 (ad 1) y0_3 (ad 2) (ad 3) (ad 4) (ad 5) (ad 6) (ad 7) y0_10 (ad 8) (ad 9) (ad 10) (g0 14) (g0 15) y0_16 (ad 13) (ad 14) y0_19 y0_20 y0_21 y0_22 (ad 15) (g0 24) (g0 25) (ad 18) (ad 19) (g0 28) (g0 29) (ad 20) t (ad 21) (ad 22) (ad 23) (ad 24) (ad 25) (ad 26) y0_38 y0_39 y0_40 (ad 27) (ad 28) (ad 29) (ad 30) y0_45 (g0 46) (g0 47) (g0 48) (g0 49) (g0 50) (g0 51) (g0 52) (g0 53) (g0 54) (g0 55) (g0 56) (g0 57) (g0 58) (g0 59) (g0 60) (g0 61) (g0 62) (g0 63) (g0 64) (g0 65) (g0 66) (g0 67) (g0 68) (g0 69) (g0 70) (g0 71) (g0 72) (g0 73) (g0 74) f20 zf zo zc zX zY (H 0) (H 1) (H 2) (H 3) (H 4) (H 5) f29 f27 f28 xq yq t.toInt xq.toInt yq.toInt rfl rfl rfl (by omega) hsp
  refine Ct.weak (Ct.and (show Ct l G yX11_judge cX11_judge 4 (some .int) { frames := 3, cells := 0, slots := 0, locals := 70 } [.ref (ad 0), .int xq, .int yq] w0 (fun r w1 => POST G ad TM C_X11_judge_0 (fun k => ((Value.ref (ad 0) :: [.int xq, .int yq])[k]?).getD .null) w0 r w1) from ac_X11_judge_0 l G ad w0 _ hW (pre_mu (C := C_X11_judge_0) (ts := [tI0, tI0]) (As := [.int xq, .int yq]) rfl rfl rfl rfl ⟨fun _ => vty_i0 _, fun _ => vty_i0 _, trivial⟩ ad w0 rfl)) h2 [0, 20, 8, 9, 15, 18, 19, 21, 22, 23, 24, 25, 26, 29, 27, 28] (pk_cons c0 (pk_cons c20 (pk_cons c8 (pk_cons c9 (pk_cons c15 (pk_cons c18 (pk_cons c19 (pk_cons c21 (pk_cons c22 (pk_cons c23 (pk_cons c24 (pk_cons c25 (pk_cons c26 (pk_cons c29 (pk_cons c27 (pk_cons c28 rfl)))))))))))))))) (by decide)) ?_
  rintro r w1 ⟨hp, w2, ⟨rz, hr, rfl⟩, hS⟩
  obtain ⟨A1, hA1, μ2, -, -, -, -, -, -, hW1, hF1⟩ := hp
  exact ⟨hW1, hF1, _, rfl, hr⟩
theorem tr6_te {F : Nat → Nat → Int32} {j : Nat} : TE1 (tr6 (F 0) (F 1) (F 2) (F 3) (F 4) (F 5)) F j := by
  refine ⟨fun a ha => ?_, fun k _ => rfl⟩
  rcases (by omega : a = 0 ∨ a = 1 ∨ a = 2 ∨ a = 3 ∨ a = 4) with rfl | rfl | rfl | rfl | rfl <;> rfl
theorem tr6_B {F : Nat → Nat → Int32} {t s : Int} (B : TrB F t s) : TrB (tr6 (F 0) (F 1) (F 2) (F 3) (F 4) (F 5)) t s := fun j hj => (B j hj).cg tr6_te
theorem tr6_E {F H : Nat → Nat → Int32} {t : Int} (E : TrE F H t) : TrE (tr6 (F 0) (F 1) (F 2) (F 3) (F 4) (F 5)) (tr6 (H 0) (H 1) (H 2) (H 3) (H 4) (H 5)) t := fun j hj => ⟨fun a ha => (tr6_te.1 a ha).trans (((E j hj).1 a ha).trans (tr6_te.1 a ha).symm), fun k hk => (E j hj).2 k hk⟩
section AGS
variable {t s : Int} {ff fo cr th gf go gr X Y : Nat → Int32} {F H : Nat → Nat → Int32}
def AGB (t s : Int) (ff fo cr th gf go gr X Y : Nat → Int32) (F H : Nat → Nat → Int32) : Prop := EH s ff gf ∧ EH s fo go ∧ (∀ j : Nat, j < 4 → cr j = gr j) ∧ pr4 th X Y ∧ (∀ j : Nat, (j : Int) < s → 0 ≤ (ff j).toInt ∧ (ff j).toInt ≤ 9) ∧ (∀ j : Nat, (j : Int) < s → 0 ≤ (fo j).toInt ∧ (fo j).toInt ≤ 9) ∧ (∀ j : Nat, j < 4 → -9 ≤ (cr j).toInt ∧ (cr j).toInt ≤ 9) ∧ b8 th ∧ TrB F t s ∧ TrE F H t
theorem fa_same (h : AGB t s ff fo cr th gf go gr X Y F H) {x y : Int32} (hx : -60 ≤ x.toInt ∧ x.toInt ≤ 60) (hy : -60 ≤ y.toInt ∧ y.toInt ≤ 60) : fa (AGx ff fo cr th (tr6 (F 0) (F 1) (F 2) (F 3) (F 4) (F 5)) x y) t.toNat 0 = fa (AGr gf go gr X Y (tr6 (H 0) (H 1) (H 2) (H 3) (H 4) (H 5)) x y) t.toNat 0 := by
  obtain ⟨e1, e2, e3, e4, b1, b2, b3, b4, B, E⟩ := h
  exact fa_congr (fun j _ hj => AG_iff e1 e2 e3 e4 b1 b2 b3 b4 (tr6_B B) (tr6_E E) hx hy (by omega))
theorem which_same (h : AGB t s ff fo cr th gf go gr X Y F H) : ((ct (fun k => fa (AGx ff fo cr th (tr6 (F 0) (F 1) (F 2) (F 3) (F 4) (F 5)) (PX k) (PY k)) t.toNat 0 = -2) 14641 : Nat) : Int) = ((ct (fun k => fa (AGr gf go gr X Y (tr6 (H 0) (H 1) (H 2) (H 3) (H 4) (H 5)) (PX k) (PY k)) t.toNat 0 = -2) 14641 : Nat) : Int) := congrArg (fun z : Nat => (z : Int)) (ct_congr (fun k hk => by
  have q := fa_same h (P_b hk).1 (P_b hk).2
  show (fa _ t.toNat 0 = -2) ↔ (fa _ t.toNat 0 = -2)
  rw [q]))
theorem judge_same (h : AGB t s ff fo cr th gf go gr X Y F H) {x y : Int32} : mJudge x.toInt y.toInt (fa (AGx ff fo cr th (tr6 (F 0) (F 1) (F 2) (F 3) (F 4) (F 5)) x y) t.toNat 0) = mJudge x.toInt y.toInt (fa (AGr gf go gr X Y (tr6 (H 0) (H 1) (H 2) (H 3) (H 4) (H 5)) x y) t.toNat 0) := by
  by_cases q : (-60 ≤ x.toInt ∧ x.toInt ≤ 60) ∧ -60 ≤ y.toInt ∧ y.toInt ≤ 60
  · rw [fa_same h q.1 q.2]
  · rw [mJudge_no q, mJudge_no q]
end AGS
