/-! buckets in the typed worlds -/
set_option maxHeartbeats 4000000 in
set_option maxRecDepth 100000 in
theorem ac_bkx (l : Launch) (G : KG) {ad : Nat → Nat} {w0 : va_W} {h pq : Int32} {bq : Int64} {zp zx zy zh zr zt : Nat → Int32} (hW : WT G ad TX w0) (eh : fget w0 5 0 = some (.int h)) (ezp : cget w0 6 0 = some (.inr (cyI G, 16, .inl zp))) (ezx : cget w0 7 0 = some (.inr (cyI G, 16, .inl zx))) (ezy : cget w0 8 0 = some (.inr (cyI G, 16, .inl zy))) (ezh : cget w0 10 0 = some (.inr (cyI G, 16, .inl zh))) (ezr : cget w0 9 0 = some (.inr (cyI G, 16, .inl zr))) (ezt : cget w0 105 0 = some (.inr (cyI G, 8, .inl zt))) (hsb : 0 ≤ pq.toInt ∧ pq.toInt ≤ 1 → SB h.toInt zp zh zr zx zy (tX zt pq) (tY zt pq)) : Ct l G yX10_buckets cX10_buckets 9 (some .int) { frames := 2, cells := 0, slots := 0, locals := 47 } [.ref (ad 0), .int pq, .long bq] w0 (fun r w1 => WT G ad TX w1 ∧ FRM C_X10_buckets_0.2.2.2.2.1 w0 w1 ∧ (∃ v : Int32, r = some (.int v) ∧ v.toInt = mBk zp zh zr zx zy pq.toInt bq.toInt h.toInt.toNat (tX zt pq + lw zp zh zx pq.toInt h.toInt.toNat) (tY zt pq + lw zp zh zy pq.toInt h.toInt.toNat))) := by
  obtain ⟨g0, q0, t0⟩ := WT.tab hW (k := 0) rfl
  have r0_2 : g0 2 = .ref (ad 5) := vty2 (t0 2 _ rfl).1 rfl
  have r0_11 : g0 11 = .ref (ad 105) := vty2 (t0 11 _ rfl).1 rfl
  have c0 : w0[0]? = some ((ad 0), ob 10 [(g0 0), (g0 1), .ref (ad 5), (g0 3), (g0 4), (g0 5), (g0 6), (g0 7), (g0 8), (g0 9), (g0 10), .ref (ad 105), (g0 12), (g0 13), (g0 14), (g0 15)]) := by
    rw [q0]
    show some (ad 0, ob 10 [g0 0, g0 1, g0 2, g0 3, g0 4, g0 5, g0 6, g0 7, g0 8, g0 9, g0 10, g0 11, g0 12, g0 13, g0 14, g0 15]) = _
    rw [r0_2, r0_11]
  obtain ⟨g5, q5, t5⟩ := WT.tab hW (k := 5) rfl
  have r5_0 : g5 0 = .int h := Option.some.inj ((t5 0 _ rfl).2.symm.trans eh)
  have b5_0 : 0 ≤ h.toInt ∧ h.toInt ≤ 16 := by
    have h := (t5 0 _ rfl).1
    rw [r5_0] at h
    obtain ⟨y, e, l1, u1⟩ := vty0 h rfl
    obtain rfl := Value.int.inj e
    exact ⟨l1, u1⟩
  have r5_1 : g5 1 = .ref (ad 6) := vty2 (t5 1 _ rfl).1 rfl
  have r5_2 : g5 2 = .ref (ad 7) := vty2 (t5 2 _ rfl).1 rfl
  have r5_3 : g5 3 = .ref (ad 8) := vty2 (t5 3 _ rfl).1 rfl
  have r5_4 : g5 4 = .ref (ad 9) := vty2 (t5 4 _ rfl).1 rfl
  have r5_5 : g5 5 = .ref (ad 10) := vty2 (t5 5 _ rfl).1 rfl
  obtain ⟨y5_7, r5_7, -, -⟩ := vty0 (t5 7 _ rfl).1 rfl
  obtain ⟨y5_8, r5_8, -, -⟩ := vty0 (t5 8 _ rfl).1 rfl
  have c5 : w0[5]? = some ((ad 5), ob 5 [.int h, .ref (ad 6), .ref (ad 7), .ref (ad 8), .ref (ad 9), .ref (ad 10), (g5 6), .int y5_7, .int y5_8]) := by
    rw [q5]
    show some (ad 5, ob 5 [g5 0, g5 1, g5 2, g5 3, g5 4, g5 5, g5 6, g5 7, g5 8]) = _
    rw [r5_0, r5_1, r5_2, r5_3, r5_4, r5_5, r5_7, r5_8]
  obtain ⟨f6, c6, -⟩ := WT.ints hW (k := 6) rfl
  have ef6 : f6 = zp := arrinj ((cgetI c6 0).symm.trans ezp)
  rw [ef6] at c6
  obtain ⟨f7, c7, -⟩ := WT.ints hW (k := 7) rfl
  have ef7 : f7 = zx := arrinj ((cgetI c7 0).symm.trans ezx)
  rw [ef7] at c7
  obtain ⟨f8, c8, -⟩ := WT.ints hW (k := 8) rfl
  have ef8 : f8 = zy := arrinj ((cgetI c8 0).symm.trans ezy)
  rw [ef8] at c8
  obtain ⟨f9, c9, -⟩ := WT.ints hW (k := 9) rfl
  have ef9 : f9 = zr := arrinj ((cgetI c9 0).symm.trans ezr)
  rw [ef9] at c9
  obtain ⟨f10, c10, -⟩ := WT.ints hW (k := 10) rfl
  have ef10 : f10 = zh := arrinj ((cgetI c10 0).symm.trans ezh)
  rw [ef10] at c10
  obtain ⟨f105, c105, -⟩ := WT.ints hW (k := 105) rfl
  have ef105 : f105 = zt := arrinj ((cgetI c105 0).symm.trans ezt)
  rw [ef105] at c105
  have h2 := cw_X10_buckets l G (ad 0) (g0 0) (g0 1) (ad 5) (g0 3) (g0 4) (g0 5) (g0 6) (g0 7) (g0 8) (g0 9) (g0 10) (ad 105) (g0 12) (g0 13) (g0 14) (g0 15) h (ad 6) (ad 7) (ad 8) (ad 9) (ad 10) (g5 6) y5_7 y5_8 zp zx zy zr zh zt pq bq h.toInt pq.toInt bq.toInt rfl rfl rfl (by omega) hsb
  refine Ct.weak (Ct.and (show Ct l G yX10_buckets cX10_buckets 9 (some .int) { frames := 2, cells := 0, slots := 0, locals := 47 } [.ref (ad 0), .int pq, .long bq] w0 (fun r w1 => POST G ad TX C_X10_buckets_0 (fun k => ((Value.ref (ad 0) :: [.int pq, .long bq])[k]?).getD .null) w0 r w1) from ac_X10_buckets_0 l G ad w0 _ hW (pre_mu (C := C_X10_buckets_0) (ts := [tI0, tL0]) (As := [.int pq, .long bq]) rfl rfl rfl rfl ⟨fun _ => vty_i0 _, fun _ => vty_l0 _, trivial⟩ ad w0 rfl)) h2 [0, 5, 6, 7, 8, 9, 10, 105] (pk_cons c0 (pk_cons c5 (pk_cons c6 (pk_cons c7 (pk_cons c8 (pk_cons c9 (pk_cons c10 (pk_cons c105 rfl)))))))) (by decide)) ?_
  rintro r w1 ⟨hp, w2, ⟨rz, hr, rfl, rfl⟩, hS⟩
  obtain ⟨A1, hA1, μ2, -, -, -, -, -, -, hW1, hF1⟩ := hp
  obtain ⟨fs0, -, u0, ul0, -, -⟩ := WT.obj hW1 (k := 0) (j := 0) rfl rfl
  obtain ⟨fs5, -, u5, ul5, -, -⟩ := WT.obj hW1 (k := 5) (j := 0) rfl rfl
  obtain ⟨p6, u6, -⟩ := WT.ints hW1 (k := 6) rfl
  obtain ⟨p7, u7, -⟩ := WT.ints hW1 (k := 7) rfl
  obtain ⟨p8, u8, -⟩ := WT.ints hW1 (k := 8) rfl
  obtain ⟨p9, u9, -⟩ := WT.ints hW1 (k := 9) rfl
  obtain ⟨p10, u10, -⟩ := WT.ints hW1 (k := 10) rfl
  obtain ⟨p105, u105, -⟩ := WT.ints hW1 (k := 105) rfl
  exact ⟨hW1, hF1, _, rfl, hr⟩
set_option maxHeartbeats 4000000 in
set_option maxRecDepth 100000 in
theorem ac_bkm (l : Launch) (G : KG) {ad : Nat → Nat} {w0 : va_W} {h pq : Int32} {bq : Int64} {zp zx zy zh zr zX zY : Nat → Int32} (hW : WT G ad TM w0) (eh : fget w0 0 3 = some (.int h)) (ezp : cget w0 2 0 = some (.inr (cyI G, 16, .inl zp))) (ezx : cget w0 3 0 = some (.inr (cyI G, 16, .inl zx))) (ezy : cget w0 4 0 = some (.inr (cyI G, 16, .inl zy))) (ezh : cget w0 6 0 = some (.inr (cyI G, 16, .inl zh))) (ezr : cget w0 5 0 = some (.inr (cyI G, 16, .inl zr))) (ezX : cget w0 18 0 = some (.inr (cyI G, 4, .inl zX))) (ezY : cget w0 19 0 = some (.inr (cyI G, 4, .inl zY))) (hro : ∀ j : Nat, (j : Int) < h.toInt → 0 ≤ (zh j).toInt ∧ (zh j).toInt ≤ (zr j).toInt ∧ (zr j).toInt ≤ 9) : Ct l G yX11_buckets cX11_buckets 7 (some .int) { frames := 2, cells := 0, slots := 0, locals := 49 } [.ref (ad 0), .int pq, .long bq] w0 (fun r w1 => WT G ad TM w1 ∧ FRM C_buckets.2.2.2.2.1 w0 w1 ∧ (∃ v : Int32, r = some (.int v) ∧ v.toInt = mBk zp zh zr zx zy pq.toInt bq.toInt h.toInt.toNat (zX pq.toNatClampNeg + lw zp zh zx pq.toInt h.toInt.toNat) (zY pq.toNatClampNeg + lw zp zh zy pq.toInt h.toInt.toNat))) := by
  obtain ⟨g0, q0, t0⟩ := WT.tab hW (k := 0) rfl
  obtain ⟨y0_0, r0_0, -, -⟩ := vty0 (t0 0 _ rfl).1 rfl
  have r0_3 : g0 3 = .int h := Option.some.inj ((t0 3 _ rfl).2.symm.trans eh)
  have b0_3 : 0 ≤ h.toInt ∧ h.toInt ≤ 16 := by
    have h := (t0 3 _ rfl).1
    rw [r0_3] at h
    obtain ⟨y, e, l1, u1⟩ := vty0 h rfl
    obtain rfl := Value.int.inj e
    exact ⟨l1, u1⟩
  have r0_4 : g0 4 = .ref (ad 2) := vty2 (t0 4 _ rfl).1 rfl
  have r0_5 : g0 5 = .ref (ad 3) := vty2 (t0 5 _ rfl).1 rfl
  have r0_6 : g0 6 = .ref (ad 4) := vty2 (t0 6 _ rfl).1 rfl
  have r0_7 : g0 7 = .ref (ad 5) := vty2 (t0 7 _ rfl).1 rfl
  have r0_8 : g0 8 = .ref (ad 6) := vty2 (t0 8 _ rfl).1 rfl
  have r0_9 : g0 9 = .ref (ad 7) := vty2 (t0 9 _ rfl).1 rfl
  obtain ⟨y0_10, r0_10, -, -⟩ := vty0 (t0 10 _ rfl).1 rfl
  have r0_11 : g0 11 = .ref (ad 8) := vty2 (t0 11 _ rfl).1 rfl
  have r0_12 : g0 12 = .ref (ad 9) := vty2 (t0 12 _ rfl).1 rfl
  have r0_13 : g0 13 = .ref (ad 10) := vty2 (t0 13 _ rfl).1 rfl
  obtain ⟨y0_16, r0_16, -, -⟩ := vty0 (t0 16 _ rfl).1 rfl
  have r0_17 : g0 17 = .ref (ad 13) := vty2 (t0 17 _ rfl).1 rfl
  have r0_18 : g0 18 = .ref (ad 14) := vty2 (t0 18 _ rfl).1 rfl
  obtain ⟨y0_19, r0_19, -, -⟩ := vty0 (t0 19 _ rfl).1 rfl
  obtain ⟨y0_20, r0_20, -, -⟩ := vty0 (t0 20 _ rfl).1 rfl
  obtain ⟨y0_21, r0_21, -, -⟩ := vty0 (t0 21 _ rfl).1 rfl
  obtain ⟨y0_22, r0_22, -, -⟩ := vty0 (t0 22 _ rfl).1 rfl
  have r0_26 : g0 26 = .ref (ad 18) := vty2 (t0 26 _ rfl).1 rfl
  have r0_27 : g0 27 = .ref (ad 19) := vty2 (t0 27 _ rfl).1 rfl
  obtain ⟨y0_28, r0_28, -, -⟩ := vty0 (t0 28 _ rfl).1 rfl
  obtain ⟨y0_29, r0_29, -, -⟩ := vty0 (t0 29 _ rfl).1 rfl
  have r0_30 : g0 30 = .ref (ad 20) := vty2 (t0 30 _ rfl).1 rfl
  obtain ⟨y0_65, r0_65, -, -⟩ := vty1 (t0 65 _ rfl).1 rfl
  have r0_67 : g0 67 = .ref (ad 42) := vty2 (t0 67 _ rfl).1 rfl
  have c0 : w0[0]? = some ((ad 0), ob 11 [.int y0_0, (g0 1), (g0 2), .int h, .ref (ad 2), .ref (ad 3), .ref (ad 4), .ref (ad 5), .ref (ad 6), .ref (ad 7), .int y0_10, .ref (ad 8), .ref (ad 9), .ref (ad 10), (g0 14), (g0 15), .int y0_16, .ref (ad 13), .ref (ad 14), .int y0_19, .int y0_20, .int y0_21, .int y0_22, (g0 23), (g0 24), (g0 25), .ref (ad 18), .ref (ad 19), .int y0_28, .int y0_29, .ref (ad 20), (g0 31), (g0 32), (g0 33), (g0 34), (g0 35), (g0 36), (g0 37), (g0 38), (g0 39), (g0 40), (g0 41), (g0 42), (g0 43), (g0 44), (g0 45), (g0 46), (g0 47), (g0 48), (g0 49), (g0 50), (g0 51), (g0 52), (g0 53), (g0 54), (g0 55), (g0 56), (g0 57), (g0 58), (g0 59), (g0 60), (g0 61), (g0 62), (g0 63), (g0 64), .long y0_65, (g0 66), .ref (ad 42), (g0 68), (g0 69), (g0 70), (g0 71), (g0 72), (g0 73), (g0 74)]) := by
    rw [q0]
    show some (ad 0, ob 11 [g0 0, g0 1, g0 2, g0 3, g0 4, g0 5, g0 6, g0 7, g0 8, g0 9, g0 10, g0 11, g0 12, g0 13, g0 14, g0 15, g0 16, g0 17, g0 18, g0 19, g0 20, g0 21, g0 22, g0 23, g0 24, g0 25, g0 26, g0 27, g0 28, g0 29, g0 30, g0 31, g0 32, g0 33, g0 34, g0 35, g0 36, g0 37, g0 38, g0 39, g0 40, g0 41, g0 42, g0 43, g0 44, g0 45, g0 46, g0 47, g0 48, g0 49, g0 50, g0 51, g0 52, g0 53, g0 54, g0 55, g0 56, g0 57, g0 58, g0 59, g0 60, g0 61, g0 62, g0 63, g0 64, g0 65, g0 66, g0 67, g0 68, g0 69, g0 70, g0 71, g0 72, g0 73, g0 74]) = _
    rw [r0_0, r0_3, r0_4, r0_5, r0_6, r0_7, r0_8, r0_9, r0_10, r0_11, r0_12, r0_13, r0_16, r0_17, r0_18, r0_19, r0_20, r0_21, r0_22, r0_26, r0_27, r0_28, r0_29, r0_30, r0_65, r0_67]
  obtain ⟨f20, c20, -⟩ := WT.ints hW (k := 20) rfl
  obtain ⟨f2, c2, -⟩ := WT.ints hW (k := 2) rfl
  have ef2 : f2 = zp := arrinj ((cgetI c2 0).symm.trans ezp)
  rw [ef2] at c2
  obtain ⟨f3, c3, -⟩ := WT.ints hW (k := 3) rfl
  have ef3 : f3 = zx := arrinj ((cgetI c3 0).symm.trans ezx)
  rw [ef3] at c3
  obtain ⟨f4, c4, -⟩ := WT.ints hW (k := 4) rfl
  have ef4 : f4 = zy := arrinj ((cgetI c4 0).symm.trans ezy)
  rw [ef4] at c4
  obtain ⟨f6, c6, -⟩ := WT.ints hW (k := 6) rfl
  have ef6 : f6 = zh := arrinj ((cgetI c6 0).symm.trans ezh)
  rw [ef6] at c6
  obtain ⟨f5, c5, -⟩ := WT.ints hW (k := 5) rfl
  have ef5 : f5 = zr := arrinj ((cgetI c5 0).symm.trans ezr)
  rw [ef5] at c5
  obtain ⟨f18, c18, -⟩ := WT.ints hW (k := 18) rfl
  have ef18 : f18 = zX := arrinj ((cgetI c18 0).symm.trans ezX)
  rw [ef18] at c18
  obtain ⟨f19, c19, -⟩ := WT.ints hW (k := 19) rfl
  have ef19 : f19 = zY := arrinj ((cgetI c19 0).symm.trans ezY)
  rw [ef19] at c19
  obtain ⟨f42, c42, -⟩ := WT.ints hW (k := 42) rfl
  have hpl := ref_plane hW eh ezp
  have h2 := cw_X11_buckets l G (ad 0) y0_0 (g0 1) (g0 2) h (ad 2) (ad 3) (ad 4) (ad 5) (ad 6) (ad 7) y0_10 (ad 8) (ad 9) (ad 10) (g0 14) (g0 15) y0_16 (ad 13) (ad 14) y0_19 y0_20 y0_21 y0_22 (g0 23) (g0 24) (g0 25) (ad 18) (ad 19) y0_28 y0_29 (ad 20) (g0 31) (g0 32) (g0 33) (g0 34) (g0 35) (g0 36) (g0 37) (g0 38) (g0 39) (g0 40) (g0 41) (g0 42) (g0 43) (g0 44) (g0 45) (g0 46) (g0 47) (g0 48) (g0 49) (g0 50) (g0 51) (g0 52) (g0 53) (g0 54) (g0 55) (g0 56) (g0 57) (g0 58) (g0 59) (g0 60) (g0 61) (g0 62) (g0 63) (g0 64) y0_65 (g0 66) (ad 42) (g0 68) (g0 69) (g0 70) (g0 71) (g0 72) (g0 73) (g0 74) zp zx zy zh f20 zr f42 zX zY pq bq h.toInt pq.toInt bq.toInt rfl rfl rfl (by omega) (by omega) hro
  refine Ct.weak (Ct.and (show Ct l G yX11_buckets cX11_buckets 7 (some .int) { frames := 2, cells := 0, slots := 0, locals := 49 } [.ref (ad 0), .int pq, .long bq] w0 (fun r w1 => POST G ad TM C_buckets (fun k => ((Value.ref (ad 0) :: [.int pq, .long bq])[k]?).getD .null) w0 r w1) from ac_buckets l G ad w0 _ hW (pre_mu (C := C_buckets) (ts := [tI0, tL0]) (As := [.int pq, .long bq]) rfl rfl rfl rfl ⟨fun _ => vty_i0 _, fun _ => vty_l0 _, trivial⟩ ad w0 rfl)) h2 [0, 20, 2, 3, 4, 6, 5, 18, 19, 42] (pk_cons c0 (pk_cons c20 (pk_cons c2 (pk_cons c3 (pk_cons c4 (pk_cons c6 (pk_cons c5 (pk_cons c18 (pk_cons c19 (pk_cons c42 rfl)))))))))) (by decide)) ?_
  rintro r w1 ⟨hp, w2, ⟨rz, fl2, ff2, hr, rfl, rfl⟩, hS⟩
  obtain ⟨A1, hA1, μ2, -, -, -, -, -, -, hW1, hF1⟩ := hp
  obtain ⟨fs0, -, u0, ul0, -, -⟩ := WT.obj hW1 (k := 0) (j := 0) rfl rfl
  obtain ⟨p2, u2, -⟩ := WT.ints hW1 (k := 2) rfl
  obtain ⟨p3, u3, -⟩ := WT.ints hW1 (k := 3) rfl
  obtain ⟨p4, u4, -⟩ := WT.ints hW1 (k := 4) rfl
  obtain ⟨p5, u5, -⟩ := WT.ints hW1 (k := 5) rfl
  obtain ⟨p6, u6, -⟩ := WT.ints hW1 (k := 6) rfl
  obtain ⟨p18, u18, -⟩ := WT.ints hW1 (k := 18) rfl
  obtain ⟨p19, u19, -⟩ := WT.ints hW1 (k := 19) rfl
  obtain ⟨p20, u20, -⟩ := WT.ints hW1 (k := 20) rfl
  obtain ⟨p42, u42, -⟩ := WT.ints hW1 (k := 42) rfl
  exact ⟨hW1, hF1, _, rfl, hr⟩
theorem buckets_same {h p B : Int} {tx ty ux uy : Int32} {fp fr fh fx fy gp gr gh gx gy : Nat → Int32} (e1 : EH h fp gp) (e2 : EH h fr gr) (e3 : EH h fx gx) (e4 : EH h fy gy) (e5 : EH h fh gh) (et : 0 ≤ p ∧ p ≤ 1 → tx = ux ∧ ty = uy) : mBk fp fh fr fx fy p B h.toNat (tx + lw fp fh fx p h.toNat) (ty + lw fp fh fy p h.toNat) = mBk gp gh gr gx gy p B h.toNat (ux + lw gp gh gx p h.toNat) (uy + lw gp gh gy p h.toNat) := by
  by_cases c : (0 ≤ p ∧ p ≤ 1) ∧ 0 ≤ B
  · obtain ⟨t1, t2⟩ := et c.1
    subst t1
    subst t2
    rw [← lw_congr (fp := fp) (fh := fh) (fx := fx) (fun j hj => ⟨e1 j (by omega), e5 j (by omega), e3 j (by omega)⟩), ← lw_congr (fp := fp) (fh := fh) (fx := fy) (fun j hj => ⟨e1 j (by omega), e5 j (by omega), e4 j (by omega)⟩), mBk_i c, mBk_i c]
    rcases Nat.eq_zero_or_pos h.toNat with z | z
    · rw [z]
      rfl
    · rw [bkF_congr (fun k hk => ⟨e1 k (by omega), e5 k (by omega), e2 k (by omega), e3 k (by omega), e4 k (by omega)⟩) z]
  · rw [mBk_no c, mBk_no c]
