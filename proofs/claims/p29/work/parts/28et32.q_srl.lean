/-! best, instead in the typed worlds -/
set_option maxHeartbeats 4000000 in
set_option maxRecDepth 100000 in
theorem ac_bsx (l : Launch) (G : KG) {ad : Nat → Nat} {w0 : va_W} {h pq kq : Int32} {zp zx zy zr zh zd zt : Nat → Int32} (hW : WT G ad TX w0) (eh : fget w0 5 0 = some (.int h)) (ezp : cget w0 6 0 = some (.inr (cyI G, 16, .inl zp))) (ezx : cget w0 7 0 = some (.inr (cyI G, 16, .inl zx))) (ezy : cget w0 8 0 = some (.inr (cyI G, 16, .inl zy))) (ezr : cget w0 9 0 = some (.inr (cyI G, 16, .inl zr))) (ezh : cget w0 10 0 = some (.inr (cyI G, 16, .inl zh))) (ezd : cget w0 11 0 = some (.inr (cyI G, 16, .inl zd))) (ezt : cget w0 105 0 = some (.inr (cyI G, 8, .inl zt))) (hbv : ∀ j, j < h.toInt.toNat → (-99 ≤ (zx j).toInt ∧ (zx j).toInt ≤ 99) ∧ -99 ≤ (zy j).toInt ∧ (zy j).toInt ≤ 99) (hbl : ∀ j, j < h.toInt.toNat → (-200 ≤ ((fun _ => (0 : Int32)) j).toInt ∧ ((fun _ => (0 : Int32)) j).toInt ≤ 0) ∧ 0 ≤ ((fun j => zr j - zh j) j).toInt ∧ ((fun j => zr j - zh j) j).toInt ≤ 200) (hux : 0 ≤ pq.toInt ∧ pq.toInt ≤ 1 → -94000000 ≤ (zt (2 * pq + 0).toNatClampNeg + lw zp zh (axs 0 zx zy) pq.toInt h.toInt.toNat).toInt ∧ (zt (2 * pq + 0).toNatClampNeg + lw zp zh (axs 0 zx zy) pq.toInt h.toInt.toNat).toInt ≤ 94000000) (huy : 0 ≤ pq.toInt ∧ pq.toInt ≤ 1 → -94000000 ≤ (zt (2 * pq + 1).toNatClampNeg + lw zp zh (axs 1 zx zy) pq.toInt h.toInt.toNat).toInt ∧ (zt (2 * pq + 1).toNatClampNeg + lw zp zh (axs 1 zx zy) pq.toInt h.toInt.toNat).toInt ≤ 94000000) : Ct l G yX10_best cX10_best 5 (some .long) { frames := 22, cells := 0, slots := 0, locals := 530 } [.ref (ad 0), .int pq, .int kq] w0 (fun r w1 => WT G ad TX w1 ∧ FRM C_t_X10_best_0.2.2.2.2.1 w0 w1 ∧ (∃ v : Int64, r = some (.long v) ∧ SrE ((0 ≤ pq.toInt ∧ pq.toInt ≤ 1) ∧ 1 ≤ kq.toInt ∧ kq.toInt ≤ 3) (SrX (fun j => (zp j).toInt = pq.toInt) (fun _ => (0 : Int32)) (fun j => zr j - zh j) zx zy h.toInt.toNat (zt (2 * pq + 0).toNatClampNeg + lw zp zh (axs 0 zx zy) pq.toInt h.toInt.toNat).toInt64 (zt (2 * pq + 1).toNatClampNeg + lw zp zh (axs 1 zx zy) pq.toInt h.toInt.toNat).toInt64 kq.toInt v) v)) := by
  obtain ⟨g0, q0, t0⟩ := WT.tab hW (k := 0) rfl
  have r0_0 : g0 0 = .ref (ad 1) := vty2 (t0 0 _ rfl).1 rfl
  have r0_2 : g0 2 = .ref (ad 5) := vty2 (t0 2 _ rfl).1 rfl
  have r0_7 : g0 7 = .ref (ad 35) := vty2 (t0 7 _ rfl).1 rfl
  have r0_11 : g0 11 = .ref (ad 105) := vty2 (t0 11 _ rfl).1 rfl
  have c0 : w0[0]? = some ((ad 0), ob 10 [.ref (ad 1), (g0 1), .ref (ad 5), (g0 3), (g0 4), (g0 5), (g0 6), .ref (ad 35), (g0 8), (g0 9), (g0 10), .ref (ad 105), (g0 12), (g0 13), (g0 14), (g0 15)]) := by
    rw [q0]
    show some (ad 0, ob 10 [g0 0, g0 1, g0 2, g0 3, g0 4, g0 5, g0 6, g0 7, g0 8, g0 9, g0 10, g0 11, g0 12, g0 13, g0 14, g0 15]) = _
    rw [r0_0, r0_2, r0_7, r0_11]
  obtain ⟨g1, q1, t1⟩ := WT.tab hW (k := 1) rfl
  have r1_0 : g1 0 = .ref (ad 2) := vty2 (t1 0 _ rfl).1 rfl
  obtain ⟨y1_1, r1_1, bl1_1, bu1_1⟩ := vty0 (t1 1 _ rfl).1 rfl
  have b1_1 : 0 ≤ y1_1.toInt ∧ y1_1.toInt ≤ 16 := ⟨bl1_1, bu1_1⟩
  have c1 : w0[1]? = some ((ad 1), ob 8 [.ref (ad 2), .int y1_1]) := by
    rw [q1]
    show some (ad 1, ob 8 [g1 0, g1 1]) = _
    rw [r1_0, r1_1]
  obtain ⟨f2, c2, -⟩ := WT.longs hW (k := 2) rfl
  obtain ⟨g5, q5, t5⟩ := WT.tab hW (k := 5) rfl
  have r5_0 : g5 0 = .int h := Option.some.inj ((t5 0 _ rfl).2.symm.trans eh)
  have b5_0 : 0 ≤ h.toInt ∧ h.toInt ≤ 16 := by
    have h := (t5 0 _ rfl).1
    rw [r5_0] at h
    obtain ⟨y, e, l1, u1⟩ := vty0 h rfl
    obtain rfl := Value.int.inj e
    exact ⟨l1, u1⟩
  have r5_1 : g5 1 = .ref (ad 6) := vty2 (t5 1 _ rfl).1 rfl
  have r5_2 : g5 2 = .ref (ad 7) := vty2 (t5 2 _ rfl).1 rfl
  have r5_3 : g5 3 = .ref (ad 8) := vty2 (t5 3 _ rfl).1 rfl
  have r5_4 : g5 4 = .ref (ad 9) := vty2 (t5 4 _ rfl).1 rfl
  have r5_5 : g5 5 = .ref (ad 10) := vty2 (t5 5 _ rfl).1 rfl
  have r5_6 : g5 6 = .ref (ad 11) := vty2 (t5 6 _ rfl).1 rfl
  have c5 : w0[5]? = some ((ad 5), ob 5 [.int h, .ref (ad 6), .ref (ad 7), .ref (ad 8), .ref (ad 9), .ref (ad 10), .ref (ad 11), (g5 7), (g5 8)]) := by
    rw [q5]
    show some (ad 5, ob 5 [g5 0, g5 1, g5 2, g5 3, g5 4, g5 5, g5 6, g5 7, g5 8]) = _
    rw [r5_0, r5_1, r5_2, r5_3, r5_4, r5_5, r5_6]
  obtain ⟨f6, c6, -⟩ := WT.ints hW (k := 6) rfl
  have ef6 : f6 = zp := arrinj ((cgetI c6 0).symm.trans ezp)
  rw [ef6] at c6
  obtain ⟨f7, c7, -⟩ := WT.ints hW (k := 7) rfl
  have ef7 : f7 = zx := arrinj ((cgetI c7 0).symm.trans ezx)
  rw [ef7] at c7
  obtain ⟨f8, c8, -⟩ := WT.ints hW (k := 8) rfl
  have ef8 : f8 = zy := arrinj ((cgetI c8 0).symm.trans ezy)
  rw [ef8] at c8
  obtain ⟨f9, c9, -⟩ := WT.ints hW (k := 9) rfl
  have ef9 : f9 = zr := arrinj ((cgetI c9 0).symm.trans ezr)
  rw [ef9] at c9
  obtain ⟨f10, c10, -⟩ := WT.ints hW (k := 10) rfl
  have ef10 : f10 = zh := arrinj ((cgetI c10 0).symm.trans ezh)
  rw [ef10] at c10
  obtain ⟨f11, c11, -⟩ := WT.ints hW (k := 11) rfl
  have ef11 : f11 = zd := arrinj ((cgetI c11 0).symm.trans ezd)
  rw [ef11] at c11
  obtain ⟨f105, c105, -⟩ := WT.ints hW (k := 105) rfl
  have ef105 : f105 = zt := arrinj ((cgetI c105 0).symm.trans ezt)
  rw [ef105] at c105
  obtain ⟨g35, q35, t35⟩ := WT.tab hW (k := 35) rfl
  obtain ⟨y35_0, r35_0, -, -⟩ := vty0 (t35 0 _ rfl).1 rfl
  obtain ⟨y35_1, r35_1, -, -⟩ := vty0 (t35 1 _ rfl).1 rfl
  obtain ⟨y35_2, r35_2, bl35_2, bu35_2⟩ := vty0 (t35 2 _ rfl).1 rfl
  have b35_2 : 0 ≤ y35_2.toInt ∧ y35_2.toInt ≤ 1 := ⟨bl35_2, bu35_2⟩
  have r35_3 : g35 3 = .ref (ad 36) := vty2 (t35 3 _ rfl).1 rfl
  have r35_4 : g35 4 = .ref (ad 37) := vty2 (t35 4 _ rfl).1 rfl
  have r35_5 : g35 5 = .ref (ad 38) := vty2 (t35 5 _ rfl).1 rfl
  have r35_6 : g35 6 = .ref (ad 39) := vty2 (t35 6 _ rfl).1 rfl
  have r35_7 : g35 7 = .ref (ad 40) := vty2 (t35 7 _ rfl).1 rfl
  have r35_8 : g35 8 = .ref (ad 41) := vty2 (t35 8 _ rfl).1 rfl
  have r35_9 : g35 9 = .ref (ad 42) := vty2 (t35 9 _ rfl).1 rfl
  have r35_10 : g35 10 = .ref (ad 43) := vty2 (t35 10 _ rfl).1 rfl
  have r35_11 : g35 11 = .ref (ad 44) := vty2 (t35 11 _ rfl).1 rfl
  obtain ⟨y35_12, r35_12, -, -⟩ := vty0 (t35 12 _ rfl).1 rfl
  obtain ⟨y35_13, r35_13, -, -⟩ := vty0 (t35 13 _ rfl).1 rfl
  obtain ⟨y35_14, r35_14, -, -⟩ := vty1 (t35 14 _ rfl).1 rfl
  have c35 : w0[35]? = some ((ad 35), ob 6 [.int y35_0, .int y35_1, .int y35_2, .ref (ad 36), .ref (ad 37), .ref (ad 38), .ref (ad 39), .ref (ad 40), .ref (ad 41), .ref (ad 42), .ref (ad 43), .ref (ad 44), .int y35_12, .int y35_13, .long y35_14]) := by
    rw [q35]
    show some (ad 35, ob 6 [g35 0, g35 1, g35 2, g35 3, g35 4, g35 5, g35 6, g35 7, g35 8, g35 9, g35 10, g35 11, g35 12, g35 13, g35 14]) = _
    rw [r35_0, r35_1, r35_2, r35_3, r35_4, r35_5, r35_6, r35_7, r35_8, r35_9, r35_10, r35_11, r35_12, r35_13, r35_14]
  obtain ⟨f36, c36, -⟩ := WT.ints hW (k := 36) rfl
  obtain ⟨f37, c37, -⟩ := WT.ints hW (k := 37) rfl
  obtain ⟨f38, c38, -⟩ := WT.longs hW (k := 38) rfl
  obtain ⟨f39, c39, -⟩ := WT.longs hW (k := 39) rfl
  obtain ⟨f40, c40, -⟩ := WT.longs hW (k := 40) rfl
  obtain ⟨f41, c41, -⟩ := WT.longs hW (k := 41) rfl
  obtain ⟨f42, c42, -⟩ := WT.longs hW (k := 42) rfl
  obtain ⟨f43, c43, -⟩ := WT.ints hW (k := 43) rfl
  obtain ⟨f44, c44, -⟩ := WT.ints hW (k := 44) rfl
  have h2 := cr_X10_bestS l G (ad 0) (ad 1) (g0 1) (ad 5) (g0 3) (g0 4) (g0 5) (g0 6) (ad 35) (g0 8) (g0 9) (g0 10) (ad 105) (g0 12) (g0 13) (g0 14) (g0 15) (ad 2) y1_1 f2 h (ad 6) (ad 7) (ad 8) (ad 9) (ad 10) (ad 11) (g5 7) (g5 8) zp zx zy zr zh zd zt y35_0 y35_1 (ad 36) (ad 37) (ad 38) (ad 39) (ad 40) (ad 41) (ad 42) (ad 43) (ad 44) y35_12 y35_13 y35_14 y35_2 f36 f37 f38 f39 f40 f41 f42 f43 f44 pq kq h.toInt pq.toInt kq.toInt rfl rfl rfl (by omega) hbv hbl hux huy
  refine Ct.weak (Ct.and (show Ct l G yX10_best cX10_best 5 (some .long) { frames := 22, cells := 0, slots := 0, locals := 530 } [.ref (ad 0), .int pq, .int kq] w0 (fun r w1 => POST G ad TX C_t_X10_best_0 (fun k => ((Value.ref (ad 0) :: [.int pq, .int kq])[k]?).getD .null) w0 r w1) from ac_t_X10_best_0 l G ad w0 _ hW (pre_mu (C := C_t_X10_best_0) (ts := [tI0, tI0]) (As := [.int pq, .int kq]) rfl rfl rfl rfl ⟨fun _ => vty_i0 _, fun _ => vty_i0 _, trivial⟩ ad w0 rfl)) h2 [0, 1, 2, 5, 6, 7, 8, 9, 10, 11, 105, 35, 36, 37, 38, 39, 40, 41, 42, 43, 44] (pk_cons c0 (pk_cons c1 (pk_cons c2 (pk_cons c5 (pk_cons c6 (pk_cons c7 (pk_cons c8 (pk_cons c9 (pk_cons c10 (pk_cons c11 (pk_cons c105 (pk_cons c35 (pk_cons c36 (pk_cons c37 (pk_cons c38 (pk_cons c39 (pk_cons c40 (pk_cons c41 (pk_cons c42 (pk_cons c43 (pk_cons c44 rfl))))))))))))))))))))) (by decide)) ?_
  rintro r w1 ⟨hp, w2, ⟨rz, hS_, rfl⟩, hS⟩
  obtain ⟨A1, hA1, μ2, -, -, -, -, -, -, hW1, hF1⟩ := hp
  exact ⟨hW1, hF1, _, rfl, hS_⟩
set_option maxHeartbeats 4000000 in
set_option maxRecDepth 100000 in
theorem ac_bsm (l : Launch) (G : KG) {ad : Nat → Nat} {w0 : va_W} {h pq kq : Int32} {zp zx zy zr zh zd zX zY : Nat → Int32} (hW : WT G ad TM w0) (eh : fget w0 0 3 = some (.int h)) (ezp : cget w0 2 0 = some (.inr (cyI G, 16, .inl zp))) (ezx : cget w0 3 0 = some (.inr (cyI G, 16, .inl zx))) (ezy : cget w0 4 0 = some (.inr (cyI G, 16, .inl zy))) (ezr : cget w0 5 0 = some (.inr (cyI G, 16, .inl zr))) (ezh : cget w0 6 0 = some (.inr (cyI G, 16, .inl zh))) (ezd : cget w0 7 0 = some (.inr (cyI G, 16, .inl zd))) (ezX : cget w0 18 0 = some (.inr (cyI G, 4, .inl zX))) (ezY : cget w0 19 0 = some (.inr (cyI G, 4, .inl zY))) (hbl : ∀ j, j < h.toInt.toNat → (-200 ≤ ((fun _ => (0 : Int32)) j).toInt ∧ ((fun _ => (0 : Int32)) j).toInt ≤ 0) ∧ 0 ≤ ((fun j => zr j - zh j) j).toInt ∧ ((fun j => zr j - zh j) j).toInt ≤ 200) : Ct l G yX11_best cX11_best 3 (some .long) { frames := 22, cells := 0, slots := 0, locals := 562 } [.ref (ad 0), .int pq, .int kq] w0 (fun r w1 => WT G ad TM w1 ∧ FRM C_X11_best_0.2.2.2.2.1 w0 w1 ∧ (∃ v : Int64, r = some (.long v) ∧ SrE ((0 ≤ pq.toInt ∧ pq.toInt ≤ 1) ∧ 1 ≤ kq.toInt ∧ kq.toInt ≤ 3) (SrM (fun j => (zp j).toInt = pq.toInt) (fun _ => (0 : Int32)) (fun j => zr j - zh j) zp zx zy zx zy zh h.toInt.toNat zX zY pq kq.toInt v) v)) := by
  obtain ⟨g0, q0, t0⟩ := WT.tab hW (k := 0) rfl
  obtain ⟨y0_0, r0_0, -, -⟩ := vty0 (t0 0 _ rfl).1 rfl
  obtain ⟨y0_1, r0_1, bl0_1, bu0_1⟩ := vty0 (t0 1 _ rfl).1 rfl
  have b0_1 : 0 ≤ y0_1.toInt ∧ y0_1.toInt ≤ 24 := ⟨bl0_1, bu0_1⟩
  have r0_2 : g0 2 = .ref (ad 1) := vty2 (t0 2 _ rfl).1 rfl
  have r0_3 : g0 3 = .int h := Option.some.inj ((t0 3 _ rfl).2.symm.trans eh)
  have b0_3 : 0 ≤ h.toInt ∧ h.toInt ≤ 16 := by
    have h := (t0 3 _ rfl).1
    rw [r0_3] at h
    obtain ⟨y, e, l1, u1⟩ := vty0 h rfl
    obtain rfl := Value.int.inj e
    exact ⟨l1, u1⟩
  have r0_4 : g0 4 = .ref (ad 2) := vty2 (t0 4 _ rfl).1 rfl
  have r0_5 : g0 5 = .ref (ad 3) := vty2 (t0 5 _ rfl).1 rfl
  have r0_6 : g0 6 = .ref (ad 4) := vty2 (t0 6 _ rfl).1 rfl
  have r0_7 : g0 7 = .ref (ad 5) := vty2 (t0 7 _ rfl).1 rfl
  have r0_8 : g0 8 = .ref (ad 6) := vty2 (t0 8 _ rfl).1 rfl
  have r0_9 : g0 9 = .ref (ad 7) := vty2 (t0 9 _ rfl).1 rfl
  obtain ⟨y0_10, r0_10, -, -⟩ := vty0 (t0 10 _ rfl).1 rfl
  have r0_11 : g0 11 = .ref (ad 8) := vty2 (t0 11 _ rfl).1 rfl
  have r0_12 : g0 12 = .ref (ad 9) := vty2 (t0 12 _ rfl).1 rfl
  have r0_13 : g0 13 = .ref (ad 10) := vty2 (t0 13 _ rfl).1 rfl
  obtain ⟨y0_16, r0_16, -, -⟩ := vty0 (t0 16 _ rfl).1 rfl
  have r0_17 : g0 17 = .ref (ad 13) := vty2 (t0 17 _ rfl).1 rfl
  have r0_18 : g0 18 = .ref (ad 14) := vty2 (t0 18 _ rfl).1 rfl
  obtain ⟨y0_19, r0_19, -, -⟩ := vty0 (t0 19 _ rfl).1 rfl
  obtain ⟨y0_20, r0_20, -, -⟩ := vty0 (t0 20 _ rfl).1 rfl
  obtain ⟨y0_21, r0_21, -, -⟩ := vty0 (t0 21 _ rfl).1 rfl
  obtain ⟨y0_22, r0_22, -, -⟩ := vty0 (t0 22 _ rfl).1 rfl
  have r0_26 : g0 26 = .ref (ad 18) := vty2 (t0 26 _ rfl).1 rfl
  have r0_27 : g0 27 = .ref (ad 19) := vty2 (t0 27 _ rfl).1 rfl
  obtain ⟨y0_28, r0_28, -, -⟩ := vty0 (t0 28 _ rfl).1 rfl
  obtain ⟨y0_29, r0_29, -, -⟩ := vty0 (t0 29 _ rfl).1 rfl
  have r0_30 : g0 30 = .ref (ad 20) := vty2 (t0 30 _ rfl).1 rfl
  have r0_53 : g0 53 = .ref (ad 36) := vty2 (t0 53 _ rfl).1 rfl
  have r0_54 : g0 54 = .ref (ad 37) := vty2 (t0 54 _ rfl).1 rfl
  have r0_55 : g0 55 = .ref (ad 38) := vty2 (t0 55 _ rfl).1 rfl
  have r0_56 : g0 56 = .ref (ad 39) := vty2 (t0 56 _ rfl).1 rfl
  have r0_57 : g0 57 = .ref (ad 40) := vty2 (t0 57 _ rfl).1 rfl
  obtain ⟨y0_58, r0_58, bl0_58, bu0_58⟩ := vty0 (t0 58 _ rfl).1 rfl
  have b0_58 : 0 ≤ y0_58.toInt ∧ y0_58.toInt ≤ 16 := ⟨bl0_58, bu0_58⟩
  obtain ⟨y0_59, r0_59, -, -⟩ := vty0 (t0 59 _ rfl).1 rfl
  obtain ⟨y0_60, r0_60, -, -⟩ := vty0 (t0 60 _ rfl).1 rfl
  obtain ⟨y0_61, r0_61, -, -⟩ := vty1 (t0 61 _ rfl).1 rfl
  obtain ⟨y0_62, r0_62, -, -⟩ := vty0 (t0 62 _ rfl).1 rfl
  obtain ⟨y0_63, r0_63, -, -⟩ := vty0 (t0 63 _ rfl).1 rfl
  obtain ⟨y0_64, r0_64, -, -⟩ := vty0 (t0 64 _ rfl).1 rfl
  have c0 : w0[0]? = some ((ad 0), ob 11 [.int y0_0, .int y0_1, .ref (ad 1), .int h, .ref (ad 2), .ref (ad 3), .ref (ad 4), .ref (ad 5), .ref (ad 6), .ref (ad 7), .int y0_10, .ref (ad 8), .ref (ad 9), .ref (ad 10), (g0 14), (g0 15), .int y0_16, .ref (ad 13), .ref (ad 14), .int y0_19, .int y0_20, .int y0_21, .int y0_22, (g0 23), (g0 24), (g0 25), .ref (ad 18), .ref (ad 19), .int y0_28, .int y0_29, .ref (ad 20), (g0 31), (g0 32), (g0 33), (g0 34), (g0 35), (g0 36), (g0 37), (g0 38), (g0 39), (g0 40), (g0 41), (g0 42), (g0 43), (g0 44), (g0 45), (g0 46), (g0 47), (g0 48), (g0 49), (g0 50), (g0 51), (g0 52), .ref (ad 36), .ref (ad 37), .ref (ad 38), .ref (ad 39), .ref (ad 40), .int y0_58, .int y0_59, .int y0_60, .long y0_61, .int y0_62, .int y0_63, .int y0_64, (g0 65), (g0 66), (g0 67), (g0 68), (g0 69), (g0 70), (g0 71), (g0 72), (g0 73), (g0 74)]) := by
    rw [q0]
    show some (ad 0, ob 11 [g0 0, g0 1, g0 2, g0 3, g0 4, g0 5, g0 6, g0 7, g0 8, g0 9, g0 10, g0 11, g0 12, g0 13, g0 14, g0 15, g0 16, g0 17, g0 18, g0 19, g0 20, g0 21, g0 22, g0 23, g0 24, g0 25, g0 26, g0 27, g0 28, g0 29, g0 30, g0 31, g0 32, g0 33, g0 34, g0 35, g0 36, g0 37, g0 38, g0 39, g0 40, g0 41, g0 42, g0 43, g0 44, g0 45, g0 46, g0 47, g0 48, g0 49, g0 50, g0 51, g0 52, g0 53, g0 54, g0 55, g0 56, g0 57, g0 58, g0 59, g0 60, g0 61, g0 62, g0 63, g0 64, g0 65, g0 66, g0 67, g0 68, g0 69, g0 70, g0 71, g0 72, g0 73, g0 74]) = _
    rw [r0_0, r0_1, r0_2, r0_3, r0_4, r0_5, r0_6, r0_7, r0_8, r0_9, r0_10, r0_11, r0_12, r0_13, r0_16, r0_17, r0_18, r0_19, r0_20, r0_21, r0_22, r0_26, r0_27, r0_28, r0_29, r0_30, r0_53, r0_54, r0_55, r0_56, r0_57, r0_58, r0_59, r0_60, r0_61, r0_62, r0_63, r0_64]
  obtain ⟨f20, c20, -⟩ := WT.ints hW (k := 20) rfl
  obtain ⟨f2, c2, -⟩ := WT.ints hW (k := 2) rfl
  have ef2 : f2 = zp := arrinj ((cgetI c2 0).symm.trans ezp)
  rw [ef2] at c2
  obtain ⟨f3, c3, -⟩ := WT.ints hW (k := 3) rfl
  have ef3 : f3 = zx := arrinj ((cgetI c3 0).symm.trans ezx)
  rw [ef3] at c3
  obtain ⟨f4, c4, -⟩ := WT.ints hW (k := 4) rfl
  have ef4 : f4 = zy := arrinj ((cgetI c4 0).symm.trans ezy)
  rw [ef4] at c4
  obtain ⟨f18, c18, -⟩ := WT.ints hW (k := 18) rfl
  have ef18 : f18 = zX := arrinj ((cgetI c18 0).symm.trans ezX)
  rw [ef18] at c18
  obtain ⟨f19, c19, -⟩ := WT.ints hW (k := 19) rfl
  have ef19 : f19 = zY := arrinj ((cgetI c19 0).symm.trans ezY)
  rw [ef19] at c19
  obtain ⟨f36, c36, -⟩ := WT.ints hW (k := 36) rfl
  obtain ⟨f37, c37, -⟩ := WT.ints hW (k := 37) rfl
  obtain ⟨f38, c38, -⟩ := WT.ints hW (k := 38) rfl
  obtain ⟨f39, c39, -⟩ := WT.ints hW (k := 39) rfl
  obtain ⟨f40, c40, -⟩ := WT.ints hW (k := 40) rfl
  obtain ⟨f5, c5, -⟩ := WT.ints hW (k := 5) rfl
  have ef5 : f5 = zr := arrinj ((cgetI c5 0).symm.trans ezr)
  rw [ef5] at c5
  obtain ⟨f6, c6, -⟩ := WT.ints hW (k := 6) rfl
  have ef6 : f6 = zh := arrinj ((cgetI c6 0).symm.trans ezh)
  rw [ef6] at c6
  obtain ⟨f7, c7, -⟩ := WT.ints hW (k := 7) rfl
  have ef7 : f7 = zd := arrinj ((cgetI c7 0).symm.trans ezd)
  rw [ef7] at c7
  obtain ⟨f1, c1, -⟩ := WT.longs hW (k := 1) rfl
  have hpl := ref_plane hW eh ezp
  have h2 := cr_X11_bestS l G (ad 0) y0_0 y0_1 (ad 1) h (ad 2) (ad 3) (ad 4) (ad 5) (ad 6) (ad 7) y0_10 (ad 8) (ad 9) (ad 10) (g0 14) (g0 15) y0_16 (ad 13) (ad 14) y0_19 y0_20 y0_21 y0_22 (g0 23) (g0 24) (g0 25) (ad 18) (ad 19) y0_28 y0_29 (ad 20) (g0 31) (g0 32) (g0 33) (g0 34) (g0 35) (g0 36) (g0 37) (g0 38) (g0 39) (g0 40) (g0 41) (g0 42) (g0 43) (g0 44) (g0 45) (g0 46) (g0 47) (g0 48) (g0 49) (g0 50) (g0 51) (g0 52) (ad 36) (ad 37) (ad 38) (ad 39) (ad 40) y0_58 y0_59 y0_60 y0_61 y0_62 y0_63 y0_64 (g0 65) (g0 66) (g0 67) (g0 68) (g0 69) (g0 70) (g0 71) (g0 72) (g0 73) (g0 74) f20 zp zx zy zX zY f36 f37 f38 f39 f40 zr zh zd f1 pq kq h.toInt pq.toInt kq.toInt rfl rfl rfl (by omega) hpl hbl
  refine Ct.weak (Ct.and (show Ct l G yX11_best cX11_best 3 (some .long) { frames := 22, cells := 0, slots := 0, locals := 562 } [.ref (ad 0), .int pq, .int kq] w0 (fun r w1 => POST G ad TM C_X11_best_0 (fun k => ((Value.ref (ad 0) :: [.int pq, .int kq])[k]?).getD .null) w0 r w1) from ac_X11_best_0 l G ad w0 _ hW (pre_mu (C := C_X11_best_0) (ts := [tI0, tI0]) (As := [.int pq, .int kq]) rfl rfl rfl rfl ⟨fun _ => vty_i0 _, fun _ => vty_i0 _, trivial⟩ ad w0 rfl)) h2 [0, 20, 2, 3, 4, 18, 19, 36, 37, 38, 39, 40, 5, 6, 7, 1] (pk_cons c0 (pk_cons c20 (pk_cons c2 (pk_cons c3 (pk_cons c4 (pk_cons c18 (pk_cons c19 (pk_cons c36 (pk_cons c37 (pk_cons c38 (pk_cons c39 (pk_cons c40 (pk_cons c5 (pk_cons c6 (pk_cons c7 (pk_cons c1 rfl)))))))))))))))) (by decide)) ?_
  rintro r w1 ⟨hp, w2, ⟨rz, hS_, rfl⟩, hS⟩
  obtain ⟨A1, hA1, μ2, -, -, -, -, -, -, hW1, hF1⟩ := hp
  exact ⟨hW1, hF1, _, rfl, hS_⟩
set_option maxHeartbeats 4000000 in
set_option maxRecDepth 100000 in
theorem ac_isx (l : Launch) (G : KG) {ad : Nat → Nat} {w0 : va_W} {h pq kq : Int32} {zp zx zy zr zh zd zt : Nat → Int32} (hW : WT G ad TX w0) (eh : fget w0 5 0 = some (.int h)) (ezp : cget w0 6 0 = some (.inr (cyI G, 16, .inl zp))) (ezx : cget w0 7 0 = some (.inr (cyI G, 16, .inl zx))) (ezy : cget w0 8 0 = some (.inr (cyI G, 16, .inl zy))) (ezr : cget w0 9 0 = some (.inr (cyI G, 16, .inl zr))) (ezh : cget w0 10 0 = some (.inr (cyI G, 16, .inl zh))) (ezd : cget w0 11 0 = some (.inr (cyI G, 16, .inl zd))) (ezt : cget w0 105 0 = some (.inr (cyI G, 8, .inl zt))) (hbv : ∀ j, j < h.toInt.toNat → (-99 ≤ (zx j).toInt ∧ (zx j).toInt ≤ 99) ∧ -99 ≤ (zy j).toInt ∧ (zy j).toInt ≤ 99) (hbl : ∀ j, j < h.toInt.toNat → (-200 ≤ ((fun j => -zh j - zd j) j).toInt ∧ ((fun j => -zh j - zd j) j).toInt ≤ 0) ∧ 0 ≤ ((fun j => zr j - zh j) j).toInt ∧ ((fun j => zr j - zh j) j).toInt ≤ 200) (hux : 0 ≤ pq.toInt ∧ pq.toInt ≤ 1 → -94000000 ≤ (zt (2 * pq + 0).toNatClampNeg + lw zp zh (axs 0 zx zy) pq.toInt h.toInt.toNat).toInt ∧ (zt (2 * pq + 0).toNatClampNeg + lw zp zh (axs 0 zx zy) pq.toInt h.toInt.toNat).toInt ≤ 94000000) (huy : 0 ≤ pq.toInt ∧ pq.toInt ≤ 1 → -94000000 ≤ (zt (2 * pq + 1).toNatClampNeg + lw zp zh (axs 1 zx zy) pq.toInt h.toInt.toNat).toInt ∧ (zt (2 * pq + 1).toNatClampNeg + lw zp zh (axs 1 zx zy) pq.toInt h.toInt.toNat).toInt ≤ 94000000) : Ct l G yX10_instead cX10_instead 5 (some .long) { frames := 21, cells := 0, slots := 0, locals := 507 } [.ref (ad 0), .int pq, .int kq] w0 (fun r w1 => WT G ad TX w1 ∧ FRM C_t_X10_instead_0.2.2.2.2.1 w0 w1 ∧ (∃ v : Int64, r = some (.long v) ∧ SrE ((0 ≤ pq.toInt ∧ pq.toInt ≤ 1) ∧ 1 ≤ kq.toInt ∧ kq.toInt ≤ 2) (SrX (fun j => (zp j).toInt = pq.toInt) (fun j => -zh j - zd j) (fun j => zr j - zh j) zx zy h.toInt.toNat (zt (2 * pq + 0).toNatClampNeg + lw zp zh (axs 0 zx zy) pq.toInt h.toInt.toNat).toInt64 (zt (2 * pq + 1).toNatClampNeg + lw zp zh (axs 1 zx zy) pq.toInt h.toInt.toNat).toInt64 kq.toInt v) v)) := by
  obtain ⟨g0, q0, t0⟩ := WT.tab hW (k := 0) rfl
  have r0_0 : g0 0 = .ref (ad 1) := vty2 (t0 0 _ rfl).1 rfl
  have r0_2 : g0 2 = .ref (ad 5) := vty2 (t0 2 _ rfl).1 rfl
  have r0_7 : g0 7 = .ref (ad 35) := vty2 (t0 7 _ rfl).1 rfl
  have r0_11 : g0 11 = .ref (ad 105) := vty2 (t0 11 _ rfl).1 rfl
  have c0 : w0[0]? = some ((ad 0), ob 10 [.ref (ad 1), (g0 1), .ref (ad 5), (g0 3), (g0 4), (g0 5), (g0 6), .ref (ad 35), (g0 8), (g0 9), (g0 10), .ref (ad 105), (g0 12), (g0 13), (g0 14), (g0 15)]) := by
    rw [q0]
    show some (ad 0, ob 10 [g0 0, g0 1, g0 2, g0 3, g0 4, g0 5, g0 6, g0 7, g0 8, g0 9, g0 10, g0 11, g0 12, g0 13, g0 14, g0 15]) = _
    rw [r0_0, r0_2, r0_7, r0_11]
  obtain ⟨g1, q1, t1⟩ := WT.tab hW (k := 1) rfl
  have r1_0 : g1 0 = .ref (ad 2) := vty2 (t1 0 _ rfl).1 rfl
  obtain ⟨y1_1, r1_1, bl1_1, bu1_1⟩ := vty0 (t1 1 _ rfl).1 rfl
  have b1_1 : 0 ≤ y1_1.toInt ∧ y1_1.toInt ≤ 16 := ⟨bl1_1, bu1_1⟩
  have c1 : w0[1]? = some ((ad 1), ob 8 [.ref (ad 2), .int y1_1]) := by
    rw [q1]
    show some (ad 1, ob 8 [g1 0, g1 1]) = _
    rw [r1_0, r1_1]
  obtain ⟨f2, c2, -⟩ := WT.longs hW (k := 2) rfl
  obtain ⟨g5, q5, t5⟩ := WT.tab hW (k := 5) rfl
  have r5_0 : g5 0 = .int h := Option.some.inj ((t5 0 _ rfl).2.symm.trans eh)
  have b5_0 : 0 ≤ h.toInt ∧ h.toInt ≤ 16 := by
    have h := (t5 0 _ rfl).1
    rw [r5_0] at h
    obtain ⟨y, e, l1, u1⟩ := vty0 h rfl
    obtain rfl := Value.int.inj e
    exact ⟨l1, u1⟩
  have r5_1 : g5 1 = .ref (ad 6) := vty2 (t5 1 _ rfl).1 rfl
  have r5_2 : g5 2 = .ref (ad 7) := vty2 (t5 2 _ rfl).1 rfl
  have r5_3 : g5 3 = .ref (ad 8) := vty2 (t5 3 _ rfl).1 rfl
  have r5_4 : g5 4 = .ref (ad 9) := vty2 (t5 4 _ rfl).1 rfl
  have r5_5 : g5 5 = .ref (ad 10) := vty2 (t5 5 _ rfl).1 rfl
  have r5_6 : g5 6 = .ref (ad 11) := vty2 (t5 6 _ rfl).1 rfl
  have c5 : w0[5]? = some ((ad 5), ob 5 [.int h, .ref (ad 6), .ref (ad 7), .ref (ad 8), .ref (ad 9), .ref (ad 10), .ref (ad 11), (g5 7), (g5 8)]) := by
    rw [q5]
    show some (ad 5, ob 5 [g5 0, g5 1, g5 2, g5 3, g5 4, g5 5, g5 6, g5 7, g5 8]) = _
    rw [r5_0, r5_1, r5_2, r5_3, r5_4, r5_5, r5_6]
  obtain ⟨f6, c6, -⟩ := WT.ints hW (k := 6) rfl
  have ef6 : f6 = zp := arrinj ((cgetI c6 0).symm.trans ezp)
  rw [ef6] at c6
  obtain ⟨f7, c7, -⟩ := WT.ints hW (k := 7) rfl
  have ef7 : f7 = zx := arrinj ((cgetI c7 0).symm.trans ezx)
  rw [ef7] at c7
  obtain ⟨f8, c8, -⟩ := WT.ints hW (k := 8) rfl
  have ef8 : f8 = zy := arrinj ((cgetI c8 0).symm.trans ezy)
  rw [ef8] at c8
  obtain ⟨f9, c9, -⟩ := WT.ints hW (k := 9) rfl
  have ef9 : f9 = zr := arrinj ((cgetI c9 0).symm.trans ezr)
  rw [ef9] at c9
  obtain ⟨f10, c10, -⟩ := WT.ints hW (k := 10) rfl
  have ef10 : f10 = zh := arrinj ((cgetI c10 0).symm.trans ezh)
  rw [ef10] at c10
  obtain ⟨f11, c11, -⟩ := WT.ints hW (k := 11) rfl
  have ef11 : f11 = zd := arrinj ((cgetI c11 0).symm.trans ezd)
  rw [ef11] at c11
  obtain ⟨f105, c105, -⟩ := WT.ints hW (k := 105) rfl
  have ef105 : f105 = zt := arrinj ((cgetI c105 0).symm.trans ezt)
  rw [ef105] at c105
  obtain ⟨g35, q35, t35⟩ := WT.tab hW (k := 35) rfl
  obtain ⟨y35_0, r35_0, -, -⟩ := vty0 (t35 0 _ rfl).1 rfl
  obtain ⟨y35_1, r35_1, -, -⟩ := vty0 (t35 1 _ rfl).1 rfl
  obtain ⟨y35_2, r35_2, bl35_2, bu35_2⟩ := vty0 (t35 2 _ rfl).1 rfl
  have b35_2 : 0 ≤ y35_2.toInt ∧ y35_2.toInt ≤ 1 := ⟨bl35_2, bu35_2⟩
  have r35_3 : g35 3 = .ref (ad 36) := vty2 (t35 3 _ rfl).1 rfl
  have r35_4 : g35 4 = .ref (ad 37) := vty2 (t35 4 _ rfl).1 rfl
  have r35_5 : g35 5 = .ref (ad 38) := vty2 (t35 5 _ rfl).1 rfl
  have r35_6 : g35 6 = .ref (ad 39) := vty2 (t35 6 _ rfl).1 rfl
  have r35_7 : g35 7 = .ref (ad 40) := vty2 (t35 7 _ rfl).1 rfl
  have r35_8 : g35 8 = .ref (ad 41) := vty2 (t35 8 _ rfl).1 rfl
  have r35_9 : g35 9 = .ref (ad 42) := vty2 (t35 9 _ rfl).1 rfl
  have r35_10 : g35 10 = .ref (ad 43) := vty2 (t35 10 _ rfl).1 rfl
  have r35_11 : g35 11 = .ref (ad 44) := vty2 (t35 11 _ rfl).1 rfl
  obtain ⟨y35_12, r35_12, -, -⟩ := vty0 (t35 12 _ rfl).1 rfl
  obtain ⟨y35_13, r35_13, -, -⟩ := vty0 (t35 13 _ rfl).1 rfl
  obtain ⟨y35_14, r35_14, -, -⟩ := vty1 (t35 14 _ rfl).1 rfl
  have c35 : w0[35]? = some ((ad 35), ob 6 [.int y35_0, .int y35_1, .int y35_2, .ref (ad 36), .ref (ad 37), .ref (ad 38), .ref (ad 39), .ref (ad 40), .ref (ad 41), .ref (ad 42), .ref (ad 43), .ref (ad 44), .int y35_12, .int y35_13, .long y35_14]) := by
    rw [q35]
    show some (ad 35, ob 6 [g35 0, g35 1, g35 2, g35 3, g35 4, g35 5, g35 6, g35 7, g35 8, g35 9, g35 10, g35 11, g35 12, g35 13, g35 14]) = _
    rw [r35_0, r35_1, r35_2, r35_3, r35_4, r35_5, r35_6, r35_7, r35_8, r35_9, r35_10, r35_11, r35_12, r35_13, r35_14]
  obtain ⟨f36, c36, -⟩ := WT.ints hW (k := 36) rfl
  obtain ⟨f37, c37, -⟩ := WT.ints hW (k := 37) rfl
  obtain ⟨f38, c38, -⟩ := WT.longs hW (k := 38) rfl
  obtain ⟨f39, c39, -⟩ := WT.longs hW (k := 39) rfl
  obtain ⟨f40, c40, -⟩ := WT.longs hW (k := 40) rfl
  obtain ⟨f41, c41, -⟩ := WT.longs hW (k := 41) rfl
  obtain ⟨f42, c42, -⟩ := WT.longs hW (k := 42) rfl
  obtain ⟨f43, c43, -⟩ := WT.ints hW (k := 43) rfl
  obtain ⟨f44, c44, -⟩ := WT.ints hW (k := 44) rfl
  have h2 := cr_X10_insteadS l G (ad 0) (ad 1) (g0 1) (ad 5) (g0 3) (g0 4) (g0 5) (g0 6) (ad 35) (g0 8) (g0 9) (g0 10) (ad 105) (g0 12) (g0 13) (g0 14) (g0 15) (ad 2) y1_1 f2 h (ad 6) (ad 7) (ad 8) (ad 9) (ad 10) (ad 11) (g5 7) (g5 8) zp zx zy zr zh zd zt y35_0 y35_1 (ad 36) (ad 37) (ad 38) (ad 39) (ad 40) (ad 41) (ad 42) (ad 43) (ad 44) y35_12 y35_13 y35_14 y35_2 f36 f37 f38 f39 f40 f41 f42 f43 f44 pq kq h.toInt pq.toInt kq.toInt rfl rfl rfl (by omega) hbv hbl hux huy
  refine Ct.weak (Ct.and (show Ct l G yX10_instead cX10_instead 5 (some .long) { frames := 21, cells := 0, slots := 0, locals := 507 } [.ref (ad 0), .int pq, .int kq] w0 (fun r w1 => POST G ad TX C_t_X10_instead_0 (fun k => ((Value.ref (ad 0) :: [.int pq, .int kq])[k]?).getD .null) w0 r w1) from ac_t_X10_instead_0 l G ad w0 _ hW (pre_mu (C := C_t_X10_instead_0) (ts := [tI0, tI0]) (As := [.int pq, .int kq]) rfl rfl rfl rfl ⟨fun _ => vty_i0 _, fun _ => vty_i0 _, trivial⟩ ad w0 rfl)) h2 [0, 1, 2, 5, 6, 7, 8, 9, 10, 11, 105, 35, 36, 37, 38, 39, 40, 41, 42, 43, 44] (pk_cons c0 (pk_cons c1 (pk_cons c2 (pk_cons c5 (pk_cons c6 (pk_cons c7 (pk_cons c8 (pk_cons c9 (pk_cons c10 (pk_cons c11 (pk_cons c105 (pk_cons c35 (pk_cons c36 (pk_cons c37 (pk_cons c38 (pk_cons c39 (pk_cons c40 (pk_cons c41 (pk_cons c42 (pk_cons c43 (pk_cons c44 rfl))))))))))))))))))))) (by decide)) ?_
  rintro r w1 ⟨hp, w2, ⟨rz, hS_, rfl⟩, hS⟩
  obtain ⟨A1, hA1, μ2, -, -, -, -, -, -, hW1, hF1⟩ := hp
  exact ⟨hW1, hF1, _, rfl, hS_⟩
set_option maxHeartbeats 4000000 in
set_option maxRecDepth 100000 in
theorem ac_ism (l : Launch) (G : KG) {ad : Nat → Nat} {w0 : va_W} {h pq kq : Int32} {zp zx zy zr zh zd zX zY : Nat → Int32} (hW : WT G ad TM w0) (eh : fget w0 0 3 = some (.int h)) (ezp : cget w0 2 0 = some (.inr (cyI G, 16, .inl zp))) (ezx : cget w0 3 0 = some (.inr (cyI G, 16, .inl zx))) (ezy : cget w0 4 0 = some (.inr (cyI G, 16, .inl zy))) (ezr : cget w0 5 0 = some (.inr (cyI G, 16, .inl zr))) (ezh : cget w0 6 0 = some (.inr (cyI G, 16, .inl zh))) (ezd : cget w0 7 0 = some (.inr (cyI G, 16, .inl zd))) (ezX : cget w0 18 0 = some (.inr (cyI G, 4, .inl zX))) (ezY : cget w0 19 0 = some (.inr (cyI G, 4, .inl zY))) (hbl : ∀ j, j < h.toInt.toNat → (-200 ≤ ((fun j => -zh j - zd j) j).toInt ∧ ((fun j => -zh j - zd j) j).toInt ≤ 0) ∧ 0 ≤ ((fun j => zr j - zh j) j).toInt ∧ ((fun j => zr j - zh j) j).toInt ≤ 200) : Ct l G yX11_instead cX11_instead 3 (some .long) { frames := 22, cells := 0, slots := 0, locals := 562 } [.ref (ad 0), .int pq, .int kq] w0 (fun r w1 => WT G ad TM w1 ∧ FRM C_X11_instead_0.2.2.2.2.1 w0 w1 ∧ (∃ v : Int64, r = some (.long v) ∧ SrE ((0 ≤ pq.toInt ∧ pq.toInt ≤ 1) ∧ 1 ≤ kq.toInt ∧ kq.toInt ≤ 2) (SrM (fun j => (zp j).toInt = pq.toInt) (fun j => -zh j - zd j) (fun j => zr j - zh j) zp zx zy zx zy zh h.toInt.toNat zX zY pq kq.toInt v) v)) := by
  obtain ⟨g0, q0, t0⟩ := WT.tab hW (k := 0) rfl
  obtain ⟨y0_0, r0_0, -, -⟩ := vty0 (t0 0 _ rfl).1 rfl
  obtain ⟨y0_1, r0_1, bl0_1, bu0_1⟩ := vty0 (t0 1 _ rfl).1 rfl
  have b0_1 : 0 ≤ y0_1.toInt ∧ y0_1.toInt ≤ 24 := ⟨bl0_1, bu0_1⟩
  have r0_2 : g0 2 = .ref (ad 1) := vty2 (t0 2 _ rfl).1 rfl
  have r0_3 : g0 3 = .int h := Option.some.inj ((t0 3 _ rfl).2.symm.trans eh)
  have b0_3 : 0 ≤ h.toInt ∧ h.toInt ≤ 16 := by
    have h := (t0 3 _ rfl).1
    rw [r0_3] at h
    obtain ⟨y, e, l1, u1⟩ := vty0 h rfl
    obtain rfl := Value.int.inj e
    exact ⟨l1, u1⟩
  have r0_4 : g0 4 = .ref (ad 2) := vty2 (t0 4 _ rfl).1 rfl
  have r0_5 : g0 5 = .ref (ad 3) := vty2 (t0 5 _ rfl).1 rfl
  have r0_6 : g0 6 = .ref (ad 4) := vty2 (t0 6 _ rfl).1 rfl
  have r0_7 : g0 7 = .ref (ad 5) := vty2 (t0 7 _ rfl).1 rfl
  have r0_8 : g0 8 = .ref (ad 6) := vty2 (t0 8 _ rfl).1 rfl
  have r0_9 : g0 9 = .ref (ad 7) := vty2 (t0 9 _ rfl).1 rfl
  obtain ⟨y0_10, r0_10, -, -⟩ := vty0 (t0 10 _ rfl).1 rfl
  have r0_11 : g0 11 = .ref (ad 8) := vty2 (t0 11 _ rfl).1 rfl
  have r0_12 : g0 12 = .ref (ad 9) := vty2 (t0 12 _ rfl).1 rfl
  have r0_13 : g0 13 = .ref (ad 10) := vty2 (t0 13 _ rfl).1 rfl
  obtain ⟨y0_16, r0_16, -, -⟩ := vty0 (t0 16 _ rfl).1 rfl
  have r0_17 : g0 17 = .ref (ad 13) := vty2 (t0 17 _ rfl).1 rfl
  have r0_18 : g0 18 = .ref (ad 14) := vty2 (t0 18 _ rfl).1 rfl
  obtain ⟨y0_19, r0_19, -, -⟩ := vty0 (t0 19 _ rfl).1 rfl
  obtain ⟨y0_20, r0_20, -, -⟩ := vty0 (t0 20 _ rfl).1 rfl
  obtain ⟨y0_21, r0_21, -, -⟩ := vty0 (t0 21 _ rfl).1 rfl
  obtain ⟨y0_22, r0_22, -, -⟩ := vty0 (t0 22 _ rfl).1 rfl
  have r0_26 : g0 26 = .ref (ad 18) := vty2 (t0 26 _ rfl).1 rfl
  have r0_27 : g0 27 = .ref (ad 19) := vty2 (t0 27 _ rfl).1 rfl
  obtain ⟨y0_28, r0_28, -, -⟩ := vty0 (t0 28 _ rfl).1 rfl
  obtain ⟨y0_29, r0_29, -, -⟩ := vty0 (t0 29 _ rfl).1 rfl
  have r0_30 : g0 30 = .ref (ad 20) := vty2 (t0 30 _ rfl).1 rfl
  have r0_53 : g0 53 = .ref (ad 36) := vty2 (t0 53 _ rfl).1 rfl
  have r0_54 : g0 54 = .ref (ad 37) := vty2 (t0 54 _ rfl).1 rfl
  have r0_55 : g0 55 = .ref (ad 38) := vty2 (t0 55 _ rfl).1 rfl
  have r0_56 : g0 56 = .ref (ad 39) := vty2 (t0 56 _ rfl).1 rfl
  have r0_57 : g0 57 = .ref (ad 40) := vty2 (t0 57 _ rfl).1 rfl
  obtain ⟨y0_58, r0_58, bl0_58, bu0_58⟩ := vty0 (t0 58 _ rfl).1 rfl
  have b0_58 : 0 ≤ y0_58.toInt ∧ y0_58.toInt ≤ 16 := ⟨bl0_58, bu0_58⟩
  obtain ⟨y0_59, r0_59, -, -⟩ := vty0 (t0 59 _ rfl).1 rfl
  obtain ⟨y0_60, r0_60, -, -⟩ := vty0 (t0 60 _ rfl).1 rfl
  obtain ⟨y0_61, r0_61, -, -⟩ := vty1 (t0 61 _ rfl).1 rfl
  obtain ⟨y0_62, r0_62, -, -⟩ := vty0 (t0 62 _ rfl).1 rfl
  obtain ⟨y0_63, r0_63, -, -⟩ := vty0 (t0 63 _ rfl).1 rfl
  obtain ⟨y0_64, r0_64, -, -⟩ := vty0 (t0 64 _ rfl).1 rfl
  have c0 : w0[0]? = some ((ad 0), ob 11 [.int y0_0, .int y0_1, .ref (ad 1), .int h, .ref (ad 2), .ref (ad 3), .ref (ad 4), .ref (ad 5), .ref (ad 6), .ref (ad 7), .int y0_10, .ref (ad 8), .ref (ad 9), .ref (ad 10), (g0 14), (g0 15), .int y0_16, .ref (ad 13), .ref (ad 14), .int y0_19, .int y0_20, .int y0_21, .int y0_22, (g0 23), (g0 24), (g0 25), .ref (ad 18), .ref (ad 19), .int y0_28, .int y0_29, .ref (ad 20), (g0 31), (g0 32), (g0 33), (g0 34), (g0 35), (g0 36), (g0 37), (g0 38), (g0 39), (g0 40), (g0 41), (g0 42), (g0 43), (g0 44), (g0 45), (g0 46), (g0 47), (g0 48), (g0 49), (g0 50), (g0 51), (g0 52), .ref (ad 36), .ref (ad 37), .ref (ad 38), .ref (ad 39), .ref (ad 40), .int y0_58, .int y0_59, .int y0_60, .long y0_61, .int y0_62, .int y0_63, .int y0_64, (g0 65), (g0 66), (g0 67), (g0 68), (g0 69), (g0 70), (g0 71), (g0 72), (g0 73), (g0 74)]) := by
    rw [q0]
    show some (ad 0, ob 11 [g0 0, g0 1, g0 2, g0 3, g0 4, g0 5, g0 6, g0 7, g0 8, g0 9, g0 10, g0 11, g0 12, g0 13, g0 14, g0 15, g0 16, g0 17, g0 18, g0 19, g0 20, g0 21, g0 22, g0 23, g0 24, g0 25, g0 26, g0 27, g0 28, g0 29, g0 30, g0 31, g0 32, g0 33, g0 34, g0 35, g0 36, g0 37, g0 38, g0 39, g0 40, g0 41, g0 42, g0 43, g0 44, g0 45, g0 46, g0 47, g0 48, g0 49, g0 50, g0 51, g0 52, g0 53, g0 54, g0 55, g0 56, g0 57, g0 58, g0 59, g0 60, g0 61, g0 62, g0 63, g0 64, g0 65, g0 66, g0 67, g0 68, g0 69, g0 70, g0 71, g0 72, g0 73, g0 74]) = _
    rw [r0_0, r0_1, r0_2, r0_3, r0_4, r0_5, r0_6, r0_7, r0_8, r0_9, r0_10, r0_11, r0_12, r0_13, r0_16, r0_17, r0_18, r0_19, r0_20, r0_21, r0_22, r0_26, r0_27, r0_28, r0_29, r0_30, r0_53, r0_54, r0_55, r0_56, r0_57, r0_58, r0_59, r0_60, r0_61, r0_62, r0_63, r0_64]
  obtain ⟨f20, c20, -⟩ := WT.ints hW (k := 20) rfl
  obtain ⟨f2, c2, -⟩ := WT.ints hW (k := 2) rfl
  have ef2 : f2 = zp := arrinj ((cgetI c2 0).symm.trans ezp)
  rw [ef2] at c2
  obtain ⟨f3, c3, -⟩ := WT.ints hW (k := 3) rfl
  have ef3 : f3 = zx := arrinj ((cgetI c3 0).symm.trans ezx)
  rw [ef3] at c3
  obtain ⟨f4, c4, -⟩ := WT.ints hW (k := 4) rfl
  have ef4 : f4 = zy := arrinj ((cgetI c4 0).symm.trans ezy)
  rw [ef4] at c4
  obtain ⟨f18, c18, -⟩ := WT.ints hW (k := 18) rfl
  have ef18 : f18 = zX := arrinj ((cgetI c18 0).symm.trans ezX)
  rw [ef18] at c18
  obtain ⟨f19, c19, -⟩ := WT.ints hW (k := 19) rfl
  have ef19 : f19 = zY := arrinj ((cgetI c19 0).symm.trans ezY)
  rw [ef19] at c19
  obtain ⟨f36, c36, -⟩ := WT.ints hW (k := 36) rfl
  obtain ⟨f37, c37, -⟩ := WT.ints hW (k := 37) rfl
  obtain ⟨f38, c38, -⟩ := WT.ints hW (k := 38) rfl
  obtain ⟨f39, c39, -⟩ := WT.ints hW (k := 39) rfl
  obtain ⟨f40, c40, -⟩ := WT.ints hW (k := 40) rfl
  obtain ⟨f5, c5, -⟩ := WT.ints hW (k := 5) rfl
  have ef5 : f5 = zr := arrinj ((cgetI c5 0).symm.trans ezr)
  rw [ef5] at c5
  obtain ⟨f6, c6, -⟩ := WT.ints hW (k := 6) rfl
  have ef6 : f6 = zh := arrinj ((cgetI c6 0).symm.trans ezh)
  rw [ef6] at c6
  obtain ⟨f7, c7, -⟩ := WT.ints hW (k := 7) rfl
  have ef7 : f7 = zd := arrinj ((cgetI c7 0).symm.trans ezd)
  rw [ef7] at c7
  obtain ⟨f1, c1, -⟩ := WT.longs hW (k := 1) rfl
  have hpl := ref_plane hW eh ezp
  have h2 := cr_X11_insteadS l G (ad 0) y0_0 y0_1 (ad 1) h (ad 2) (ad 3) (ad 4) (ad 5) (ad 6) (ad 7) y0_10 (ad 8) (ad 9) (ad 10) (g0 14) (g0 15) y0_16 (ad 13) (ad 14) y0_19 y0_20 y0_21 y0_22 (g0 23) (g0 24) (g0 25) (ad 18) (ad 19) y0_28 y0_29 (ad 20) (g0 31) (g0 32) (g0 33) (g0 34) (g0 35) (g0 36) (g0 37) (g0 38) (g0 39) (g0 40) (g0 41) (g0 42) (g0 43) (g0 44) (g0 45) (g0 46) (g0 47) (g0 48) (g0 49) (g0 50) (g0 51) (g0 52) (ad 36) (ad 37) (ad 38) (ad 39) (ad 40) y0_58 y0_59 y0_60 y0_61 y0_62 y0_63 y0_64 (g0 65) (g0 66) (g0 67) (g0 68) (g0 69) (g0 70) (g0 71) (g0 72) (g0 73) (g0 74) f20 zp zx zy zX zY f36 f37 f38 f39 f40 zr zh zd f1 pq kq h.toInt pq.toInt kq.toInt rfl rfl rfl (by omega) hpl hbl
  refine Ct.weak (Ct.and (show Ct l G yX11_instead cX11_instead 3 (some .long) { frames := 22, cells := 0, slots := 0, locals := 562 } [.ref (ad 0), .int pq, .int kq] w0 (fun r w1 => POST G ad TM C_X11_instead_0 (fun k => ((Value.ref (ad 0) :: [.int pq, .int kq])[k]?).getD .null) w0 r w1) from ac_X11_instead_0 l G ad w0 _ hW (pre_mu (C := C_X11_instead_0) (ts := [tI0, tI0]) (As := [.int pq, .int kq]) rfl rfl rfl rfl ⟨fun _ => vty_i0 _, fun _ => vty_i0 _, trivial⟩ ad w0 rfl)) h2 [0, 20, 2, 3, 4, 18, 19, 36, 37, 38, 39, 40, 5, 6, 7, 1] (pk_cons c0 (pk_cons c20 (pk_cons c2 (pk_cons c3 (pk_cons c4 (pk_cons c18 (pk_cons c19 (pk_cons c36 (pk_cons c37 (pk_cons c38 (pk_cons c39 (pk_cons c40 (pk_cons c5 (pk_cons c6 (pk_cons c7 (pk_cons c1 rfl)))))))))))))))) (by decide)) ?_
  rintro r w1 ⟨hp, w2, ⟨rz, hS_, rfl⟩, hS⟩
  obtain ⟨A1, hA1, μ2, -, -, -, -, -, -, hW1, hF1⟩ := hp
  exact ⟨hW1, hF1, _, rfl, hS_⟩
set_option maxHeartbeats 4000000 in
set_option maxRecDepth 100000 in
theorem ac_ofx (l : Launch) (G : KG) {ad : Nat → Nat} {w0 : va_W} {h pq kq : Int32} {zp zx zy zr zh zd zt : Nat → Int32} (hW : WT G ad TX w0) (eh : fget w0 5 0 = some (.int h)) (ezp : cget w0 6 0 = some (.inr (cyI G, 16, .inl zp))) (ezx : cget w0 7 0 = some (.inr (cyI G, 16, .inl zx))) (ezy : cget w0 8 0 = some (.inr (cyI G, 16, .inl zy))) (ezr : cget w0 9 0 = some (.inr (cyI G, 16, .inl zr))) (ezh : cget w0 10 0 = some (.inr (cyI G, 16, .inl zh))) (ezd : cget w0 11 0 = some (.inr (cyI G, 16, .inl zd))) (ezt : cget w0 105 0 = some (.inr (cyI G, 8, .inl zt))) (hbv : ∀ j, j < h.toInt.toNat → (-99 ≤ ((fun j => -zx j) j).toInt ∧ ((fun j => -zx j) j).toInt ≤ 99) ∧ -99 ≤ ((fun j => -zy j) j).toInt ∧ ((fun j => -zy j) j).toInt ≤ 99) (hbl : ∀ j, j < h.toInt.toNat → (-200 ≤ ((fun _ => (0 : Int32)) j).toInt ∧ ((fun _ => (0 : Int32)) j).toInt ≤ 0) ∧ 0 ≤ ((fun j => zh j + zd j) j).toInt ∧ ((fun j => zh j + zd j) j).toInt ≤ 200) (hux : 0 ≤ pq.toInt ∧ pq.toInt ≤ 1 → -94000000 ≤ (zt (2 * pq + 0).toNatClampNeg + lw zp zh (axs 0 zx zy) pq.toInt h.toInt.toNat).toInt ∧ (zt (2 * pq + 0).toNatClampNeg + lw zp zh (axs 0 zx zy) pq.toInt h.toInt.toNat).toInt ≤ 94000000) (huy : 0 ≤ pq.toInt ∧ pq.toInt ≤ 1 → -94000000 ≤ (zt (2 * pq + 1).toNatClampNeg + lw zp zh (axs 1 zx zy) pq.toInt h.toInt.toNat).toInt ∧ (zt (2 * pq + 1).toNatClampNeg + lw zp zh (axs 1 zx zy) pq.toInt h.toInt.toNat).toInt ≤ 94000000) : Ct l G yX10_off cX10_off 5 (some .long) { frames := 21, cells := 0, slots := 0, locals := 507 } [.ref (ad 0), .int pq, .int kq] w0 (fun r w1 => WT G ad TX w1 ∧ FRM C_t_X10_off_0.2.2.2.2.1 w0 w1 ∧ (∃ v : Int64, r = some (.long v) ∧ SrE ((0 ≤ pq.toInt ∧ pq.toInt ≤ 1) ∧ 1 ≤ kq.toInt ∧ kq.toInt ≤ 3) (SrX (fun j => (zp j).toInt = pq.toInt) (fun _ => (0 : Int32)) (fun j => zh j + zd j) (fun j => -zx j) (fun j => -zy j) h.toInt.toNat (zt (2 * pq + 0).toNatClampNeg + lw zp zh (axs 0 zx zy) pq.toInt h.toInt.toNat).toInt64 (zt (2 * pq + 1).toNatClampNeg + lw zp zh (axs 1 zx zy) pq.toInt h.toInt.toNat).toInt64 kq.toInt v) v)) := by
  obtain ⟨g0, q0, t0⟩ := WT.tab hW (k := 0) rfl
  have r0_0 : g0 0 = .ref (ad 1) := vty2 (t0 0 _ rfl).1 rfl
  have r0_2 : g0 2 = .ref (ad 5) := vty2 (t0 2 _ rfl).1 rfl
  have r0_7 : g0 7 = .ref (ad 35) := vty2 (t0 7 _ rfl).1 rfl
  have r0_11 : g0 11 = .ref (ad 105) := vty2 (t0 11 _ rfl).1 rfl
  have c0 : w0[0]? = some ((ad 0), ob 10 [.ref (ad 1), (g0 1), .ref (ad 5), (g0 3), (g0 4), (g0 5), (g0 6), .ref (ad 35), (g0 8), (g0 9), (g0 10), .ref (ad 105), (g0 12), (g0 13), (g0 14), (g0 15)]) := by
    rw [q0]
    show some (ad 0, ob 10 [g0 0, g0 1, g0 2, g0 3, g0 4, g0 5, g0 6, g0 7, g0 8, g0 9, g0 10, g0 11, g0 12, g0 13, g0 14, g0 15]) = _
    rw [r0_0, r0_2, r0_7, r0_11]
  obtain ⟨g1, q1, t1⟩ := WT.tab hW (k := 1) rfl
  have r1_0 : g1 0 = .ref (ad 2) := vty2 (t1 0 _ rfl).1 rfl
  obtain ⟨y1_1, r1_1, bl1_1, bu1_1⟩ := vty0 (t1 1 _ rfl).1 rfl
  have b1_1 : 0 ≤ y1_1.toInt ∧ y1_1.toInt ≤ 16 := ⟨bl1_1, bu1_1⟩
  have c1 : w0[1]? = some ((ad 1), ob 8 [.ref (ad 2), .int y1_1]) := by
    rw [q1]
    show some (ad 1, ob 8 [g1 0, g1 1]) = _
    rw [r1_0, r1_1]
  obtain ⟨f2, c2, -⟩ := WT.longs hW (k := 2) rfl
  obtain ⟨g5, q5, t5⟩ := WT.tab hW (k := 5) rfl
  have r5_0 : g5 0 = .int h := Option.some.inj ((t5 0 _ rfl).2.symm.trans eh)
  have b5_0 : 0 ≤ h.toInt ∧ h.toInt ≤ 16 := by
    have h := (t5 0 _ rfl).1
    rw [r5_0] at h
    obtain ⟨y, e, l1, u1⟩ := vty0 h rfl
    obtain rfl := Value.int.inj e
    exact ⟨l1, u1⟩
  have r5_1 : g5 1 = .ref (ad 6) := vty2 (t5 1 _ rfl).1 rfl
  have r5_2 : g5 2 = .ref (ad 7) := vty2 (t5 2 _ rfl).1 rfl
  have r5_3 : g5 3 = .ref (ad 8) := vty2 (t5 3 _ rfl).1 rfl
  have r5_4 : g5 4 = .ref (ad 9) := vty2 (t5 4 _ rfl).1 rfl
  have r5_5 : g5 5 = .ref (ad 10) := vty2 (t5 5 _ rfl).1 rfl
  have r5_6 : g5 6 = .ref (ad 11) := vty2 (t5 6 _ rfl).1 rfl
  have c5 : w0[5]? = some ((ad 5), ob 5 [.int h, .ref (ad 6), .ref (ad 7), .ref (ad 8), .ref (ad 9), .ref (ad 10), .ref (ad 11), (g5 7), (g5 8)]) := by
    rw [q5]
    show some (ad 5, ob 5 [g5 0, g5 1, g5 2, g5 3, g5 4, g5 5, g5 6, g5 7, g5 8]) = _
    rw [r5_0, r5_1, r5_2, r5_3, r5_4, r5_5, r5_6]
  obtain ⟨f6, c6, -⟩ := WT.ints hW (k := 6) rfl
  have ef6 : f6 = zp := arrinj ((cgetI c6 0).symm.trans ezp)
  rw [ef6] at c6
  obtain ⟨f7, c7, -⟩ := WT.ints hW (k := 7) rfl
  have ef7 : f7 = zx := arrinj ((cgetI c7 0).symm.trans ezx)
  rw [ef7] at c7
  obtain ⟨f8, c8, -⟩ := WT.ints hW (k := 8) rfl
  have ef8 : f8 = zy := arrinj ((cgetI c8 0).symm.trans ezy)
  rw [ef8] at c8
  obtain ⟨f9, c9, -⟩ := WT.ints hW (k := 9) rfl
  have ef9 : f9 = zr := arrinj ((cgetI c9 0).symm.trans ezr)
  rw [ef9] at c9
  obtain ⟨f10, c10, -⟩ := WT.ints hW (k := 10) rfl
  have ef10 : f10 = zh := arrinj ((cgetI c10 0).symm.trans ezh)
  rw [ef10] at c10
  obtain ⟨f11, c11, -⟩ := WT.ints hW (k := 11) rfl
  have ef11 : f11 = zd := arrinj ((cgetI c11 0).symm.trans ezd)
  rw [ef11] at c11
  obtain ⟨f105, c105, -⟩ := WT.ints hW (k := 105) rfl
  have ef105 : f105 = zt := arrinj ((cgetI c105 0).symm.trans ezt)
  rw [ef105] at c105
  obtain ⟨g35, q35, t35⟩ := WT.tab hW (k := 35) rfl
  obtain ⟨y35_0, r35_0, -, -⟩ := vty0 (t35 0 _ rfl).1 rfl
  obtain ⟨y35_1, r35_1, -, -⟩ := vty0 (t35 1 _ rfl).1 rfl
  obtain ⟨y35_2, r35_2, bl35_2, bu35_2⟩ := vty0 (t35 2 _ rfl).1 rfl
  have b35_2 : 0 ≤ y35_2.toInt ∧ y35_2.toInt ≤ 1 := ⟨bl35_2, bu35_2⟩
  have r35_3 : g35 3 = .ref (ad 36) := vty2 (t35 3 _ rfl).1 rfl
  have r35_4 : g35 4 = .ref (ad 37) := vty2 (t35 4 _ rfl).1 rfl
  have r35_5 : g35 5 = .ref (ad 38) := vty2 (t35 5 _ rfl).1 rfl
  have r35_6 : g35 6 = .ref (ad 39) := vty2 (t35 6 _ rfl).1 rfl
  have r35_7 : g35 7 = .ref (ad 40) := vty2 (t35 7 _ rfl).1 rfl
  have r35_8 : g35 8 = .ref (ad 41) := vty2 (t35 8 _ rfl).1 rfl
  have r35_9 : g35 9 = .ref (ad 42) := vty2 (t35 9 _ rfl).1 rfl
  have r35_10 : g35 10 = .ref (ad 43) := vty2 (t35 10 _ rfl).1 rfl
  have r35_11 : g35 11 = .ref (ad 44) := vty2 (t35 11 _ rfl).1 rfl
  obtain ⟨y35_12, r35_12, -, -⟩ := vty0 (t35 12 _ rfl).1 rfl
  obtain ⟨y35_13, r35_13, -, -⟩ := vty0 (t35 13 _ rfl).1 rfl
  obtain ⟨y35_14, r35_14, -, -⟩ := vty1 (t35 14 _ rfl).1 rfl
  have c35 : w0[35]? = some ((ad 35), ob 6 [.int y35_0, .int y35_1, .int y35_2, .ref (ad 36), .ref (ad 37), .ref (ad 38), .ref (ad 39), .ref (ad 40), .ref (ad 41), .ref (ad 42), .ref (ad 43), .ref (ad 44), .int y35_12, .int y35_13, .long y35_14]) := by
    rw [q35]
    show some (ad 35, ob 6 [g35 0, g35 1, g35 2, g35 3, g35 4, g35 5, g35 6, g35 7, g35 8, g35 9, g35 10, g35 11, g35 12, g35 13, g35 14]) = _
    rw [r35_0, r35_1, r35_2, r35_3, r35_4, r35_5, r35_6, r35_7, r35_8, r35_9, r35_10, r35_11, r35_12, r35_13, r35_14]
  obtain ⟨f36, c36, -⟩ := WT.ints hW (k := 36) rfl
  obtain ⟨f37, c37, -⟩ := WT.ints hW (k := 37) rfl
  obtain ⟨f38, c38, -⟩ := WT.longs hW (k := 38) rfl
  obtain ⟨f39, c39, -⟩ := WT.longs hW (k := 39) rfl
  obtain ⟨f40, c40, -⟩ := WT.longs hW (k := 40) rfl
  obtain ⟨f41, c41, -⟩ := WT.longs hW (k := 41) rfl
  obtain ⟨f42, c42, -⟩ := WT.longs hW (k := 42) rfl
  obtain ⟨f43, c43, -⟩ := WT.ints hW (k := 43) rfl
  obtain ⟨f44, c44, -⟩ := WT.ints hW (k := 44) rfl
  have h2 := cr_X10_offS l G (ad 0) (ad 1) (g0 1) (ad 5) (g0 3) (g0 4) (g0 5) (g0 6) (ad 35) (g0 8) (g0 9) (g0 10) (ad 105) (g0 12) (g0 13) (g0 14) (g0 15) (ad 2) y1_1 f2 h (ad 6) (ad 7) (ad 8) (ad 9) (ad 10) (ad 11) (g5 7) (g5 8) zp zx zy zr zh zd zt y35_0 y35_1 (ad 36) (ad 37) (ad 38) (ad 39) (ad 40) (ad 41) (ad 42) (ad 43) (ad 44) y35_12 y35_13 y35_14 y35_2 f36 f37 f38 f39 f40 f41 f42 f43 f44 pq kq h.toInt pq.toInt kq.toInt rfl rfl rfl (by omega) hbv hbl hux huy
  refine Ct.weak (Ct.and (show Ct l G yX10_off cX10_off 5 (some .long) { frames := 21, cells := 0, slots := 0, locals := 507 } [.ref (ad 0), .int pq, .int kq] w0 (fun r w1 => POST G ad TX C_t_X10_off_0 (fun k => ((Value.ref (ad 0) :: [.int pq, .int kq])[k]?).getD .null) w0 r w1) from ac_t_X10_off_0 l G ad w0 _ hW (pre_mu (C := C_t_X10_off_0) (ts := [tI0, tI0]) (As := [.int pq, .int kq]) rfl rfl rfl rfl ⟨fun _ => vty_i0 _, fun _ => vty_i0 _, trivial⟩ ad w0 rfl)) h2 [0, 1, 2, 5, 6, 7, 8, 9, 10, 11, 105, 35, 36, 37, 38, 39, 40, 41, 42, 43, 44] (pk_cons c0 (pk_cons c1 (pk_cons c2 (pk_cons c5 (pk_cons c6 (pk_cons c7 (pk_cons c8 (pk_cons c9 (pk_cons c10 (pk_cons c11 (pk_cons c105 (pk_cons c35 (pk_cons c36 (pk_cons c37 (pk_cons c38 (pk_cons c39 (pk_cons c40 (pk_cons c41 (pk_cons c42 (pk_cons c43 (pk_cons c44 rfl))))))))))))))))))))) (by decide)) ?_
  rintro r w1 ⟨hp, w2, ⟨rz, hS_, rfl⟩, hS⟩
  obtain ⟨A1, hA1, μ2, -, -, -, -, -, -, hW1, hF1⟩ := hp
  exact ⟨hW1, hF1, _, rfl, hS_⟩
set_option maxHeartbeats 4000000 in
set_option maxRecDepth 100000 in
theorem ac_ofm (l : Launch) (G : KG) {ad : Nat → Nat} {w0 : va_W} {h pq kq : Int32} {zp zx zy zr zh zd zX zY : Nat → Int32} (hW : WT G ad TM w0) (eh : fget w0 0 3 = some (.int h)) (ezp : cget w0 2 0 = some (.inr (cyI G, 16, .inl zp))) (ezx : cget w0 3 0 = some (.inr (cyI G, 16, .inl zx))) (ezy : cget w0 4 0 = some (.inr (cyI G, 16, .inl zy))) (ezr : cget w0 5 0 = some (.inr (cyI G, 16, .inl zr))) (ezh : cget w0 6 0 = some (.inr (cyI G, 16, .inl zh))) (ezd : cget w0 7 0 = some (.inr (cyI G, 16, .inl zd))) (ezX : cget w0 18 0 = some (.inr (cyI G, 4, .inl zX))) (ezY : cget w0 19 0 = some (.inr (cyI G, 4, .inl zY))) (hbl : ∀ j, j < h.toInt.toNat → (-200 ≤ ((fun _ => (0 : Int32)) j).toInt ∧ ((fun _ => (0 : Int32)) j).toInt ≤ 0) ∧ 0 ≤ ((fun j => zh j + zd j) j).toInt ∧ ((fun j => zh j + zd j) j).toInt ≤ 200) : Ct l G yX11_off cX11_off 4 (some .long) { frames := 20, cells := 0, slots := 0, locals := 513 } [.ref (ad 0), .int pq, .int kq] w0 (fun r w1 => WT G ad TM w1 ∧ FRM C_offq.2.2.2.2.1 w0 w1 ∧ (∃ v : Int64, r = some (.long v) ∧ SrE ((0 ≤ pq.toInt ∧ pq.toInt ≤ 1) ∧ 1 ≤ kq.toInt ∧ kq.toInt ≤ 3) (SrM (fun j => (zp j).toInt = pq.toInt) (fun _ => (0 : Int32)) (fun j => zh j + zd j) zp (fun j => -zx j) (fun j => -zy j) zx zy zh h.toInt.toNat zX zY pq kq.toInt v) v)) := by
  obtain ⟨g0, q0, t0⟩ := WT.tab hW (k := 0) rfl
  obtain ⟨y0_0, r0_0, -, -⟩ := vty0 (t0 0 _ rfl).1 rfl
  obtain ⟨y0_1, r0_1, bl0_1, bu0_1⟩ := vty0 (t0 1 _ rfl).1 rfl
  have b0_1 : 0 ≤ y0_1.toInt ∧ y0_1.toInt ≤ 24 := ⟨bl0_1, bu0_1⟩
  have r0_2 : g0 2 = .ref (ad 1) := vty2 (t0 2 _ rfl).1 rfl
  have r0_3 : g0 3 = .int h := Option.some.inj ((t0 3 _ rfl).2.symm.trans eh)
  have b0_3 : 0 ≤ h.toInt ∧ h.toInt ≤ 16 := by
    have h := (t0 3 _ rfl).1
    rw [r0_3] at h
    obtain ⟨y, e, l1, u1⟩ := vty0 h rfl
    obtain rfl := Value.int.inj e
    exact ⟨l1, u1⟩
  have r0_4 : g0 4 = .ref (ad 2) := vty2 (t0 4 _ rfl).1 rfl
  have r0_5 : g0 5 = .ref (ad 3) := vty2 (t0 5 _ rfl).1 rfl
  have r0_6 : g0 6 = .ref (ad 4) := vty2 (t0 6 _ rfl).1 rfl
  have r0_7 : g0 7 = .ref (ad 5) := vty2 (t0 7 _ rfl).1 rfl
  have r0_8 : g0 8 = .ref (ad 6) := vty2 (t0 8 _ rfl).1 rfl
  have r0_9 : g0 9 = .ref (ad 7) := vty2 (t0 9 _ rfl).1 rfl
  obtain ⟨y0_10, r0_10, -, -⟩ := vty0 (t0 10 _ rfl).1 rfl
  have r0_11 : g0 11 = .ref (ad 8) := vty2 (t0 11 _ rfl).1 rfl
  have r0_12 : g0 12 = .ref (ad 9) := vty2 (t0 12 _ rfl).1 rfl
  have r0_13 : g0 13 = .ref (ad 10) := vty2 (t0 13 _ rfl).1 rfl
  obtain ⟨y0_16, r0_16, -, -⟩ := vty0 (t0 16 _ rfl).1 rfl
  have r0_17 : g0 17 = .ref (ad 13) := vty2 (t0 17 _ rfl).1 rfl
  have r0_18 : g0 18 = .ref (ad 14) := vty2 (t0 18 _ rfl).1 rfl
  obtain ⟨y0_19, r0_19, -, -⟩ := vty0 (t0 19 _ rfl).1 rfl
  obtain ⟨y0_20, r0_20, -, -⟩ := vty0 (t0 20 _ rfl).1 rfl
  obtain ⟨y0_21, r0_21, -, -⟩ := vty0 (t0 21 _ rfl).1 rfl
  obtain ⟨y0_22, r0_22, -, -⟩ := vty0 (t0 22 _ rfl).1 rfl
  have r0_26 : g0 26 = .ref (ad 18) := vty2 (t0 26 _ rfl).1 rfl
  have r0_27 : g0 27 = .ref (ad 19) := vty2 (t0 27 _ rfl).1 rfl
  obtain ⟨y0_28, r0_28, -, -⟩ := vty0 (t0 28 _ rfl).1 rfl
  obtain ⟨y0_29, r0_29, -, -⟩ := vty0 (t0 29 _ rfl).1 rfl
  have r0_30 : g0 30 = .ref (ad 20) := vty2 (t0 30 _ rfl).1 rfl
  have r0_53 : g0 53 = .ref (ad 36) := vty2 (t0 53 _ rfl).1 rfl
  have r0_54 : g0 54 = .ref (ad 37) := vty2 (t0 54 _ rfl).1 rfl
  have r0_55 : g0 55 = .ref (ad 38) := vty2 (t0 55 _ rfl).1 rfl
  have r0_56 : g0 56 = .ref (ad 39) := vty2 (t0 56 _ rfl).1 rfl
  have r0_57 : g0 57 = .ref (ad 40) := vty2 (t0 57 _ rfl).1 rfl
  obtain ⟨y0_58, r0_58, bl0_58, bu0_58⟩ := vty0 (t0 58 _ rfl).1 rfl
  have b0_58 : 0 ≤ y0_58.toInt ∧ y0_58.toInt ≤ 16 := ⟨bl0_58, bu0_58⟩
  obtain ⟨y0_59, r0_59, -, -⟩ := vty0 (t0 59 _ rfl).1 rfl
  obtain ⟨y0_60, r0_60, -, -⟩ := vty0 (t0 60 _ rfl).1 rfl
  obtain ⟨y0_61, r0_61, -, -⟩ := vty1 (t0 61 _ rfl).1 rfl
  obtain ⟨y0_62, r0_62, -, -⟩ := vty0 (t0 62 _ rfl).1 rfl
  obtain ⟨y0_63, r0_63, -, -⟩ := vty0 (t0 63 _ rfl).1 rfl
  obtain ⟨y0_64, r0_64, -, -⟩ := vty0 (t0 64 _ rfl).1 rfl
  have c0 : w0[0]? = some ((ad 0), ob 11 [.int y0_0, .int y0_1, .ref (ad 1), .int h, .ref (ad 2), .ref (ad 3), .ref (ad 4), .ref (ad 5), .ref (ad 6), .ref (ad 7), .int y0_10, .ref (ad 8), .ref (ad 9), .ref (ad 10), (g0 14), (g0 15), .int y0_16, .ref (ad 13), .ref (ad 14), .int y0_19, .int y0_20, .int y0_21, .int y0_22, (g0 23), (g0 24), (g0 25), .ref (ad 18), .ref (ad 19), .int y0_28, .int y0_29, .ref (ad 20), (g0 31), (g0 32), (g0 33), (g0 34), (g0 35), (g0 36), (g0 37), (g0 38), (g0 39), (g0 40), (g0 41), (g0 42), (g0 43), (g0 44), (g0 45), (g0 46), (g0 47), (g0 48), (g0 49), (g0 50), (g0 51), (g0 52), .ref (ad 36), .ref (ad 37), .ref (ad 38), .ref (ad 39), .ref (ad 40), .int y0_58, .int y0_59, .int y0_60, .long y0_61, .int y0_62, .int y0_63, .int y0_64, (g0 65), (g0 66), (g0 67), (g0 68), (g0 69), (g0 70), (g0 71), (g0 72), (g0 73), (g0 74)]) := by
    rw [q0]
    show some (ad 0, ob 11 [g0 0, g0 1, g0 2, g0 3, g0 4, g0 5, g0 6, g0 7, g0 8, g0 9, g0 10, g0 11, g0 12, g0 13, g0 14, g0 15, g0 16, g0 17, g0 18, g0 19, g0 20, g0 21, g0 22, g0 23, g0 24, g0 25, g0 26, g0 27, g0 28, g0 29, g0 30, g0 31, g0 32, g0 33, g0 34, g0 35, g0 36, g0 37, g0 38, g0 39, g0 40, g0 41, g0 42, g0 43, g0 44, g0 45, g0 46, g0 47, g0 48, g0 49, g0 50, g0 51, g0 52, g0 53, g0 54, g0 55, g0 56, g0 57, g0 58, g0 59, g0 60, g0 61, g0 62, g0 63, g0 64, g0 65, g0 66, g0 67, g0 68, g0 69, g0 70, g0 71, g0 72, g0 73, g0 74]) = _
    rw [r0_0, r0_1, r0_2, r0_3, r0_4, r0_5, r0_6, r0_7, r0_8, r0_9, r0_10, r0_11, r0_12, r0_13, r0_16, r0_17, r0_18, r0_19, r0_20, r0_21, r0_22, r0_26, r0_27, r0_28, r0_29, r0_30, r0_53, r0_54, r0_55, r0_56, r0_57, r0_58, r0_59, r0_60, r0_61, r0_62, r0_63, r0_64]
  obtain ⟨f20, c20, -⟩ := WT.ints hW (k := 20) rfl
  obtain ⟨f2, c2, -⟩ := WT.ints hW (k := 2) rfl
  have ef2 : f2 = zp := arrinj ((cgetI c2 0).symm.trans ezp)
  rw [ef2] at c2
  obtain ⟨f3, c3, -⟩ := WT.ints hW (k := 3) rfl
  have ef3 : f3 = zx := arrinj ((cgetI c3 0).symm.trans ezx)
  rw [ef3] at c3
  obtain ⟨f4, c4, -⟩ := WT.ints hW (k := 4) rfl
  have ef4 : f4 = zy := arrinj ((cgetI c4 0).symm.trans ezy)
  rw [ef4] at c4
  obtain ⟨f18, c18, -⟩ := WT.ints hW (k := 18) rfl
  have ef18 : f18 = zX := arrinj ((cgetI c18 0).symm.trans ezX)
  rw [ef18] at c18
  obtain ⟨f19, c19, -⟩ := WT.ints hW (k := 19) rfl
  have ef19 : f19 = zY := arrinj ((cgetI c19 0).symm.trans ezY)
  rw [ef19] at c19
  obtain ⟨f36, c36, -⟩ := WT.ints hW (k := 36) rfl
  obtain ⟨f37, c37, -⟩ := WT.ints hW (k := 37) rfl
  obtain ⟨f38, c38, -⟩ := WT.ints hW (k := 38) rfl
  obtain ⟨f39, c39, -⟩ := WT.ints hW (k := 39) rfl
  obtain ⟨f40, c40, -⟩ := WT.ints hW (k := 40) rfl
  obtain ⟨f5, c5, -⟩ := WT.ints hW (k := 5) rfl
  have ef5 : f5 = zr := arrinj ((cgetI c5 0).symm.trans ezr)
  rw [ef5] at c5
  obtain ⟨f6, c6, -⟩ := WT.ints hW (k := 6) rfl
  have ef6 : f6 = zh := arrinj ((cgetI c6 0).symm.trans ezh)
  rw [ef6] at c6
  obtain ⟨f7, c7, -⟩ := WT.ints hW (k := 7) rfl
  have ef7 : f7 = zd := arrinj ((cgetI c7 0).symm.trans ezd)
  rw [ef7] at c7
  obtain ⟨f1, c1, -⟩ := WT.longs hW (k := 1) rfl
  have hpl := ref_plane hW eh ezp
  have h2 := cr_X11_offS l G (ad 0) y0_0 y0_1 (ad 1) h (ad 2) (ad 3) (ad 4) (ad 5) (ad 6) (ad 7) y0_10 (ad 8) (ad 9) (ad 10) (g0 14) (g0 15) y0_16 (ad 13) (ad 14) y0_19 y0_20 y0_21 y0_22 (g0 23) (g0 24) (g0 25) (ad 18) (ad 19) y0_28 y0_29 (ad 20) (g0 31) (g0 32) (g0 33) (g0 34) (g0 35) (g0 36) (g0 37) (g0 38) (g0 39) (g0 40) (g0 41) (g0 42) (g0 43) (g0 44) (g0 45) (g0 46) (g0 47) (g0 48) (g0 49) (g0 50) (g0 51) (g0 52) (ad 36) (ad 37) (ad 38) (ad 39) (ad 40) y0_58 y0_59 y0_60 y0_61 y0_62 y0_63 y0_64 (g0 65) (g0 66) (g0 67) (g0 68) (g0 69) (g0 70) (g0 71) (g0 72) (g0 73) (g0 74) f20 zp zx zy zX zY f36 f37 f38 f39 f40 zr zh zd f1 pq kq h.toInt pq.toInt kq.toInt rfl rfl rfl (by omega) hpl hbl
  refine Ct.weak (Ct.and (show Ct l G yX11_off cX11_off 4 (some .long) { frames := 20, cells := 0, slots := 0, locals := 513 } [.ref (ad 0), .int pq, .int kq] w0 (fun r w1 => POST G ad TM C_offq (fun k => ((Value.ref (ad 0) :: [.int pq, .int kq])[k]?).getD .null) w0 r w1) from ac_offq l G ad w0 _ hW (pre_mu (C := C_offq) (ts := [tI0, tI0]) (As := [.int pq, .int kq]) rfl rfl rfl rfl ⟨fun _ => vty_i0 _, fun _ => vty_i0 _, trivial⟩ ad w0 rfl)) h2 [0, 20, 2, 3, 4, 18, 19, 36, 37, 38, 39, 40, 5, 6, 7, 1] (pk_cons c0 (pk_cons c20 (pk_cons c2 (pk_cons c3 (pk_cons c4 (pk_cons c18 (pk_cons c19 (pk_cons c36 (pk_cons c37 (pk_cons c38 (pk_cons c39 (pk_cons c40 (pk_cons c5 (pk_cons c6 (pk_cons c7 (pk_cons c1 rfl)))))))))))))))) (by decide)) ?_
  rintro r w1 ⟨hp, w2, ⟨rz, hS_, rfl⟩, hS⟩
  obtain ⟨A1, hA1, μ2, -, -, -, -, -, -, hW1, hF1⟩ := hp
  exact ⟨hW1, hF1, _, rfl, hS_⟩
set_option maxHeartbeats 4000000 in
set_option maxRecDepth 100000 in
theorem ac_fwx (l : Launch) (G : KG) {ad : Nat → Nat} {w0 : va_W} {h pq : Int32} {bq : Int64} {zp zx zy zr zh zd zt : Nat → Int32} (hW : WT G ad TX w0) (eh : fget w0 5 0 = some (.int h)) (ezp : cget w0 6 0 = some (.inr (cyI G, 16, .inl zp))) (ezx : cget w0 7 0 = some (.inr (cyI G, 16, .inl zx))) (ezy : cget w0 8 0 = some (.inr (cyI G, 16, .inl zy))) (ezr : cget w0 9 0 = some (.inr (cyI G, 16, .inl zr))) (ezh : cget w0 10 0 = some (.inr (cyI G, 16, .inl zh))) (ezd : cget w0 11 0 = some (.inr (cyI G, 16, .inl zd))) (ezt : cget w0 105 0 = some (.inr (cyI G, 8, .inl zt))) (hbv : ∀ j, j < h.toInt.toNat → (-99 ≤ (zx j).toInt ∧ (zx j).toInt ≤ 99) ∧ -99 ≤ (zy j).toInt ∧ (zy j).toInt ≤ 99) (hbl : ∀ j, j < h.toInt.toNat → (-200 ≤ ((fun _ => (0 : Int32)) j).toInt ∧ ((fun _ => (0 : Int32)) j).toInt ≤ 0) ∧ 0 ≤ ((fun j => zr j - zh j) j).toInt ∧ ((fun j => zr j - zh j) j).toInt ≤ 200) (hux : 0 ≤ pq.toInt ∧ pq.toInt ≤ 1 → -94000000 ≤ (zt (2 * pq + 0).toNatClampNeg + lw zp zh (axs 0 zx zy) pq.toInt h.toInt.toNat).toInt ∧ (zt (2 * pq + 0).toNatClampNeg + lw zp zh (axs 0 zx zy) pq.toInt h.toInt.toNat).toInt ≤ 94000000) (huy : 0 ≤ pq.toInt ∧ pq.toInt ≤ 1 → -94000000 ≤ (zt (2 * pq + 1).toNatClampNeg + lw zp zh (axs 1 zx zy) pq.toInt h.toInt.toNat).toInt ∧ (zt (2 * pq + 1).toNatClampNeg + lw zp zh (axs 1 zx zy) pq.toInt h.toInt.toNat).toInt ≤ 94000000) : Ct l G yX10_fewest cX10_fewest 5 (some .int) { frames := 22, cells := 0, slots := 0, locals := 530 } [.ref (ad 0), .int pq, .long bq] w0 (fun r w1 => WT G ad TX w1 ∧ FRM C_t_X10_fewest_0.2.2.2.2.1 w0 w1 ∧ (∃ v9 : Int32, r = some (.int v9) ∧ FwR ((0 ≤ pq.toInt ∧ pq.toInt ≤ 1) ∧ 0 ≤ bq.toInt) (fun k v => SrX (fun j => (zp j).toInt = pq.toInt) (fun _ => (0 : Int32)) (fun j => zr j - zh j) zx zy h.toInt.toNat (zt (2 * pq + 0).toNatClampNeg + lw zp zh (axs 0 zx zy) pq.toInt h.toInt.toNat).toInt64 (zt (2 * pq + 1).toNatClampNeg + lw zp zh (axs 1 zx zy) pq.toInt h.toInt.toNat).toInt64 k v) bq.toInt v9)) := by
  obtain ⟨g0, q0, t0⟩ := WT.tab hW (k := 0) rfl
  have r0_0 : g0 0 = .ref (ad 1) := vty2 (t0 0 _ rfl).1 rfl
  have r0_2 : g0 2 = .ref (ad 5) := vty2 (t0 2 _ rfl).1 rfl
  have r0_7 : g0 7 = .ref (ad 35) := vty2 (t0 7 _ rfl).1 rfl
  have r0_11 : g0 11 = .ref (ad 105) := vty2 (t0 11 _ rfl).1 rfl
  have c0 : w0[0]? = some ((ad 0), ob 10 [.ref (ad 1), (g0 1), .ref (ad 5), (g0 3), (g0 4), (g0 5), (g0 6), .ref (ad 35), (g0 8), (g0 9), (g0 10), .ref (ad 105), (g0 12), (g0 13), (g0 14), (g0 15)]) := by
    rw [q0]
    show some (ad 0, ob 10 [g0 0, g0 1, g0 2, g0 3, g0 4, g0 5, g0 6, g0 7, g0 8, g0 9, g0 10, g0 11, g0 12, g0 13, g0 14, g0 15]) = _
    rw [r0_0, r0_2, r0_7, r0_11]
  obtain ⟨g1, q1, t1⟩ := WT.tab hW (k := 1) rfl
  have r1_0 : g1 0 = .ref (ad 2) := vty2 (t1 0 _ rfl).1 rfl
  obtain ⟨y1_1, r1_1, bl1_1, bu1_1⟩ := vty0 (t1 1 _ rfl).1 rfl
  have b1_1 : 0 ≤ y1_1.toInt ∧ y1_1.toInt ≤ 16 := ⟨bl1_1, bu1_1⟩
  have c1 : w0[1]? = some ((ad 1), ob 8 [.ref (ad 2), .int y1_1]) := by
    rw [q1]
    show some (ad 1, ob 8 [g1 0, g1 1]) = _
    rw [r1_0, r1_1]
  obtain ⟨f2, c2, -⟩ := WT.longs hW (k := 2) rfl
  obtain ⟨g5, q5, t5⟩ := WT.tab hW (k := 5) rfl
  have r5_0 : g5 0 = .int h := Option.some.inj ((t5 0 _ rfl).2.symm.trans eh)
  have b5_0 : 0 ≤ h.toInt ∧ h.toInt ≤ 16 := by
    have h := (t5 0 _ rfl).1
    rw [r5_0] at h
    obtain ⟨y, e, l1, u1⟩ := vty0 h rfl
    obtain rfl := Value.int.inj e
    exact ⟨l1, u1⟩
  have r5_1 : g5 1 = .ref (ad 6) := vty2 (t5 1 _ rfl).1 rfl
  have r5_2 : g5 2 = .ref (ad 7) := vty2 (t5 2 _ rfl).1 rfl
  have r5_3 : g5 3 = .ref (ad 8) := vty2 (t5 3 _ rfl).1 rfl
  have r5_4 : g5 4 = .ref (ad 9) := vty2 (t5 4 _ rfl).1 rfl
  have r5_5 : g5 5 = .ref (ad 10) := vty2 (t5 5 _ rfl).1 rfl
  have r5_6 : g5 6 = .ref (ad 11) := vty2 (t5 6 _ rfl).1 rfl
  have c5 : w0[5]? = some ((ad 5), ob 5 [.int h, .ref (ad 6), .ref (ad 7), .ref (ad 8), .ref (ad 9), .ref (ad 10), .ref (ad 11), (g5 7), (g5 8)]) := by
    rw [q5]
    show some (ad 5, ob 5 [g5 0, g5 1, g5 2, g5 3, g5 4, g5 5, g5 6, g5 7, g5 8]) = _
    rw [r5_0, r5_1, r5_2, r5_3, r5_4, r5_5, r5_6]
  obtain ⟨f6, c6, -⟩ := WT.ints hW (k := 6) rfl
  have ef6 : f6 = zp := arrinj ((cgetI c6 0).symm.trans ezp)
  rw [ef6] at c6
  obtain ⟨f7, c7, -⟩ := WT.ints hW (k := 7) rfl
  have ef7 : f7 = zx := arrinj ((cgetI c7 0).symm.trans ezx)
  rw [ef7] at c7
  obtain ⟨f8, c8, -⟩ := WT.ints hW (k := 8) rfl
  have ef8 : f8 = zy := arrinj ((cgetI c8 0).symm.trans ezy)
  rw [ef8] at c8
  obtain ⟨f9, c9, -⟩ := WT.ints hW (k := 9) rfl
  have ef9 : f9 = zr := arrinj ((cgetI c9 0).symm.trans ezr)
  rw [ef9] at c9
  obtain ⟨f10, c10, -⟩ := WT.ints hW (k := 10) rfl
  have ef10 : f10 = zh := arrinj ((cgetI c10 0).symm.trans ezh)
  rw [ef10] at c10
  obtain ⟨f11, c11, -⟩ := WT.ints hW (k := 11) rfl
  have ef11 : f11 = zd := arrinj ((cgetI c11 0).symm.trans ezd)
  rw [ef11] at c11
  obtain ⟨f105, c105, -⟩ := WT.ints hW (k := 105) rfl
  have ef105 : f105 = zt := arrinj ((cgetI c105 0).symm.trans ezt)
  rw [ef105] at c105
  obtain ⟨g35, q35, t35⟩ := WT.tab hW (k := 35) rfl
  obtain ⟨y35_0, r35_0, -, -⟩ := vty0 (t35 0 _ rfl).1 rfl
  obtain ⟨y35_1, r35_1, -, -⟩ := vty0 (t35 1 _ rfl).1 rfl
  obtain ⟨y35_2, r35_2, bl35_2, bu35_2⟩ := vty0 (t35 2 _ rfl).1 rfl
  have b35_2 : 0 ≤ y35_2.toInt ∧ y35_2.toInt ≤ 1 := ⟨bl35_2, bu35_2⟩
  have r35_3 : g35 3 = .ref (ad 36) := vty2 (t35 3 _ rfl).1 rfl
  have r35_4 : g35 4 = .ref (ad 37) := vty2 (t35 4 _ rfl).1 rfl
  have r35_5 : g35 5 = .ref (ad 38) := vty2 (t35 5 _ rfl).1 rfl
  have r35_6 : g35 6 = .ref (ad 39) := vty2 (t35 6 _ rfl).1 rfl
  have r35_7 : g35 7 = .ref (ad 40) := vty2 (t35 7 _ rfl).1 rfl
  have r35_8 : g35 8 = .ref (ad 41) := vty2 (t35 8 _ rfl).1 rfl
  have r35_9 : g35 9 = .ref (ad 42) := vty2 (t35 9 _ rfl).1 rfl
  have r35_10 : g35 10 = .ref (ad 43) := vty2 (t35 10 _ rfl).1 rfl
  have r35_11 : g35 11 = .ref (ad 44) := vty2 (t35 11 _ rfl).1 rfl
  obtain ⟨y35_12, r35_12, -, -⟩ := vty0 (t35 12 _ rfl).1 rfl
  obtain ⟨y35_13, r35_13, -, -⟩ := vty0 (t35 13 _ rfl).1 rfl
  obtain ⟨y35_14, r35_14, -, -⟩ := vty1 (t35 14 _ rfl).1 rfl
  have c35 : w0[35]? = some ((ad 35), ob 6 [.int y35_0, .int y35_1, .int y35_2, .ref (ad 36), .ref (ad 37), .ref (ad 38), .ref (ad 39), .ref (ad 40), .ref (ad 41), .ref (ad 42), .ref (ad 43), .ref (ad 44), .int y35_12, .int y35_13, .long y35_14]) := by
    rw [q35]
    show some (ad 35, ob 6 [g35 0, g35 1, g35 2, g35 3, g35 4, g35 5, g35 6, g35 7, g35 8, g35 9, g35 10, g35 11, g35 12, g35 13, g35 14]) = _
    rw [r35_0, r35_1, r35_2, r35_3, r35_4, r35_5, r35_6, r35_7, r35_8, r35_9, r35_10, r35_11, r35_12, r35_13, r35_14]
  obtain ⟨f36, c36, -⟩ := WT.ints hW (k := 36) rfl
  obtain ⟨f37, c37, -⟩ := WT.ints hW (k := 37) rfl
  obtain ⟨f38, c38, -⟩ := WT.longs hW (k := 38) rfl
  obtain ⟨f39, c39, -⟩ := WT.longs hW (k := 39) rfl
  obtain ⟨f40, c40, -⟩ := WT.longs hW (k := 40) rfl
  obtain ⟨f41, c41, -⟩ := WT.longs hW (k := 41) rfl
  obtain ⟨f42, c42, -⟩ := WT.longs hW (k := 42) rfl
  obtain ⟨f43, c43, -⟩ := WT.ints hW (k := 43) rfl
  obtain ⟨f44, c44, -⟩ := WT.ints hW (k := 44) rfl
  have h2 := cr_X10_fewestS l G (ad 0) (ad 1) (g0 1) (ad 5) (g0 3) (g0 4) (g0 5) (g0 6) (ad 35) (g0 8) (g0 9) (g0 10) (ad 105) (g0 12) (g0 13) (g0 14) (g0 15) (ad 2) y1_1 f2 h (ad 6) (ad 7) (ad 8) (ad 9) (ad 10) (ad 11) (g5 7) (g5 8) zp zx zy zr zh zd zt y35_0 y35_1 (ad 36) (ad 37) (ad 38) (ad 39) (ad 40) (ad 41) (ad 42) (ad 43) (ad 44) y35_12 y35_13 y35_14 y35_2 f36 f37 f38 f39 f40 f41 f42 f43 f44 pq bq h.toInt pq.toInt bq.toInt rfl rfl rfl (by omega) hbv hbl hux huy
  refine Ct.weak (Ct.and (show Ct l G yX10_fewest cX10_fewest 5 (some .int) { frames := 22, cells := 0, slots := 0, locals := 530 } [.ref (ad 0), .int pq, .long bq] w0 (fun r w1 => POST G ad TX C_t_X10_fewest_0 (fun k => ((Value.ref (ad 0) :: [.int pq, .long bq])[k]?).getD .null) w0 r w1) from ac_t_X10_fewest_0 l G ad w0 _ hW (pre_mu (C := C_t_X10_fewest_0) (ts := [tI0, tL0]) (As := [.int pq, .long bq]) rfl rfl rfl rfl ⟨fun _ => vty_i0 _, fun _ => vty_l0 _, trivial⟩ ad w0 rfl)) h2 [0, 1, 2, 5, 6, 7, 8, 9, 10, 11, 105, 35, 36, 37, 38, 39, 40, 41, 42, 43, 44] (pk_cons c0 (pk_cons c1 (pk_cons c2 (pk_cons c5 (pk_cons c6 (pk_cons c7 (pk_cons c8 (pk_cons c9 (pk_cons c10 (pk_cons c11 (pk_cons c105 (pk_cons c35 (pk_cons c36 (pk_cons c37 (pk_cons c38 (pk_cons c39 (pk_cons c40 (pk_cons c41 (pk_cons c42 (pk_cons c43 (pk_cons c44 rfl))))))))))))))))))))) (by decide)) ?_
  rintro r w1 ⟨hp, w2, ⟨rz, hS_, rfl⟩, hS⟩
  obtain ⟨A1, hA1, μ2, -, -, -, -, -, -, hW1, hF1⟩ := hp
  exact ⟨hW1, hF1, _, rfl, hS_⟩
set_option maxHeartbeats 4000000 in
set_option maxRecDepth 100000 in
theorem ac_fwm (l : Launch) (G : KG) {ad : Nat → Nat} {w0 : va_W} {h pq : Int32} {bq : Int64} {zp zx zy zr zh zd zX zY : Nat → Int32} (hW : WT G ad TM w0) (eh : fget w0 0 3 = some (.int h)) (ezp : cget w0 2 0 = some (.inr (cyI G, 16, .inl zp))) (ezx : cget w0 3 0 = some (.inr (cyI G, 16, .inl zx))) (ezy : cget w0 4 0 = some (.inr (cyI G, 16, .inl zy))) (ezr : cget w0 5 0 = some (.inr (cyI G, 16, .inl zr))) (ezh : cget w0 6 0 = some (.inr (cyI G, 16, .inl zh))) (ezd : cget w0 7 0 = some (.inr (cyI G, 16, .inl zd))) (ezX : cget w0 18 0 = some (.inr (cyI G, 4, .inl zX))) (ezY : cget w0 19 0 = some (.inr (cyI G, 4, .inl zY))) (hbl : ∀ j, j < h.toInt.toNat → (-200 ≤ ((fun _ => (0 : Int32)) j).toInt ∧ ((fun _ => (0 : Int32)) j).toInt ≤ 0) ∧ 0 ≤ ((fun j => zr j - zh j) j).toInt ∧ ((fun j => zr j - zh j) j).toInt ≤ 200) : Ct l G yX11_fewest cX11_fewest 5 (some .int) { frames := 21, cells := 0, slots := 0, locals := 538 } [.ref (ad 0), .int pq, .long bq] w0 (fun r w1 => WT G ad TM w1 ∧ FRM C_X11_fewest_0.2.2.2.2.1 w0 w1 ∧ (∃ v9 : Int32, r = some (.int v9) ∧ FwR ((0 ≤ pq.toInt ∧ pq.toInt ≤ 1) ∧ 0 ≤ bq.toInt) (fun k v => SrM (fun j => (zp j).toInt = pq.toInt) (fun _ => (0 : Int32)) (fun j => zr j - zh j) zp zx zy zx zy zh h.toInt.toNat zX zY pq k v) bq.toInt v9)) := by
  obtain ⟨g0, q0, t0⟩ := WT.tab hW (k := 0) rfl
  obtain ⟨y0_0, r0_0, -, -⟩ := vty0 (t0 0 _ rfl).1 rfl
  obtain ⟨y0_1, r0_1, bl0_1, bu0_1⟩ := vty0 (t0 1 _ rfl).1 rfl
  have b0_1 : 0 ≤ y0_1.toInt ∧ y0_1.toInt ≤ 24 := ⟨bl0_1, bu0_1⟩
  have r0_2 : g0 2 = .ref (ad 1) := vty2 (t0 2 _ rfl).1 rfl
  have r0_3 : g0 3 = .int h := Option.some.inj ((t0 3 _ rfl).2.symm.trans eh)
  have b0_3 : 0 ≤ h.toInt ∧ h.toInt ≤ 16 := by
    have h := (t0 3 _ rfl).1
    rw [r0_3] at h
    obtain ⟨y, e, l1, u1⟩ := vty0 h rfl
    obtain rfl := Value.int.inj e
    exact ⟨l1, u1⟩
  have r0_4 : g0 4 = .ref (ad 2) := vty2 (t0 4 _ rfl).1 rfl
  have r0_5 : g0 5 = .ref (ad 3) := vty2 (t0 5 _ rfl).1 rfl
  have r0_6 : g0 6 = .ref (ad 4) := vty2 (t0 6 _ rfl).1 rfl
  have r0_7 : g0 7 = .ref (ad 5) := vty2 (t0 7 _ rfl).1 rfl
  have r0_8 : g0 8 = .ref (ad 6) := vty2 (t0 8 _ rfl).1 rfl
  have r0_9 : g0 9 = .ref (ad 7) := vty2 (t0 9 _ rfl).1 rfl
  obtain ⟨y0_10, r0_10, -, -⟩ := vty0 (t0 10 _ rfl).1 rfl
  have r0_11 : g0 11 = .ref (ad 8) := vty2 (t0 11 _ rfl).1 rfl
  have r0_12 : g0 12 = .ref (ad 9) := vty2 (t0 12 _ rfl).1 rfl
  have r0_13 : g0 13 = .ref (ad 10) := vty2 (t0 13 _ rfl).1 rfl
  obtain ⟨y0_16, r0_16, -, -⟩ := vty0 (t0 16 _ rfl).1 rfl
  have r0_17 : g0 17 = .ref (ad 13) := vty2 (t0 17 _ rfl).1 rfl
  have r0_18 : g0 18 = .ref (ad 14) := vty2 (t0 18 _ rfl).1 rfl
  obtain ⟨y0_19, r0_19, -, -⟩ := vty0 (t0 19 _ rfl).1 rfl
  obtain ⟨y0_20, r0_20, -, -⟩ := vty0 (t0 20 _ rfl).1 rfl
  obtain ⟨y0_21, r0_21, -, -⟩ := vty0 (t0 21 _ rfl).1 rfl
  obtain ⟨y0_22, r0_22, -, -⟩ := vty0 (t0 22 _ rfl).1 rfl
  have r0_26 : g0 26 = .ref (ad 18) := vty2 (t0 26 _ rfl).1 rfl
  have r0_27 : g0 27 = .ref (ad 19) := vty2 (t0 27 _ rfl).1 rfl
  obtain ⟨y0_28, r0_28, -, -⟩ := vty0 (t0 28 _ rfl).1 rfl
  obtain ⟨y0_29, r0_29, -, -⟩ := vty0 (t0 29 _ rfl).1 rfl
  have r0_30 : g0 30 = .ref (ad 20) := vty2 (t0 30 _ rfl).1 rfl
  have r0_53 : g0 53 = .ref (ad 36) := vty2 (t0 53 _ rfl).1 rfl
  have r0_54 : g0 54 = .ref (ad 37) := vty2 (t0 54 _ rfl).1 rfl
  have r0_55 : g0 55 = .ref (ad 38) := vty2 (t0 55 _ rfl).1 rfl
  have r0_56 : g0 56 = .ref (ad 39) := vty2 (t0 56 _ rfl).1 rfl
  have r0_57 : g0 57 = .ref (ad 40) := vty2 (t0 57 _ rfl).1 rfl
  obtain ⟨y0_58, r0_58, bl0_58, bu0_58⟩ := vty0 (t0 58 _ rfl).1 rfl
  have b0_58 : 0 ≤ y0_58.toInt ∧ y0_58.toInt ≤ 16 := ⟨bl0_58, bu0_58⟩
  obtain ⟨y0_59, r0_59, -, -⟩ := vty0 (t0 59 _ rfl).1 rfl
  obtain ⟨y0_60, r0_60, -, -⟩ := vty0 (t0 60 _ rfl).1 rfl
  obtain ⟨y0_61, r0_61, -, -⟩ := vty1 (t0 61 _ rfl).1 rfl
  obtain ⟨y0_62, r0_62, -, -⟩ := vty0 (t0 62 _ rfl).1 rfl
  obtain ⟨y0_63, r0_63, -, -⟩ := vty0 (t0 63 _ rfl).1 rfl
  obtain ⟨y0_64, r0_64, -, -⟩ := vty0 (t0 64 _ rfl).1 rfl
  have c0 : w0[0]? = some ((ad 0), ob 11 [.int y0_0, .int y0_1, .ref (ad 1), .int h, .ref (ad 2), .ref (ad 3), .ref (ad 4), .ref (ad 5), .ref (ad 6), .ref (ad 7), .int y0_10, .ref (ad 8), .ref (ad 9), .ref (ad 10), (g0 14), (g0 15), .int y0_16, .ref (ad 13), .ref (ad 14), .int y0_19, .int y0_20, .int y0_21, .int y0_22, (g0 23), (g0 24), (g0 25), .ref (ad 18), .ref (ad 19), .int y0_28, .int y0_29, .ref (ad 20), (g0 31), (g0 32), (g0 33), (g0 34), (g0 35), (g0 36), (g0 37), (g0 38), (g0 39), (g0 40), (g0 41), (g0 42), (g0 43), (g0 44), (g0 45), (g0 46), (g0 47), (g0 48), (g0 49), (g0 50), (g0 51), (g0 52), .ref (ad 36), .ref (ad 37), .ref (ad 38), .ref (ad 39), .ref (ad 40), .int y0_58, .int y0_59, .int y0_60, .long y0_61, .int y0_62, .int y0_63, .int y0_64, (g0 65), (g0 66), (g0 67), (g0 68), (g0 69), (g0 70), (g0 71), (g0 72), (g0 73), (g0 74)]) := by
    rw [q0]
    show some (ad 0, ob 11 [g0 0, g0 1, g0 2, g0 3, g0 4, g0 5, g0 6, g0 7, g0 8, g0 9, g0 10, g0 11, g0 12, g0 13, g0 14, g0 15, g0 16, g0 17, g0 18, g0 19, g0 20, g0 21, g0 22, g0 23, g0 24, g0 25, g0 26, g0 27, g0 28, g0 29, g0 30, g0 31, g0 32, g0 33, g0 34, g0 35, g0 36, g0 37, g0 38, g0 39, g0 40, g0 41, g0 42, g0 43, g0 44, g0 45, g0 46, g0 47, g0 48, g0 49, g0 50, g0 51, g0 52, g0 53, g0 54, g0 55, g0 56, g0 57, g0 58, g0 59, g0 60, g0 61, g0 62, g0 63, g0 64, g0 65, g0 66, g0 67, g0 68, g0 69, g0 70, g0 71, g0 72, g0 73, g0 74]) = _
    rw [r0_0, r0_1, r0_2, r0_3, r0_4, r0_5, r0_6, r0_7, r0_8, r0_9, r0_10, r0_11, r0_12, r0_13, r0_16, r0_17, r0_18, r0_19, r0_20, r0_21, r0_22, r0_26, r0_27, r0_28, r0_29, r0_30, r0_53, r0_54, r0_55, r0_56, r0_57, r0_58, r0_59, r0_60, r0_61, r0_62, r0_63, r0_64]
  obtain ⟨f20, c20, -⟩ := WT.ints hW (k := 20) rfl
  obtain ⟨f2, c2, -⟩ := WT.ints hW (k := 2) rfl
  have ef2 : f2 = zp := arrinj ((cgetI c2 0).symm.trans ezp)
  rw [ef2] at c2
  obtain ⟨f3, c3, -⟩ := WT.ints hW (k := 3) rfl
  have ef3 : f3 = zx := arrinj ((cgetI c3 0).symm.trans ezx)
  rw [ef3] at c3
  obtain ⟨f4, c4, -⟩ := WT.ints hW (k := 4) rfl
  have ef4 : f4 = zy := arrinj ((cgetI c4 0).symm.trans ezy)
  rw [ef4] at c4
  obtain ⟨f18, c18, -⟩ := WT.ints hW (k := 18) rfl
  have ef18 : f18 = zX := arrinj ((cgetI c18 0).symm.trans ezX)
  rw [ef18] at c18
  obtain ⟨f19, c19, -⟩ := WT.ints hW (k := 19) rfl
  have ef19 : f19 = zY := arrinj ((cgetI c19 0).symm.trans ezY)
  rw [ef19] at c19
  obtain ⟨f36, c36, -⟩ := WT.ints hW (k := 36) rfl
  obtain ⟨f37, c37, -⟩ := WT.ints hW (k := 37) rfl
  obtain ⟨f38, c38, -⟩ := WT.ints hW (k := 38) rfl
  obtain ⟨f39, c39, -⟩ := WT.ints hW (k := 39) rfl
  obtain ⟨f40, c40, -⟩ := WT.ints hW (k := 40) rfl
  obtain ⟨f5, c5, -⟩ := WT.ints hW (k := 5) rfl
  have ef5 : f5 = zr := arrinj ((cgetI c5 0).symm.trans ezr)
  rw [ef5] at c5
  obtain ⟨f6, c6, -⟩ := WT.ints hW (k := 6) rfl
  have ef6 : f6 = zh := arrinj ((cgetI c6 0).symm.trans ezh)
  rw [ef6] at c6
  obtain ⟨f7, c7, -⟩ := WT.ints hW (k := 7) rfl
  have ef7 : f7 = zd := arrinj ((cgetI c7 0).symm.trans ezd)
  rw [ef7] at c7
  obtain ⟨f1, c1, -⟩ := WT.longs hW (k := 1) rfl
  have hpl := ref_plane hW eh ezp
  have h2 := cr_X11_fewestS l G (ad 0) y0_0 y0_1 (ad 1) h (ad 2) (ad 3) (ad 4) (ad 5) (ad 6) (ad 7) y0_10 (ad 8) (ad 9) (ad 10) (g0 14) (g0 15) y0_16 (ad 13) (ad 14) y0_19 y0_20 y0_21 y0_22 (g0 23) (g0 24) (g0 25) (ad 18) (ad 19) y0_28 y0_29 (ad 20) (g0 31) (g0 32) (g0 33) (g0 34) (g0 35) (g0 36) (g0 37) (g0 38) (g0 39) (g0 40) (g0 41) (g0 42) (g0 43) (g0 44) (g0 45) (g0 46) (g0 47) (g0 48) (g0 49) (g0 50) (g0 51) (g0 52) (ad 36) (ad 37) (ad 38) (ad 39) (ad 40) y0_58 y0_59 y0_60 y0_61 y0_62 y0_63 y0_64 (g0 65) (g0 66) (g0 67) (g0 68) (g0 69) (g0 70) (g0 71) (g0 72) (g0 73) (g0 74) f20 zp zx zy zX zY f36 f37 f38 f39 f40 zr zh zd f1 pq bq h.toInt pq.toInt bq.toInt rfl rfl rfl (by omega) hpl hbl
  refine Ct.weak (Ct.and (show Ct l G yX11_fewest cX11_fewest 5 (some .int) { frames := 21, cells := 0, slots := 0, locals := 538 } [.ref (ad 0), .int pq, .long bq] w0 (fun r w1 => POST G ad TM C_X11_fewest_0 (fun k => ((Value.ref (ad 0) :: [.int pq, .long bq])[k]?).getD .null) w0 r w1) from ac_X11_fewest_0 l G ad w0 _ hW (pre_mu (C := C_X11_fewest_0) (ts := [tI0, tL0]) (As := [.int pq, .long bq]) rfl rfl rfl rfl ⟨fun _ => vty_i0 _, fun _ => vty_l0 _, trivial⟩ ad w0 rfl)) h2 [0, 20, 2, 3, 4, 18, 19, 36, 37, 38, 39, 40, 5, 6, 7, 1] (pk_cons c0 (pk_cons c20 (pk_cons c2 (pk_cons c3 (pk_cons c4 (pk_cons c18 (pk_cons c19 (pk_cons c36 (pk_cons c37 (pk_cons c38 (pk_cons c39 (pk_cons c40 (pk_cons c5 (pk_cons c6 (pk_cons c7 (pk_cons c1 rfl)))))))))))))))) (by decide)) ?_
  rintro r w1 ⟨hp, w2, ⟨rz, hS_, rfl⟩, hS⟩
  obtain ⟨A1, hA1, μ2, -, -, -, -, -, -, hW1, hF1⟩ := hp
  exact ⟨hW1, hF1, _, rfl, hS_⟩
