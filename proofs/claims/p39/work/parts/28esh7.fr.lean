/-! both, floor, whose in the typed worlds -/
theorem mTwo_same {ok : Prop} [Decidable ok] {a b : Int} (h : ok → (a = 0 ↔ b = 0)) : mTwo ok a = mTwo ok b := by
  by_cases c : ok
  · by_cases d : a = 0
    · rw [mTwo_0 c d, mTwo_0 c ((h c).mp d)]
    · rw [mTwo_1 c d, mTwo_1 c (fun q => d ((h c).mpr q))]
  · rw [mTwo_no c, mTwo_no c]
theorem both_same {ok : Prop} [Decidable ok] {f g : Nat → Int32} (e : ∀ k, k < 4 → f k = g k) (b : ∀ j : Nat, j < 4 → -9 ≤ (g j).toInt ∧ (g j).toInt ≤ 9) : mTwo ok (f 0 * f 3 - f 1 * f 2).toInt = mTwo ok ((g 0).toInt64 * (g 3).toInt64 - (g 1).toInt64 * (g 2).toInt64).toInt := by
  rw [e 0 (by decide), e 1 (by decide), e 2 (by decide), e 3 (by decide)]
  have d := det_i (b 0 (by decide)) (b 1 (by decide)) (b 2 (by decide)) (b 3 (by decide))
  rw [d.1, d.2]
theorem floor_same {s u v p q : Int} {f g : Nat → Int32} {uq vq : Int32} (eu : uq.toInt = u) (ev : vq.toInt = v) (hs : s ≤ 6) (e : ∀ k : Nat, k < 6 → (k : Int) < s → f k = g k) : mTwo (okFl s u v p q) ((f uq.toNatClampNeg).toInt64 - (f vq.toNatClampNeg).toInt64).toInt = mTwo (okFl s u v p q) (g uq.toNatClampNeg - g vq.toNatClampNeg).toInt := by
  refine mTwo_same (fun ok => ?_)
  unfold okFl at ok
  rw [e uq.toNatClampNeg (show uq.toInt.toNat < 6 by omega) (show ((uq.toInt.toNat : Nat) : Int) < s by omega), e vq.toNatClampNeg (show vq.toInt.toNat < 6 by omega) (show ((vq.toInt.toNat : Nat) : Int) < s by omega)]
  exact sub0.symm
theorem sub64 {x y : Int32} (hx : 0 ≤ x.toInt ∧ x.toInt ≤ 9) (hy : 0 ≤ y.toInt ∧ y.toInt ≤ 9) : (x - y).toInt64 = x.toInt64 - y.toInt64 := by
  have e1 : (x - y).toInt = x.toInt - y.toInt := tI_sub rfl rfl (by omega)
  have e2 : (x.toInt64 - y.toInt64).toInt = x.toInt - y.toInt := tJ_sub (Int32.toInt_toInt64 x) (Int32.toInt_toInt64 y) (by omega)
  exact Int64.toInt_inj.mp (((Int32.toInt_toInt64 (x - y)).trans e1).trans e2.symm)
theorem whose_same {s u v w p q r : Int} {f g fo go : Nat → Int32} {uq vq wq : Int32} (eu : uq.toInt = u) (ev : vq.toInt = v) (ew : wq.toInt = w) (hs : s ≤ 6) (e : ∀ k : Nat, k < 6 → (k : Int) < s → f k = g k) (eo : ∀ k : Nat, k < 6 → (k : Int) < s → fo k = go k) (bf : ∀ k : Nat, k < 6 → (k : Int) < s → 0 ≤ (f k).toInt ∧ (f k).toInt ≤ 9) (bo : ∀ k : Nat, k < 6 → (k : Int) < s → 0 ≤ (fo k).toInt ∧ (fo k).toInt ≤ 9) : mTwo (okWh s u v w p q r) ((f vq.toNatClampNeg - f uq.toNatClampNeg).toInt64 * (fo wq.toNatClampNeg - fo uq.toNatClampNeg).toInt64 - (f wq.toNatClampNeg - f uq.toNatClampNeg).toInt64 * (fo vq.toNatClampNeg - fo uq.toNatClampNeg).toInt64).toInt = mTwo (okWh s u v w p q r) (d3 g go uq vq wq).toInt := by
  refine mTwo_same (fun ok => ?_)
  unfold okWh at ok
  have i1 : uq.toNatClampNeg < 6 := show uq.toInt.toNat < 6 by omega
  have i2 : vq.toNatClampNeg < 6 := show vq.toInt.toNat < 6 by omega
  have i3 : wq.toNatClampNeg < 6 := show wq.toInt.toNat < 6 by omega
  have j1 : ((uq.toNatClampNeg : Nat) : Int) < s := show ((uq.toInt.toNat : Nat) : Int) < s by omega
  have j2 : ((vq.toNatClampNeg : Nat) : Int) < s := show ((vq.toInt.toNat : Nat) : Int) < s by omega
  have j3 : ((wq.toNatClampNeg : Nat) : Int) < s := show ((wq.toInt.toNat : Nat) : Int) < s by omega
  unfold d3
  rw [← e _ i1 j1, ← e _ i2 j2, ← e _ i3 j3, ← eo _ i1 j1, ← eo _ i2 j2, ← eo _ i3 j3]
  rw [sub64 (bf _ i2 j2) (bf _ i1 j1), sub64 (bo _ i3 j3) (bo _ i1 j1), sub64 (bf _ i3 j3) (bf _ i1 j1), sub64 (bo _ i2 j2) (bo _ i1 j1)]
  have g : ∀ fa fb fc oa ob oc : Int64, (fb - fa) * (oc - oa) - (fc - fa) * (ob - oa) = fa * (ob * 1 - 1 * oc) - oa * (fb * 1 - 1 * fc) + 1 * (fb * oc - ob * fc) := by
    intro fa fb fc oa ob oc
    grind
  rw [g]
set_option maxHeartbeats 4000000 in
set_option maxRecDepth 100000 in
theorem ac_btx (l : Launch) (G : KG) {ad : Nat → Nat} {w0 : va_W} {s sq uq vq wq zq : Int32} {kc : Nat → Int32} (hW : WT G ad TX w0) (es : fget w0 12 0 = some (.int s)) (ec : cget w0 103 0 = some (.inr (cyI G, 4, .inl kc))) : Ct l G yX10_both cX10_both 6 (some .int) { frames := 3, cells := 0, slots := 0, locals := 91 } [.ref (ad 0), .int sq, .int uq, .int vq, .int wq, .int zq] w0 (fun r w1 => WT G ad TX w1 ∧ FRM C_X10_both_0.2.2.2.2.1 w0 w1 ∧ (r = some (.int (mTwo (okB s.toInt sq.toInt uq.toInt vq.toInt wq.toInt zq.toInt) (kc 0 * kc 3 - kc 1 * kc 2).toInt)))) := by
  obtain ⟨g0, q0, t0⟩ := WT.tab hW (k := 0) rfl
  have r0_0 : g0 0 = .ref (ad 1) := vty2 (t0 0 _ rfl).1 rfl
  have r0_2 : g0 2 = .ref (ad 5) := vty2 (t0 2 _ rfl).1 rfl
  have r0_3 : g0 3 = .ref (ad 12) := vty2 (t0 3 _ rfl).1 rfl
  have r0_9 : g0 9 = .ref (ad 103) := vty2 (t0 9 _ rfl).1 rfl
  have r0_11 : g0 11 = .ref (ad 105) := vty2 (t0 11 _ rfl).1 rfl
  have c0 : w0[0]? = some ((ad 0), ob 10 [.ref (ad 1), (g0 1), .ref (ad 5), .ref (ad 12), (g0 4), (g0 5), (g0 6), (g0 7), (g0 8), .ref (ad 103), (g0 10), .ref (ad 105), (g0 12), (g0 13), (g0 14), (g0 15)]) := by
    rw [q0]
    show some (ad 0, ob 10 [g0 0, g0 1, g0 2, g0 3, g0 4, g0 5, g0 6, g0 7, g0 8, g0 9, g0 10, g0 11, g0 12, g0 13, g0 14, g0 15]) = _
    rw [r0_0, r0_2, r0_3, r0_9, r0_11]
  obtain ⟨g1, q1, t1⟩ := WT.tab hW (k := 1) rfl
  have r1_0 : g1 0 = .ref (ad 2) := vty2 (t1 0 _ rfl).1 rfl
  obtain ⟨y1_1, r1_1, bl1_1, bu1_1⟩ := vty0 (t1 1 _ rfl).1 rfl
  have b1_1 : 0 ≤ y1_1.toInt ∧ y1_1.toInt ≤ 16 := ⟨bl1_1, bu1_1⟩
  have c1 : w0[1]? = some ((ad 1), ob 8 [.ref (ad 2), .int y1_1]) := by
    rw [q1]
    show some (ad 1, ob 8 [g1 0, g1 1]) = _
    rw [r1_0, r1_1]
  obtain ⟨f2, c2, -⟩ := WT.longs hW (k := 2) rfl
  obtain ⟨g5, q5, t5⟩ := WT.tab hW (k := 5) rfl
  obtain ⟨y5_0, r5_0, bl5_0, bu5_0⟩ := vty0 (t5 0 _ rfl).1 rfl
  have b5_0 : 0 ≤ y5_0.toInt ∧ y5_0.toInt ≤ 16 := ⟨bl5_0, bu5_0⟩
  have r5_1 : g5 1 = .ref (ad 6) := vty2 (t5 1 _ rfl).1 rfl
  have r5_2 : g5 2 = .ref (ad 7) := vty2 (t5 2 _ rfl).1 rfl
  have r5_3 : g5 3 = .ref (ad 8) := vty2 (t5 3 _ rfl).1 rfl
  have r5_5 : g5 5 = .ref (ad 10) := vty2 (t5 5 _ rfl).1 rfl
  obtain ⟨y5_7, r5_7, -, -⟩ := vty0 (t5 7 _ rfl).1 rfl
  obtain ⟨y5_8, r5_8, -, -⟩ := vty0 (t5 8 _ rfl).1 rfl
  have c5 : w0[5]? = some ((ad 5), ob 5 [.int y5_0, .ref (ad 6), .ref (ad 7), .ref (ad 8), (g5 4), .ref (ad 10), (g5 6), .int y5_7, .int y5_8]) := by
    rw [q5]
    show some (ad 5, ob 5 [g5 0, g5 1, g5 2, g5 3, g5 4, g5 5, g5 6, g5 7, g5 8]) = _
    rw [r5_0, r5_1, r5_2, r5_3, r5_5, r5_7, r5_8]
  obtain ⟨f6, c6, -⟩ := WT.ints hW (k := 6) rfl
  obtain ⟨f7, c7, -⟩ := WT.ints hW (k := 7) rfl
  obtain ⟨f8, c8, -⟩ := WT.ints hW (k := 8) rfl
  obtain ⟨f10, c10, -⟩ := WT.ints hW (k := 10) rfl
  obtain ⟨g12, q12, t12⟩ := WT.tab hW (k := 12) rfl
  have r12_0 : g12 0 = .int s := Option.some.inj ((t12 0 _ rfl).2.symm.trans es)
  have b12_0 : 0 ≤ s.toInt ∧ s.toInt ≤ 6 := by
    have h := (t12 0 _ rfl).1
    rw [r12_0] at h
    obtain ⟨y, e, l1, u1⟩ := vty0 h rfl
    obtain rfl := Value.int.inj e
    exact ⟨l1, u1⟩
  have r12_1 : g12 1 = .ref (ad 13) := vty2 (t12 1 _ rfl).1 rfl
  have r12_2 : g12 2 = .ref (ad 14) := vty2 (t12 2 _ rfl).1 rfl
  have c12 : w0[12]? = some ((ad 12), ob 7 [.int s, .ref (ad 13), .ref (ad 14), (g12 3), (g12 4), (g12 5)]) := by
    rw [q12]
    show some (ad 12, ob 7 [g12 0, g12 1, g12 2, g12 3, g12 4, g12 5]) = _
    rw [r12_0, r12_1, r12_2]
  obtain ⟨f13, c13, -⟩ := WT.ints hW (k := 13) rfl
  obtain ⟨f14, c14, -⟩ := WT.ints hW (k := 14) rfl
  obtain ⟨f103, c103, -⟩ := WT.ints hW (k := 103) rfl
  have ef103 : f103 = kc := arrinj ((cgetI c103 0).symm.trans ec)
  rw [ef103] at c103
  obtain ⟨f105, c105, -⟩ := WT.ints hW (k := 105) rfl
  have h2 := co_X10_both l G (ad 0) (ad 1) (g0 1) (ad 5) (ad 12) (g0 4) (g0 5) (g0 6) (g0 7) (g0 8) (ad 103) (g0 10) (ad 105) (g0 12) (g0 13) (g0 14) (g0 15) (ad 2) y1_1 f2 y5_0 (ad 6) (ad 7) (ad 8) (g5 4) (ad 10) (g5 6) y5_7 y5_8 f6 f7 f8 f10 s (ad 13) (ad 14) (g12 3) (g12 4) (g12 5) f13 f14 kc f105 sq uq vq wq zq y5_0.toInt y1_1.toInt s.toInt sq.toInt uq.toInt vq.toInt wq.toInt zq.toInt rfl rfl rfl rfl rfl rfl rfl rfl (by omega) (by omega) (by omega)
  refine Ct.weak (Ct.and (show Ct l G yX10_both cX10_both 6 (some .int) { frames := 3, cells := 0, slots := 0, locals := 91 } [.ref (ad 0), .int sq, .int uq, .int vq, .int wq, .int zq] w0 (fun r w1 => POST G ad TX C_X10_both_0 (fun k => ((Value.ref (ad 0) :: [.int sq, .int uq, .int vq, .int wq, .int zq])[k]?).getD .null) w0 r w1) from ac_X10_both_0 l G ad w0 _ hW (pre_mu (C := C_X10_both_0) (ts := [tI0, tI0, tI0, tI0, tI0]) (As := [.int sq, .int uq, .int vq, .int wq, .int zq]) rfl rfl rfl rfl ⟨fun _ => vty_i0 _, fun _ => vty_i0 _, fun _ => vty_i0 _, fun _ => vty_i0 _, fun _ => vty_i0 _, trivial⟩ ad w0 rfl)) h2 [0, 1, 2, 5, 6, 7, 8, 10, 12, 13, 14, 103, 105] (pk_cons c0 (pk_cons c1 (pk_cons c2 (pk_cons c5 (pk_cons c6 (pk_cons c7 (pk_cons c8 (pk_cons c10 (pk_cons c12 (pk_cons c13 (pk_cons c14 (pk_cons c103 (pk_cons c105 rfl))))))))))))) (by decide)) ?_
  rintro r w1 ⟨hp, w2, ⟨rz, tl2, fn2, hr, rfl, rfl⟩, hS⟩
  obtain ⟨A1, hA1, μ2, -, -, -, -, -, -, hW1, hF1⟩ := hp
  obtain ⟨fs0, -, u0, ul0, -, -⟩ := WT.obj hW1 (k := 0) (j := 0) rfl rfl
  obtain ⟨fs1, -, u1, ul1, -, -⟩ := WT.obj hW1 (k := 1) (j := 0) rfl rfl
  obtain ⟨p2, u2, -⟩ := WT.longs hW1 (k := 2) rfl
  obtain ⟨fs5, -, u5, ul5, -, -⟩ := WT.obj hW1 (k := 5) (j := 0) rfl rfl
  obtain ⟨p6, u6, -⟩ := WT.ints hW1 (k := 6) rfl
  obtain ⟨p7, u7, -⟩ := WT.ints hW1 (k := 7) rfl
  obtain ⟨p8, u8, -⟩ := WT.ints hW1 (k := 8) rfl
  obtain ⟨p10, u10, -⟩ := WT.ints hW1 (k := 10) rfl
  obtain ⟨fs12, -, u12, ul12, -, -⟩ := WT.obj hW1 (k := 12) (j := 0) rfl rfl
  obtain ⟨p13, u13, -⟩ := WT.ints hW1 (k := 13) rfl
  obtain ⟨p14, u14, -⟩ := WT.ints hW1 (k := 14) rfl
  obtain ⟨p103, u103, -⟩ := WT.ints hW1 (k := 103) rfl
  obtain ⟨p105, u105, -⟩ := WT.ints hW1 (k := 105) rfl
  exact ⟨hW1, hF1, by rw [hr]⟩
set_option maxHeartbeats 4000000 in
set_option maxRecDepth 100000 in
theorem ac_btm (l : Launch) (G : KG) {ad : Nat → Nat} {w0 : va_W} {kh s sq uq vq wq zq : Int32} {kc : Nat → Int32} (hW : WT G ad TM w0) (eh : fget w0 0 3 = some (.int kh)) (es : fget w0 0 10 = some (.int s)) (ec : cget w0 15 0 = some (.inr (cyI G, 4, .inl kc))) : Ct l G yX11_both cX11_both 21 (some .int) { frames := 2, cells := 0, slots := 0, locals := 55 } [.ref (ad 0), .int sq, .int uq, .int vq, .int wq, .int zq] w0 (fun r w1 => WT G ad TM w1 ∧ FRM C_X11_both_0.2.2.2.2.1 w0 w1 ∧ (r = some (.int (mTwo (okB s.toInt sq.toInt uq.toInt vq.toInt wq.toInt zq.toInt) ((kc 0).toInt64 * (kc 3).toInt64 - (kc 1).toInt64 * (kc 2).toInt64).toInt)))) := by
  obtain ⟨g0, q0, t0⟩ := WT.tab hW (k := 0) rfl
  obtain ⟨y0_0, r0_0, -, -⟩ := vty0 (t0 0 _ rfl).1 rfl
  obtain ⟨y0_1, r0_1, -, -⟩ := vty0 (t0 1 _ rfl).1 rfl
  have r0_2 : g0 2 = .ref (ad 1) := vty2 (t0 2 _ rfl).1 rfl
  have r0_3 : g0 3 = .int kh := Option.some.inj ((t0 3 _ rfl).2.symm.trans eh)
  have b0_3 : 0 ≤ kh.toInt ∧ kh.toInt ≤ 16 := by
    have h := (t0 3 _ rfl).1
    rw [r0_3] at h
    obtain ⟨y, e, l1, u1⟩ := vty0 h rfl
    obtain rfl := Value.int.inj e
    exact ⟨l1, u1⟩
  have r0_4 : g0 4 = .ref (ad 2) := vty2 (t0 4 _ rfl).1 rfl
  have r0_5 : g0 5 = .ref (ad 3) := vty2 (t0 5 _ rfl).1 rfl
  have r0_6 : g0 6 = .ref (ad 4) := vty2 (t0 6 _ rfl).1 rfl
  have r0_7 : g0 7 = .ref (ad 5) := vty2 (t0 7 _ rfl).1 rfl
  have r0_8 : g0 8 = .ref (ad 6) := vty2 (t0 8 _ rfl).1 rfl
  have r0_9 : g0 9 = .ref (ad 7) := vty2 (t0 9 _ rfl).1 rfl
  have r0_10 : g0 10 = .int s := Option.some.inj ((t0 10 _ rfl).2.symm.trans es)
  have b0_10 : 0 ≤ s.toInt ∧ s.toInt ≤ 6 := by
    have h := (t0 10 _ rfl).1
    rw [r0_10] at h
    obtain ⟨y, e, l1, u1⟩ := vty0 h rfl
    obtain rfl := Value.int.inj e
    exact ⟨l1, u1⟩
  have r0_11 : g0 11 = .ref (ad 8) := vty2 (t0 11 _ rfl).1 rfl
  have r0_12 : g0 12 = .ref (ad 9) := vty2 (t0 12 _ rfl).1 rfl
  have r0_13 : g0 13 = .ref (ad 10) := vty2 (t0 13 _ rfl).1 rfl
  obtain ⟨y0_16, r0_16, -, -⟩ := vty0 (t0 16 _ rfl).1 rfl
  have r0_17 : g0 17 = .ref (ad 13) := vty2 (t0 17 _ rfl).1 rfl
  have r0_18 : g0 18 = .ref (ad 14) := vty2 (t0 18 _ rfl).1 rfl
  obtain ⟨y0_19, r0_19, -, -⟩ := vty0 (t0 19 _ rfl).1 rfl
  obtain ⟨y0_20, r0_20, -, -⟩ := vty0 (t0 20 _ rfl).1 rfl
  obtain ⟨y0_21, r0_21, -, -⟩ := vty0 (t0 21 _ rfl).1 rfl
  obtain ⟨y0_22, r0_22, -, -⟩ := vty0 (t0 22 _ rfl).1 rfl
  have r0_23 : g0 23 = .ref (ad 15) := vty2 (t0 23 _ rfl).1 rfl
  have r0_26 : g0 26 = .ref (ad 18) := vty2 (t0 26 _ rfl).1 rfl
  have r0_27 : g0 27 = .ref (ad 19) := vty2 (t0 27 _ rfl).1 rfl
  obtain ⟨y0_28, r0_28, -, -⟩ := vty0 (t0 28 _ rfl).1 rfl
  obtain ⟨y0_29, r0_29, -, -⟩ := vty0 (t0 29 _ rfl).1 rfl
  have r0_30 : g0 30 = .ref (ad 20) := vty2 (t0 30 _ rfl).1 rfl
  have c0 : w0[0]? = some ((ad 0), ob 11 [.int y0_0, .int y0_1, .ref (ad 1), .int kh, .ref (ad 2), .ref (ad 3), .ref (ad 4), .ref (ad 5), .ref (ad 6), .ref (ad 7), .int s, .ref (ad 8), .ref (ad 9), .ref (ad 10), (g0 14), (g0 15), .int y0_16, .ref (ad 13), .ref (ad 14), .int y0_19, .int y0_20, .int y0_21, .int y0_22, .ref (ad 15), (g0 24), (g0 25), .ref (ad 18), .ref (ad 19), .int y0_28, .int y0_29, .ref (ad 20), (g0 31), (g0 32), (g0 33), (g0 34), (g0 35), (g0 36), (g0 37), (g0 38), (g0 39), (g0 40), (g0 41), (g0 42), (g0 43), (g0 44), (g0 45), (g0 46), (g0 47), (g0 48), (g0 49), (g0 50), (g0 51), (g0 52), (g0 53), (g0 54), (g0 55), (g0 56), (g0 57), (g0 58), (g0 59), (g0 60), (g0 61), (g0 62), (g0 63), (g0 64), (g0 65), (g0 66), (g0 67), (g0 68), (g0 69), (g0 70), (g0 71), (g0 72), (g0 73), (g0 74)]) := by
    rw [q0]
    show some (ad 0, ob 11 [g0 0, g0 1, g0 2, g0 3, g0 4, g0 5, g0 6, g0 7, g0 8, g0 9, g0 10, g0 11, g0 12, g0 13, g0 14, g0 15, g0 16, g0 17, g0 18, g0 19, g0 20, g0 21, g0 22, g0 23, g0 24, g0 25, g0 26, g0 27, g0 28, g0 29, g0 30, g0 31, g0 32, g0 33, g0 34, g0 35, g0 36, g0 37, g0 38, g0 39, g0 40, g0 41, g0 42, g0 43, g0 44, g0 45, g0 46, g0 47, g0 48, g0 49, g0 50, g0 51, g0 52, g0 53, g0 54, g0 55, g0 56, g0 57, g0 58, g0 59, g0 60, g0 61, g0 62, g0 63, g0 64, g0 65, g0 66, g0 67, g0 68, g0 69, g0 70, g0 71, g0 72, g0 73, g0 74]) = _
    rw [r0_0, r0_1, r0_2, r0_3, r0_4, r0_5, r0_6, r0_7, r0_8, r0_9, r0_10, r0_11, r0_12, r0_13, r0_16, r0_17, r0_18, r0_19, r0_20, r0_21, r0_22, r0_23, r0_26, r0_27, r0_28, r0_29, r0_30]
  obtain ⟨f20, c20, -⟩ := WT.ints hW (k := 20) rfl
  obtain ⟨f2, c2, -⟩ := WT.ints hW (k := 2) rfl
  obtain ⟨f3, c3, -⟩ := WT.ints hW (k := 3) rfl
  obtain ⟨f4, c4, -⟩ := WT.ints hW (k := 4) rfl
  obtain ⟨f6, c6, -⟩ := WT.ints hW (k := 6) rfl
  obtain ⟨f8, c8, -⟩ := WT.ints hW (k := 8) rfl
  obtain ⟨f9, c9, -⟩ := WT.ints hW (k := 9) rfl
  obtain ⟨f15, c15, -⟩ := WT.ints hW (k := 15) rfl
  have ef15 : f15 = kc := arrinj ((cgetI c15 0).symm.trans ec)
  rw [ef15] at c15
  obtain ⟨f18, c18, -⟩ := WT.ints hW (k := 18) rfl
  obtain ⟨f19, c19, -⟩ := WT.ints hW (k := 19) rfl
  obtain ⟨f1, c1, -⟩ := WT.longs hW (k := 1) rfl
  have hpl := ref_plane hW eh (cgetI c2 0)
  have hff := ref_factor hW es (cgetI c8 0)
  have hfc := ref_cross hW ec
  have h2 := co_X11_both l G (ad 0) y0_0 y0_1 (ad 1) kh (ad 2) (ad 3) (ad 4) (ad 5) (ad 6) (ad 7) s (ad 8) (ad 9) (ad 10) (g0 14) (g0 15) y0_16 (ad 13) (ad 14) y0_19 y0_20 y0_21 y0_22 (ad 15) (g0 24) (g0 25) (ad 18) (ad 19) y0_28 y0_29 (ad 20) (g0 31) (g0 32) (g0 33) (g0 34) (g0 35) (g0 36) (g0 37) (g0 38) (g0 39) (g0 40) (g0 41) (g0 42) (g0 43) (g0 44) (g0 45) (g0 46) (g0 47) (g0 48) (g0 49) (g0 50) (g0 51) (g0 52) (g0 53) (g0 54) (g0 55) (g0 56) (g0 57) (g0 58) (g0 59) (g0 60) (g0 61) (g0 62) (g0 63) (g0 64) (g0 65) (g0 66) (g0 67) (g0 68) (g0 69) (g0 70) (g0 71) (g0 72) (g0 73) (g0 74) f2 f3 f4 f6 f20 f8 f9 kc f18 f19 f1 sq uq vq wq zq kh.toInt s.toInt sq.toInt uq.toInt vq.toInt wq.toInt zq.toInt rfl rfl rfl rfl rfl rfl rfl (by omega) (by omega) (by omega) (by omega) (by omega)
  refine Ct.weak (Ct.and (show Ct l G yX11_both cX11_both 21 (some .int) { frames := 2, cells := 0, slots := 0, locals := 55 } [.ref (ad 0), .int sq, .int uq, .int vq, .int wq, .int zq] w0 (fun r w1 => POST G ad TM C_X11_both_0 (fun k => ((Value.ref (ad 0) :: [.int sq, .int uq, .int vq, .int wq, .int zq])[k]?).getD .null) w0 r w1) from ac_X11_both_0 l G ad w0 _ hW (pre_mu (C := C_X11_both_0) (ts := [tI0, tI0, tI0, tI0, tI0]) (As := [.int sq, .int uq, .int vq, .int wq, .int zq]) rfl rfl rfl rfl ⟨fun _ => vty_i0 _, fun _ => vty_i0 _, fun _ => vty_i0 _, fun _ => vty_i0 _, fun _ => vty_i0 _, trivial⟩ ad w0 rfl)) h2 [0, 20, 2, 3, 4, 6, 8, 9, 15, 18, 19, 1] (pk_cons c0 (pk_cons c20 (pk_cons c2 (pk_cons c3 (pk_cons c4 (pk_cons c6 (pk_cons c8 (pk_cons c9 (pk_cons c15 (pk_cons c18 (pk_cons c19 (pk_cons c1 rfl)))))))))))) (by decide)) ?_
  rintro r w1 ⟨hp, w2, ⟨rz, rw2, fw2, fl2, hr, rfl, rfl⟩, hS⟩
  obtain ⟨A1, hA1, μ2, -, -, -, -, -, -, hW1, hF1⟩ := hp
  obtain ⟨fs0, -, u0, ul0, -, -⟩ := WT.obj hW1 (k := 0) (j := 0) rfl rfl
  obtain ⟨p1, u1, -⟩ := WT.longs hW1 (k := 1) rfl
  obtain ⟨p2, u2, -⟩ := WT.ints hW1 (k := 2) rfl
  obtain ⟨p3, u3, -⟩ := WT.ints hW1 (k := 3) rfl
  obtain ⟨p4, u4, -⟩ := WT.ints hW1 (k := 4) rfl
  obtain ⟨p6, u6, -⟩ := WT.ints hW1 (k := 6) rfl
  obtain ⟨p8, u8, -⟩ := WT.ints hW1 (k := 8) rfl
  obtain ⟨p9, u9, -⟩ := WT.ints hW1 (k := 9) rfl
  obtain ⟨p15, u15, -⟩ := WT.ints hW1 (k := 15) rfl
  obtain ⟨p18, u18, -⟩ := WT.ints hW1 (k := 18) rfl
  obtain ⟨p19, u19, -⟩ := WT.ints hW1 (k := 19) rfl
  obtain ⟨p20, u20, -⟩ := WT.ints hW1 (k := 20) rfl
  exact ⟨hW1, hF1, by rw [hr]⟩
set_option maxHeartbeats 4000000 in
set_option maxRecDepth 100000 in
theorem ac_flx (l : Launch) (G : KG) {ad : Nat → Nat} {w0 : va_W} {s uq vq : Int32} {pq qq : Int64} {kf : Nat → Int32} (hW : WT G ad TX w0) (es : fget w0 12 0 = some (.int s)) (ef : cget w0 13 0 = some (.inr (cyI G, 6, .inl kf))) : Ct l G yX10_floor cX10_floor 13 (some .int) { frames := 2, cells := 0, slots := 0, locals := 58 } [.ref (ad 0), .int uq, .long pq, .int vq, .long qq] w0 (fun r w1 => WT G ad TX w1 ∧ FRM C_X10_floor_0.2.2.2.2.1 w0 w1 ∧ (r = some (.int (mTwo (okFl s.toInt uq.toInt vq.toInt pq.toInt qq.toInt) ((kf uq.toNatClampNeg).toInt64 - (kf vq.toNatClampNeg).toInt64).toInt)))) := by
  obtain ⟨g0, q0, t0⟩ := WT.tab hW (k := 0) rfl
  have r0_0 : g0 0 = .ref (ad 1) := vty2 (t0 0 _ rfl).1 rfl
  have r0_3 : g0 3 = .ref (ad 12) := vty2 (t0 3 _ rfl).1 rfl
  have c0 : w0[0]? = some ((ad 0), ob 10 [.ref (ad 1), (g0 1), (g0 2), .ref (ad 12), (g0 4), (g0 5), (g0 6), (g0 7), (g0 8), (g0 9), (g0 10), (g0 11), (g0 12), (g0 13), (g0 14), (g0 15)]) := by
    rw [q0]
    show some (ad 0, ob 10 [g0 0, g0 1, g0 2, g0 3, g0 4, g0 5, g0 6, g0 7, g0 8, g0 9, g0 10, g0 11, g0 12, g0 13, g0 14, g0 15]) = _
    rw [r0_0, r0_3]
  obtain ⟨g1, q1, t1⟩ := WT.tab hW (k := 1) rfl
  have r1_0 : g1 0 = .ref (ad 2) := vty2 (t1 0 _ rfl).1 rfl
  obtain ⟨y1_1, r1_1, bl1_1, bu1_1⟩ := vty0 (t1 1 _ rfl).1 rfl
  have b1_1 : 0 ≤ y1_1.toInt ∧ y1_1.toInt ≤ 16 := ⟨bl1_1, bu1_1⟩
  have c1 : w0[1]? = some ((ad 1), ob 8 [.ref (ad 2), .int y1_1]) := by
    rw [q1]
    show some (ad 1, ob 8 [g1 0, g1 1]) = _
    rw [r1_0, r1_1]
  obtain ⟨f2, c2, -⟩ := WT.longs hW (k := 2) rfl
  obtain ⟨g12, q12, t12⟩ := WT.tab hW (k := 12) rfl
  have r12_0 : g12 0 = .int s := Option.some.inj ((t12 0 _ rfl).2.symm.trans es)
  have b12_0 : 0 ≤ s.toInt ∧ s.toInt ≤ 6 := by
    have h := (t12 0 _ rfl).1
    rw [r12_0] at h
    obtain ⟨y, e, l1, u1⟩ := vty0 h rfl
    obtain rfl := Value.int.inj e
    exact ⟨l1, u1⟩
  have r12_1 : g12 1 = .ref (ad 13) := vty2 (t12 1 _ rfl).1 rfl
  have r12_2 : g12 2 = .ref (ad 14) := vty2 (t12 2 _ rfl).1 rfl
  have c12 : w0[12]? = some ((ad 12), ob 7 [.int s, .ref (ad 13), .ref (ad 14), (g12 3), (g12 4), (g12 5)]) := by
    rw [q12]
    show some (ad 12, ob 7 [g12 0, g12 1, g12 2, g12 3, g12 4, g12 5]) = _
    rw [r12_0, r12_1, r12_2]
  obtain ⟨f13, c13, -⟩ := WT.ints hW (k := 13) rfl
  have ef13 : f13 = kf := arrinj ((cgetI c13 0).symm.trans ef)
  rw [ef13] at c13
  obtain ⟨f14, c14, -⟩ := WT.ints hW (k := 14) rfl
  have h2 := co_X10_floor l G (ad 0) (ad 1) (g0 1) (g0 2) (ad 12) (g0 4) (g0 5) (g0 6) (g0 7) (g0 8) (g0 9) (g0 10) (g0 11) (g0 12) (g0 13) (g0 14) (g0 15) (ad 2) y1_1 f2 s (ad 13) (ad 14) (g12 3) (g12 4) (g12 5) kf f14 uq pq vq qq y1_1.toInt s.toInt uq.toInt pq.toInt vq.toInt qq.toInt rfl rfl rfl rfl rfl rfl (by omega) (by omega)
  refine Ct.weak (Ct.and (show Ct l G yX10_floor cX10_floor 13 (some .int) { frames := 2, cells := 0, slots := 0, locals := 58 } [.ref (ad 0), .int uq, .long pq, .int vq, .long qq] w0 (fun r w1 => POST G ad TX C_X10_floor_0 (fun k => ((Value.ref (ad 0) :: [.int uq, .long pq, .int vq, .long qq])[k]?).getD .null) w0 r w1) from ac_X10_floor_0 l G ad w0 _ hW (pre_mu (C := C_X10_floor_0) (ts := [tI0, tL0, tI0, tL0]) (As := [.int uq, .long pq, .int vq, .long qq]) rfl rfl rfl rfl ⟨fun _ => vty_i0 _, fun _ => vty_l0 _, fun _ => vty_i0 _, fun _ => vty_l0 _, trivial⟩ ad w0 rfl)) h2 [0, 1, 2, 12, 13, 14] (pk_cons c0 (pk_cons c1 (pk_cons c2 (pk_cons c12 (pk_cons c13 (pk_cons c14 rfl)))))) (by decide)) ?_
  rintro r w1 ⟨hp, w2, ⟨rz, tl2, fn2, hr, rfl, rfl⟩, hS⟩
  obtain ⟨A1, hA1, μ2, -, -, -, -, -, -, hW1, hF1⟩ := hp
  obtain ⟨fs0, -, u0, ul0, -, -⟩ := WT.obj hW1 (k := 0) (j := 0) rfl rfl
  obtain ⟨fs1, -, u1, ul1, -, -⟩ := WT.obj hW1 (k := 1) (j := 0) rfl rfl
  obtain ⟨p2, u2, -⟩ := WT.longs hW1 (k := 2) rfl
  obtain ⟨fs12, -, u12, ul12, -, -⟩ := WT.obj hW1 (k := 12) (j := 0) rfl rfl
  obtain ⟨p13, u13, -⟩ := WT.ints hW1 (k := 13) rfl
  obtain ⟨p14, u14, -⟩ := WT.ints hW1 (k := 14) rfl
  exact ⟨hW1, hF1, by rw [hr]⟩
set_option maxHeartbeats 4000000 in
set_option maxRecDepth 100000 in
theorem ac_flm (l : Launch) (G : KG) {ad : Nat → Nat} {w0 : va_W} {s uq vq : Int32} {pq qq : Int64} {kf : Nat → Int32} (hW : WT G ad TM w0) (es : fget w0 0 10 = some (.int s)) (ef : cget w0 8 0 = some (.inr (cyI G, 6, .inl kf))) : Ct l G yX11_floor cX11_floor 10 (some .int) { frames := 2, cells := 0, slots := 0, locals := 55 } [.ref (ad 0), .int uq, .long pq, .int vq, .long qq] w0 (fun r w1 => WT G ad TM w1 ∧ FRM C_X11_floor_0.2.2.2.2.1 w0 w1 ∧ (r = some (.int (mTwo (okFl s.toInt uq.toInt vq.toInt pq.toInt qq.toInt) (kf uq.toNatClampNeg - kf vq.toNatClampNeg).toInt)))) := by
  obtain ⟨g0, q0, t0⟩ := WT.tab hW (k := 0) rfl
  obtain ⟨y0_0, r0_0, -, -⟩ := vty0 (t0 0 _ rfl).1 rfl
  obtain ⟨y0_1, r0_1, -, -⟩ := vty0 (t0 1 _ rfl).1 rfl
  have r0_2 : g0 2 = .ref (ad 1) := vty2 (t0 2 _ rfl).1 rfl
  obtain ⟨y0_3, r0_3, bl0_3, bu0_3⟩ := vty0 (t0 3 _ rfl).1 rfl
  have b0_3 : 0 ≤ y0_3.toInt ∧ y0_3.toInt ≤ 16 := ⟨bl0_3, bu0_3⟩
  have r0_4 : g0 4 = .ref (ad 2) := vty2 (t0 4 _ rfl).1 rfl
  have r0_5 : g0 5 = .ref (ad 3) := vty2 (t0 5 _ rfl).1 rfl
  have r0_6 : g0 6 = .ref (ad 4) := vty2 (t0 6 _ rfl).1 rfl
  have r0_7 : g0 7 = .ref (ad 5) := vty2 (t0 7 _ rfl).1 rfl
  have r0_8 : g0 8 = .ref (ad 6) := vty2 (t0 8 _ rfl).1 rfl
  have r0_9 : g0 9 = .ref (ad 7) := vty2 (t0 9 _ rfl).1 rfl
  have r0_10 : g0 10 = .int s := Option.some.inj ((t0 10 _ rfl).2.symm.trans es)
  have b0_10 : 0 ≤ s.toInt ∧ s.toInt ≤ 6 := by
    have h := (t0 10 _ rfl).1
    rw [r0_10] at h
    obtain ⟨y, e, l1, u1⟩ := vty0 h rfl
    obtain rfl := Value.int.inj e
    exact ⟨l1, u1⟩
  have r0_11 : g0 11 = .ref (ad 8) := vty2 (t0 11 _ rfl).1 rfl
  have r0_12 : g0 12 = .ref (ad 9) := vty2 (t0 12 _ rfl).1 rfl
  have r0_13 : g0 13 = .ref (ad 10) := vty2 (t0 13 _ rfl).1 rfl
  obtain ⟨y0_16, r0_16, -, -⟩ := vty0 (t0 16 _ rfl).1 rfl
  have r0_17 : g0 17 = .ref (ad 13) := vty2 (t0 17 _ rfl).1 rfl
  have r0_18 : g0 18 = .ref (ad 14) := vty2 (t0 18 _ rfl).1 rfl
  obtain ⟨y0_19, r0_19, -, -⟩ := vty0 (t0 19 _ rfl).1 rfl
  obtain ⟨y0_20, r0_20, -, -⟩ := vty0 (t0 20 _ rfl).1 rfl
  obtain ⟨y0_21, r0_21, -, -⟩ := vty0 (t0 21 _ rfl).1 rfl
  obtain ⟨y0_22, r0_22, -, -⟩ := vty0 (t0 22 _ rfl).1 rfl
  have r0_23 : g0 23 = .ref (ad 15) := vty2 (t0 23 _ rfl).1 rfl
  have r0_26 : g0 26 = .ref (ad 18) := vty2 (t0 26 _ rfl).1 rfl
  have r0_27 : g0 27 = .ref (ad 19) := vty2 (t0 27 _ rfl).1 rfl
  obtain ⟨y0_28, r0_28, -, -⟩ := vty0 (t0 28 _ rfl).1 rfl
  obtain ⟨y0_29, r0_29, -, -⟩ := vty0 (t0 29 _ rfl).1 rfl
  have r0_30 : g0 30 = .ref (ad 20) := vty2 (t0 30 _ rfl).1 rfl
  have c0 : w0[0]? = some ((ad 0), ob 11 [.int y0_0, .int y0_1, .ref (ad 1), .int y0_3, .ref (ad 2), .ref (ad 3), .ref (ad 4), .ref (ad 5), .ref (ad 6), .ref (ad 7), .int s, .ref (ad 8), .ref (ad 9), .ref (ad 10), (g0 14), (g0 15), .int y0_16, .ref (ad 13), .ref (ad 14), .int y0_19, .int y0_20, .int y0_21, .int y0_22, .ref (ad 15), (g0 24), (g0 25), .ref (ad 18), .ref (ad 19), .int y0_28, .int y0_29, .ref (ad 20), (g0 31), (g0 32), (g0 33), (g0 34), (g0 35), (g0 36), (g0 37), (g0 38), (g0 39), (g0 40), (g0 41), (g0 42), (g0 43), (g0 44), (g0 45), (g0 46), (g0 47), (g0 48), (g0 49), (g0 50), (g0 51), (g0 52), (g0 53), (g0 54), (g0 55), (g0 56), (g0 57), (g0 58), (g0 59), (g0 60), (g0 61), (g0 62), (g0 63), (g0 64), (g0 65), (g0 66), (g0 67), (g0 68), (g0 69), (g0 70), (g0 71), (g0 72), (g0 73), (g0 74)]) := by
    rw [q0]
    show some (ad 0, ob 11 [g0 0, g0 1, g0 2, g0 3, g0 4, g0 5, g0 6, g0 7, g0 8, g0 9, g0 10, g0 11, g0 12, g0 13, g0 14, g0 15, g0 16, g0 17, g0 18, g0 19, g0 20, g0 21, g0 22, g0 23, g0 24, g0 25, g0 26, g0 27, g0 28, g0 29, g0 30, g0 31, g0 32, g0 33, g0 34, g0 35, g0 36, g0 37, g0 38, g0 39, g0 40, g0 41, g0 42, g0 43, g0 44, g0 45, g0 46, g0 47, g0 48, g0 49, g0 50, g0 51, g0 52, g0 53, g0 54, g0 55, g0 56, g0 57, g0 58, g0 59, g0 60, g0 61, g0 62, g0 63, g0 64, g0 65, g0 66, g0 67, g0 68, g0 69, g0 70, g0 71, g0 72, g0 73, g0 74]) = _
    rw [r0_0, r0_1, r0_2, r0_3, r0_4, r0_5, r0_6, r0_7, r0_8, r0_9, r0_10, r0_11, r0_12, r0_13, r0_16, r0_17, r0_18, r0_19, r0_20, r0_21, r0_22, r0_23, r0_26, r0_27, r0_28, r0_29, r0_30]
  obtain ⟨f8, c8, -⟩ := WT.ints hW (k := 8) rfl
  have ef8 : f8 = kf := arrinj ((cgetI c8 0).symm.trans ef)
  rw [ef8] at c8
  obtain ⟨f1, c1, -⟩ := WT.longs hW (k := 1) rfl
  have h2 := co_X11_floor l G (ad 0) y0_0 y0_1 (ad 1) y0_3 (ad 2) (ad 3) (ad 4) (ad 5) (ad 6) (ad 7) s (ad 8) (ad 9) (ad 10) (g0 14) (g0 15) y0_16 (ad 13) (ad 14) y0_19 y0_20 y0_21 y0_22 (ad 15) (g0 24) (g0 25) (ad 18) (ad 19) y0_28 y0_29 (ad 20) (g0 31) (g0 32) (g0 33) (g0 34) (g0 35) (g0 36) (g0 37) (g0 38) (g0 39) (g0 40) (g0 41) (g0 42) (g0 43) (g0 44) (g0 45) (g0 46) (g0 47) (g0 48) (g0 49) (g0 50) (g0 51) (g0 52) (g0 53) (g0 54) (g0 55) (g0 56) (g0 57) (g0 58) (g0 59) (g0 60) (g0 61) (g0 62) (g0 63) (g0 64) (g0 65) (g0 66) (g0 67) (g0 68) (g0 69) (g0 70) (g0 71) (g0 72) (g0 73) (g0 74) kf f1 uq pq vq qq s.toInt uq.toInt pq.toInt vq.toInt qq.toInt rfl rfl rfl rfl rfl (by omega)
  refine Ct.weak (Ct.and (show Ct l G yX11_floor cX11_floor 10 (some .int) { frames := 2, cells := 0, slots := 0, locals := 55 } [.ref (ad 0), .int uq, .long pq, .int vq, .long qq] w0 (fun r w1 => POST G ad TM C_X11_floor_0 (fun k => ((Value.ref (ad 0) :: [.int uq, .long pq, .int vq, .long qq])[k]?).getD .null) w0 r w1) from ac_X11_floor_0 l G ad w0 _ hW (pre_mu (C := C_X11_floor_0) (ts := [tI0, tL0, tI0, tL0]) (As := [.int uq, .long pq, .int vq, .long qq]) rfl rfl rfl rfl ⟨fun _ => vty_i0 _, fun _ => vty_l0 _, fun _ => vty_i0 _, fun _ => vty_l0 _, trivial⟩ ad w0 rfl)) h2 [0, 8, 1] (pk_cons c0 (pk_cons c8 (pk_cons c1 rfl))) (by decide)) ?_
  rintro r w1 ⟨hp, w2, ⟨rz, rw2, fw2, hr, rfl, rfl⟩, hS⟩
  obtain ⟨A1, hA1, μ2, -, -, -, -, -, -, hW1, hF1⟩ := hp
  obtain ⟨fs0, -, u0, ul0, -, -⟩ := WT.obj hW1 (k := 0) (j := 0) rfl rfl
  obtain ⟨p1, u1, -⟩ := WT.longs hW1 (k := 1) rfl
  obtain ⟨p8, u8, -⟩ := WT.ints hW1 (k := 8) rfl
  exact ⟨hW1, hF1, by rw [hr]⟩
set_option maxHeartbeats 4000000 in
set_option maxRecDepth 100000 in
theorem ac_whx (l : Launch) (G : KG) {ad : Nat → Nat} {w0 : va_W} {s uq vq wq : Int32} {pq qq oq : Int64} {kf ko : Nat → Int32} (hW : WT G ad TX w0) (es : fget w0 12 0 = some (.int s)) (ef : cget w0 13 0 = some (.inr (cyI G, 6, .inl kf))) (eo : cget w0 14 0 = some (.inr (cyI G, 6, .inl ko))) : Ct l G yX10_whose cX10_whose 10 (some .int) { frames := 3, cells := 0, slots := 0, locals := 101 } [.ref (ad 0), .int uq, .int vq, .int wq, .long pq, .long qq, .long oq] w0 (fun r w1 => WT G ad TX w1 ∧ FRM C_X10_whose_0.2.2.2.2.1 w0 w1 ∧ (r = some (.int (mTwo (okWh s.toInt uq.toInt vq.toInt wq.toInt pq.toInt qq.toInt oq.toInt) ((kf vq.toNatClampNeg - kf uq.toNatClampNeg).toInt64 * (ko wq.toNatClampNeg - ko uq.toNatClampNeg).toInt64 - (kf wq.toNatClampNeg - kf uq.toNatClampNeg).toInt64 * (ko vq.toNatClampNeg - ko uq.toNatClampNeg).toInt64).toInt)))) := by
  obtain ⟨g0, q0, t0⟩ := WT.tab hW (k := 0) rfl
  have r0_0 : g0 0 = .ref (ad 1) := vty2 (t0 0 _ rfl).1 rfl
  have r0_3 : g0 3 = .ref (ad 12) := vty2 (t0 3 _ rfl).1 rfl
  have c0 : w0[0]? = some ((ad 0), ob 10 [.ref (ad 1), (g0 1), (g0 2), .ref (ad 12), (g0 4), (g0 5), (g0 6), (g0 7), (g0 8), (g0 9), (g0 10), (g0 11), (g0 12), (g0 13), (g0 14), (g0 15)]) := by
    rw [q0]
    show some (ad 0, ob 10 [g0 0, g0 1, g0 2, g0 3, g0 4, g0 5, g0 6, g0 7, g0 8, g0 9, g0 10, g0 11, g0 12, g0 13, g0 14, g0 15]) = _
    rw [r0_0, r0_3]
  obtain ⟨g1, q1, t1⟩ := WT.tab hW (k := 1) rfl
  have r1_0 : g1 0 = .ref (ad 2) := vty2 (t1 0 _ rfl).1 rfl
  obtain ⟨y1_1, r1_1, bl1_1, bu1_1⟩ := vty0 (t1 1 _ rfl).1 rfl
  have b1_1 : 0 ≤ y1_1.toInt ∧ y1_1.toInt ≤ 16 := ⟨bl1_1, bu1_1⟩
  have c1 : w0[1]? = some ((ad 1), ob 8 [.ref (ad 2), .int y1_1]) := by
    rw [q1]
    show some (ad 1, ob 8 [g1 0, g1 1]) = _
    rw [r1_0, r1_1]
  obtain ⟨f2, c2, -⟩ := WT.longs hW (k := 2) rfl
  obtain ⟨g12, q12, t12⟩ := WT.tab hW (k := 12) rfl
  have r12_0 : g12 0 = .int s := Option.some.inj ((t12 0 _ rfl).2.symm.trans es)
  have b12_0 : 0 ≤ s.toInt ∧ s.toInt ≤ 6 := by
    have h := (t12 0 _ rfl).1
    rw [r12_0] at h
    obtain ⟨y, e, l1, u1⟩ := vty0 h rfl
    obtain rfl := Value.int.inj e
    exact ⟨l1, u1⟩
  have r12_1 : g12 1 = .ref (ad 13) := vty2 (t12 1 _ rfl).1 rfl
  have r12_2 : g12 2 = .ref (ad 14) := vty2 (t12 2 _ rfl).1 rfl
  have c12 : w0[12]? = some ((ad 12), ob 7 [.int s, .ref (ad 13), .ref (ad 14), (g12 3), (g12 4), (g12 5)]) := by
    rw [q12]
    show some (ad 12, ob 7 [g12 0, g12 1, g12 2, g12 3, g12 4, g12 5]) = _
    rw [r12_0, r12_1, r12_2]
  obtain ⟨f13, c13, -⟩ := WT.ints hW (k := 13) rfl
  have ef13 : f13 = kf := arrinj ((cgetI c13 0).symm.trans ef)
  rw [ef13] at c13
  obtain ⟨f14, c14, -⟩ := WT.ints hW (k := 14) rfl
  have ef14 : f14 = ko := arrinj ((cgetI c14 0).symm.trans eo)
  rw [ef14] at c14
  have h2 := co_X10_whose l G (ad 0) (ad 1) (g0 1) (g0 2) (ad 12) (g0 4) (g0 5) (g0 6) (g0 7) (g0 8) (g0 9) (g0 10) (g0 11) (g0 12) (g0 13) (g0 14) (g0 15) (ad 2) y1_1 f2 s (ad 13) (ad 14) (g12 3) (g12 4) (g12 5) kf ko uq vq wq pq qq oq y1_1.toInt s.toInt uq.toInt vq.toInt wq.toInt pq.toInt qq.toInt oq.toInt rfl rfl rfl rfl rfl rfl rfl rfl (by omega) (by omega)
  refine Ct.weak (Ct.and (show Ct l G yX10_whose cX10_whose 10 (some .int) { frames := 3, cells := 0, slots := 0, locals := 101 } [.ref (ad 0), .int uq, .int vq, .int wq, .long pq, .long qq, .long oq] w0 (fun r w1 => POST G ad TX C_X10_whose_0 (fun k => ((Value.ref (ad 0) :: [.int uq, .int vq, .int wq, .long pq, .long qq, .long oq])[k]?).getD .null) w0 r w1) from ac_X10_whose_0 l G ad w0 _ hW (pre_mu (C := C_X10_whose_0) (ts := [tI0, tI0, tI0, tL0, tL0, tL0]) (As := [.int uq, .int vq, .int wq, .long pq, .long qq, .long oq]) rfl rfl rfl rfl ⟨fun _ => vty_i0 _, fun _ => vty_i0 _, fun _ => vty_i0 _, fun _ => vty_l0 _, fun _ => vty_l0 _, fun _ => vty_l0 _, trivial⟩ ad w0 rfl)) h2 [0, 1, 2, 12, 13, 14] (pk_cons c0 (pk_cons c1 (pk_cons c2 (pk_cons c12 (pk_cons c13 (pk_cons c14 rfl)))))) (by decide)) ?_
  rintro r w1 ⟨hp, w2, ⟨rz, tl2, fn2, hr, rfl, rfl⟩, hS⟩
  obtain ⟨A1, hA1, μ2, -, -, -, -, -, -, hW1, hF1⟩ := hp
  obtain ⟨fs0, -, u0, ul0, -, -⟩ := WT.obj hW1 (k := 0) (j := 0) rfl rfl
  obtain ⟨fs1, -, u1, ul1, -, -⟩ := WT.obj hW1 (k := 1) (j := 0) rfl rfl
  obtain ⟨p2, u2, -⟩ := WT.longs hW1 (k := 2) rfl
  obtain ⟨fs12, -, u12, ul12, -, -⟩ := WT.obj hW1 (k := 12) (j := 0) rfl rfl
  obtain ⟨p13, u13, -⟩ := WT.ints hW1 (k := 13) rfl
  obtain ⟨p14, u14, -⟩ := WT.ints hW1 (k := 14) rfl
  exact ⟨hW1, hF1, by rw [hr]⟩
set_option maxHeartbeats 4000000 in
set_option maxRecDepth 100000 in
theorem ac_whm (l : Launch) (G : KG) {ad : Nat → Nat} {w0 : va_W} {s uq vq wq : Int32} {pq qq oq : Int64} {kf ko : Nat → Int32} (hW : WT G ad TM w0) (es : fget w0 0 10 = some (.int s)) (ef : cget w0 8 0 = some (.inr (cyI G, 6, .inl kf))) (eo : cget w0 9 0 = some (.inr (cyI G, 6, .inl ko))) : Ct l G yX11_whose cX11_whose 15 (some .int) { frames := 2, cells := 0, slots := 0, locals := 55 } [.ref (ad 0), .int uq, .int vq, .int wq, .long pq, .long qq, .long oq] w0 (fun r w1 => WT G ad TM w1 ∧ FRM C_X11_whose_0.2.2.2.2.1 w0 w1 ∧ (r = some (.int (mTwo (okWh s.toInt uq.toInt vq.toInt wq.toInt pq.toInt qq.toInt oq.toInt) (d3 kf ko uq vq wq).toInt)))) := by
  obtain ⟨g0, q0, t0⟩ := WT.tab hW (k := 0) rfl
  obtain ⟨y0_0, r0_0, -, -⟩ := vty0 (t0 0 _ rfl).1 rfl
  obtain ⟨y0_1, r0_1, -, -⟩ := vty0 (t0 1 _ rfl).1 rfl
  have r0_2 : g0 2 = .ref (ad 1) := vty2 (t0 2 _ rfl).1 rfl
  obtain ⟨y0_3, r0_3, bl0_3, bu0_3⟩ := vty0 (t0 3 _ rfl).1 rfl
  have b0_3 : 0 ≤ y0_3.toInt ∧ y0_3.toInt ≤ 16 := ⟨bl0_3, bu0_3⟩
  have r0_4 : g0 4 = .ref (ad 2) := vty2 (t0 4 _ rfl).1 rfl
  have r0_5 : g0 5 = .ref (ad 3) := vty2 (t0 5 _ rfl).1 rfl
  have r0_6 : g0 6 = .ref (ad 4) := vty2 (t0 6 _ rfl).1 rfl
  have r0_7 : g0 7 = .ref (ad 5) := vty2 (t0 7 _ rfl).1 rfl
  have r0_8 : g0 8 = .ref (ad 6) := vty2 (t0 8 _ rfl).1 rfl
  have r0_9 : g0 9 = .ref (ad 7) := vty2 (t0 9 _ rfl).1 rfl
  have r0_10 : g0 10 = .int s := Option.some.inj ((t0 10 _ rfl).2.symm.trans es)
  have b0_10 : 0 ≤ s.toInt ∧ s.toInt ≤ 6 := by
    have h := (t0 10 _ rfl).1
    rw [r0_10] at h
    obtain ⟨y, e, l1, u1⟩ := vty0 h rfl
    obtain rfl := Value.int.inj e
    exact ⟨l1, u1⟩
  have r0_11 : g0 11 = .ref (ad 8) := vty2 (t0 11 _ rfl).1 rfl
  have r0_12 : g0 12 = .ref (ad 9) := vty2 (t0 12 _ rfl).1 rfl
  have r0_13 : g0 13 = .ref (ad 10) := vty2 (t0 13 _ rfl).1 rfl
  obtain ⟨y0_16, r0_16, -, -⟩ := vty0 (t0 16 _ rfl).1 rfl
  have r0_17 : g0 17 = .ref (ad 13) := vty2 (t0 17 _ rfl).1 rfl
  have r0_18 : g0 18 = .ref (ad 14) := vty2 (t0 18 _ rfl).1 rfl
  obtain ⟨y0_19, r0_19, -, -⟩ := vty0 (t0 19 _ rfl).1 rfl
  obtain ⟨y0_20, r0_20, -, -⟩ := vty0 (t0 20 _ rfl).1 rfl
  obtain ⟨y0_21, r0_21, -, -⟩ := vty0 (t0 21 _ rfl).1 rfl
  obtain ⟨y0_22, r0_22, -, -⟩ := vty0 (t0 22 _ rfl).1 rfl
  have r0_23 : g0 23 = .ref (ad 15) := vty2 (t0 23 _ rfl).1 rfl
  have r0_26 : g0 26 = .ref (ad 18) := vty2 (t0 26 _ rfl).1 rfl
  have r0_27 : g0 27 = .ref (ad 19) := vty2 (t0 27 _ rfl).1 rfl
  obtain ⟨y0_28, r0_28, -, -⟩ := vty0 (t0 28 _ rfl).1 rfl
  obtain ⟨y0_29, r0_29, -, -⟩ := vty0 (t0 29 _ rfl).1 rfl
  have r0_30 : g0 30 = .ref (ad 20) := vty2 (t0 30 _ rfl).1 rfl
  have r0_66 : g0 66 = .ref (ad 41) := vty2 (t0 66 _ rfl).1 rfl
  have c0 : w0[0]? = some ((ad 0), ob 11 [.int y0_0, .int y0_1, .ref (ad 1), .int y0_3, .ref (ad 2), .ref (ad 3), .ref (ad 4), .ref (ad 5), .ref (ad 6), .ref (ad 7), .int s, .ref (ad 8), .ref (ad 9), .ref (ad 10), (g0 14), (g0 15), .int y0_16, .ref (ad 13), .ref (ad 14), .int y0_19, .int y0_20, .int y0_21, .int y0_22, .ref (ad 15), (g0 24), (g0 25), .ref (ad 18), .ref (ad 19), .int y0_28, .int y0_29, .ref (ad 20), (g0 31), (g0 32), (g0 33), (g0 34), (g0 35), (g0 36), (g0 37), (g0 38), (g0 39), (g0 40), (g0 41), (g0 42), (g0 43), (g0 44), (g0 45), (g0 46), (g0 47), (g0 48), (g0 49), (g0 50), (g0 51), (g0 52), (g0 53), (g0 54), (g0 55), (g0 56), (g0 57), (g0 58), (g0 59), (g0 60), (g0 61), (g0 62), (g0 63), (g0 64), (g0 65), .ref (ad 41), (g0 67), (g0 68), (g0 69), (g0 70), (g0 71), (g0 72), (g0 73), (g0 74)]) := by
    rw [q0]
    show some (ad 0, ob 11 [g0 0, g0 1, g0 2, g0 3, g0 4, g0 5, g0 6, g0 7, g0 8, g0 9, g0 10, g0 11, g0 12, g0 13, g0 14, g0 15, g0 16, g0 17, g0 18, g0 19, g0 20, g0 21, g0 22, g0 23, g0 24, g0 25, g0 26, g0 27, g0 28, g0 29, g0 30, g0 31, g0 32, g0 33, g0 34, g0 35, g0 36, g0 37, g0 38, g0 39, g0 40, g0 41, g0 42, g0 43, g0 44, g0 45, g0 46, g0 47, g0 48, g0 49, g0 50, g0 51, g0 52, g0 53, g0 54, g0 55, g0 56, g0 57, g0 58, g0 59, g0 60, g0 61, g0 62, g0 63, g0 64, g0 65, g0 66, g0 67, g0 68, g0 69, g0 70, g0 71, g0 72, g0 73, g0 74]) = _
    rw [r0_0, r0_1, r0_2, r0_3, r0_4, r0_5, r0_6, r0_7, r0_8, r0_9, r0_10, r0_11, r0_12, r0_13, r0_16, r0_17, r0_18, r0_19, r0_20, r0_21, r0_22, r0_23, r0_26, r0_27, r0_28, r0_29, r0_30, r0_66]
  obtain ⟨f8, c8, -⟩ := WT.ints hW (k := 8) rfl
  have ef8 : f8 = kf := arrinj ((cgetI c8 0).symm.trans ef)
  rw [ef8] at c8
  obtain ⟨f9, c9, -⟩ := WT.ints hW (k := 9) rfl
  have ef9 : f9 = ko := arrinj ((cgetI c9 0).symm.trans eo)
  rw [ef9] at c9
  obtain ⟨f41, c41, -⟩ := WT.longs hW (k := 41) rfl
  obtain ⟨f1, c1, -⟩ := WT.longs hW (k := 1) rfl
  have h2 := co_X11_whose l G (ad 0) y0_0 y0_1 (ad 1) y0_3 (ad 2) (ad 3) (ad 4) (ad 5) (ad 6) (ad 7) s (ad 8) (ad 9) (ad 10) (g0 14) (g0 15) y0_16 (ad 13) (ad 14) y0_19 y0_20 y0_21 y0_22 (ad 15) (g0 24) (g0 25) (ad 18) (ad 19) y0_28 y0_29 (ad 20) (g0 31) (g0 32) (g0 33) (g0 34) (g0 35) (g0 36) (g0 37) (g0 38) (g0 39) (g0 40) (g0 41) (g0 42) (g0 43) (g0 44) (g0 45) (g0 46) (g0 47) (g0 48) (g0 49) (g0 50) (g0 51) (g0 52) (g0 53) (g0 54) (g0 55) (g0 56) (g0 57) (g0 58) (g0 59) (g0 60) (g0 61) (g0 62) (g0 63) (g0 64) (g0 65) (ad 41) (g0 67) (g0 68) (g0 69) (g0 70) (g0 71) (g0 72) (g0 73) (g0 74) kf ko f41 f1 uq vq wq pq qq oq s.toInt uq.toInt vq.toInt wq.toInt pq.toInt qq.toInt oq.toInt rfl rfl rfl rfl rfl rfl rfl (by omega)
  refine Ct.weak (Ct.and (show Ct l G yX11_whose cX11_whose 15 (some .int) { frames := 2, cells := 0, slots := 0, locals := 55 } [.ref (ad 0), .int uq, .int vq, .int wq, .long pq, .long qq, .long oq] w0 (fun r w1 => POST G ad TM C_X11_whose_0 (fun k => ((Value.ref (ad 0) :: [.int uq, .int vq, .int wq, .long pq, .long qq, .long oq])[k]?).getD .null) w0 r w1) from ac_X11_whose_0 l G ad w0 _ hW (pre_mu (C := C_X11_whose_0) (ts := [tI0, tI0, tI0, tL0, tL0, tL0]) (As := [.int uq, .int vq, .int wq, .long pq, .long qq, .long oq]) rfl rfl rfl rfl ⟨fun _ => vty_i0 _, fun _ => vty_i0 _, fun _ => vty_i0 _, fun _ => vty_l0 _, fun _ => vty_l0 _, fun _ => vty_l0 _, trivial⟩ ad w0 rfl)) h2 [0, 8, 9, 41, 1] (pk_cons c0 (pk_cons c8 (pk_cons c9 (pk_cons c41 (pk_cons c1 rfl))))) (by decide)) ?_
  rintro r w1 ⟨hp, w2, ⟨rz, rw2, fw2, z2, hr, rfl, rfl⟩, hS⟩
  obtain ⟨A1, hA1, μ2, -, -, -, -, -, -, hW1, hF1⟩ := hp
  obtain ⟨fs0, -, u0, ul0, -, -⟩ := WT.obj hW1 (k := 0) (j := 0) rfl rfl
  obtain ⟨p1, u1, -⟩ := WT.longs hW1 (k := 1) rfl
  obtain ⟨p8, u8, -⟩ := WT.ints hW1 (k := 8) rfl
  obtain ⟨p9, u9, -⟩ := WT.ints hW1 (k := 9) rfl
  obtain ⟨p41, u41, -⟩ := WT.longs hW1 (k := 41) rfl
  exact ⟨hW1, hF1, by rw [hr]⟩
