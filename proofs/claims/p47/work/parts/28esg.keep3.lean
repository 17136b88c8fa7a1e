/-! keep, again in the typed world -/
theorem same_Z {G : KG} {w1 w2 : va_W} (h : Same2 G w1 w2) {k j a n : Nat} {f g : Nat → Int32} (h1 : w1[k]? = some (a, aZ G n f)) (h2 : w2[j]? = some (a, aZ G n g)) : ∀ i, i < n → f i = g i := by
  obtain ⟨H, p1, p2⟩ := same_at h h1 h2
  have p1 : H[a]? = some (arrV (cyZ G) n (fun j => .int (f j))) := p1
  have p2 : H[a]? = some (arrV (cyZ G) n (fun j => .int (g j))) := p2
  rw [p1] at p2
  have e := congrArg Cell.slots (Option.some.inj p2)
  intro i hi
  have e2 : (Array.ofFn (n := n) fun j => Value.int (f j.val))[i]? = (Array.ofFn (n := n) fun j => Value.int (g j.val))[i]? := congrArg (fun q : Array Value => q[i]?) e
  rw [Array.getElem?_ofFn, Array.getElem?_ofFn, dif_pos hi, dif_pos hi] at e2
  exact Value.int.inj (Option.some.inj e2)
set_option maxHeartbeats 4000000 in
set_option maxRecDepth 100000 in
theorem ac_kpm0 (l : Launch) (G : KG) {ad : Nat → Nat} {w0 : va_W} {t a : Int32} {b kk : Nat → Int32} (hW : WT G ad TM w0) (ha : a.toInt = 0) (et : fget w0 0 31 = some (.int t)) (eb : cget w0 45 0 = some (.inr (cyZ G, 3, .inl b))) (ek : cget w0 46 0 = some (.inr (cyI G, 462, .inl kk))) : Ct l G yX11_keep cX11_keep 4 (some .boolean) { frames := 1, cells := 0, slots := 0, locals := 25 } [.ref (ad 0), .int a] w0 (fun r w1 => WT G ad TM w1 ∧ FRM C_X11_keep_1.2.2.2.2.1 w0 w1 ∧ KpE G t a b kk r w1) := by
  obtain ⟨g0, q0, t0⟩ := WT.tab hW (k := 0) rfl
  obtain ⟨y0_0, r0_0, -, -⟩ := vty0 (t0 0 _ rfl).1 rfl
  obtain ⟨y0_3, r0_3, bl0_3, bu0_3⟩ := vty0 (t0 3 _ rfl).1 rfl
  have b0_3 : 0 ≤ y0_3.toInt ∧ y0_3.toInt ≤ 16 := ⟨bl0_3, bu0_3⟩
  have r0_4 : g0 4 = .ref (ad 2) := vty2 (t0 4 _ rfl).1 rfl
  have r0_5 : g0 5 = .ref (ad 3) := vty2 (t0 5 _ rfl).1 rfl
  have r0_6 : g0 6 = .ref (ad 4) := vty2 (t0 6 _ rfl).1 rfl
  have r0_7 : g0 7 = .ref (ad 5) := vty2 (t0 7 _ rfl).1 rfl
  have r0_8 : g0 8 = .ref (ad 6) := vty2 (t0 8 _ rfl).1 rfl
  have r0_9 : g0 9 = .ref (ad 7) := vty2 (t0 9 _ rfl).1 rfl
  obtain ⟨y0_10, r0_10, bl0_10, bu0_10⟩ := vty0 (t0 10 _ rfl).1 rfl
  have b0_10 : 0 ≤ y0_10.toInt ∧ y0_10.toInt ≤ 6 := ⟨bl0_10, bu0_10⟩
  have r0_11 : g0 11 = .ref (ad 8) := vty2 (t0 11 _ rfl).1 rfl
  have r0_12 : g0 12 = .ref (ad 9) := vty2 (t0 12 _ rfl).1 rfl
  have r0_13 : g0 13 = .ref (ad 10) := vty2 (t0 13 _ rfl).1 rfl
  have r0_14 : g0 14 = .ref (ad 11) := vty2 (t0 14 _ rfl).1 rfl
  have r0_15 : g0 15 = .ref (ad 12) := vty2 (t0 15 _ rfl).1 rfl
  obtain ⟨y0_16, r0_16, -, -⟩ := vty0 (t0 16 _ rfl).1 rfl
  have r0_17 : g0 17 = .ref (ad 13) := vty2 (t0 17 _ rfl).1 rfl
  have r0_18 : g0 18 = .ref (ad 14) := vty2 (t0 18 _ rfl).1 rfl
  obtain ⟨y0_19, r0_19, -, -⟩ := vty0 (t0 19 _ rfl).1 rfl
  obtain ⟨y0_20, r0_20, -, -⟩ := vty0 (t0 20 _ rfl).1 rfl
  obtain ⟨y0_21, r0_21, -, -⟩ := vty0 (t0 21 _ rfl).1 rfl
  obtain ⟨y0_22, r0_22, -, -⟩ := vty0 (t0 22 _ rfl).1 rfl
  have r0_26 : g0 26 = .ref (ad 18) := vty2 (t0 26 _ rfl).1 rfl
  have r0_27 : g0 27 = .ref (ad 19) := vty2 (t0 27 _ rfl).1 rfl
  obtain ⟨y0_28, r0_28, -, -⟩ := vty0 (t0 28 _ rfl).1 rfl
  obtain ⟨y0_29, r0_29, -, -⟩ := vty0 (t0 29 _ rfl).1 rfl
  have r0_31 : g0 31 = .int t := Option.some.inj ((t0 31 _ rfl).2.symm.trans et)
  have b0_31 : 0 ≤ t.toInt ∧ t.toInt ≤ 12 := by
    have h := (t0 31 _ rfl).1
    rw [r0_31] at h
    obtain ⟨y, e, l1, u1⟩ := vty0 h rfl
    obtain rfl := Value.int.inj e
    exact ⟨l1, u1⟩
  have r0_32 : g0 32 = .ref (ad 21) := vty2 (t0 32 _ rfl).1 rfl
  have r0_33 : g0 33 = .ref (ad 22) := vty2 (t0 33 _ rfl).1 rfl
  have r0_34 : g0 34 = .ref (ad 23) := vty2 (t0 34 _ rfl).1 rfl
  have r0_35 : g0 35 = .ref (ad 24) := vty2 (t0 35 _ rfl).1 rfl
  have r0_36 : g0 36 = .ref (ad 25) := vty2 (t0 36 _ rfl).1 rfl
  have r0_37 : g0 37 = .ref (ad 26) := vty2 (t0 37 _ rfl).1 rfl
  have r0_72 : g0 72 = .ref (ad 45) := vty2 (t0 72 _ rfl).1 rfl
  have r0_73 : g0 73 = .ref (ad 46) := vty2 (t0 73 _ rfl).1 rfl
  obtain ⟨y0_74, r0_74, -, -⟩ := vty0 (t0 74 _ rfl).1 rfl
  have c0 : w0[0]? = some ((ad 0), ob 11 [.int y0_0, (g0 1), (g0 2), .int y0_3, .ref (ad 2), .ref (ad 3), .ref (ad 4), .ref (ad 5), .ref (ad 6), .ref (ad 7), .int y0_10, .ref (ad 8), .ref (ad 9), .ref (ad 10), .ref (ad 11), .ref (ad 12), .int y0_16, .ref (ad 13), .ref (ad 14), .int y0_19, .int y0_20, .int y0_21, .int y0_22, (g0 23), (g0 24), (g0 25), .ref (ad 18), .ref (ad 19), .int y0_28, .int y0_29, (g0 30), .int t, .ref (ad 21), .ref (ad 22), .ref (ad 23), .ref (ad 24), .ref (ad 25), .ref (ad 26), (g0 38), (g0 39), (g0 40), (g0 41), (g0 42), (g0 43), (g0 44), (g0 45), (g0 46), (g0 47), (g0 48), (g0 49), (g0 50), (g0 51), (g0 52), (g0 53), (g0 54), (g0 55), (g0 56), (g0 57), (g0 58), (g0 59), (g0 60), (g0 61), (g0 62), (g0 63), (g0 64), (g0 65), (g0 66), (g0 67), (g0 68), (g0 69), (g0 70), (g0 71), .ref (ad 45), .ref (ad 46), .int y0_74]) := by
    rw [q0]
    show some (ad 0, ob 11 [g0 0, g0 1, g0 2, g0 3, g0 4, g0 5, g0 6, g0 7, g0 8, g0 9, g0 10, g0 11, g0 12, g0 13, g0 14, g0 15, g0 16, g0 17, g0 18, g0 19, g0 20, g0 21, g0 22, g0 23, g0 24, g0 25, g0 26, g0 27, g0 28, g0 29, g0 30, g0 31, g0 32, g0 33, g0 34, g0 35, g0 36, g0 37, g0 38, g0 39, g0 40, g0 41, g0 42, g0 43, g0 44, g0 45, g0 46, g0 47, g0 48, g0 49, g0 50, g0 51, g0 52, g0 53, g0 54, g0 55, g0 56, g0 57, g0 58, g0 59, g0 60, g0 61, g0 62, g0 63, g0 64, g0 65, g0 66, g0 67, g0 68, g0 69, g0 70, g0 71, g0 72, g0 73, g0 74]) = _
    rw [r0_0, r0_3, r0_4, r0_5, r0_6, r0_7, r0_8, r0_9, r0_10, r0_11, r0_12, r0_13, r0_14, r0_15, r0_16, r0_17, r0_18, r0_19, r0_20, r0_21, r0_22, r0_26, r0_27, r0_28, r0_29, r0_31, r0_32, r0_33, r0_34, r0_35, r0_36, r0_37, r0_72, r0_73, r0_74]
  obtain ⟨f46, c46, -⟩ := WT.ints hW (k := 46) rfl
  have ef46 : f46 = kk := arrinj ((cgetI c46 0).symm.trans ek)
  rw [ef46] at c46
  obtain ⟨f45, c45, -⟩ := WT.bools hW (k := 45) rfl
  have ef45 : f45 = b := arrinj ((cgetZ c45 0).symm.trans eb)
  rw [ef45] at c45
  obtain ⟨f6, c6, -⟩ := WT.ints hW (k := 6) rfl
  obtain ⟨f18, c18, -⟩ := WT.ints hW (k := 18) rfl
  obtain ⟨f19, c19, -⟩ := WT.ints hW (k := 19) rfl
  obtain ⟨f10, c10, -⟩ := WT.bools hW (k := 10) rfl
  obtain ⟨f11, c11, -⟩ := WT.ints hW (k := 11) rfl
  obtain ⟨f12, c12, -⟩ := WT.ints hW (k := 12) rfl
  obtain ⟨f21, c21, -⟩ := WT.ints hW (k := 21) rfl
  obtain ⟨f22, c22, -⟩ := WT.bools hW (k := 22) rfl
  obtain ⟨f23, c23, -⟩ := WT.ints hW (k := 23) rfl
  obtain ⟨f24, c24, -⟩ := WT.ints hW (k := 24) rfl
  obtain ⟨f25, c25, -⟩ := WT.ints hW (k := 25) rfl
  obtain ⟨f26, c26, -⟩ := WT.ints hW (k := 26) rfl
  have h2 := ce_X11_keep l G (ad 0) y0_0 (g0 1) (g0 2) y0_3 (ad 2) (ad 3) (ad 4) (ad 5) (ad 6) (ad 7) y0_10 (ad 8) (ad 9) (ad 10) (ad 11) (ad 12) y0_16 (ad 13) (ad 14) y0_19 y0_20 y0_21 y0_22 (g0 23) (g0 24) (g0 25) (ad 18) (ad 19) y0_28 y0_29 (g0 30) t (ad 21) (ad 22) (ad 23) (ad 24) (ad 25) (ad 26) (g0 38) (g0 39) (g0 40) (g0 41) (g0 42) (g0 43) (g0 44) (g0 45) (g0 46) (g0 47) (g0 48) (g0 49) (g0 50) (g0 51) (g0 52) (g0 53) (g0 54) (g0 55) (g0 56) (g0 57) (g0 58) (g0 59) (g0 60) (g0 61) (g0 62) (g0 63) (g0 64) (g0 65) (g0 66) (g0 67) (g0 68) (g0 69) (g0 70) (g0 71) (ad 45) (ad 46) y0_74 kk b f6 f18 f19 f10 f11 f12 f21 f22 f23 f24 f25 f26 a a.toInt y0_3.toInt y0_10.toInt rfl rfl rfl (by omega) (by omega)
  refine Ct.weak (Ct.and (show Ct l G yX11_keep cX11_keep 4 (some .boolean) { frames := 1, cells := 0, slots := 0, locals := 25 } [.ref (ad 0), .int a] w0 (fun r w1 => POST G ad TM C_X11_keep_1 (fun k => ((Value.ref (ad 0) :: [.int a])[k]?).getD .null) w0 r w1) from ac_X11_keep_1 l G ad w0 _ hW (pre_mu (C := C_X11_keep_1) (ts := [(0, 0, 0)]) (As := [.int a]) rfl rfl rfl rfl ⟨fun _ => vty_i (by omega) (by omega), trivial⟩ ad w0 rfl)) h2 [0, 46, 45, 6, 18, 19, 10, 11, 12, 21, 22, 23, 24, 25, 26] (pk_cons c0 (pk_cons c46 (pk_cons c45 (pk_cons c6 (pk_cons c18 (pk_cons c19 (pk_cons c10 (pk_cons c11 (pk_cons c12 (pk_cons c21 (pk_cons c22 (pk_cons c23 (pk_cons c24 (pk_cons c25 (pk_cons c26 rfl))))))))))))))) (by decide)) ?_
  rintro r w1 ⟨hp, w2, ⟨k2, fk2, hE, rfl, rfl⟩, hS⟩
  obtain ⟨A1, hA1, μ2, -, -, -, -, -, -, hW1, hF1⟩ := hp
  obtain ⟨fs0, -, u0, ul0, -, -⟩ := WT.obj hW1 (k := 0) (j := 0) rfl rfl
  obtain ⟨p6, u6, -⟩ := WT.ints hW1 (k := 6) rfl
  obtain ⟨p10, u10, -⟩ := WT.bools hW1 (k := 10) rfl
  obtain ⟨p11, u11, -⟩ := WT.ints hW1 (k := 11) rfl
  obtain ⟨p12, u12, -⟩ := WT.ints hW1 (k := 12) rfl
  obtain ⟨p18, u18, -⟩ := WT.ints hW1 (k := 18) rfl
  obtain ⟨p19, u19, -⟩ := WT.ints hW1 (k := 19) rfl
  obtain ⟨p21, u21, -⟩ := WT.ints hW1 (k := 21) rfl
  obtain ⟨p22, u22, -⟩ := WT.bools hW1 (k := 22) rfl
  obtain ⟨p23, u23, -⟩ := WT.ints hW1 (k := 23) rfl
  obtain ⟨p24, u24, -⟩ := WT.ints hW1 (k := 24) rfl
  obtain ⟨p25, u25, -⟩ := WT.ints hW1 (k := 25) rfl
  obtain ⟨p26, u26, -⟩ := WT.ints hW1 (k := 26) rfl
  obtain ⟨p45, u45, -⟩ := WT.bools hW1 (k := 45) rfl
  obtain ⟨p46, u46, -⟩ := WT.ints hW1 (k := 46) rfl
  exact ⟨hW1, hF1, rfl, ⟨p45, cgetZ u45 0, fun j hj => ((same_Z hS (k := 45) (j := 2) u45 rfl) j hj).trans (by unfold upd; by_cases ej : (j : Int) = a.toInt; (rw [if_pos ej, if_pos (show j = a.toNatClampNeg from (show j = a.toInt.toNat by omega))]; try rfl); (rw [if_neg ej, if_neg (show ¬ j = a.toNatClampNeg from (show ¬ j = a.toInt.toNat by omega))]))⟩, p46, cgetI u46 0, ((same_I hS (k := 46) (j := 1) u46 rfl) _ (by omega)).trans (by rw [hE, if_pos (by omega), show (154 * a.toInt + 44).toNat - (154 * a.toInt).toNat = 44 by omega, enc_t]), fun j hj hq => ((same_I hS (k := 46) (j := 1) u46 rfl) j hj).trans (by rw [hE, if_neg (by omega)])⟩
set_option maxHeartbeats 4000000 in
set_option maxRecDepth 100000 in
theorem ac_agm0 (l : Launch) (G : KG) {ad : Nat → Nat} {w0 : va_W} {t a : Int32} {b kk : Nat → Int32} (hW : WT G ad TM w0) (ha : a.toInt = 0) (et : fget w0 0 31 = some (.int t)) (eb : cget w0 45 0 = some (.inr (cyZ G, 3, .inl b))) (ek : cget w0 46 0 = some (.inr (cyI G, 462, .inl kk))) (hb : (b a.toNatClampNeg).toInt ≠ 0) : Ct l G yX11_again cX11_again 4 (some .boolean) { frames := 1, cells := 0, slots := 0, locals := 25 } [.ref (ad 0), .int a] w0 (fun r w1 => WT G ad TM w1 ∧ FRM C_X11_again_1.2.2.2.2.1 w0 w1 ∧ (r = some (.int 1) ∧ fget w1 0 31 = some (.int (kk (154 * a.toInt + 44).toNat)))) := by
  obtain ⟨g0, q0, t0⟩ := WT.tab hW (k := 0) rfl
  obtain ⟨y0_0, r0_0, -, -⟩ := vty0 (t0 0 _ rfl).1 rfl
  obtain ⟨y0_3, r0_3, bl0_3, bu0_3⟩ := vty0 (t0 3 _ rfl).1 rfl
  have b0_3 : 0 ≤ y0_3.toInt ∧ y0_3.toInt ≤ 16 := ⟨bl0_3, bu0_3⟩
  have r0_4 : g0 4 = .ref (ad 2) := vty2 (t0 4 _ rfl).1 rfl
  have r0_5 : g0 5 = .ref (ad 3) := vty2 (t0 5 _ rfl).1 rfl
  have r0_6 : g0 6 = .ref (ad 4) := vty2 (t0 6 _ rfl).1 rfl
  have r0_7 : g0 7 = .ref (ad 5) := vty2 (t0 7 _ rfl).1 rfl
  have r0_8 : g0 8 = .ref (ad 6) := vty2 (t0 8 _ rfl).1 rfl
  have r0_9 : g0 9 = .ref (ad 7) := vty2 (t0 9 _ rfl).1 rfl
  obtain ⟨y0_10, r0_10, bl0_10, bu0_10⟩ := vty0 (t0 10 _ rfl).1 rfl
  have b0_10 : 0 ≤ y0_10.toInt ∧ y0_10.toInt ≤ 6 := ⟨bl0_10, bu0_10⟩
  have r0_11 : g0 11 = .ref (ad 8) := vty2 (t0 11 _ rfl).1 rfl
  have r0_12 : g0 12 = .ref (ad 9) := vty2 (t0 12 _ rfl).1 rfl
  have r0_13 : g0 13 = .ref (ad 10) := vty2 (t0 13 _ rfl).1 rfl
  have r0_14 : g0 14 = .ref (ad 11) := vty2 (t0 14 _ rfl).1 rfl
  have r0_15 : g0 15 = .ref (ad 12) := vty2 (t0 15 _ rfl).1 rfl
  obtain ⟨y0_16, r0_16, -, -⟩ := vty0 (t0 16 _ rfl).1 rfl
  have r0_17 : g0 17 = .ref (ad 13) := vty2 (t0 17 _ rfl).1 rfl
  have r0_18 : g0 18 = .ref (ad 14) := vty2 (t0 18 _ rfl).1 rfl
  obtain ⟨y0_19, r0_19, -, -⟩ := vty0 (t0 19 _ rfl).1 rfl
  obtain ⟨y0_20, r0_20, -, -⟩ := vty0 (t0 20 _ rfl).1 rfl
  obtain ⟨y0_21, r0_21, -, -⟩ := vty0 (t0 21 _ rfl).1 rfl
  obtain ⟨y0_22, r0_22, -, -⟩ := vty0 (t0 22 _ rfl).1 rfl
  have r0_26 : g0 26 = .ref (ad 18) := vty2 (t0 26 _ rfl).1 rfl
  have r0_27 : g0 27 = .ref (ad 19) := vty2 (t0 27 _ rfl).1 rfl
  obtain ⟨y0_28, r0_28, -, -⟩ := vty0 (t0 28 _ rfl).1 rfl
  obtain ⟨y0_29, r0_29, -, -⟩ := vty0 (t0 29 _ rfl).1 rfl
  have r0_31 : g0 31 = .int t := Option.some.inj ((t0 31 _ rfl).2.symm.trans et)
  have b0_31 : 0 ≤ t.toInt ∧ t.toInt ≤ 12 := by
    have h := (t0 31 _ rfl).1
    rw [r0_31] at h
    obtain ⟨y, e, l1, u1⟩ := vty0 h rfl
    obtain rfl := Value.int.inj e
    exact ⟨l1, u1⟩
  have r0_32 : g0 32 = .ref (ad 21) := vty2 (t0 32 _ rfl).1 rfl
  have r0_33 : g0 33 = .ref (ad 22) := vty2 (t0 33 _ rfl).1 rfl
  have r0_34 : g0 34 = .ref (ad 23) := vty2 (t0 34 _ rfl).1 rfl
  have r0_35 : g0 35 = .ref (ad 24) := vty2 (t0 35 _ rfl).1 rfl
  have r0_36 : g0 36 = .ref (ad 25) := vty2 (t0 36 _ rfl).1 rfl
  have r0_37 : g0 37 = .ref (ad 26) := vty2 (t0 37 _ rfl).1 rfl
  have r0_72 : g0 72 = .ref (ad 45) := vty2 (t0 72 _ rfl).1 rfl
  have r0_73 : g0 73 = .ref (ad 46) := vty2 (t0 73 _ rfl).1 rfl
  obtain ⟨y0_74, r0_74, -, -⟩ := vty0 (t0 74 _ rfl).1 rfl
  have c0 : w0[0]? = some ((ad 0), ob 11 [.int y0_0, (g0 1), (g0 2), .int y0_3, .ref (ad 2), .ref (ad 3), .ref (ad 4), .ref (ad 5), .ref (ad 6), .ref (ad 7), .int y0_10, .ref (ad 8), .ref (ad 9), .ref (ad 10), .ref (ad 11), .ref (ad 12), .int y0_16, .ref (ad 13), .ref (ad 14), .int y0_19, .int y0_20, .int y0_21, .int y0_22, (g0 23), (g0 24), (g0 25), .ref (ad 18), .ref (ad 19), .int y0_28, .int y0_29, (g0 30), .int t, .ref (ad 21), .ref (ad 22), .ref (ad 23), .ref (ad 24), .ref (ad 25), .ref (ad 26), (g0 38), (g0 39), (g0 40), (g0 41), (g0 42), (g0 43), (g0 44), (g0 45), (g0 46), (g0 47), (g0 48), (g0 49), (g0 50), (g0 51), (g0 52), (g0 53), (g0 54), (g0 55), (g0 56), (g0 57), (g0 58), (g0 59), (g0 60), (g0 61), (g0 62), (g0 63), (g0 64), (g0 65), (g0 66), (g0 67), (g0 68), (g0 69), (g0 70), (g0 71), .ref (ad 45), .ref (ad 46), .int y0_74]) := by
    rw [q0]
    show some (ad 0, ob 11 [g0 0, g0 1, g0 2, g0 3, g0 4, g0 5, g0 6, g0 7, g0 8, g0 9, g0 10, g0 11, g0 12, g0 13, g0 14, g0 15, g0 16, g0 17, g0 18, g0 19, g0 20, g0 21, g0 22, g0 23, g0 24, g0 25, g0 26, g0 27, g0 28, g0 29, g0 30, g0 31, g0 32, g0 33, g0 34, g0 35, g0 36, g0 37, g0 38, g0 39, g0 40, g0 41, g0 42, g0 43, g0 44, g0 45, g0 46, g0 47, g0 48, g0 49, g0 50, g0 51, g0 52, g0 53, g0 54, g0 55, g0 56, g0 57, g0 58, g0 59, g0 60, g0 61, g0 62, g0 63, g0 64, g0 65, g0 66, g0 67, g0 68, g0 69, g0 70, g0 71, g0 72, g0 73, g0 74]) = _
    rw [r0_0, r0_3, r0_4, r0_5, r0_6, r0_7, r0_8, r0_9, r0_10, r0_11, r0_12, r0_13, r0_14, r0_15, r0_16, r0_17, r0_18, r0_19, r0_20, r0_21, r0_22, r0_26, r0_27, r0_28, r0_29, r0_31, r0_32, r0_33, r0_34, r0_35, r0_36, r0_37, r0_72, r0_73, r0_74]
  obtain ⟨f46, c46, -⟩ := WT.ints hW (k := 46) rfl
  have ef46 : f46 = kk := arrinj ((cgetI c46 0).symm.trans ek)
  rw [ef46] at c46
  obtain ⟨f45, c45, -⟩ := WT.bools hW (k := 45) rfl
  have ef45 : f45 = b := arrinj ((cgetZ c45 0).symm.trans eb)
  rw [ef45] at c45
  obtain ⟨f6, c6, -⟩ := WT.ints hW (k := 6) rfl
  obtain ⟨f18, c18, -⟩ := WT.ints hW (k := 18) rfl
  obtain ⟨f19, c19, -⟩ := WT.ints hW (k := 19) rfl
  obtain ⟨f10, c10, -⟩ := WT.bools hW (k := 10) rfl
  obtain ⟨f11, c11, -⟩ := WT.ints hW (k := 11) rfl
  obtain ⟨f12, c12, -⟩ := WT.ints hW (k := 12) rfl
  obtain ⟨f21, c21, -⟩ := WT.ints hW (k := 21) rfl
  obtain ⟨f22, c22, -⟩ := WT.bools hW (k := 22) rfl
  obtain ⟨f23, c23, -⟩ := WT.ints hW (k := 23) rfl
  obtain ⟨f24, c24, -⟩ := WT.ints hW (k := 24) rfl
  obtain ⟨f25, c25, -⟩ := WT.ints hW (k := 25) rfl
  obtain ⟨f26, c26, -⟩ := WT.ints hW (k := 26) rfl
  have h2 := ce_X11_again l G (ad 0) y0_0 (g0 1) (g0 2) y0_3 (ad 2) (ad 3) (ad 4) (ad 5) (ad 6) (ad 7) y0_10 (ad 8) (ad 9) (ad 10) (ad 11) (ad 12) y0_16 (ad 13) (ad 14) y0_19 y0_20 y0_21 y0_22 (g0 23) (g0 24) (g0 25) (ad 18) (ad 19) y0_28 y0_29 (g0 30) t (ad 21) (ad 22) (ad 23) (ad 24) (ad 25) (ad 26) (g0 38) (g0 39) (g0 40) (g0 41) (g0 42) (g0 43) (g0 44) (g0 45) (g0 46) (g0 47) (g0 48) (g0 49) (g0 50) (g0 51) (g0 52) (g0 53) (g0 54) (g0 55) (g0 56) (g0 57) (g0 58) (g0 59) (g0 60) (g0 61) (g0 62) (g0 63) (g0 64) (g0 65) (g0 66) (g0 67) (g0 68) (g0 69) (g0 70) (g0 71) (ad 45) (ad 46) y0_74 kk b f6 f18 f19 f10 f11 f12 f21 f22 f23 f24 f25 f26 a a.toInt y0_3.toInt y0_10.toInt rfl rfl rfl (by omega) (by omega) (by omega)
  refine Ct.weak (Ct.and (show Ct l G yX11_again cX11_again 4 (some .boolean) { frames := 1, cells := 0, slots := 0, locals := 25 } [.ref (ad 0), .int a] w0 (fun r w1 => POST G ad TM C_X11_again_1 (fun k => ((Value.ref (ad 0) :: [.int a])[k]?).getD .null) w0 r w1) from ac_X11_again_1 l G ad w0 _ hW (pre_mu (C := C_X11_again_1) (ts := [(0, 0, 0)]) (As := [.int a]) rfl rfl rfl rfl ⟨fun _ => vty_i (by omega) (by omega), trivial⟩ ad w0 rfl)) h2 [0, 46, 45, 6, 18, 19, 10, 11, 12, 21, 22, 23, 24, 25, 26] (pk_cons c0 (pk_cons c46 (pk_cons c45 (pk_cons c6 (pk_cons c18 (pk_cons c19 (pk_cons c10 (pk_cons c11 (pk_cons c12 (pk_cons c21 (pk_cons c22 (pk_cons c23 (pk_cons c24 (pk_cons c25 (pk_cons c26 rfl))))))))))))))) (by decide)) ?_
  rintro r w1 ⟨hp, w2, ⟨k2, ph2, po2, t2, fu2, fX2, fY2, fa2, fA2, fB2, fS2, fW2, f12, f22, f32, f42, hph, hpo, ht2, z_fu, z_fX, z_fY, z_fa, z_fA, z_fB, z_fS, z_fW, z_f1, z_f2, z_f3, z_f4, rfl, rfl⟩, hS⟩
  obtain ⟨A1, hA1, μ2, -, -, -, -, -, -, hW1, hF1⟩ := hp
  obtain ⟨fs0, -, u0, ul0, -, -⟩ := WT.obj hW1 (k := 0) (j := 0) rfl rfl
  obtain ⟨p6, u6, -⟩ := WT.ints hW1 (k := 6) rfl
  obtain ⟨p10, u10, -⟩ := WT.bools hW1 (k := 10) rfl
  obtain ⟨p11, u11, -⟩ := WT.ints hW1 (k := 11) rfl
  obtain ⟨p12, u12, -⟩ := WT.ints hW1 (k := 12) rfl
  obtain ⟨p18, u18, -⟩ := WT.ints hW1 (k := 18) rfl
  obtain ⟨p19, u19, -⟩ := WT.ints hW1 (k := 19) rfl
  obtain ⟨p21, u21, -⟩ := WT.ints hW1 (k := 21) rfl
  obtain ⟨p22, u22, -⟩ := WT.bools hW1 (k := 22) rfl
  obtain ⟨p23, u23, -⟩ := WT.ints hW1 (k := 23) rfl
  obtain ⟨p24, u24, -⟩ := WT.ints hW1 (k := 24) rfl
  obtain ⟨p25, u25, -⟩ := WT.ints hW1 (k := 25) rfl
  obtain ⟨p26, u26, -⟩ := WT.ints hW1 (k := 26) rfl
  obtain ⟨p45, u45, -⟩ := WT.bools hW1 (k := 45) rfl
  obtain ⟨p46, u46, -⟩ := WT.ints hW1 (k := 46) rfl
  exact ⟨hW1, hF1, rfl, by rw [(same_f hS (k := 0) (j := 0) (q := (RX11, TX11, 75)) rfl u0 rfl (by decide) ul0 rfl), ht2, show (154 * a.toInt).toNat + 44 = (154 * a.toInt + 44).toNat by omega]⟩
set_option maxHeartbeats 4000000 in
set_option maxRecDepth 100000 in
theorem ac_anm0 (l : Launch) (G : KG) {ad : Nat → Nat} {w0 : va_W} {t a : Int32} {b kk : Nat → Int32} (hW : WT G ad TM w0) (ha : a.toInt = 0) (et : fget w0 0 31 = some (.int t)) (eb : cget w0 45 0 = some (.inr (cyZ G, 3, .inl b))) (ek : cget w0 46 0 = some (.inr (cyI G, 462, .inl kk))) (hb : (b a.toNatClampNeg).toInt = 0) : Ct l G yX11_again cX11_again 4 (some .boolean) { frames := 1, cells := 0, slots := 0, locals := 25 } [.ref (ad 0), .int a] w0 (fun r w1 => WT G ad TM w1 ∧ FRM C_X11_again_1.2.2.2.2.1 w0 w1 ∧ (r = some (.int 0) ∧ fget w1 0 31 = some (.int t))) := by
  obtain ⟨g0, q0, t0⟩ := WT.tab hW (k := 0) rfl
  obtain ⟨y0_0, r0_0, -, -⟩ := vty0 (t0 0 _ rfl).1 rfl
  obtain ⟨y0_3, r0_3, bl0_3, bu0_3⟩ := vty0 (t0 3 _ rfl).1 rfl
  have b0_3 : 0 ≤ y0_3.toInt ∧ y0_3.toInt ≤ 16 := ⟨bl0_3, bu0_3⟩
  have r0_4 : g0 4 = .ref (ad 2) := vty2 (t0 4 _ rfl).1 rfl
  have r0_5 : g0 5 = .ref (ad 3) := vty2 (t0 5 _ rfl).1 rfl
  have r0_6 : g0 6 = .ref (ad 4) := vty2 (t0 6 _ rfl).1 rfl
  have r0_7 : g0 7 = .ref (ad 5) := vty2 (t0 7 _ rfl).1 rfl
  have r0_8 : g0 8 = .ref (ad 6) := vty2 (t0 8 _ rfl).1 rfl
  have r0_9 : g0 9 = .ref (ad 7) := vty2 (t0 9 _ rfl).1 rfl
  obtain ⟨y0_10, r0_10, bl0_10, bu0_10⟩ := vty0 (t0 10 _ rfl).1 rfl
  have b0_10 : 0 ≤ y0_10.toInt ∧ y0_10.toInt ≤ 6 := ⟨bl0_10, bu0_10⟩
  have r0_11 : g0 11 = .ref (ad 8) := vty2 (t0 11 _ rfl).1 rfl
  have r0_12 : g0 12 = .ref (ad 9) := vty2 (t0 12 _ rfl).1 rfl
  have r0_13 : g0 13 = .ref (ad 10) := vty2 (t0 13 _ rfl).1 rfl
  have r0_14 : g0 14 = .ref (ad 11) := vty2 (t0 14 _ rfl).1 rfl
  have r0_15 : g0 15 = .ref (ad 12) := vty2 (t0 15 _ rfl).1 rfl
  obtain ⟨y0_16, r0_16, -, -⟩ := vty0 (t0 16 _ rfl).1 rfl
  have r0_17 : g0 17 = .ref (ad 13) := vty2 (t0 17 _ rfl).1 rfl
  have r0_18 : g0 18 = .ref (ad 14) := vty2 (t0 18 _ rfl).1 rfl
  obtain ⟨y0_19, r0_19, -, -⟩ := vty0 (t0 19 _ rfl).1 rfl
  obtain ⟨y0_20, r0_20, -, -⟩ := vty0 (t0 20 _ rfl).1 rfl
  obtain ⟨y0_21, r0_21, -, -⟩ := vty0 (t0 21 _ rfl).1 rfl
  obtain ⟨y0_22, r0_22, -, -⟩ := vty0 (t0 22 _ rfl).1 rfl
  have r0_26 : g0 26 = .ref (ad 18) := vty2 (t0 26 _ rfl).1 rfl
  have r0_27 : g0 27 = .ref (ad 19) := vty2 (t0 27 _ rfl).1 rfl
  obtain ⟨y0_28, r0_28, -, -⟩ := vty0 (t0 28 _ rfl).1 rfl
  obtain ⟨y0_29, r0_29, -, -⟩ := vty0 (t0 29 _ rfl).1 rfl
  have r0_31 : g0 31 = .int t := Option.some.inj ((t0 31 _ rfl).2.symm.trans et)
  have b0_31 : 0 ≤ t.toInt ∧ t.toInt ≤ 12 := by
    have h := (t0 31 _ rfl).1
    rw [r0_31] at h
    obtain ⟨y, e, l1, u1⟩ := vty0 h rfl
    obtain rfl := Value.int.inj e
    exact ⟨l1, u1⟩
  have r0_32 : g0 32 = .ref (ad 21) := vty2 (t0 32 _ rfl).1 rfl
  have r0_33 : g0 33 = .ref (ad 22) := vty2 (t0 33 _ rfl).1 rfl
  have r0_34 : g0 34 = .ref (ad 23) := vty2 (t0 34 _ rfl).1 rfl
  have r0_35 : g0 35 = .ref (ad 24) := vty2 (t0 35 _ rfl).1 rfl
  have r0_36 : g0 36 = .ref (ad 25) := vty2 (t0 36 _ rfl).1 rfl
  have r0_37 : g0 37 = .ref (ad 26) := vty2 (t0 37 _ rfl).1 rfl
  have r0_72 : g0 72 = .ref (ad 45) := vty2 (t0 72 _ rfl).1 rfl
  have r0_73 : g0 73 = .ref (ad 46) := vty2 (t0 73 _ rfl).1 rfl
  obtain ⟨y0_74, r0_74, -, -⟩ := vty0 (t0 74 _ rfl).1 rfl
  have c0 : w0[0]? = some ((ad 0), ob 11 [.int y0_0, (g0 1), (g0 2), .int y0_3, .ref (ad 2), .ref (ad 3), .ref (ad 4), .ref (ad 5), .ref (ad 6), .ref (ad 7), .int y0_10, .ref (ad 8), .ref (ad 9), .ref (ad 10), .ref (ad 11), .ref (ad 12), .int y0_16, .ref (ad 13), .ref (ad 14), .int y0_19, .int y0_20, .int y0_21, .int y0_22, (g0 23), (g0 24), (g0 25), .ref (ad 18), .ref (ad 19), .int y0_28, .int y0_29, (g0 30), .int t, .ref (ad 21), .ref (ad 22), .ref (ad 23), .ref (ad 24), .ref (ad 25), .ref (ad 26), (g0 38), (g0 39), (g0 40), (g0 41), (g0 42), (g0 43), (g0 44), (g0 45), (g0 46), (g0 47), (g0 48), (g0 49), (g0 50), (g0 51), (g0 52), (g0 53), (g0 54), (g0 55), (g0 56), (g0 57), (g0 58), (g0 59), (g0 60), (g0 61), (g0 62), (g0 63), (g0 64), (g0 65), (g0 66), (g0 67), (g0 68), (g0 69), (g0 70), (g0 71), .ref (ad 45), .ref (ad 46), .int y0_74]) := by
    rw [q0]
    show some (ad 0, ob 11 [g0 0, g0 1, g0 2, g0 3, g0 4, g0 5, g0 6, g0 7, g0 8, g0 9, g0 10, g0 11, g0 12, g0 13, g0 14, g0 15, g0 16, g0 17, g0 18, g0 19, g0 20, g0 21, g0 22, g0 23, g0 24, g0 25, g0 26, g0 27, g0 28, g0 29, g0 30, g0 31, g0 32, g0 33, g0 34, g0 35, g0 36, g0 37, g0 38, g0 39, g0 40, g0 41, g0 42, g0 43, g0 44, g0 45, g0 46, g0 47, g0 48, g0 49, g0 50, g0 51, g0 52, g0 53, g0 54, g0 55, g0 56, g0 57, g0 58, g0 59, g0 60, g0 61, g0 62, g0 63, g0 64, g0 65, g0 66, g0 67, g0 68, g0 69, g0 70, g0 71, g0 72, g0 73, g0 74]) = _
    rw [r0_0, r0_3, r0_4, r0_5, r0_6, r0_7, r0_8, r0_9, r0_10, r0_11, r0_12, r0_13, r0_14, r0_15, r0_16, r0_17, r0_18, r0_19, r0_20, r0_21, r0_22, r0_26, r0_27, r0_28, r0_29, r0_31, r0_32, r0_33, r0_34, r0_35, r0_36, r0_37, r0_72, r0_73, r0_74]
  obtain ⟨f46, c46, -⟩ := WT.ints hW (k := 46) rfl
  have ef46 : f46 = kk := arrinj ((cgetI c46 0).symm.trans ek)
  rw [ef46] at c46
  obtain ⟨f45, c45, -⟩ := WT.bools hW (k := 45) rfl
  have ef45 : f45 = b := arrinj ((cgetZ c45 0).symm.trans eb)
  rw [ef45] at c45
  obtain ⟨f6, c6, -⟩ := WT.ints hW (k := 6) rfl
  obtain ⟨f18, c18, -⟩ := WT.ints hW (k := 18) rfl
  obtain ⟨f19, c19, -⟩ := WT.ints hW (k := 19) rfl
  obtain ⟨f10, c10, -⟩ := WT.bools hW (k := 10) rfl
  obtain ⟨f11, c11, -⟩ := WT.ints hW (k := 11) rfl
  obtain ⟨f12, c12, -⟩ := WT.ints hW (k := 12) rfl
  obtain ⟨f21, c21, -⟩ := WT.ints hW (k := 21) rfl
  obtain ⟨f22, c22, -⟩ := WT.bools hW (k := 22) rfl
  obtain ⟨f23, c23, -⟩ := WT.ints hW (k := 23) rfl
  obtain ⟨f24, c24, -⟩ := WT.ints hW (k := 24) rfl
  obtain ⟨f25, c25, -⟩ := WT.ints hW (k := 25) rfl
  obtain ⟨f26, c26, -⟩ := WT.ints hW (k := 26) rfl
  have h2 := ce_X11_again0 l G (ad 0) y0_0 (g0 1) (g0 2) y0_3 (ad 2) (ad 3) (ad 4) (ad 5) (ad 6) (ad 7) y0_10 (ad 8) (ad 9) (ad 10) (ad 11) (ad 12) y0_16 (ad 13) (ad 14) y0_19 y0_20 y0_21 y0_22 (g0 23) (g0 24) (g0 25) (ad 18) (ad 19) y0_28 y0_29 (g0 30) t (ad 21) (ad 22) (ad 23) (ad 24) (ad 25) (ad 26) (g0 38) (g0 39) (g0 40) (g0 41) (g0 42) (g0 43) (g0 44) (g0 45) (g0 46) (g0 47) (g0 48) (g0 49) (g0 50) (g0 51) (g0 52) (g0 53) (g0 54) (g0 55) (g0 56) (g0 57) (g0 58) (g0 59) (g0 60) (g0 61) (g0 62) (g0 63) (g0 64) (g0 65) (g0 66) (g0 67) (g0 68) (g0 69) (g0 70) (g0 71) (ad 45) (ad 46) y0_74 kk b f6 f18 f19 f10 f11 f12 f21 f22 f23 f24 f25 f26 a a.toInt y0_3.toInt y0_10.toInt rfl rfl rfl (by omega) (by omega) (by omega)
  refine Ct.weak (Ct.and (show Ct l G yX11_again cX11_again 4 (some .boolean) { frames := 1, cells := 0, slots := 0, locals := 25 } [.ref (ad 0), .int a] w0 (fun r w1 => POST G ad TM C_X11_again_1 (fun k => ((Value.ref (ad 0) :: [.int a])[k]?).getD .null) w0 r w1) from ac_X11_again_1 l G ad w0 _ hW (pre_mu (C := C_X11_again_1) (ts := [(0, 0, 0)]) (As := [.int a]) rfl rfl rfl rfl ⟨fun _ => vty_i (by omega) (by omega), trivial⟩ ad w0 rfl)) h2 [0, 46, 45, 6, 18, 19, 10, 11, 12, 21, 22, 23, 24, 25, 26] (pk_cons c0 (pk_cons c46 (pk_cons c45 (pk_cons c6 (pk_cons c18 (pk_cons c19 (pk_cons c10 (pk_cons c11 (pk_cons c12 (pk_cons c21 (pk_cons c22 (pk_cons c23 (pk_cons c24 (pk_cons c25 (pk_cons c26 rfl))))))))))))))) (by decide)) ?_
  rintro r w1 ⟨hp, w2, ⟨rfl, rfl⟩, hS⟩
  obtain ⟨A1, hA1, μ2, -, -, -, -, -, -, hW1, hF1⟩ := hp
  obtain ⟨fs0, -, u0, ul0, -, -⟩ := WT.obj hW1 (k := 0) (j := 0) rfl rfl
  obtain ⟨p6, u6, -⟩ := WT.ints hW1 (k := 6) rfl
  obtain ⟨p10, u10, -⟩ := WT.bools hW1 (k := 10) rfl
  obtain ⟨p11, u11, -⟩ := WT.ints hW1 (k := 11) rfl
  obtain ⟨p12, u12, -⟩ := WT.ints hW1 (k := 12) rfl
  obtain ⟨p18, u18, -⟩ := WT.ints hW1 (k := 18) rfl
  obtain ⟨p19, u19, -⟩ := WT.ints hW1 (k := 19) rfl
  obtain ⟨p21, u21, -⟩ := WT.ints hW1 (k := 21) rfl
  obtain ⟨p22, u22, -⟩ := WT.bools hW1 (k := 22) rfl
  obtain ⟨p23, u23, -⟩ := WT.ints hW1 (k := 23) rfl
  obtain ⟨p24, u24, -⟩ := WT.ints hW1 (k := 24) rfl
  obtain ⟨p25, u25, -⟩ := WT.ints hW1 (k := 25) rfl
  obtain ⟨p26, u26, -⟩ := WT.ints hW1 (k := 26) rfl
  obtain ⟨p45, u45, -⟩ := WT.bools hW1 (k := 45) rfl
  obtain ⟨p46, u46, -⟩ := WT.ints hW1 (k := 46) rfl
  exact ⟨hW1, hF1, rfl, (same_f hS (k := 0) (j := 0) (q := (RX11, TX11, 75)) rfl u0 rfl (by decide) ul0 rfl)⟩
set_option maxHeartbeats 4000000 in
set_option maxRecDepth 100000 in
theorem ac_kpm1 (l : Launch) (G : KG) {ad : Nat → Nat} {w0 : va_W} {t a : Int32} {b kk : Nat → Int32} (hW : WT G ad TM w0) (ha : a.toInt = 1) (et : fget w0 0 31 = some (.int t)) (eb : cget w0 45 0 = some (.inr (cyZ G, 3, .inl b))) (ek : cget w0 46 0 = some (.inr (cyI G, 462, .inl kk))) : Ct l G yX11_keep cX11_keep 4 (some .boolean) { frames := 1, cells := 0, slots := 0, locals := 25 } [.ref (ad 0), .int a] w0 (fun r w1 => WT G ad TM w1 ∧ FRM C_X11_keep_2.2.2.2.2.1 w0 w1 ∧ KpE G t a b kk r w1) := by
  obtain ⟨g0, q0, t0⟩ := WT.tab hW (k := 0) rfl
  obtain ⟨y0_0, r0_0, -, -⟩ := vty0 (t0 0 _ rfl).1 rfl
  obtain ⟨y0_3, r0_3, bl0_3, bu0_3⟩ := vty0 (t0 3 _ rfl).1 rfl
  have b0_3 : 0 ≤ y0_3.toInt ∧ y0_3.toInt ≤ 16 := ⟨bl0_3, bu0_3⟩
  have r0_4 : g0 4 = .ref (ad 2) := vty2 (t0 4 _ rfl).1 rfl
  have r0_5 : g0 5 = .ref (ad 3) := vty2 (t0 5 _ rfl).1 rfl
  have r0_6 : g0 6 = .ref (ad 4) := vty2 (t0 6 _ rfl).1 rfl
  have r0_7 : g0 7 = .ref (ad 5) := vty2 (t0 7 _ rfl).1 rfl
  have r0_8 : g0 8 = .ref (ad 6) := vty2 (t0 8 _ rfl).1 rfl
  have r0_9 : g0 9 = .ref (ad 7) := vty2 (t0 9 _ rfl).1 rfl
  obtain ⟨y0_10, r0_10, bl0_10, bu0_10⟩ := vty0 (t0 10 _ rfl).1 rfl
  have b0_10 : 0 ≤ y0_10.toInt ∧ y0_10.toInt ≤ 6 := ⟨bl0_10, bu0_10⟩
  have r0_11 : g0 11 = .ref (ad 8) := vty2 (t0 11 _ rfl).1 rfl
  have r0_12 : g0 12 = .ref (ad 9) := vty2 (t0 12 _ rfl).1 rfl
  have r0_13 : g0 13 = .ref (ad 10) := vty2 (t0 13 _ rfl).1 rfl
  have r0_14 : g0 14 = .ref (ad 11) := vty2 (t0 14 _ rfl).1 rfl
  have r0_15 : g0 15 = .ref (ad 12) := vty2 (t0 15 _ rfl).1 rfl
  obtain ⟨y0_16, r0_16, -, -⟩ := vty0 (t0 16 _ rfl).1 rfl
  have r0_17 : g0 17 = .ref (ad 13) := vty2 (t0 17 _ rfl).1 rfl
  have r0_18 : g0 18 = .ref (ad 14) := vty2 (t0 18 _ rfl).1 rfl
  obtain ⟨y0_19, r0_19, -, -⟩ := vty0 (t0 19 _ rfl).1 rfl
  obtain ⟨y0_20, r0_20, -, -⟩ := vty0 (t0 20 _ rfl).1 rfl
  obtain ⟨y0_21, r0_21, -, -⟩ := vty0 (t0 21 _ rfl).1 rfl
  obtain ⟨y0_22, r0_22, -, -⟩ := vty0 (t0 22 _ rfl).1 rfl
  have r0_26 : g0 26 = .ref (ad 18) := vty2 (t0 26 _ rfl).1 rfl
  have r0_27 : g0 27 = .ref (ad 19) := vty2 (t0 27 _ rfl).1 rfl
  obtain ⟨y0_28, r0_28, -, -⟩ := vty0 (t0 28 _ rfl).1 rfl
  obtain ⟨y0_29, r0_29, -, -⟩ := vty0 (t0 29 _ rfl).1 rfl
  have r0_31 : g0 31 = .int t := Option.some.inj ((t0 31 _ rfl).2.symm.trans et)
  have b0_31 : 0 ≤ t.toInt ∧ t.toInt ≤ 12 := by
    have h := (t0 31 _ rfl).1
    rw [r0_31] at h
    obtain ⟨y, e, l1, u1⟩ := vty0 h rfl
    obtain rfl := Value.int.inj e
    exact ⟨l1, u1⟩
  have r0_32 : g0 32 = .ref (ad 21) := vty2 (t0 32 _ rfl).1 rfl
  have r0_33 : g0 33 = .ref (ad 22) := vty2 (t0 33 _ rfl).1 rfl
  have r0_34 : g0 34 = .ref (ad 23) := vty2 (t0 34 _ rfl).1 rfl
  have r0_35 : g0 35 = .ref (ad 24) := vty2 (t0 35 _ rfl).1 rfl
  have r0_36 : g0 36 = .ref (ad 25) := vty2 (t0 36 _ rfl).1 rfl
  have r0_37 : g0 37 = .ref (ad 26) := vty2 (t0 37 _ rfl).1 rfl
  have r0_72 : g0 72 = .ref (ad 45) := vty2 (t0 72 _ rfl).1 rfl
  have r0_73 : g0 73 = .ref (ad 46) := vty2 (t0 73 _ rfl).1 rfl
  obtain ⟨y0_74, r0_74, -, -⟩ := vty0 (t0 74 _ rfl).1 rfl
  have c0 : w0[0]? = some ((ad 0), ob 11 [.int y0_0, (g0 1), (g0 2), .int y0_3, .ref (ad 2), .ref (ad 3), .ref (ad 4), .ref (ad 5), .ref (ad 6), .ref (ad 7), .int y0_10, .ref (ad 8), .ref (ad 9), .ref (ad 10), .ref (ad 11), .ref (ad 12), .int y0_16, .ref (ad 13), .ref (ad 14), .int y0_19, .int y0_20, .int y0_21, .int y0_22, (g0 23), (g0 24), (g0 25), .ref (ad 18), .ref (ad 19), .int y0_28, .int y0_29, (g0 30), .int t, .ref (ad 21), .ref (ad 22), .ref (ad 23), .ref (ad 24), .ref (ad 25), .ref (ad 26), (g0 38), (g0 39), (g0 40), (g0 41), (g0 42), (g0 43), (g0 44), (g0 45), (g0 46), (g0 47), (g0 48), (g0 49), (g0 50), (g0 51), (g0 52), (g0 53), (g0 54), (g0 55), (g0 56), (g0 57), (g0 58), (g0 59), (g0 60), (g0 61), (g0 62), (g0 63), (g0 64), (g0 65), (g0 66), (g0 67), (g0 68), (g0 69), (g0 70), (g0 71), .ref (ad 45), .ref (ad 46), .int y0_74]) := by
    rw [q0]
    show some (ad 0, ob 11 [g0 0, g0 1, g0 2, g0 3, g0 4, g0 5, g0 6, g0 7, g0 8, g0 9, g0 10, g0 11, g0 12, g0 13, g0 14, g0 15, g0 16, g0 17, g0 18, g0 19, g0 20, g0 21, g0 22, g0 23, g0 24, g0 25, g0 26, g0 27, g0 28, g0 29, g0 30, g0 31, g0 32, g0 33, g0 34, g0 35, g0 36, g0 37, g0 38, g0 39, g0 40, g0 41, g0 42, g0 43, g0 44, g0 45, g0 46, g0 47, g0 48, g0 49, g0 50, g0 51, g0 52, g0 53, g0 54, g0 55, g0 56, g0 57, g0 58, g0 59, g0 60, g0 61, g0 62, g0 63, g0 64, g0 65, g0 66, g0 67, g0 68, g0 69, g0 70, g0 71, g0 72, g0 73, g0 74]) = _
    rw [r0_0, r0_3, r0_4, r0_5, r0_6, r0_7, r0_8, r0_9, r0_10, r0_11, r0_12, r0_13, r0_14, r0_15, r0_16, r0_17, r0_18, r0_19, r0_20, r0_21, r0_22, r0_26, r0_27, r0_28, r0_29, r0_31, r0_32, r0_33, r0_34, r0_35, r0_36, r0_37, r0_72, r0_73, r0_74]
  obtain ⟨f46, c46, -⟩ := WT.ints hW (k := 46) rfl
  have ef46 : f46 = kk := arrinj ((cgetI c46 0).symm.trans ek)
  rw [ef46] at c46
  obtain ⟨f45, c45, -⟩ := WT.bools hW (k := 45) rfl
  have ef45 : f45 = b := arrinj ((cgetZ c45 0).symm.trans eb)
  rw [ef45] at c45
  obtain ⟨f6, c6, -⟩ := WT.ints hW (k := 6) rfl
  obtain ⟨f18, c18, -⟩ := WT.ints hW (k := 18) rfl
  obtain ⟨f19, c19, -⟩ := WT.ints hW (k := 19) rfl
  obtain ⟨f10, c10, -⟩ := WT.bools hW (k := 10) rfl
  obtain ⟨f11, c11, -⟩ := WT.ints hW (k := 11) rfl
  obtain ⟨f12, c12, -⟩ := WT.ints hW (k := 12) rfl
  obtain ⟨f21, c21, -⟩ := WT.ints hW (k := 21) rfl
  obtain ⟨f22, c22, -⟩ := WT.bools hW (k := 22) rfl
  obtain ⟨f23, c23, -⟩ := WT.ints hW (k := 23) rfl
  obtain ⟨f24, c24, -⟩ := WT.ints hW (k := 24) rfl
  obtain ⟨f25, c25, -⟩ := WT.ints hW (k := 25) rfl
  obtain ⟨f26, c26, -⟩ := WT.ints hW (k := 26) rfl
  have h2 := ce_X11_keep l G (ad 0) y0_0 (g0 1) (g0 2) y0_3 (ad 2) (ad 3) (ad 4) (ad 5) (ad 6) (ad 7) y0_10 (ad 8) (ad 9) (ad 10) (ad 11) (ad 12) y0_16 (ad 13) (ad 14) y0_19 y0_20 y0_21 y0_22 (g0 23) (g0 24) (g0 25) (ad 18) (ad 19) y0_28 y0_29 (g0 30) t (ad 21) (ad 22) (ad 23) (ad 24) (ad 25) (ad 26) (g0 38) (g0 39) (g0 40) (g0 41) (g0 42) (g0 43) (g0 44) (g0 45) (g0 46) (g0 47) (g0 48) (g0 49) (g0 50) (g0 51) (g0 52) (g0 53) (g0 54) (g0 55) (g0 56) (g0 57) (g0 58) (g0 59) (g0 60) (g0 61) (g0 62) (g0 63) (g0 64) (g0 65) (g0 66) (g0 67) (g0 68) (g0 69) (g0 70) (g0 71) (ad 45) (ad 46) y0_74 kk b f6 f18 f19 f10 f11 f12 f21 f22 f23 f24 f25 f26 a a.toInt y0_3.toInt y0_10.toInt rfl rfl rfl (by omega) (by omega)
  refine Ct.weak (Ct.and (show Ct l G yX11_keep cX11_keep 4 (some .boolean) { frames := 1, cells := 0, slots := 0, locals := 25 } [.ref (ad 0), .int a] w0 (fun r w1 => POST G ad TM C_X11_keep_2 (fun k => ((Value.ref (ad 0) :: [.int a])[k]?).getD .null) w0 r w1) from ac_X11_keep_2 l G ad w0 _ hW (pre_mu (C := C_X11_keep_2) (ts := [(0, 1, 1)]) (As := [.int a]) rfl rfl rfl rfl ⟨fun _ => vty_i (by omega) (by omega), trivial⟩ ad w0 rfl)) h2 [0, 46, 45, 6, 18, 19, 10, 11, 12, 21, 22, 23, 24, 25, 26] (pk_cons c0 (pk_cons c46 (pk_cons c45 (pk_cons c6 (pk_cons c18 (pk_cons c19 (pk_cons c10 (pk_cons c11 (pk_cons c12 (pk_cons c21 (pk_cons c22 (pk_cons c23 (pk_cons c24 (pk_cons c25 (pk_cons c26 rfl))))))))))))))) (by decide)) ?_
  rintro r w1 ⟨hp, w2, ⟨k2, fk2, hE, rfl, rfl⟩, hS⟩
  obtain ⟨A1, hA1, μ2, -, -, -, -, -, -, hW1, hF1⟩ := hp
  obtain ⟨fs0, -, u0, ul0, -, -⟩ := WT.obj hW1 (k := 0) (j := 0) rfl rfl
  obtain ⟨p6, u6, -⟩ := WT.ints hW1 (k := 6) rfl
  obtain ⟨p10, u10, -⟩ := WT.bools hW1 (k := 10) rfl
  obtain ⟨p11, u11, -⟩ := WT.ints hW1 (k := 11) rfl
  obtain ⟨p12, u12, -⟩ := WT.ints hW1 (k := 12) rfl
  obtain ⟨p18, u18, -⟩ := WT.ints hW1 (k := 18) rfl
  obtain ⟨p19, u19, -⟩ := WT.ints hW1 (k := 19) rfl
  obtain ⟨p21, u21, -⟩ := WT.ints hW1 (k := 21) rfl
  obtain ⟨p22, u22, -⟩ := WT.bools hW1 (k := 22) rfl
  obtain ⟨p23, u23, -⟩ := WT.ints hW1 (k := 23) rfl
  obtain ⟨p24, u24, -⟩ := WT.ints hW1 (k := 24) rfl
  obtain ⟨p25, u25, -⟩ := WT.ints hW1 (k := 25) rfl
  obtain ⟨p26, u26, -⟩ := WT.ints hW1 (k := 26) rfl
  obtain ⟨p45, u45, -⟩ := WT.bools hW1 (k := 45) rfl
  obtain ⟨p46, u46, -⟩ := WT.ints hW1 (k := 46) rfl
  exact ⟨hW1, hF1, rfl, ⟨p45, cgetZ u45 0, fun j hj => ((same_Z hS (k := 45) (j := 2) u45 rfl) j hj).trans (by unfold upd; by_cases ej : (j : Int) = a.toInt; (rw [if_pos ej, if_pos (show j = a.toNatClampNeg from (show j = a.toInt.toNat by omega))]; try rfl); (rw [if_neg ej, if_neg (show ¬ j = a.toNatClampNeg from (show ¬ j = a.toInt.toNat by omega))]))⟩, p46, cgetI u46 0, ((same_I hS (k := 46) (j := 1) u46 rfl) _ (by omega)).trans (by rw [hE, if_pos (by omega), show (154 * a.toInt + 44).toNat - (154 * a.toInt).toNat = 44 by omega, enc_t]), fun j hj hq => ((same_I hS (k := 46) (j := 1) u46 rfl) j hj).trans (by rw [hE, if_neg (by omega)])⟩
set_option maxHeartbeats 4000000 in
set_option maxRecDepth 100000 in
theorem ac_agm1 (l : Launch) (G : KG) {ad : Nat → Nat} {w0 : va_W} {t a : Int32} {b kk : Nat → Int32} (hW : WT G ad TM w0) (ha : a.toInt = 1) (et : fget w0 0 31 = some (.int t)) (eb : cget w0 45 0 = some (.inr (cyZ G, 3, .inl b))) (ek : cget w0 46 0 = some (.inr (cyI G, 462, .inl kk))) (hb : (b a.toNatClampNeg).toInt ≠ 0) : Ct l G yX11_again cX11_again 4 (some .boolean) { frames := 1, cells := 0, slots := 0, locals := 25 } [.ref (ad 0), .int a] w0 (fun r w1 => WT G ad TM w1 ∧ FRM C_X11_again_2.2.2.2.2.1 w0 w1 ∧ (r = some (.int 1) ∧ fget w1 0 31 = some (.int (kk (154 * a.toInt + 44).toNat)))) := by
  obtain ⟨g0, q0, t0⟩ := WT.tab hW (k := 0) rfl
  obtain ⟨y0_0, r0_0, -, -⟩ := vty0 (t0 0 _ rfl).1 rfl
  obtain ⟨y0_3, r0_3, bl0_3, bu0_3⟩ := vty0 (t0 3 _ rfl).1 rfl
  have b0_3 : 0 ≤ y0_3.toInt ∧ y0_3.toInt ≤ 16 := ⟨bl0_3, bu0_3⟩
  have r0_4 : g0 4 = .ref (ad 2) := vty2 (t0 4 _ rfl).1 rfl
  have r0_5 : g0 5 = .ref (ad 3) := vty2 (t0 5 _ rfl).1 rfl
  have r0_6 : g0 6 = .ref (ad 4) := vty2 (t0 6 _ rfl).1 rfl
  have r0_7 : g0 7 = .ref (ad 5) := vty2 (t0 7 _ rfl).1 rfl
  have r0_8 : g0 8 = .ref (ad 6) := vty2 (t0 8 _ rfl).1 rfl
  have r0_9 : g0 9 = .ref (ad 7) := vty2 (t0 9 _ rfl).1 rfl
  obtain ⟨y0_10, r0_10, bl0_10, bu0_10⟩ := vty0 (t0 10 _ rfl).1 rfl
  have b0_10 : 0 ≤ y0_10.toInt ∧ y0_10.toInt ≤ 6 := ⟨bl0_10, bu0_10⟩
  have r0_11 : g0 11 = .ref (ad 8) := vty2 (t0 11 _ rfl).1 rfl
  have r0_12 : g0 12 = .ref (ad 9) := vty2 (t0 12 _ rfl).1 rfl
  have r0_13 : g0 13 = .ref (ad 10) := vty2 (t0 13 _ rfl).1 rfl
  have r0_14 : g0 14 = .ref (ad 11) := vty2 (t0 14 _ rfl).1 rfl
  have r0_15 : g0 15 = .ref (ad 12) := vty2 (t0 15 _ rfl).1 rfl
  obtain ⟨y0_16, r0_16, -, -⟩ := vty0 (t0 16 _ rfl).1 rfl
  have r0_17 : g0 17 = .ref (ad 13) := vty2 (t0 17 _ rfl).1 rfl
  have r0_18 : g0 18 = .ref (ad 14) := vty2 (t0 18 _ rfl).1 rfl
  obtain ⟨y0_19, r0_19, -, -⟩ := vty0 (t0 19 _ rfl).1 rfl
  obtain ⟨y0_20, r0_20, -, -⟩ := vty0 (t0 20 _ rfl).1 rfl
  obtain ⟨y0_21, r0_21, -, -⟩ := vty0 (t0 21 _ rfl).1 rfl
  obtain ⟨y0_22, r0_22, -, -⟩ := vty0 (t0 22 _ rfl).1 rfl
  have r0_26 : g0 26 = .ref (ad 18) := vty2 (t0 26 _ rfl).1 rfl
  have r0_27 : g0 27 = .ref (ad 19) := vty2 (t0 27 _ rfl).1 rfl
  obtain ⟨y0_28, r0_28, -, -⟩ := vty0 (t0 28 _ rfl).1 rfl
  obtain ⟨y0_29, r0_29, -, -⟩ := vty0 (t0 29 _ rfl).1 rfl
  have r0_31 : g0 31 = .int t := Option.some.inj ((t0 31 _ rfl).2.symm.trans et)
  have b0_31 : 0 ≤ t.toInt ∧ t.toInt ≤ 12 := by
    have h := (t0 31 _ rfl).1
    rw [r0_31] at h
    obtain ⟨y, e, l1, u1⟩ := vty0 h rfl
    obtain rfl := Value.int.inj e
    exact ⟨l1, u1⟩
  have r0_32 : g0 32 = .ref (ad 21) := vty2 (t0 32 _ rfl).1 rfl
  have r0_33 : g0 33 = .ref (ad 22) := vty2 (t0 33 _ rfl).1 rfl
  have r0_34 : g0 34 = .ref (ad 23) := vty2 (t0 34 _ rfl).1 rfl
  have r0_35 : g0 35 = .ref (ad 24) := vty2 (t0 35 _ rfl).1 rfl
  have r0_36 : g0 36 = .ref (ad 25) := vty2 (t0 36 _ rfl).1 rfl
  have r0_37 : g0 37 = .ref (ad 26) := vty2 (t0 37 _ rfl).1 rfl
  have r0_72 : g0 72 = .ref (ad 45) := vty2 (t0 72 _ rfl).1 rfl
  have r0_73 : g0 73 = .ref (ad 46) := vty2 (t0 73 _ rfl).1 rfl
  obtain ⟨y0_74, r0_74, -, -⟩ := vty0 (t0 74 _ rfl).1 rfl
  have c0 : w0[0]? = some ((ad 0), ob 11 [.int y0_0, (g0 1), (g0 2), .int y0_3, .ref (ad 2), .ref (ad 3), .ref (ad 4), .ref (ad 5), .ref (ad 6), .ref (ad 7), .int y0_10, .ref (ad 8), .ref (ad 9), .ref (ad 10), .ref (ad 11), .ref (ad 12), .int y0_16, .ref (ad 13), .ref (ad 14), .int y0_19, .int y0_20, .int y0_21, .int y0_22, (g0 23), (g0 24), (g0 25), .ref (ad 18), .ref (ad 19), .int y0_28, .int y0_29, (g0 30), .int t, .ref (ad 21), .ref (ad 22), .ref (ad 23), .ref (ad 24), .ref (ad 25), .ref (ad 26), (g0 38), (g0 39), (g0 40), (g0 41), (g0 42), (g0 43), (g0 44), (g0 45), (g0 46), (g0 47), (g0 48), (g0 49), (g0 50), (g0 51), (g0 52), (g0 53), (g0 54), (g0 55), (g0 56), (g0 57), (g0 58), (g0 59), (g0 60), (g0 61), (g0 62), (g0 63), (g0 64), (g0 65), (g0 66), (g0 67), (g0 68), (g0 69), (g0 70), (g0 71), .ref (ad 45), .ref (ad 46), .int y0_74]) := by
    rw [q0]
    show some (ad 0, ob 11 [g0 0, g0 1, g0 2, g0 3, g0 4, g0 5, g0 6, g0 7, g0 8, g0 9, g0 10, g0 11, g0 12, g0 13, g0 14, g0 15, g0 16, g0 17, g0 18, g0 19, g0 20, g0 21, g0 22, g0 23, g0 24, g0 25, g0 26, g0 27, g0 28, g0 29, g0 30, g0 31, g0 32, g0 33, g0 34, g0 35, g0 36, g0 37, g0 38, g0 39, g0 40, g0 41, g0 42, g0 43, g0 44, g0 45, g0 46, g0 47, g0 48, g0 49, g0 50, g0 51, g0 52, g0 53, g0 54, g0 55, g0 56, g0 57, g0 58, g0 59, g0 60, g0 61, g0 62, g0 63, g0 64, g0 65, g0 66, g0 67, g0 68, g0 69, g0 70, g0 71, g0 72, g0 73, g0 74]) = _
    rw [r0_0, r0_3, r0_4, r0_5, r0_6, r0_7, r0_8, r0_9, r0_10, r0_11, r0_12, r0_13, r0_14, r0_15, r0_16, r0_17, r0_18, r0_19, r0_20, r0_21, r0_22, r0_26, r0_27, r0_28, r0_29, r0_31, r0_32, r0_33, r0_34, r0_35, r0_36, r0_37, r0_72, r0_73, r0_74]
  obtain ⟨f46, c46, -⟩ := WT.ints hW (k := 46) rfl
  have ef46 : f46 = kk := arrinj ((cgetI c46 0).symm.trans ek)
  rw [ef46] at c46
  obtain ⟨f45, c45, -⟩ := WT.bools hW (k := 45) rfl
  have ef45 : f45 = b := arrinj ((cgetZ c45 0).symm.trans eb)
  rw [ef45] at c45
  obtain ⟨f6, c6, -⟩ := WT.ints hW (k := 6) rfl
  obtain ⟨f18, c18, -⟩ := WT.ints hW (k := 18) rfl
  obtain ⟨f19, c19, -⟩ := WT.ints hW (k := 19) rfl
  obtain ⟨f10, c10, -⟩ := WT.bools hW (k := 10) rfl
  obtain ⟨f11, c11, -⟩ := WT.ints hW (k := 11) rfl
  obtain ⟨f12, c12, -⟩ := WT.ints hW (k := 12) rfl
  obtain ⟨f21, c21, -⟩ := WT.ints hW (k := 21) rfl
  obtain ⟨f22, c22, -⟩ := WT.bools hW (k := 22) rfl
  obtain ⟨f23, c23, -⟩ := WT.ints hW (k := 23) rfl
  obtain ⟨f24, c24, -⟩ := WT.ints hW (k := 24) rfl
  obtain ⟨f25, c25, -⟩ := WT.ints hW (k := 25) rfl
  obtain ⟨f26, c26, -⟩ := WT.ints hW (k := 26) rfl
  have h2 := ce_X11_again l G (ad 0) y0_0 (g0 1) (g0 2) y0_3 (ad 2) (ad 3) (ad 4) (ad 5) (ad 6) (ad 7) y0_10 (ad 8) (ad 9) (ad 10) (ad 11) (ad 12) y0_16 (ad 13) (ad 14) y0_19 y0_20 y0_21 y0_22 (g0 23) (g0 24) (g0 25) (ad 18) (ad 19) y0_28 y0_29 (g0 30) t (ad 21) (ad 22) (ad 23) (ad 24) (ad 25) (ad 26) (g0 38) (g0 39) (g0 40) (g0 41) (g0 42) (g0 43) (g0 44) (g0 45) (g0 46) (g0 47) (g0 48) (g0 49) (g0 50) (g0 51) (g0 52) (g0 53) (g0 54) (g0 55) (g0 56) (g0 57) (g0 58) (g0 59) (g0 60) (g0 61) (g0 62) (g0 63) (g0 64) (g0 65) (g0 66) (g0 67) (g0 68) (g0 69) (g0 70) (g0 71) (ad 45) (ad 46) y0_74 kk b f6 f18 f19 f10 f11 f12 f21 f22 f23 f24 f25 f26 a a.toInt y0_3.toInt y0_10.toInt rfl rfl rfl (by omega) (by omega) (by omega)
  refine Ct.weak (Ct.and (show Ct l G yX11_again cX11_again 4 (some .boolean) { frames := 1, cells := 0, slots := 0, locals := 25 } [.ref (ad 0), .int a] w0 (fun r w1 => POST G ad TM C_X11_again_2 (fun k => ((Value.ref (ad 0) :: [.int a])[k]?).getD .null) w0 r w1) from ac_X11_again_2 l G ad w0 _ hW (pre_mu (C := C_X11_again_2) (ts := [(0, 1, 1)]) (As := [.int a]) rfl rfl rfl rfl ⟨fun _ => vty_i (by omega) (by omega), trivial⟩ ad w0 rfl)) h2 [0, 46, 45, 6, 18, 19, 10, 11, 12, 21, 22, 23, 24, 25, 26] (pk_cons c0 (pk_cons c46 (pk_cons c45 (pk_cons c6 (pk_cons c18 (pk_cons c19 (pk_cons c10 (pk_cons c11 (pk_cons c12 (pk_cons c21 (pk_cons c22 (pk_cons c23 (pk_cons c24 (pk_cons c25 (pk_cons c26 rfl))))))))))))))) (by decide)) ?_
  rintro r w1 ⟨hp, w2, ⟨k2, ph2, po2, t2, fu2, fX2, fY2, fa2, fA2, fB2, fS2, fW2, f12, f22, f32, f42, hph, hpo, ht2, z_fu, z_fX, z_fY, z_fa, z_fA, z_fB, z_fS, z_fW, z_f1, z_f2, z_f3, z_f4, rfl, rfl⟩, hS⟩
  obtain ⟨A1, hA1, μ2, -, -, -, -, -, -, hW1, hF1⟩ := hp
  obtain ⟨fs0, -, u0, ul0, -, -⟩ := WT.obj hW1 (k := 0) (j := 0) rfl rfl
  obtain ⟨p6, u6, -⟩ := WT.ints hW1 (k := 6) rfl
  obtain ⟨p10, u10, -⟩ := WT.bools hW1 (k := 10) rfl
  obtain ⟨p11, u11, -⟩ := WT.ints hW1 (k := 11) rfl
  obtain ⟨p12, u12, -⟩ := WT.ints hW1 (k := 12) rfl
  obtain ⟨p18, u18, -⟩ := WT.ints hW1 (k := 18) rfl
  obtain ⟨p19, u19, -⟩ := WT.ints hW1 (k := 19) rfl
  obtain ⟨p21, u21, -⟩ := WT.ints hW1 (k := 21) rfl
  obtain ⟨p22, u22, -⟩ := WT.bools hW1 (k := 22) rfl
  obtain ⟨p23, u23, -⟩ := WT.ints hW1 (k := 23) rfl
  obtain ⟨p24, u24, -⟩ := WT.ints hW1 (k := 24) rfl
  obtain ⟨p25, u25, -⟩ := WT.ints hW1 (k := 25) rfl
  obtain ⟨p26, u26, -⟩ := WT.ints hW1 (k := 26) rfl
  obtain ⟨p45, u45, -⟩ := WT.bools hW1 (k := 45) rfl
  obtain ⟨p46, u46, -⟩ := WT.ints hW1 (k := 46) rfl
  exact ⟨hW1, hF1, rfl, by rw [(same_f hS (k := 0) (j := 0) (q := (RX11, TX11, 75)) rfl u0 rfl (by decide) ul0 rfl), ht2, show (154 * a.toInt).toNat + 44 = (154 * a.toInt + 44).toNat by omega]⟩
set_option maxHeartbeats 4000000 in
set_option maxRecDepth 100000 in
theorem ac_anm1 (l : Launch) (G : KG) {ad : Nat → Nat} {w0 : va_W} {t a : Int32} {b kk : Nat → Int32} (hW : WT G ad TM w0) (ha : a.toInt = 1) (et : fget w0 0 31 = some (.int t)) (eb : cget w0 45 0 = some (.inr (cyZ G, 3, .inl b))) (ek : cget w0 46 0 = some (.inr (cyI G, 462, .inl kk))) (hb : (b a.toNatClampNeg).toInt = 0) : Ct l G yX11_again cX11_again 4 (some .boolean) { frames := 1, cells := 0, slots := 0, locals := 25 } [.ref (ad 0), .int a] w0 (fun r w1 => WT G ad TM w1 ∧ FRM C_X11_again_2.2.2.2.2.1 w0 w1 ∧ (r = some (.int 0) ∧ fget w1 0 31 = some (.int t))) := by
  obtain ⟨g0, q0, t0⟩ := WT.tab hW (k := 0) rfl
  obtain ⟨y0_0, r0_0, -, -⟩ := vty0 (t0 0 _ rfl).1 rfl
  obtain ⟨y0_3, r0_3, bl0_3, bu0_3⟩ := vty0 (t0 3 _ rfl).1 rfl
  have b0_3 : 0 ≤ y0_3.toInt ∧ y0_3.toInt ≤ 16 := ⟨bl0_3, bu0_3⟩
  have r0_4 : g0 4 = .ref (ad 2) := vty2 (t0 4 _ rfl).1 rfl
  have r0_5 : g0 5 = .ref (ad 3) := vty2 (t0 5 _ rfl).1 rfl
  have r0_6 : g0 6 = .ref (ad 4) := vty2 (t0 6 _ rfl).1 rfl
  have r0_7 : g0 7 = .ref (ad 5) := vty2 (t0 7 _ rfl).1 rfl
  have r0_8 : g0 8 = .ref (ad 6) := vty2 (t0 8 _ rfl).1 rfl
  have r0_9 : g0 9 = .ref (ad 7) := vty2 (t0 9 _ rfl).1 rfl
  obtain ⟨y0_10, r0_10, bl0_10, bu0_10⟩ := vty0 (t0 10 _ rfl).1 rfl
  have b0_10 : 0 ≤ y0_10.toInt ∧ y0_10.toInt ≤ 6 := ⟨bl0_10, bu0_10⟩
  have r0_11 : g0 11 = .ref (ad 8) := vty2 (t0 11 _ rfl).1 rfl
  have r0_12 : g0 12 = .ref (ad 9) := vty2 (t0 12 _ rfl).1 rfl
  have r0_13 : g0 13 = .ref (ad 10) := vty2 (t0 13 _ rfl).1 rfl
  have r0_14 : g0 14 = .ref (ad 11) := vty2 (t0 14 _ rfl).1 rfl
  have r0_15 : g0 15 = .ref (ad 12) := vty2 (t0 15 _ rfl).1 rfl
  obtain ⟨y0_16, r0_16, -, -⟩ := vty0 (t0 16 _ rfl).1 rfl
  have r0_17 : g0 17 = .ref (ad 13) := vty2 (t0 17 _ rfl).1 rfl
  have r0_18 : g0 18 = .ref (ad 14) := vty2 (t0 18 _ rfl).1 rfl
  obtain ⟨y0_19, r0_19, -, -⟩ := vty0 (t0 19 _ rfl).1 rfl
  obtain ⟨y0_20, r0_20, -, -⟩ := vty0 (t0 20 _ rfl).1 rfl
  obtain ⟨y0_21, r0_21, -, -⟩ := vty0 (t0 21 _ rfl).1 rfl
  obtain ⟨y0_22, r0_22, -, -⟩ := vty0 (t0 22 _ rfl).1 rfl
  have r0_26 : g0 26 = .ref (ad 18) := vty2 (t0 26 _ rfl).1 rfl
  have r0_27 : g0 27 = .ref (ad 19) := vty2 (t0 27 _ rfl).1 rfl
  obtain ⟨y0_28, r0_28, -, -⟩ := vty0 (t0 28 _ rfl).1 rfl
  obtain ⟨y0_29, r0_29, -, -⟩ := vty0 (t0 29 _ rfl).1 rfl
  have r0_31 : g0 31 = .int t := Option.some.inj ((t0 31 _ rfl).2.symm.trans et)
  have b0_31 : 0 ≤ t.toInt ∧ t.toInt ≤ 12 := by
    have h := (t0 31 _ rfl).1
    rw [r0_31] at h
    obtain ⟨y, e, l1, u1⟩ := vty0 h rfl
    obtain rfl := Value.int.inj e
    exact ⟨l1, u1⟩
  have r0_32 : g0 32 = .ref (ad 21) := vty2 (t0 32 _ rfl).1 rfl
  have r0_33 : g0 33 = .ref (ad 22) := vty2 (t0 33 _ rfl).1 rfl
  have r0_34 : g0 34 = .ref (ad 23) := vty2 (t0 34 _ rfl).1 rfl
  have r0_35 : g0 35 = .ref (ad 24) := vty2 (t0 35 _ rfl).1 rfl
  have r0_36 : g0 36 = .ref (ad 25) := vty2 (t0 36 _ rfl).1 rfl
  have r0_37 : g0 37 = .ref (ad 26) := vty2 (t0 37 _ rfl).1 rfl
  have r0_72 : g0 72 = .ref (ad 45) := vty2 (t0 72 _ rfl).1 rfl
  have r0_73 : g0 73 = .ref (ad 46) := vty2 (t0 73 _ rfl).1 rfl
  obtain ⟨y0_74, r0_74, -, -⟩ := vty0 (t0 74 _ rfl).1 rfl
  have c0 : w0[0]? = some ((ad 0), ob 11 [.int y0_0, (g0 1), (g0 2), .int y0_3, .ref (ad 2), .ref (ad 3), .ref (ad 4), .ref (ad 5), .ref (ad 6), .ref (ad 7), .int y0_10, .ref (ad 8), .ref (ad 9), .ref (ad 10), .ref (ad 11), .ref (ad 12), .int y0_16, .ref (ad 13), .ref (ad 14), .int y0_19, .int y0_20, .int y0_21, .int y0_22, (g0 23), (g0 24), (g0 25), .ref (ad 18), .ref (ad 19), .int y0_28, .int y0_29, (g0 30), .int t, .ref (ad 21), .ref (ad 22), .ref (ad 23), .ref (ad 24), .ref (ad 25), .ref (ad 26), (g0 38), (g0 39), (g0 40), (g0 41), (g0 42), (g0 43), (g0 44), (g0 45), (g0 46), (g0 47), (g0 48), (g0 49), (g0 50), (g0 51), (g0 52), (g0 53), (g0 54), (g0 55), (g0 56), (g0 57), (g0 58), (g0 59), (g0 60), (g0 61), (g0 62), (g0 63), (g0 64), (g0 65), (g0 66), (g0 67), (g0 68), (g0 69), (g0 70), (g0 71), .ref (ad 45), .ref (ad 46), .int y0_74]) := by
    rw [q0]
    show some (ad 0, ob 11 [g0 0, g0 1, g0 2, g0 3, g0 4, g0 5, g0 6, g0 7, g0 8, g0 9, g0 10, g0 11, g0 12, g0 13, g0 14, g0 15, g0 16, g0 17, g0 18, g0 19, g0 20, g0 21, g0 22, g0 23, g0 24, g0 25, g0 26, g0 27, g0 28, g0 29, g0 30, g0 31, g0 32, g0 33, g0 34, g0 35, g0 36, g0 37, g0 38, g0 39, g0 40, g0 41, g0 42, g0 43, g0 44, g0 45, g0 46, g0 47, g0 48, g0 49, g0 50, g0 51, g0 52, g0 53, g0 54, g0 55, g0 56, g0 57, g0 58, g0 59, g0 60, g0 61, g0 62, g0 63, g0 64, g0 65, g0 66, g0 67, g0 68, g0 69, g0 70, g0 71, g0 72, g0 73, g0 74]) = _
    rw [r0_0, r0_3, r0_4, r0_5, r0_6, r0_7, r0_8, r0_9, r0_10, r0_11, r0_12, r0_13, r0_14, r0_15, r0_16, r0_17, r0_18, r0_19, r0_20, r0_21, r0_22, r0_26, r0_27, r0_28, r0_29, r0_31, r0_32, r0_33, r0_34, r0_35, r0_36, r0_37, r0_72, r0_73, r0_74]
  obtain ⟨f46, c46, -⟩ := WT.ints hW (k := 46) rfl
  have ef46 : f46 = kk := arrinj ((cgetI c46 0).symm.trans ek)
  rw [ef46] at c46
  obtain ⟨f45, c45, -⟩ := WT.bools hW (k := 45) rfl
  have ef45 : f45 = b := arrinj ((cgetZ c45 0).symm.trans eb)
  rw [ef45] at c45
  obtain ⟨f6, c6, -⟩ := WT.ints hW (k := 6) rfl
  obtain ⟨f18, c18, -⟩ := WT.ints hW (k := 18) rfl
  obtain ⟨f19, c19, -⟩ := WT.ints hW (k := 19) rfl
  obtain ⟨f10, c10, -⟩ := WT.bools hW (k := 10) rfl
  obtain ⟨f11, c11, -⟩ := WT.ints hW (k := 11) rfl
  obtain ⟨f12, c12, -⟩ := WT.ints hW (k := 12) rfl
  obtain ⟨f21, c21, -⟩ := WT.ints hW (k := 21) rfl
  obtain ⟨f22, c22, -⟩ := WT.bools hW (k := 22) rfl
  obtain ⟨f23, c23, -⟩ := WT.ints hW (k := 23) rfl
  obtain ⟨f24, c24, -⟩ := WT.ints hW (k := 24) rfl
  obtain ⟨f25, c25, -⟩ := WT.ints hW (k := 25) rfl
  obtain ⟨f26, c26, -⟩ := WT.ints hW (k := 26) rfl
  have h2 := ce_X11_again0 l G (ad 0) y0_0 (g0 1) (g0 2) y0_3 (ad 2) (ad 3) (ad 4) (ad 5) (ad 6) (ad 7) y0_10 (ad 8) (ad 9) (ad 10) (ad 11) (ad 12) y0_16 (ad 13) (ad 14) y0_19 y0_20 y0_21 y0_22 (g0 23) (g0 24) (g0 25) (ad 18) (ad 19) y0_28 y0_29 (g0 30) t (ad 21) (ad 22) (ad 23) (ad 24) (ad 25) (ad 26) (g0 38) (g0 39) (g0 40) (g0 41) (g0 42) (g0 43) (g0 44) (g0 45) (g0 46) (g0 47) (g0 48) (g0 49) (g0 50) (g0 51) (g0 52) (g0 53) (g0 54) (g0 55) (g0 56) (g0 57) (g0 58) (g0 59) (g0 60) (g0 61) (g0 62) (g0 63) (g0 64) (g0 65) (g0 66) (g0 67) (g0 68) (g0 69) (g0 70) (g0 71) (ad 45) (ad 46) y0_74 kk b f6 f18 f19 f10 f11 f12 f21 f22 f23 f24 f25 f26 a a.toInt y0_3.toInt y0_10.toInt rfl rfl rfl (by omega) (by omega) (by omega)
  refine Ct.weak (Ct.and (show Ct l G yX11_again cX11_again 4 (some .boolean) { frames := 1, cells := 0, slots := 0, locals := 25 } [.ref (ad 0), .int a] w0 (fun r w1 => POST G ad TM C_X11_again_2 (fun k => ((Value.ref (ad 0) :: [.int a])[k]?).getD .null) w0 r w1) from ac_X11_again_2 l G ad w0 _ hW (pre_mu (C := C_X11_again_2) (ts := [(0, 1, 1)]) (As := [.int a]) rfl rfl rfl rfl ⟨fun _ => vty_i (by omega) (by omega), trivial⟩ ad w0 rfl)) h2 [0, 46, 45, 6, 18, 19, 10, 11, 12, 21, 22, 23, 24, 25, 26] (pk_cons c0 (pk_cons c46 (pk_cons c45 (pk_cons c6 (pk_cons c18 (pk_cons c19 (pk_cons c10 (pk_cons c11 (pk_cons c12 (pk_cons c21 (pk_cons c22 (pk_cons c23 (pk_cons c24 (pk_cons c25 (pk_cons c26 rfl))))))))))))))) (by decide)) ?_
  rintro r w1 ⟨hp, w2, ⟨rfl, rfl⟩, hS⟩
  obtain ⟨A1, hA1, μ2, -, -, -, -, -, -, hW1, hF1⟩ := hp
  obtain ⟨fs0, -, u0, ul0, -, -⟩ := WT.obj hW1 (k := 0) (j := 0) rfl rfl
  obtain ⟨p6, u6, -⟩ := WT.ints hW1 (k := 6) rfl
  obtain ⟨p10, u10, -⟩ := WT.bools hW1 (k := 10) rfl
  obtain ⟨p11, u11, -⟩ := WT.ints hW1 (k := 11) rfl
  obtain ⟨p12, u12, -⟩ := WT.ints hW1 (k := 12) rfl
  obtain ⟨p18, u18, -⟩ := WT.ints hW1 (k := 18) rfl
  obtain ⟨p19, u19, -⟩ := WT.ints hW1 (k := 19) rfl
  obtain ⟨p21, u21, -⟩ := WT.ints hW1 (k := 21) rfl
  obtain ⟨p22, u22, -⟩ := WT.bools hW1 (k := 22) rfl
  obtain ⟨p23, u23, -⟩ := WT.ints hW1 (k := 23) rfl
  obtain ⟨p24, u24, -⟩ := WT.ints hW1 (k := 24) rfl
  obtain ⟨p25, u25, -⟩ := WT.ints hW1 (k := 25) rfl
  obtain ⟨p26, u26, -⟩ := WT.ints hW1 (k := 26) rfl
  obtain ⟨p45, u45, -⟩ := WT.bools hW1 (k := 45) rfl
  obtain ⟨p46, u46, -⟩ := WT.ints hW1 (k := 46) rfl
  exact ⟨hW1, hF1, rfl, (same_f hS (k := 0) (j := 0) (q := (RX11, TX11, 75)) rfl u0 rfl (by decide) ul0 rfl)⟩
set_option maxHeartbeats 4000000 in
set_option maxRecDepth 100000 in
theorem ac_kpm2 (l : Launch) (G : KG) {ad : Nat → Nat} {w0 : va_W} {t a : Int32} {b kk : Nat → Int32} (hW : WT G ad TM w0) (ha : a.toInt = 2) (et : fget w0 0 31 = some (.int t)) (eb : cget w0 45 0 = some (.inr (cyZ G, 3, .inl b))) (ek : cget w0 46 0 = some (.inr (cyI G, 462, .inl kk))) : Ct l G yX11_keep cX11_keep 4 (some .boolean) { frames := 1, cells := 0, slots := 0, locals := 25 } [.ref (ad 0), .int a] w0 (fun r w1 => WT G ad TM w1 ∧ FRM C_X11_keep_3.2.2.2.2.1 w0 w1 ∧ KpE G t a b kk r w1) := by
  obtain ⟨g0, q0, t0⟩ := WT.tab hW (k := 0) rfl
  obtain ⟨y0_0, r0_0, -, -⟩ := vty0 (t0 0 _ rfl).1 rfl
  obtain ⟨y0_3, r0_3, bl0_3, bu0_3⟩ := vty0 (t0 3 _ rfl).1 rfl
  have b0_3 : 0 ≤ y0_3.toInt ∧ y0_3.toInt ≤ 16 := ⟨bl0_3, bu0_3⟩
  have r0_4 : g0 4 = .ref (ad 2) := vty2 (t0 4 _ rfl).1 rfl
  have r0_5 : g0 5 = .ref (ad 3) := vty2 (t0 5 _ rfl).1 rfl
  have r0_6 : g0 6 = .ref (ad 4) := vty2 (t0 6 _ rfl).1 rfl
  have r0_7 : g0 7 = .ref (ad 5) := vty2 (t0 7 _ rfl).1 rfl
  have r0_8 : g0 8 = .ref (ad 6) := vty2 (t0 8 _ rfl).1 rfl
  have r0_9 : g0 9 = .ref (ad 7) := vty2 (t0 9 _ rfl).1 rfl
  obtain ⟨y0_10, r0_10, bl0_10, bu0_10⟩ := vty0 (t0 10 _ rfl).1 rfl
  have b0_10 : 0 ≤ y0_10.toInt ∧ y0_10.toInt ≤ 6 := ⟨bl0_10, bu0_10⟩
  have r0_11 : g0 11 = .ref (ad 8) := vty2 (t0 11 _ rfl).1 rfl
  have r0_12 : g0 12 = .ref (ad 9) := vty2 (t0 12 _ rfl).1 rfl
  have r0_13 : g0 13 = .ref (ad 10) := vty2 (t0 13 _ rfl).1 rfl
  have r0_14 : g0 14 = .ref (ad 11) := vty2 (t0 14 _ rfl).1 rfl
  have r0_15 : g0 15 = .ref (ad 12) := vty2 (t0 15 _ rfl).1 rfl
  obtain ⟨y0_16, r0_16, -, -⟩ := vty0 (t0 16 _ rfl).1 rfl
  have r0_17 : g0 17 = .ref (ad 13) := vty2 (t0 17 _ rfl).1 rfl
  have r0_18 : g0 18 = .ref (ad 14) := vty2 (t0 18 _ rfl).1 rfl
  obtain ⟨y0_19, r0_19, -, -⟩ := vty0 (t0 19 _ rfl).1 rfl
  obtain ⟨y0_20, r0_20, -, -⟩ := vty0 (t0 20 _ rfl).1 rfl
  obtain ⟨y0_21, r0_21, -, -⟩ := vty0 (t0 21 _ rfl).1 rfl
  obtain ⟨y0_22, r0_22, -, -⟩ := vty0 (t0 22 _ rfl).1 rfl
  have r0_26 : g0 26 = .ref (ad 18) := vty2 (t0 26 _ rfl).1 rfl
  have r0_27 : g0 27 = .ref (ad 19) := vty2 (t0 27 _ rfl).1 rfl
  obtain ⟨y0_28, r0_28, -, -⟩ := vty0 (t0 28 _ rfl).1 rfl
  obtain ⟨y0_29, r0_29, -, -⟩ := vty0 (t0 29 _ rfl).1 rfl
  have r0_31 : g0 31 = .int t := Option.some.inj ((t0 31 _ rfl).2.symm.trans et)
  have b0_31 : 0 ≤ t.toInt ∧ t.toInt ≤ 12 := by
    have h := (t0 31 _ rfl).1
    rw [r0_31] at h
    obtain ⟨y, e, l1, u1⟩ := vty0 h rfl
    obtain rfl := Value.int.inj e
    exact ⟨l1, u1⟩
  have r0_32 : g0 32 = .ref (ad 21) := vty2 (t0 32 _ rfl).1 rfl
  have r0_33 : g0 33 = .ref (ad 22) := vty2 (t0 33 _ rfl).1 rfl
  have r0_34 : g0 34 = .ref (ad 23) := vty2 (t0 34 _ rfl).1 rfl
  have r0_35 : g0 35 = .ref (ad 24) := vty2 (t0 35 _ rfl).1 rfl
  have r0_36 : g0 36 = .ref (ad 25) := vty2 (t0 36 _ rfl).1 rfl
  have r0_37 : g0 37 = .ref (ad 26) := vty2 (t0 37 _ rfl).1 rfl
  have r0_72 : g0 72 = .ref (ad 45) := vty2 (t0 72 _ rfl).1 rfl
  have r0_73 : g0 73 = .ref (ad 46) := vty2 (t0 73 _ rfl).1 rfl
  obtain ⟨y0_74, r0_74, -, -⟩ := vty0 (t0 74 _ rfl).1 rfl
  have c0 : w0[0]? = some ((ad 0), ob 11 [.int y0_0, (g0 1), (g0 2), .int y0_3, .ref (ad 2), .ref (ad 3), .ref (ad 4), .ref (ad 5), .ref (ad 6), .ref (ad 7), .int y0_10, .ref (ad 8), .ref (ad 9), .ref (ad 10), .ref (ad 11), .ref (ad 12), .int y0_16, .ref (ad 13), .ref (ad 14), .int y0_19, .int y0_20, .int y0_21, .int y0_22, (g0 23), (g0 24), (g0 25), .ref (ad 18), .ref (ad 19), .int y0_28, .int y0_29, (g0 30), .int t, .ref (ad 21), .ref (ad 22), .ref (ad 23), .ref (ad 24), .ref (ad 25), .ref (ad 26), (g0 38), (g0 39), (g0 40), (g0 41), (g0 42), (g0 43), (g0 44), (g0 45), (g0 46), (g0 47), (g0 48), (g0 49), (g0 50), (g0 51), (g0 52), (g0 53), (g0 54), (g0 55), (g0 56), (g0 57), (g0 58), (g0 59), (g0 60), (g0 61), (g0 62), (g0 63), (g0 64), (g0 65), (g0 66), (g0 67), (g0 68), (g0 69), (g0 70), (g0 71), .ref (ad 45), .ref (ad 46), .int y0_74]) := by
    rw [q0]
    show some (ad 0, ob 11 [g0 0, g0 1, g0 2, g0 3, g0 4, g0 5, g0 6, g0 7, g0 8, g0 9, g0 10, g0 11, g0 12, g0 13, g0 14, g0 15, g0 16, g0 17, g0 18, g0 19, g0 20, g0 21, g0 22, g0 23, g0 24, g0 25, g0 26, g0 27, g0 28, g0 29, g0 30, g0 31, g0 32, g0 33, g0 34, g0 35, g0 36, g0 37, g0 38, g0 39, g0 40, g0 41, g0 42, g0 43, g0 44, g0 45, g0 46, g0 47, g0 48, g0 49, g0 50, g0 51, g0 52, g0 53, g0 54, g0 55, g0 56, g0 57, g0 58, g0 59, g0 60, g0 61, g0 62, g0 63, g0 64, g0 65, g0 66, g0 67, g0 68, g0 69, g0 70, g0 71, g0 72, g0 73, g0 74]) = _
    rw [r0_0, r0_3, r0_4, r0_5, r0_6, r0_7, r0_8, r0_9, r0_10, r0_11, r0_12, r0_13, r0_14, r0_15, r0_16, r0_17, r0_18, r0_19, r0_20, r0_21, r0_22, r0_26, r0_27, r0_28, r0_29, r0_31, r0_32, r0_33, r0_34, r0_35, r0_36, r0_37, r0_72, r0_73, r0_74]
  obtain ⟨f46, c46, -⟩ := WT.ints hW (k := 46) rfl
  have ef46 : f46 = kk := arrinj ((cgetI c46 0).symm.trans ek)
  rw [ef46] at c46
  obtain ⟨f45, c45, -⟩ := WT.bools hW (k := 45) rfl
  have ef45 : f45 = b := arrinj ((cgetZ c45 0).symm.trans eb)
  rw [ef45] at c45
  obtain ⟨f6, c6, -⟩ := WT.ints hW (k := 6) rfl
  obtain ⟨f18, c18, -⟩ := WT.ints hW (k := 18) rfl
  obtain ⟨f19, c19, -⟩ := WT.ints hW (k := 19) rfl
  obtain ⟨f10, c10, -⟩ := WT.bools hW (k := 10) rfl
  obtain ⟨f11, c11, -⟩ := WT.ints hW (k := 11) rfl
  obtain ⟨f12, c12, -⟩ := WT.ints hW (k := 12) rfl
  obtain ⟨f21, c21, -⟩ := WT.ints hW (k := 21) rfl
  obtain ⟨f22, c22, -⟩ := WT.bools hW (k := 22) rfl
  obtain ⟨f23, c23, -⟩ := WT.ints hW (k := 23) rfl
  obtain ⟨f24, c24, -⟩ := WT.ints hW (k := 24) rfl
  obtain ⟨f25, c25, -⟩ := WT.ints hW (k := 25) rfl
  obtain ⟨f26, c26, -⟩ := WT.ints hW (k := 26) rfl
  have h2 := ce_X11_keep l G (ad 0) y0_0 (g0 1) (g0 2) y0_3 (ad 2) (ad 3) (ad 4) (ad 5) (ad 6) (ad 7) y0_10 (ad 8) (ad 9) (ad 10) (ad 11) (ad 12) y0_16 (ad 13) (ad 14) y0_19 y0_20 y0_21 y0_22 (g0 23) (g0 24) (g0 25) (ad 18) (ad 19) y0_28 y0_29 (g0 30) t (ad 21) (ad 22) (ad 23) (ad 24) (ad 25) (ad 26) (g0 38) (g0 39) (g0 40) (g0 41) (g0 42) (g0 43) (g0 44) (g0 45) (g0 46) (g0 47) (g0 48) (g0 49) (g0 50) (g0 51) (g0 52) (g0 53) (g0 54) (g0 55) (g0 56) (g0 57) (g0 58) (g0 59) (g0 60) (g0 61) (g0 62) (g0 63) (g0 64) (g0 65) (g0 66) (g0 67) (g0 68) (g0 69) (g0 70) (g0 71) (ad 45) (ad 46) y0_74 kk b f6 f18 f19 f10 f11 f12 f21 f22 f23 f24 f25 f26 a a.toInt y0_3.toInt y0_10.toInt rfl rfl rfl (by omega) (by omega)
  refine Ct.weak (Ct.and (show Ct l G yX11_keep cX11_keep 4 (some .boolean) { frames := 1, cells := 0, slots := 0, locals := 25 } [.ref (ad 0), .int a] w0 (fun r w1 => POST G ad TM C_X11_keep_3 (fun k => ((Value.ref (ad 0) :: [.int a])[k]?).getD .null) w0 r w1) from ac_X11_keep_3 l G ad w0 _ hW (pre_mu (C := C_X11_keep_3) (ts := [(0, 2, 2)]) (As := [.int a]) rfl rfl rfl rfl ⟨fun _ => vty_i (by omega) (by omega), trivial⟩ ad w0 rfl)) h2 [0, 46, 45, 6, 18, 19, 10, 11, 12, 21, 22, 23, 24, 25, 26] (pk_cons c0 (pk_cons c46 (pk_cons c45 (pk_cons c6 (pk_cons c18 (pk_cons c19 (pk_cons c10 (pk_cons c11 (pk_cons c12 (pk_cons c21 (pk_cons c22 (pk_cons c23 (pk_cons c24 (pk_cons c25 (pk_cons c26 rfl))))))))))))))) (by decide)) ?_
  rintro r w1 ⟨hp, w2, ⟨k2, fk2, hE, rfl, rfl⟩, hS⟩
  obtain ⟨A1, hA1, μ2, -, -, -, -, -, -, hW1, hF1⟩ := hp
  obtain ⟨fs0, -, u0, ul0, -, -⟩ := WT.obj hW1 (k := 0) (j := 0) rfl rfl
  obtain ⟨p6, u6, -⟩ := WT.ints hW1 (k := 6) rfl
  obtain ⟨p10, u10, -⟩ := WT.bools hW1 (k := 10) rfl
  obtain ⟨p11, u11, -⟩ := WT.ints hW1 (k := 11) rfl
  obtain ⟨p12, u12, -⟩ := WT.ints hW1 (k := 12) rfl
  obtain ⟨p18, u18, -⟩ := WT.ints hW1 (k := 18) rfl
  obtain ⟨p19, u19, -⟩ := WT.ints hW1 (k := 19) rfl
  obtain ⟨p21, u21, -⟩ := WT.ints hW1 (k := 21) rfl
  obtain ⟨p22, u22, -⟩ := WT.bools hW1 (k := 22) rfl
  obtain ⟨p23, u23, -⟩ := WT.ints hW1 (k := 23) rfl
  obtain ⟨p24, u24, -⟩ := WT.ints hW1 (k := 24) rfl
  obtain ⟨p25, u25, -⟩ := WT.ints hW1 (k := 25) rfl
  obtain ⟨p26, u26, -⟩ := WT.ints hW1 (k := 26) rfl
  obtain ⟨p45, u45, -⟩ := WT.bools hW1 (k := 45) rfl
  obtain ⟨p46, u46, -⟩ := WT.ints hW1 (k := 46) rfl
  exact ⟨hW1, hF1, rfl, ⟨p45, cgetZ u45 0, fun j hj => ((same_Z hS (k := 45) (j := 2) u45 rfl) j hj).trans (by unfold upd; by_cases ej : (j : Int) = a.toInt; (rw [if_pos ej, if_pos (show j = a.toNatClampNeg from (show j = a.toInt.toNat by omega))]; try rfl); (rw [if_neg ej, if_neg (show ¬ j = a.toNatClampNeg from (show ¬ j = a.toInt.toNat by omega))]))⟩, p46, cgetI u46 0, ((same_I hS (k := 46) (j := 1) u46 rfl) _ (by omega)).trans (by rw [hE, if_pos (by omega), show (154 * a.toInt + 44).toNat - (154 * a.toInt).toNat = 44 by omega, enc_t]), fun j hj hq => ((same_I hS (k := 46) (j := 1) u46 rfl) j hj).trans (by rw [hE, if_neg (by omega)])⟩
set_option maxHeartbeats 4000000 in
set_option maxRecDepth 100000 in
theorem ac_agm2 (l : Launch) (G : KG) {ad : Nat → Nat} {w0 : va_W} {t a : Int32} {b kk : Nat → Int32} (hW : WT G ad TM w0) (ha : a.toInt = 2) (et : fget w0 0 31 = some (.int t)) (eb : cget w0 45 0 = some (.inr (cyZ G, 3, .inl b))) (ek : cget w0 46 0 = some (.inr (cyI G, 462, .inl kk))) (hb : (b a.toNatClampNeg).toInt ≠ 0) : Ct l G yX11_again cX11_again 4 (some .boolean) { frames := 1, cells := 0, slots := 0, locals := 25 } [.ref (ad 0), .int a] w0 (fun r w1 => WT G ad TM w1 ∧ FRM C_X11_again_3.2.2.2.2.1 w0 w1 ∧ (r = some (.int 1) ∧ fget w1 0 31 = some (.int (kk (154 * a.toInt + 44).toNat)))) := by
  obtain ⟨g0, q0, t0⟩ := WT.tab hW (k := 0) rfl
  obtain ⟨y0_0, r0_0, -, -⟩ := vty0 (t0 0 _ rfl).1 rfl
  obtain ⟨y0_3, r0_3, bl0_3, bu0_3⟩ := vty0 (t0 3 _ rfl).1 rfl
  have b0_3 : 0 ≤ y0_3.toInt ∧ y0_3.toInt ≤ 16 := ⟨bl0_3, bu0_3⟩
  have r0_4 : g0 4 = .ref (ad 2) := vty2 (t0 4 _ rfl).1 rfl
  have r0_5 : g0 5 = .ref (ad 3) := vty2 (t0 5 _ rfl).1 rfl
  have r0_6 : g0 6 = .ref (ad 4) := vty2 (t0 6 _ rfl).1 rfl
  have r0_7 : g0 7 = .ref (ad 5) := vty2 (t0 7 _ rfl).1 rfl
  have r0_8 : g0 8 = .ref (ad 6) := vty2 (t0 8 _ rfl).1 rfl
  have r0_9 : g0 9 = .ref (ad 7) := vty2 (t0 9 _ rfl).1 rfl
  obtain ⟨y0_10, r0_10, bl0_10, bu0_10⟩ := vty0 (t0 10 _ rfl).1 rfl
  have b0_10 : 0 ≤ y0_10.toInt ∧ y0_10.toInt ≤ 6 := ⟨bl0_10, bu0_10⟩
  have r0_11 : g0 11 = .ref (ad 8) := vty2 (t0 11 _ rfl).1 rfl
  have r0_12 : g0 12 = .ref (ad 9) := vty2 (t0 12 _ rfl).1 rfl
  have r0_13 : g0 13 = .ref (ad 10) := vty2 (t0 13 _ rfl).1 rfl
  have r0_14 : g0 14 = .ref (ad 11) := vty2 (t0 14 _ rfl).1 rfl
  have r0_15 : g0 15 = .ref (ad 12) := vty2 (t0 15 _ rfl).1 rfl
  obtain ⟨y0_16, r0_16, -, -⟩ := vty0 (t0 16 _ rfl).1 rfl
  have r0_17 : g0 17 = .ref (ad 13) := vty2 (t0 17 _ rfl).1 rfl
  have r0_18 : g0 18 = .ref (ad 14) := vty2 (t0 18 _ rfl).1 rfl
  obtain ⟨y0_19, r0_19, -, -⟩ := vty0 (t0 19 _ rfl).1 rfl
  obtain ⟨y0_20, r0_20, -, -⟩ := vty0 (t0 20 _ rfl).1 rfl
  obtain ⟨y0_21, r0_21, -, -⟩ := vty0 (t0 21 _ rfl).1 rfl
  obtain ⟨y0_22, r0_22, -, -⟩ := vty0 (t0 22 _ rfl).1 rfl
  have r0_26 : g0 26 = .ref (ad 18) := vty2 (t0 26 _ rfl).1 rfl
  have r0_27 : g0 27 = .ref (ad 19) := vty2 (t0 27 _ rfl).1 rfl
  obtain ⟨y0_28, r0_28, -, -⟩ := vty0 (t0 28 _ rfl).1 rfl
  obtain ⟨y0_29, r0_29, -, -⟩ := vty0 (t0 29 _ rfl).1 rfl
  have r0_31 : g0 31 = .int t := Option.some.inj ((t0 31 _ rfl).2.symm.trans et)
  have b0_31 : 0 ≤ t.toInt ∧ t.toInt ≤ 12 := by
    have h := (t0 31 _ rfl).1
    rw [r0_31] at h
    obtain ⟨y, e, l1, u1⟩ := vty0 h rfl
    obtain rfl := Value.int.inj e
    exact ⟨l1, u1⟩
  have r0_32 : g0 32 = .ref (ad 21) := vty2 (t0 32 _ rfl).1 rfl
  have r0_33 : g0 33 = .ref (ad 22) := vty2 (t0 33 _ rfl).1 rfl
  have r0_34 : g0 34 = .ref (ad 23) := vty2 (t0 34 _ rfl).1 rfl
  have r0_35 : g0 35 = .ref (ad 24) := vty2 (t0 35 _ rfl).1 rfl
  have r0_36 : g0 36 = .ref (ad 25) := vty2 (t0 36 _ rfl).1 rfl
  have r0_37 : g0 37 = .ref (ad 26) := vty2 (t0 37 _ rfl).1 rfl
  have r0_72 : g0 72 = .ref (ad 45) := vty2 (t0 72 _ rfl).1 rfl
  have r0_73 : g0 73 = .ref (ad 46) := vty2 (t0 73 _ rfl).1 rfl
  obtain ⟨y0_74, r0_74, -, -⟩ := vty0 (t0 74 _ rfl).1 rfl
  have c0 : w0[0]? = some ((ad 0), ob 11 [.int y0_0, (g0 1), (g0 2), .int y0_3, .ref (ad 2), .ref (ad 3), .ref (ad 4), .ref (ad 5), .ref (ad 6), .ref (ad 7), .int y0_10, .ref (ad 8), .ref (ad 9), .ref (ad 10), .ref (ad 11), .ref (ad 12), .int y0_16, .ref (ad 13), .ref (ad 14), .int y0_19, .int y0_20, .int y0_21, .int y0_22, (g0 23), (g0 24), (g0 25), .ref (ad 18), .ref (ad 19), .int y0_28, .int y0_29, (g0 30), .int t, .ref (ad 21), .ref (ad 22), .ref (ad 23), .ref (ad 24), .ref (ad 25), .ref (ad 26), (g0 38), (g0 39), (g0 40), (g0 41), (g0 42), (g0 43), (g0 44), (g0 45), (g0 46), (g0 47), (g0 48), (g0 49), (g0 50), (g0 51), (g0 52), (g0 53), (g0 54), (g0 55), (g0 56), (g0 57), (g0 58), (g0 59), (g0 60), (g0 61), (g0 62), (g0 63), (g0 64), (g0 65), (g0 66), (g0 67), (g0 68), (g0 69), (g0 70), (g0 71), .ref (ad 45), .ref (ad 46), .int y0_74]) := by
    rw [q0]
    show some (ad 0, ob 11 [g0 0, g0 1, g0 2, g0 3, g0 4, g0 5, g0 6, g0 7, g0 8, g0 9, g0 10, g0 11, g0 12, g0 13, g0 14, g0 15, g0 16, g0 17, g0 18, g0 19, g0 20, g0 21, g0 22, g0 23, g0 24, g0 25, g0 26, g0 27, g0 28, g0 29, g0 30, g0 31, g0 32, g0 33, g0 34, g0 35, g0 36, g0 37, g0 38, g0 39, g0 40, g0 41, g0 42, g0 43, g0 44, g0 45, g0 46, g0 47, g0 48, g0 49, g0 50, g0 51, g0 52, g0 53, g0 54, g0 55, g0 56, g0 57, g0 58, g0 59, g0 60, g0 61, g0 62, g0 63, g0 64, g0 65, g0 66, g0 67, g0 68, g0 69, g0 70, g0 71, g0 72, g0 73, g0 74]) = _
    rw [r0_0, r0_3, r0_4, r0_5, r0_6, r0_7, r0_8, r0_9, r0_10, r0_11, r0_12, r0_13, r0_14, r0_15, r0_16, r0_17, r0_18, r0_19, r0_20, r0_21, r0_22, r0_26, r0_27, r0_28, r0_29, r0_31, r0_32, r0_33, r0_34, r0_35, r0_36, r0_37, r0_72, r0_73, r0_74]
  obtain ⟨f46, c46, -⟩ := WT.ints hW (k := 46) rfl
  have ef46 : f46 = kk := arrinj ((cgetI c46 0).symm.trans ek)
  rw [ef46] at c46
  obtain ⟨f45, c45, -⟩ := WT.bools hW (k := 45) rfl
  have ef45 : f45 = b := arrinj ((cgetZ c45 0).symm.trans eb)
  rw [ef45] at c45
  obtain ⟨f6, c6, -⟩ := WT.ints hW (k := 6) rfl
  obtain ⟨f18, c18, -⟩ := WT.ints hW (k := 18) rfl
  obtain ⟨f19, c19, -⟩ := WT.ints hW (k := 19) rfl
  obtain ⟨f10, c10, -⟩ := WT.bools hW (k := 10) rfl
  obtain ⟨f11, c11, -⟩ := WT.ints hW (k := 11) rfl
  obtain ⟨f12, c12, -⟩ := WT.ints hW (k := 12) rfl
  obtain ⟨f21, c21, -⟩ := WT.ints hW (k := 21) rfl
  obtain ⟨f22, c22, -⟩ := WT.bools hW (k := 22) rfl
  obtain ⟨f23, c23, -⟩ := WT.ints hW (k := 23) rfl
  obtain ⟨f24, c24, -⟩ := WT.ints hW (k := 24) rfl
  obtain ⟨f25, c25, -⟩ := WT.ints hW (k := 25) rfl
  obtain ⟨f26, c26, -⟩ := WT.ints hW (k := 26) rfl
  have h2 := ce_X11_again l G (ad 0) y0_0 (g0 1) (g0 2) y0_3 (ad 2) (ad 3) (ad 4) (ad 5) (ad 6) (ad 7) y0_10 (ad 8) (ad 9) (ad 10) (ad 11) (ad 12) y0_16 (ad 13) (ad 14) y0_19 y0_20 y0_21 y0_22 (g0 23) (g0 24) (g0 25) (ad 18) (ad 19) y0_28 y0_29 (g0 30) t (ad 21) (ad 22) (ad 23) (ad 24) (ad 25) (ad 26) (g0 38) (g0 39) (g0 40) (g0 41) (g0 42) (g0 43) (g0 44) (g0 45) (g0 46) (g0 47) (g0 48) (g0 49) (g0 50) (g0 51) (g0 52) (g0 53) (g0 54) (g0 55) (g0 56) (g0 57) (g0 58) (g0 59) (g0 60) (g0 61) (g0 62) (g0 63) (g0 64) (g0 65) (g0 66) (g0 67) (g0 68) (g0 69) (g0 70) (g0 71) (ad 45) (ad 46) y0_74 kk b f6 f18 f19 f10 f11 f12 f21 f22 f23 f24 f25 f26 a a.toInt y0_3.toInt y0_10.toInt rfl rfl rfl (by omega) (by omega) (by omega)
  refine Ct.weak (Ct.and (show Ct l G yX11_again cX11_again 4 (some .boolean) { frames := 1, cells := 0, slots := 0, locals := 25 } [.ref (ad 0), .int a] w0 (fun r w1 => POST G ad TM C_X11_again_3 (fun k => ((Value.ref (ad 0) :: [.int a])[k]?).getD .null) w0 r w1) from ac_X11_again_3 l G ad w0 _ hW (pre_mu (C := C_X11_again_3) (ts := [(0, 2, 2)]) (As := [.int a]) rfl rfl rfl rfl ⟨fun _ => vty_i (by omega) (by omega), trivial⟩ ad w0 rfl)) h2 [0, 46, 45, 6, 18, 19, 10, 11, 12, 21, 22, 23, 24, 25, 26] (pk_cons c0 (pk_cons c46 (pk_cons c45 (pk_cons c6 (pk_cons c18 (pk_cons c19 (pk_cons c10 (pk_cons c11 (pk_cons c12 (pk_cons c21 (pk_cons c22 (pk_cons c23 (pk_cons c24 (pk_cons c25 (pk_cons c26 rfl))))))))))))))) (by decide)) ?_
  rintro r w1 ⟨hp, w2, ⟨k2, ph2, po2, t2, fu2, fX2, fY2, fa2, fA2, fB2, fS2, fW2, f12, f22, f32, f42, hph, hpo, ht2, z_fu, z_fX, z_fY, z_fa, z_fA, z_fB, z_fS, z_fW, z_f1, z_f2, z_f3, z_f4, rfl, rfl⟩, hS⟩
  obtain ⟨A1, hA1, μ2, -, -, -, -, -, -, hW1, hF1⟩ := hp
  obtain ⟨fs0, -, u0, ul0, -, -⟩ := WT.obj hW1 (k := 0) (j := 0) rfl rfl
  obtain ⟨p6, u6, -⟩ := WT.ints hW1 (k := 6) rfl
  obtain ⟨p10, u10, -⟩ := WT.bools hW1 (k := 10) rfl
  obtain ⟨p11, u11, -⟩ := WT.ints hW1 (k := 11) rfl
  obtain ⟨p12, u12, -⟩ := WT.ints hW1 (k := 12) rfl
  obtain ⟨p18, u18, -⟩ := WT.ints hW1 (k := 18) rfl
  obtain ⟨p19, u19, -⟩ := WT.ints hW1 (k := 19) rfl
  obtain ⟨p21, u21, -⟩ := WT.ints hW1 (k := 21) rfl
  obtain ⟨p22, u22, -⟩ := WT.bools hW1 (k := 22) rfl
  obtain ⟨p23, u23, -⟩ := WT.ints hW1 (k := 23) rfl
  obtain ⟨p24, u24, -⟩ := WT.ints hW1 (k := 24) rfl
  obtain ⟨p25, u25, -⟩ := WT.ints hW1 (k := 25) rfl
  obtain ⟨p26, u26, -⟩ := WT.ints hW1 (k := 26) rfl
  obtain ⟨p45, u45, -⟩ := WT.bools hW1 (k := 45) rfl
  obtain ⟨p46, u46, -⟩ := WT.ints hW1 (k := 46) rfl
  exact ⟨hW1, hF1, rfl, by rw [(same_f hS (k := 0) (j := 0) (q := (RX11, TX11, 75)) rfl u0 rfl (by decide) ul0 rfl), ht2, show (154 * a.toInt).toNat + 44 = (154 * a.toInt + 44).toNat by omega]⟩
set_option maxHeartbeats 4000000 in
set_option maxRecDepth 100000 in
theorem ac_anm2 (l : Launch) (G : KG) {ad : Nat → Nat} {w0 : va_W} {t a : Int32} {b kk : Nat → Int32} (hW : WT G ad TM w0) (ha : a.toInt = 2) (et : fget w0 0 31 = some (.int t)) (eb : cget w0 45 0 = some (.inr (cyZ G, 3, .inl b))) (ek : cget w0 46 0 = some (.inr (cyI G, 462, .inl kk))) (hb : (b a.toNatClampNeg).toInt = 0) : Ct l G yX11_again cX11_again 4 (some .boolean) { frames := 1, cells := 0, slots := 0, locals := 25 } [.ref (ad 0), .int a] w0 (fun r w1 => WT G ad TM w1 ∧ FRM C_X11_again_3.2.2.2.2.1 w0 w1 ∧ (r = some (.int 0) ∧ fget w1 0 31 = some (.int t))) := by
  obtain ⟨g0, q0, t0⟩ := WT.tab hW (k := 0) rfl
  obtain ⟨y0_0, r0_0, -, -⟩ := vty0 (t0 0 _ rfl).1 rfl
  obtain ⟨y0_3, r0_3, bl0_3, bu0_3⟩ := vty0 (t0 3 _ rfl).1 rfl
  have b0_3 : 0 ≤ y0_3.toInt ∧ y0_3.toInt ≤ 16 := ⟨bl0_3, bu0_3⟩
  have r0_4 : g0 4 = .ref (ad 2) := vty2 (t0 4 _ rfl).1 rfl
  have r0_5 : g0 5 = .ref (ad 3) := vty2 (t0 5 _ rfl).1 rfl
  have r0_6 : g0 6 = .ref (ad 4) := vty2 (t0 6 _ rfl).1 rfl
  have r0_7 : g0 7 = .ref (ad 5) := vty2 (t0 7 _ rfl).1 rfl
  have r0_8 : g0 8 = .ref (ad 6) := vty2 (t0 8 _ rfl).1 rfl
  have r0_9 : g0 9 = .ref (ad 7) := vty2 (t0 9 _ rfl).1 rfl
  obtain ⟨y0_10, r0_10, bl0_10, bu0_10⟩ := vty0 (t0 10 _ rfl).1 rfl
  have b0_10 : 0 ≤ y0_10.toInt ∧ y0_10.toInt ≤ 6 := ⟨bl0_10, bu0_10⟩
  have r0_11 : g0 11 = .ref (ad 8) := vty2 (t0 11 _ rfl).1 rfl
  have r0_12 : g0 12 = .ref (ad 9) := vty2 (t0 12 _ rfl).1 rfl
  have r0_13 : g0 13 = .ref (ad 10) := vty2 (t0 13 _ rfl).1 rfl
  have r0_14 : g0 14 = .ref (ad 11) := vty2 (t0 14 _ rfl).1 rfl
  have r0_15 : g0 15 = .ref (ad 12) := vty2 (t0 15 _ rfl).1 rfl
  obtain ⟨y0_16, r0_16, -, -⟩ := vty0 (t0 16 _ rfl).1 rfl
  have r0_17 : g0 17 = .ref (ad 13) := vty2 (t0 17 _ rfl).1 rfl
  have r0_18 : g0 18 = .ref (ad 14) := vty2 (t0 18 _ rfl).1 rfl
  obtain ⟨y0_19, r0_19, -, -⟩ := vty0 (t0 19 _ rfl).1 rfl
  obtain ⟨y0_20, r0_20, -, -⟩ := vty0 (t0 20 _ rfl).1 rfl
  obtain ⟨y0_21, r0_21, -, -⟩ := vty0 (t0 21 _ rfl).1 rfl
  obtain ⟨y0_22, r0_22, -, -⟩ := vty0 (t0 22 _ rfl).1 rfl
  have r0_26 : g0 26 = .ref (ad 18) := vty2 (t0 26 _ rfl).1 rfl
  have r0_27 : g0 27 = .ref (ad 19) := vty2 (t0 27 _ rfl).1 rfl
  obtain ⟨y0_28, r0_28, -, -⟩ := vty0 (t0 28 _ rfl).1 rfl
  obtain ⟨y0_29, r0_29, -, -⟩ := vty0 (t0 29 _ rfl).1 rfl
  have r0_31 : g0 31 = .int t := Option.some.inj ((t0 31 _ rfl).2.symm.trans et)
  have b0_31 : 0 ≤ t.toInt ∧ t.toInt ≤ 12 := by
    have h := (t0 31 _ rfl).1
    rw [r0_31] at h
    obtain ⟨y, e, l1, u1⟩ := vty0 h rfl
    obtain rfl := Value.int.inj e
    exact ⟨l1, u1⟩
  have r0_32 : g0 32 = .ref (ad 21) := vty2 (t0 32 _ rfl).1 rfl
  have r0_33 : g0 33 = .ref (ad 22) := vty2 (t0 33 _ rfl).1 rfl
  have r0_34 : g0 34 = .ref (ad 23) := vty2 (t0 34 _ rfl).1 rfl
  have r0_35 : g0 35 = .ref (ad 24) := vty2 (t0 35 _ rfl).1 rfl
  have r0_36 : g0 36 = .ref (ad 25) := vty2 (t0 36 _ rfl).1 rfl
  have r0_37 : g0 37 = .ref (ad 26) := vty2 (t0 37 _ rfl).1 rfl
  have r0_72 : g0 72 = .ref (ad 45) := vty2 (t0 72 _ rfl).1 rfl
  have r0_73 : g0 73 = .ref (ad 46) := vty2 (t0 73 _ rfl).1 rfl
  obtain ⟨y0_74, r0_74, -, -⟩ := vty0 (t0 74 _ rfl).1 rfl
  have c0 : w0[0]? = some ((ad 0), ob 11 [.int y0_0, (g0 1), (g0 2), .int y0_3, .ref (ad 2), .ref (ad 3), .ref (ad 4), .ref (ad 5), .ref (ad 6), .ref (ad 7), .int y0_10, .ref (ad 8), .ref (ad 9), .ref (ad 10), .ref (ad 11), .ref (ad 12), .int y0_16, .ref (ad 13), .ref (ad 14), .int y0_19, .int y0_20, .int y0_21, .int y0_22, (g0 23), (g0 24), (g0 25), .ref (ad 18), .ref (ad 19), .int y0_28, .int y0_29, (g0 30), .int t, .ref (ad 21), .ref (ad 22), .ref (ad 23), .ref (ad 24), .ref (ad 25), .ref (ad 26), (g0 38), (g0 39), (g0 40), (g0 41), (g0 42), (g0 43), (g0 44), (g0 45), (g0 46), (g0 47), (g0 48), (g0 49), (g0 50), (g0 51), (g0 52), (g0 53), (g0 54), (g0 55), (g0 56), (g0 57), (g0 58), (g0 59), (g0 60), (g0 61), (g0 62), (g0 63), (g0 64), (g0 65), (g0 66), (g0 67), (g0 68), (g0 69), (g0 70), (g0 71), .ref (ad 45), .ref (ad 46), .int y0_74]) := by
    rw [q0]
    show some (ad 0, ob 11 [g0 0, g0 1, g0 2, g0 3, g0 4, g0 5, g0 6, g0 7, g0 8, g0 9, g0 10, g0 11, g0 12, g0 13, g0 14, g0 15, g0 16, g0 17, g0 18, g0 19, g0 20, g0 21, g0 22, g0 23, g0 24, g0 25, g0 26, g0 27, g0 28, g0 29, g0 30, g0 31, g0 32, g0 33, g0 34, g0 35, g0 36, g0 37, g0 38, g0 39, g0 40, g0 41, g0 42, g0 43, g0 44, g0 45, g0 46, g0 47, g0 48, g0 49, g0 50, g0 51, g0 52, g0 53, g0 54, g0 55, g0 56, g0 57, g0 58, g0 59, g0 60, g0 61, g0 62, g0 63, g0 64, g0 65, g0 66, g0 67, g0 68, g0 69, g0 70, g0 71, g0 72, g0 73, g0 74]) = _
    rw [r0_0, r0_3, r0_4, r0_5, r0_6, r0_7, r0_8, r0_9, r0_10, r0_11, r0_12, r0_13, r0_14, r0_15, r0_16, r0_17, r0_18, r0_19, r0_20, r0_21, r0_22, r0_26, r0_27, r0_28, r0_29, r0_31, r0_32, r0_33, r0_34, r0_35, r0_36, r0_37, r0_72, r0_73, r0_74]
  obtain ⟨f46, c46, -⟩ := WT.ints hW (k := 46) rfl
  have ef46 : f46 = kk := arrinj ((cgetI c46 0).symm.trans ek)
  rw [ef46] at c46
  obtain ⟨f45, c45, -⟩ := WT.bools hW (k := 45) rfl
  have ef45 : f45 = b := arrinj ((cgetZ c45 0).symm.trans eb)
  rw [ef45] at c45
  obtain ⟨f6, c6, -⟩ := WT.ints hW (k := 6) rfl
  obtain ⟨f18, c18, -⟩ := WT.ints hW (k := 18) rfl
  obtain ⟨f19, c19, -⟩ := WT.ints hW (k := 19) rfl
  obtain ⟨f10, c10, -⟩ := WT.bools hW (k := 10) rfl
  obtain ⟨f11, c11, -⟩ := WT.ints hW (k := 11) rfl
  obtain ⟨f12, c12, -⟩ := WT.ints hW (k := 12) rfl
  obtain ⟨f21, c21, -⟩ := WT.ints hW (k := 21) rfl
  obtain ⟨f22, c22, -⟩ := WT.bools hW (k := 22) rfl
  obtain ⟨f23, c23, -⟩ := WT.ints hW (k := 23) rfl
  obtain ⟨f24, c24, -⟩ := WT.ints hW (k := 24) rfl
  obtain ⟨f25, c25, -⟩ := WT.ints hW (k := 25) rfl
  obtain ⟨f26, c26, -⟩ := WT.ints hW (k := 26) rfl
  have h2 := ce_X11_again0 l G (ad 0) y0_0 (g0 1) (g0 2) y0_3 (ad 2) (ad 3) (ad 4) (ad 5) (ad 6) (ad 7) y0_10 (ad 8) (ad 9) (ad 10) (ad 11) (ad 12) y0_16 (ad 13) (ad 14) y0_19 y0_20 y0_21 y0_22 (g0 23) (g0 24) (g0 25) (ad 18) (ad 19) y0_28 y0_29 (g0 30) t (ad 21) (ad 22) (ad 23) (ad 24) (ad 25) (ad 26) (g0 38) (g0 39) (g0 40) (g0 41) (g0 42) (g0 43) (g0 44) (g0 45) (g0 46) (g0 47) (g0 48) (g0 49) (g0 50) (g0 51) (g0 52) (g0 53) (g0 54) (g0 55) (g0 56) (g0 57) (g0 58) (g0 59) (g0 60) (g0 61) (g0 62) (g0 63) (g0 64) (g0 65) (g0 66) (g0 67) (g0 68) (g0 69) (g0 70) (g0 71) (ad 45) (ad 46) y0_74 kk b f6 f18 f19 f10 f11 f12 f21 f22 f23 f24 f25 f26 a a.toInt y0_3.toInt y0_10.toInt rfl rfl rfl (by omega) (by omega) (by omega)
  refine Ct.weak (Ct.and (show Ct l G yX11_again cX11_again 4 (some .boolean) { frames := 1, cells := 0, slots := 0, locals := 25 } [.ref (ad 0), .int a] w0 (fun r w1 => POST G ad TM C_X11_again_3 (fun k => ((Value.ref (ad 0) :: [.int a])[k]?).getD .null) w0 r w1) from ac_X11_again_3 l G ad w0 _ hW (pre_mu (C := C_X11_again_3) (ts := [(0, 2, 2)]) (As := [.int a]) rfl rfl rfl rfl ⟨fun _ => vty_i (by omega) (by omega), trivial⟩ ad w0 rfl)) h2 [0, 46, 45, 6, 18, 19, 10, 11, 12, 21, 22, 23, 24, 25, 26] (pk_cons c0 (pk_cons c46 (pk_cons c45 (pk_cons c6 (pk_cons c18 (pk_cons c19 (pk_cons c10 (pk_cons c11 (pk_cons c12 (pk_cons c21 (pk_cons c22 (pk_cons c23 (pk_cons c24 (pk_cons c25 (pk_cons c26 rfl))))))))))))))) (by decide)) ?_
  rintro r w1 ⟨hp, w2, ⟨rfl, rfl⟩, hS⟩
  obtain ⟨A1, hA1, μ2, -, -, -, -, -, -, hW1, hF1⟩ := hp
  obtain ⟨fs0, -, u0, ul0, -, -⟩ := WT.obj hW1 (k := 0) (j := 0) rfl rfl
  obtain ⟨p6, u6, -⟩ := WT.ints hW1 (k := 6) rfl
  obtain ⟨p10, u10, -⟩ := WT.bools hW1 (k := 10) rfl
  obtain ⟨p11, u11, -⟩ := WT.ints hW1 (k := 11) rfl
  obtain ⟨p12, u12, -⟩ := WT.ints hW1 (k := 12) rfl
  obtain ⟨p18, u18, -⟩ := WT.ints hW1 (k := 18) rfl
  obtain ⟨p19, u19, -⟩ := WT.ints hW1 (k := 19) rfl
  obtain ⟨p21, u21, -⟩ := WT.ints hW1 (k := 21) rfl
  obtain ⟨p22, u22, -⟩ := WT.bools hW1 (k := 22) rfl
  obtain ⟨p23, u23, -⟩ := WT.ints hW1 (k := 23) rfl
  obtain ⟨p24, u24, -⟩ := WT.ints hW1 (k := 24) rfl
  obtain ⟨p25, u25, -⟩ := WT.ints hW1 (k := 25) rfl
  obtain ⟨p26, u26, -⟩ := WT.ints hW1 (k := 26) rfl
  obtain ⟨p45, u45, -⟩ := WT.bools hW1 (k := 45) rfl
  obtain ⟨p46, u46, -⟩ := WT.ints hW1 (k := 46) rfl
  exact ⟨hW1, hF1, rfl, (same_f hS (k := 0) (j := 0) (q := (RX11, TX11, 75)) rfl u0 rfl (by decide) ul0 rfl)⟩
