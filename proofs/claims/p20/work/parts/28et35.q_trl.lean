/-! whole, much in the typed worlds -/
section ATK
variable {F : Nat → Nat → Int32} {t sq wq uq vq gq : Int32} {L : Nat → Int32}
theorem aT_0 {ok : Prop} [Decidable ok] : aT ok F t sq wq uq vq gq L 0 = if ok then upd (F 0) t.toNatClampNeg sq else F 0 := by
  unfold aT
  by_cases c : ok
  · rw [if_pos c, if_pos c]; rfl
  · rw [if_neg c, if_neg c]
theorem aT_1 {ok : Prop} [Decidable ok] : aT ok F t sq wq uq vq gq L 1 = if ok then upd (F 1) t.toNatClampNeg wq else F 1 := by
  unfold aT
  by_cases c : ok
  · rw [if_pos c, if_pos c]; rfl
  · rw [if_neg c, if_neg c]
theorem aT_2 {ok : Prop} [Decidable ok] : aT ok F t sq wq uq vq gq L 2 = if ok then upd (F 2) t.toNatClampNeg uq else F 2 := by
  unfold aT
  by_cases c : ok
  · rw [if_pos c, if_pos c]; rfl
  · rw [if_neg c, if_neg c]
theorem aT_3 {ok : Prop} [Decidable ok] : aT ok F t sq wq uq vq gq L 3 = if ok then upd (F 3) t.toNatClampNeg vq else F 3 := by
  unfold aT
  by_cases c : ok
  · rw [if_pos c, if_pos c]; rfl
  · rw [if_neg c, if_neg c]
theorem aT_4 {ok : Prop} [Decidable ok] : aT ok F t sq wq uq vq gq L 4 = if ok then upd (F 4) t.toNatClampNeg gq else F 4 := by
  unfold aT
  by_cases c : ok
  · rw [if_pos c, if_pos c]; rfl
  · rw [if_neg c, if_neg c]
theorem aT_5 {ok : Prop} [Decidable ok] {j : Nat} : aT ok F t sq wq uq vq gq L 5 j = if ok then tl4 L (F 5) t.toInt j else F 5 j := by
  unfold aT
  by_cases c : ok
  · rw [if_pos c, if_pos c]; rfl
  · rw [if_neg c, if_neg c]
end ATK
set_option maxHeartbeats 4000000 in
set_option maxRecDepth 100000 in
theorem ac_whx (l : Launch) (G : KG) {ad : Nat → Nat} {w0 : va_W} {h p o s t sq uq vq gq : Int32} {zp zx zy zh : Nat → Int32} {F : Nat → Nat → Int32} (hW : WT G ad TX w0) (eh : fget w0 5 0 = some (.int h)) (ep : fget w0 5 7 = some (.int p)) (eo : fget w0 5 8 = some (.int o)) (es : fget w0 12 0 = some (.int s)) (et : fget w0 22 0 = some (.int t)) (ezp : cget w0 6 0 = some (.inr (cyI G, 16, .inl zp))) (ezx : cget w0 7 0 = some (.inr (cyI G, 16, .inl zx))) (ezy : cget w0 8 0 = some (.inr (cyI G, 16, .inl zy))) (ezh : cget w0 10 0 = some (.inr (cyI G, 16, .inl zh))) (eF : TRx G w0 23 F) : Ct l G yX10_whole cX10_whole 5 (some .int) { frames := 4, cells := 0, slots := 0, locals := 100 } [.ref (ad 0), .int sq, .int uq, .int vq, .int gq] w0 (fun r w1 => WT G ad TX w1 ∧ FRM C_X10_whole_0.2.2.2.2.1 w0 w1 ∧ (r = some (.int (if (okW s.toInt t.toInt sq uq vq gq) then t else -1)) ∧ fget w1 22 0 = some (.int (aN (okW s.toInt t.toInt sq uq vq gq) t)) ∧ TQ G w1 23 (aT (okW s.toInt t.toInt sq uq vq gq) F t sq 1 uq vq gq (ldp h.toInt zp zh zx zy p o)))) := by
  obtain ⟨g0, q0, t0⟩ := WT.tab hW (k := 0) rfl
  have r0_2 : g0 2 = .ref (ad 5) := vty2 (t0 2 _ rfl).1 rfl
  have r0_3 : g0 3 = .ref (ad 12) := vty2 (t0 3 _ rfl).1 rfl
  have r0_5 : g0 5 = .ref (ad 22) := vty2 (t0 5 _ rfl).1 rfl
  have c0 : w0[0]? = some ((ad 0), ob 10 [(g0 0), (g0 1), .ref (ad 5), .ref (ad 12), (g0 4), .ref (ad 22), (g0 6), (g0 7), (g0 8), (g0 9), (g0 10), (g0 11), (g0 12), (g0 13), (g0 14), (g0 15)]) := by
    rw [q0]
    show some (ad 0, ob 10 [g0 0, g0 1, g0 2, g0 3, g0 4, g0 5, g0 6, g0 7, g0 8, g0 9, g0 10, g0 11, g0 12, g0 13, g0 14, g0 15]) = _
    rw [r0_2, r0_3, r0_5]
  obtain ⟨g22, q22, t22⟩ := WT.tab hW (k := 22) rfl
  have r22_0 : g22 0 = .int t := Option.some.inj ((t22 0 _ rfl).2.symm.trans et)
  have b22_0 : 0 ≤ t.toInt ∧ t.toInt ≤ 12 := by
    have h := (t22 0 _ rfl).1
    rw [r22_0] at h
    obtain ⟨y, e, l1, u1⟩ := vty0 h rfl
    obtain rfl := Value.int.inj e
    exact ⟨l1, u1⟩
  have r22_1 : g22 1 = .ref (ad 23) := vty2 (t22 1 _ rfl).1 rfl
  have r22_2 : g22 2 = .ref (ad 24) := vty2 (t22 2 _ rfl).1 rfl
  have r22_3 : g22 3 = .ref (ad 25) := vty2 (t22 3 _ rfl).1 rfl
  have r22_4 : g22 4 = .ref (ad 26) := vty2 (t22 4 _ rfl).1 rfl
  have r22_5 : g22 5 = .ref (ad 27) := vty2 (t22 5 _ rfl).1 rfl
  have r22_6 : g22 6 = .ref (ad 28) := vty2 (t22 6 _ rfl).1 rfl
  have c22 : w0[22]? = some ((ad 22), ob 9 [.int t, .ref (ad 23), .ref (ad 24), .ref (ad 25), .ref (ad 26), .ref (ad 27), .ref (ad 28), (g22 7), (g22 8), (g22 9)]) := by
    rw [q22]
    show some (ad 22, ob 9 [g22 0, g22 1, g22 2, g22 3, g22 4, g22 5, g22 6, g22 7, g22 8, g22 9]) = _
    rw [r22_0, r22_1, r22_2, r22_3, r22_4, r22_5, r22_6]
  obtain ⟨f23, c23, -⟩ := WT.ints hW (k := 23) rfl
  have ef23 : f23 = (F 0) := arrinj ((cgetI c23 0).symm.trans eF.1)
  rw [ef23] at c23
  obtain ⟨f24, c24, -⟩ := WT.bools hW (k := 24) rfl
  have ef24 : f24 = (F 1) := arrinj ((cgetZ c24 0).symm.trans eF.2.1)
  rw [ef24] at c24
  obtain ⟨f25, c25, -⟩ := WT.ints hW (k := 25) rfl
  have ef25 : f25 = (F 2) := arrinj ((cgetI c25 0).symm.trans eF.2.2.1)
  rw [ef25] at c25
  obtain ⟨f26, c26, -⟩ := WT.ints hW (k := 26) rfl
  have ef26 : f26 = (F 3) := arrinj ((cgetI c26 0).symm.trans eF.2.2.2.1)
  rw [ef26] at c26
  obtain ⟨f27, c27, -⟩ := WT.ints hW (k := 27) rfl
  have ef27 : f27 = (F 4) := arrinj ((cgetI c27 0).symm.trans eF.2.2.2.2.1)
  rw [ef27] at c27
  obtain ⟨f28, c28, -⟩ := WT.ints hW (k := 28) rfl
  have ef28 : f28 = (F 5) := arrinj ((cgetI c28 0).symm.trans eF.2.2.2.2.2)
  rw [ef28] at c28
  obtain ⟨g5, q5, t5⟩ := WT.tab hW (k := 5) rfl
  have r5_0 : g5 0 = .int h := Option.some.inj ((t5 0 _ rfl).2.symm.trans eh)
  have b5_0 : 0 ≤ h.toInt ∧ h.toInt ≤ 16 := by
    have h := (t5 0 _ rfl).1
    rw [r5_0] at h
    obtain ⟨y, e, l1, u1⟩ := vty0 h rfl
    obtain rfl := Value.int.inj e
    exact ⟨l1, u1⟩
  have r5_1 : g5 1 = .ref (ad 6) := vty2 (t5 1 _ rfl).1 rfl
  have r5_2 : g5 2 = .ref (ad 7) := vty2 (t5 2 _ rfl).1 rfl
  have r5_3 : g5 3 = .ref (ad 8) := vty2 (t5 3 _ rfl).1 rfl
  have r5_5 : g5 5 = .ref (ad 10) := vty2 (t5 5 _ rfl).1 rfl
  have r5_7 : g5 7 = .int p := Option.some.inj ((t5 7 _ rfl).2.symm.trans ep)
  have b5_7 : (-1) ≤ p.toInt ∧ p.toInt ≤ 15 := by
    have h := (t5 7 _ rfl).1
    rw [r5_7] at h
    obtain ⟨y, e, l1, u1⟩ := vty0 h rfl
    obtain rfl := Value.int.inj e
    exact ⟨l1, u1⟩
  have r5_8 : g5 8 = .int o := Option.some.inj ((t5 8 _ rfl).2.symm.trans eo)
  have b5_8 : (-2147483648) ≤ o.toInt ∧ o.toInt ≤ 2147483647 := by
    have h := (t5 8 _ rfl).1
    rw [r5_8] at h
    obtain ⟨y, e, l1, u1⟩ := vty0 h rfl
    obtain rfl := Value.int.inj e
    exact ⟨l1, u1⟩
  have c5 : w0[5]? = some ((ad 5), ob 5 [.int h, .ref (ad 6), .ref (ad 7), .ref (ad 8), (g5 4), .ref (ad 10), (g5 6), .int p, .int o]) := by
    rw [q5]
    show some (ad 5, ob 5 [g5 0, g5 1, g5 2, g5 3, g5 4, g5 5, g5 6, g5 7, g5 8]) = _
    rw [r5_0, r5_1, r5_2, r5_3, r5_5, r5_7, r5_8]
  obtain ⟨f6, c6, -⟩ := WT.ints hW (k := 6) rfl
  have ef6 : f6 = zp := arrinj ((cgetI c6 0).symm.trans ezp)
  rw [ef6] at c6
  obtain ⟨f7, c7, -⟩ := WT.ints hW (k := 7) rfl
  have ef7 : f7 = zx := arrinj ((cgetI c7 0).symm.trans ezx)
  rw [ef7] at c7
  obtain ⟨f8, c8, -⟩ := WT.ints hW (k := 8) rfl
  have ef8 : f8 = zy := arrinj ((cgetI c8 0).symm.trans ezy)
  rw [ef8] at c8
  obtain ⟨f10, c10, -⟩ := WT.ints hW (k := 10) rfl
  have ef10 : f10 = zh := arrinj ((cgetI c10 0).symm.trans ezh)
  rw [ef10] at c10
  obtain ⟨g12, q12, t12⟩ := WT.tab hW (k := 12) rfl
  have r12_0 : g12 0 = .int s := Option.some.inj ((t12 0 _ rfl).2.symm.trans es)
  have b12_0 : 0 ≤ s.toInt ∧ s.toInt ≤ 6 := by
    have h := (t12 0 _ rfl).1
    rw [r12_0] at h
    obtain ⟨y, e, l1, u1⟩ := vty0 h rfl
    obtain rfl := Value.int.inj e
    exact ⟨l1, u1⟩
  have c12 : w0[12]? = some ((ad 12), ob 7 [.int s, (g12 1), (g12 2), (g12 3), (g12 4), (g12 5)]) := by
    rw [q12]
    show some (ad 12, ob 7 [g12 0, g12 1, g12 2, g12 3, g12 4, g12 5]) = _
    rw [r12_0]
  have h2 := cf_X10_whole l G (ad 0) (g0 0) (g0 1) (ad 5) (ad 12) (g0 4) (ad 22) (g0 6) (g0 7) (g0 8) (g0 9) (g0 10) (g0 11) (g0 12) (g0 13) (g0 14) (g0 15) t (ad 23) (ad 24) (ad 25) (ad 26) (ad 27) (ad 28) (g22 7) (g22 8) (g22 9) (F 0) (F 1) (F 2) (F 3) (F 4) (F 5) h (ad 6) (ad 7) (ad 8) (g5 4) (ad 10) (g5 6) p o zp zx zy zh s (g12 1) (g12 2) (g12 3) (g12 4) (g12 5) sq uq vq gq h.toInt t.toInt s.toInt sq.toInt uq.toInt vq.toInt gq.toInt rfl rfl rfl rfl rfl rfl rfl (by omega) (by omega)
  refine Ct.weak (Ct.and (show Ct l G yX10_whole cX10_whole 5 (some .int) { frames := 4, cells := 0, slots := 0, locals := 100 } [.ref (ad 0), .int sq, .int uq, .int vq, .int gq] w0 (fun r w1 => POST G ad TX C_X10_whole_0 (fun k => ((Value.ref (ad 0) :: [.int sq, .int uq, .int vq, .int gq])[k]?).getD .null) w0 r w1) from ac_X10_whole_0 l G ad w0 _ hW (pre_mu (C := C_X10_whole_0) (ts := [tI0, tI0, tI0, tI0]) (As := [.int sq, .int uq, .int vq, .int gq]) rfl rfl rfl rfl ⟨fun _ => vty_i0 _, fun _ => vty_i0 _, fun _ => vty_i0 _, fun _ => vty_i0 _, trivial⟩ ad w0 rfl)) h2 [0, 22, 23, 24, 25, 26, 27, 28, 5, 6, 7, 8, 10, 12] (pk_cons c0 (pk_cons c22 (pk_cons c23 (pk_cons c24 (pk_cons c25 (pk_cons c26 (pk_cons c27 (pk_cons c28 (pk_cons c5 (pk_cons c6 (pk_cons c7 (pk_cons c8 (pk_cons c10 (pk_cons c12 rfl)))))))))))))) (by decide)) ?_
  rintro r w1 ⟨hp, w2, ⟨rz, tc2, fsp2, fwh2, ffi2, fse2, fgi2, fle2, hr, ht, hsp, hwh, hfi, hse, hgi, hle, rfl, rfl⟩, hS⟩
  obtain ⟨A1, hA1, μ2, -, -, -, -, -, -, hW1, hF1⟩ := hp
  obtain ⟨fs0, -, u0, ul0, -, -⟩ := WT.obj hW1 (k := 0) (j := 0) rfl rfl
  obtain ⟨fs5, -, u5, ul5, -, -⟩ := WT.obj hW1 (k := 5) (j := 0) rfl rfl
  obtain ⟨p6, u6, -⟩ := WT.ints hW1 (k := 6) rfl
  obtain ⟨p7, u7, -⟩ := WT.ints hW1 (k := 7) rfl
  obtain ⟨p8, u8, -⟩ := WT.ints hW1 (k := 8) rfl
  obtain ⟨p10, u10, -⟩ := WT.ints hW1 (k := 10) rfl
  obtain ⟨fs12, -, u12, ul12, -, -⟩ := WT.obj hW1 (k := 12) (j := 0) rfl rfl
  obtain ⟨fs22, -, u22, ul22, -, -⟩ := WT.obj hW1 (k := 22) (j := 0) rfl rfl
  obtain ⟨p23, u23, -⟩ := WT.ints hW1 (k := 23) rfl
  obtain ⟨p24, u24, -⟩ := WT.bools hW1 (k := 24) rfl
  obtain ⟨p25, u25, -⟩ := WT.ints hW1 (k := 25) rfl
  obtain ⟨p26, u26, -⟩ := WT.ints hW1 (k := 26) rfl
  obtain ⟨p27, u27, -⟩ := WT.ints hW1 (k := 27) rfl
  obtain ⟨p28, u28, -⟩ := WT.ints hW1 (k := 28) rfl
  exact ⟨hW1, hF1, by rw [hr], (same_f hS (k := 22) (j := 1) (q := (RX9, TX9, 10)) rfl u22 rfl (by decide) ul22 rfl).trans (by rw [ht]; rfl), tr6 p23 p24 p25 p26 p27 p28, ⟨cgetI u23 0, cgetZ u24 0, cgetI u25 0, cgetI u26 0, cgetI u27 0, cgetI u28 0⟩, fun a j ha hj => by rcases (by omega : a = 0 ∨ a = 1 ∨ a = 2 ∨ a = 3 ∨ a = 4) with rfl | rfl | rfl | rfl | rfl; (exact ((same_I hS (k := 23) (j := 2) u23 rfl) j hj).trans ((congrFun hsp j).trans (congrFun aT_0 j).symm)); (exact ((same_Z hS (k := 24) (j := 3) u24 rfl) j hj).trans ((congrFun hwh j).trans (congrFun aT_1 j).symm)); (exact ((same_I hS (k := 25) (j := 4) u25 rfl) j hj).trans ((congrFun hfi j).trans (congrFun aT_2 j).symm)); (exact ((same_I hS (k := 26) (j := 5) u26 rfl) j hj).trans ((congrFun hse j).trans (congrFun aT_3 j).symm)); (exact ((same_I hS (k := 27) (j := 6) u27 rfl) j hj).trans ((congrFun hgi j).trans (congrFun aT_4 j).symm)), fun j hj => ((same_I hS (k := 28) (j := 7) u28 rfl) j hj).trans ((hle j hj).trans aT_5.symm)⟩
set_option maxHeartbeats 4000000 in
set_option maxRecDepth 100000 in
theorem ac_whm (l : Launch) (G : KG) {ad : Nat → Nat} {w0 : va_W} {h p o s t sq uq vq gq : Int32} {zp zx zy zh : Nat → Int32} {H : Nat → Nat → Int32} (hW : WT G ad TM w0) (eh : fget w0 0 3 = some (.int h)) (ep : fget w0 0 28 = some (.int p)) (eo : fget w0 0 29 = some (.int o)) (es : fget w0 0 10 = some (.int s)) (et : fget w0 0 31 = some (.int t)) (ezp : cget w0 2 0 = some (.inr (cyI G, 16, .inl zp))) (ezx : cget w0 3 0 = some (.inr (cyI G, 16, .inl zx))) (ezy : cget w0 4 0 = some (.inr (cyI G, 16, .inl zy))) (ezh : cget w0 6 0 = some (.inr (cyI G, 16, .inl zh))) (eH : TRx G w0 21 H) : Ct l G yX11_whole cX11_whole 5 (some .int) { frames := 3, cells := 0, slots := 0, locals := 70 } [.ref (ad 0), .int sq, .int uq, .int vq, .int gq] w0 (fun r w1 => WT G ad TM w1 ∧ FRM C_X11_whole_0.2.2.2.2.1 w0 w1 ∧ (r = some (.int (if (okW s.toInt t.toInt sq uq vq gq) then t else -1)) ∧ fget w1 0 31 = some (.int (aN (okW s.toInt t.toInt sq uq vq gq) t)) ∧ TQ G w1 21 (aT (okW s.toInt t.toInt sq uq vq gq) H t sq 1 uq vq gq (ldp h.toInt zp zh zx zy p o)))) := by
  obtain ⟨g0, q0, t0⟩ := WT.tab hW (k := 0) rfl
  obtain ⟨y0_0, r0_0, -, -⟩ := vty0 (t0 0 _ rfl).1 rfl
  have r0_3 : g0 3 = .int h := Option.some.inj ((t0 3 _ rfl).2.symm.trans eh)
  have b0_3 : 0 ≤ h.toInt ∧ h.toInt ≤ 16 := by
    have h := (t0 3 _ rfl).1
    rw [r0_3] at h
    obtain ⟨y, e, l1, u1⟩ := vty0 h rfl
    obtain rfl := Value.int.inj e
    exact ⟨l1, u1⟩
  have r0_4 : g0 4 = .ref (ad 2) := vty2 (t0 4 _ rfl).1 rfl
  have r0_5 : g0 5 = .ref (ad 3) := vty2 (t0 5 _ rfl).1 rfl
  have r0_6 : g0 6 = .ref (ad 4) := vty2 (t0 6 _ rfl).1 rfl
  have r0_7 : g0 7 = .ref (ad 5) := vty2 (t0 7 _ rfl).1 rfl
  have r0_8 : g0 8 = .ref (ad 6) := vty2 (t0 8 _ rfl).1 rfl
  have r0_9 : g0 9 = .ref (ad 7) := vty2 (t0 9 _ rfl).1 rfl
  have r0_10 : g0 10 = .int s := Option.some.inj ((t0 10 _ rfl).2.symm.trans es)
  have b0_10 : 0 ≤ s.toInt ∧ s.toInt ≤ 6 := by
    have h := (t0 10 _ rfl).1
    rw [r0_10] at h
    obtain ⟨y, e, l1, u1⟩ := vty0 h rfl
    obtain rfl := Value.int.inj e
    exact ⟨l1, u1⟩
  have r0_11 : g0 11 = .ref (ad 8) := vty2 (t0 11 _ rfl).1 rfl
  have r0_12 : g0 12 = .ref (ad 9) := vty2 (t0 12 _ rfl).1 rfl
  have r0_13 : g0 13 = .ref (ad 10) := vty2 (t0 13 _ rfl).1 rfl
  have r0_14 : g0 14 = .ref (ad 11) := vty2 (t0 14 _ rfl).1 rfl
  have r0_15 : g0 15 = .ref (ad 12) := vty2 (t0 15 _ rfl).1 rfl
  obtain ⟨y0_16, r0_16, -, -⟩ := vty0 (t0 16 _ rfl).1 rfl
  have r0_17 : g0 17 = .ref (ad 13) := vty2 (t0 17 _ rfl).1 rfl
  have r0_18 : g0 18 = .ref (ad 14) := vty2 (t0 18 _ rfl).1 rfl
  obtain ⟨y0_19, r0_19, -, -⟩ := vty0 (t0 19 _ rfl).1 rfl
  obtain ⟨y0_20, r0_20, -, -⟩ := vty0 (t0 20 _ rfl).1 rfl
  obtain ⟨y0_21, r0_21, -, -⟩ := vty0 (t0 21 _ rfl).1 rfl
  obtain ⟨y0_22, r0_22, -, -⟩ := vty0 (t0 22 _ rfl).1 rfl
  have r0_28 : g0 28 = .int p := Option.some.inj ((t0 28 _ rfl).2.symm.trans ep)
  have b0_28 : (-1) ≤ p.toInt ∧ p.toInt ≤ 15 := by
    have h := (t0 28 _ rfl).1
    rw [r0_28] at h
    obtain ⟨y, e, l1, u1⟩ := vty0 h rfl
    obtain rfl := Value.int.inj e
    exact ⟨l1, u1⟩
  have r0_29 : g0 29 = .int o := Option.some.inj ((t0 29 _ rfl).2.symm.trans eo)
  have b0_29 : (-2147483648) ≤ o.toInt ∧ o.toInt ≤ 2147483647 := by
    have h := (t0 29 _ rfl).1
    rw [r0_29] at h
    obtain ⟨y, e, l1, u1⟩ := vty0 h rfl
    obtain rfl := Value.int.inj e
    exact ⟨l1, u1⟩
  have r0_30 : g0 30 = .ref (ad 20) := vty2 (t0 30 _ rfl).1 rfl
  have r0_31 : g0 31 = .int t := Option.some.inj ((t0 31 _ rfl).2.symm.trans et)
  have b0_31 : 0 ≤ t.toInt ∧ t.toInt ≤ 12 := by
    have h := (t0 31 _ rfl).1
    rw [r0_31] at h
    obtain ⟨y, e, l1, u1⟩ := vty0 h rfl
    obtain rfl := Value.int.inj e
    exact ⟨l1, u1⟩
  have r0_32 : g0 32 = .ref (ad 21) := vty2 (t0 32 _ rfl).1 rfl
  have r0_33 : g0 33 = .ref (ad 22) := vty2 (t0 33 _ rfl).1 rfl
  have r0_34 : g0 34 = .ref (ad 23) := vty2 (t0 34 _ rfl).1 rfl
  have r0_35 : g0 35 = .ref (ad 24) := vty2 (t0 35 _ rfl).1 rfl
  have r0_36 : g0 36 = .ref (ad 25) := vty2 (t0 36 _ rfl).1 rfl
  have r0_37 : g0 37 = .ref (ad 26) := vty2 (t0 37 _ rfl).1 rfl
  have c0 : w0[0]? = some ((ad 0), ob 11 [.int y0_0, (g0 1), (g0 2), .int h, .ref (ad 2), .ref (ad 3), .ref (ad 4), .ref (ad 5), .ref (ad 6), .ref (ad 7), .int s, .ref (ad 8), .ref (ad 9), .ref (ad 10), .ref (ad 11), .ref (ad 12), .int y0_16, .ref (ad 13), .ref (ad 14), .int y0_19, .int y0_20, .int y0_21, .int y0_22, (g0 23), (g0 24), (g0 25), (g0 26), (g0 27), .int p, .int o, .ref (ad 20), .int t, .ref (ad 21), .ref (ad 22), .ref (ad 23), .ref (ad 24), .ref (ad 25), .ref (ad 26), (g0 38), (g0 39), (g0 40), (g0 41), (g0 42), (g0 43), (g0 44), (g0 45), (g0 46), (g0 47), (g0 48), (g0 49), (g0 50), (g0 51), (g0 52), (g0 53), (g0 54), (g0 55), (g0 56), (g0 57), (g0 58), (g0 59), (g0 60), (g0 61), (g0 62), (g0 63), (g0 64), (g0 65), (g0 66), (g0 67), (g0 68), (g0 69), (g0 70), (g0 71), (g0 72), (g0 73), (g0 74)]) := by
    rw [q0]
    show some (ad 0, ob 11 [g0 0, g0 1, g0 2, g0 3, g0 4, g0 5, g0 6, g0 7, g0 8, g0 9, g0 10, g0 11, g0 12, g0 13, g0 14, g0 15, g0 16, g0 17, g0 18, g0 19, g0 20, g0 21, g0 22, g0 23, g0 24, g0 25, g0 26, g0 27, g0 28, g0 29, g0 30, g0 31, g0 32, g0 33, g0 34, g0 35, g0 36, g0 37, g0 38, g0 39, g0 40, g0 41, g0 42, g0 43, g0 44, g0 45, g0 46, g0 47, g0 48, g0 49, g0 50, g0 51, g0 52, g0 53, g0 54, g0 55, g0 56, g0 57, g0 58, g0 59, g0 60, g0 61, g0 62, g0 63, g0 64, g0 65, g0 66, g0 67, g0 68, g0 69, g0 70, g0 71, g0 72, g0 73, g0 74]) = _
    rw [r0_0, r0_3, r0_4, r0_5, r0_6, r0_7, r0_8, r0_9, r0_10, r0_11, r0_12, r0_13, r0_14, r0_15, r0_16, r0_17, r0_18, r0_19, r0_20, r0_21, r0_22, r0_28, r0_29, r0_30, r0_31, r0_32, r0_33, r0_34, r0_35, r0_36, r0_37]
  obtain ⟨f20, c20, -⟩ := WT.ints hW (k := 20) rfl
  obtain ⟨f2, c2, -⟩ := WT.ints hW (k := 2) rfl
  have ef2 : f2 = zp := arrinj ((cgetI c2 0).symm.trans ezp)
  rw [ef2] at c2
  obtain ⟨f3, c3, -⟩ := WT.ints hW (k := 3) rfl
  have ef3 : f3 = zx := arrinj ((cgetI c3 0).symm.trans ezx)
  rw [ef3] at c3
  obtain ⟨f4, c4, -⟩ := WT.ints hW (k := 4) rfl
  have ef4 : f4 = zy := arrinj ((cgetI c4 0).symm.trans ezy)
  rw [ef4] at c4
  obtain ⟨f6, c6, -⟩ := WT.ints hW (k := 6) rfl
  have ef6 : f6 = zh := arrinj ((cgetI c6 0).symm.trans ezh)
  rw [ef6] at c6
  obtain ⟨f21, c21, -⟩ := WT.ints hW (k := 21) rfl
  have ef21 : f21 = (H 0) := arrinj ((cgetI c21 0).symm.trans eH.1)
  rw [ef21] at c21
  obtain ⟨f22, c22, -⟩ := WT.bools hW (k := 22) rfl
  have ef22 : f22 = (H 1) := arrinj ((cgetZ c22 0).symm.trans eH.2.1)
  rw [ef22] at c22
  obtain ⟨f23, c23, -⟩ := WT.ints hW (k := 23) rfl
  have ef23 : f23 = (H 2) := arrinj ((cgetI c23 0).symm.trans eH.2.2.1)
  rw [ef23] at c23
  obtain ⟨f24, c24, -⟩ := WT.ints hW (k := 24) rfl
  have ef24 : f24 = (H 3) := arrinj ((cgetI c24 0).symm.trans eH.2.2.2.1)
  rw [ef24] at c24
  obtain ⟨f25, c25, -⟩ := WT.ints hW (k := 25) rfl
  have ef25 : f25 = (H 4) := arrinj ((cgetI c25 0).symm.trans eH.2.2.2.2.1)
  rw [ef25] at c25
  obtain ⟨f26, c26, -⟩ := WT.ints hW (k := 26) rfl
  have ef26 : f26 = (H 5) := arrinj ((cgetI c26 0).symm.trans eH.2.2.2.2.2)
  rw [ef26] at c26
  have hpl := ref_plane hW eh ezp
  have h2 := cf_X11_whole l G (ad 0) y0_0 (g0 1) (g0 2) h (ad 2) (ad 3) (ad 4) (ad 5) (ad 6) (ad 7) s (ad 8) (ad 9) (ad 10) (ad 11) (ad 12) y0_16 (ad 13) (ad 14) y0_19 y0_20 y0_21 y0_22 (g0 23) (g0 24) (g0 25) (g0 26) (g0 27) p o (ad 20) t (ad 21) (ad 22) (ad 23) (ad 24) (ad 25) (ad 26) (g0 38) (g0 39) (g0 40) (g0 41) (g0 42) (g0 43) (g0 44) (g0 45) (g0 46) (g0 47) (g0 48) (g0 49) (g0 50) (g0 51) (g0 52) (g0 53) (g0 54) (g0 55) (g0 56) (g0 57) (g0 58) (g0 59) (g0 60) (g0 61) (g0 62) (g0 63) (g0 64) (g0 65) (g0 66) (g0 67) (g0 68) (g0 69) (g0 70) (g0 71) (g0 72) (g0 73) (g0 74) zp zx zy zh f20 (H 0) (H 1) (H 2) (H 3) (H 4) (H 5) sq uq vq gq h.toInt t.toInt s.toInt sq.toInt uq.toInt vq.toInt gq.toInt rfl rfl rfl rfl rfl rfl rfl (by omega) (by omega) (by omega) (by omega)
  refine Ct.weak (Ct.and (show Ct l G yX11_whole cX11_whole 5 (some .int) { frames := 3, cells := 0, slots := 0, locals := 70 } [.ref (ad 0), .int sq, .int uq, .int vq, .int gq] w0 (fun r w1 => POST G ad TM C_X11_whole_0 (fun k => ((Value.ref (ad 0) :: [.int sq, .int uq, .int vq, .int gq])[k]?).getD .null) w0 r w1) from ac_X11_whole_0 l G ad w0 _ hW (pre_mu (C := C_X11_whole_0) (ts := [tI0, tI0, tI0, tI0]) (As := [.int sq, .int uq, .int vq, .int gq]) rfl rfl rfl rfl ⟨fun _ => vty_i0 _, fun _ => vty_i0 _, fun _ => vty_i0 _, fun _ => vty_i0 _, trivial⟩ ad w0 rfl)) h2 [0, 20, 2, 3, 4, 6, 21, 22, 23, 24, 25, 26] (pk_cons c0 (pk_cons c20 (pk_cons c2 (pk_cons c3 (pk_cons c4 (pk_cons c6 (pk_cons c21 (pk_cons c22 (pk_cons c23 (pk_cons c24 (pk_cons c25 (pk_cons c26 rfl)))))))))))) (by decide)) ?_
  rintro r w1 ⟨hp, w2, ⟨rz, tc2, fl2, fsp2, fwh2, ffi2, fse2, fgi2, fle2, hr, ht, hsp, hwh, hfi, hse, hgi, hle, rfl, rfl⟩, hS⟩
  obtain ⟨A1, hA1, μ2, -, -, -, -, -, -, hW1, hF1⟩ := hp
  obtain ⟨fs0, -, u0, ul0, -, -⟩ := WT.obj hW1 (k := 0) (j := 0) rfl rfl
  obtain ⟨p2, u2, -⟩ := WT.ints hW1 (k := 2) rfl
  obtain ⟨p3, u3, -⟩ := WT.ints hW1 (k := 3) rfl
  obtain ⟨p4, u4, -⟩ := WT.ints hW1 (k := 4) rfl
  obtain ⟨p6, u6, -⟩ := WT.ints hW1 (k := 6) rfl
  obtain ⟨p20, u20, -⟩ := WT.ints hW1 (k := 20) rfl
  obtain ⟨p21, u21, -⟩ := WT.ints hW1 (k := 21) rfl
  obtain ⟨p22, u22, -⟩ := WT.bools hW1 (k := 22) rfl
  obtain ⟨p23, u23, -⟩ := WT.ints hW1 (k := 23) rfl
  obtain ⟨p24, u24, -⟩ := WT.ints hW1 (k := 24) rfl
  obtain ⟨p25, u25, -⟩ := WT.ints hW1 (k := 25) rfl
  obtain ⟨p26, u26, -⟩ := WT.ints hW1 (k := 26) rfl
  exact ⟨hW1, hF1, by rw [hr], (same_f hS (k := 0) (j := 0) (q := (RX11, TX11, 75)) rfl u0 rfl (by decide) ul0 rfl).trans (by rw [ht]; rfl), tr6 p21 p22 p23 p24 p25 p26, ⟨cgetI u21 0, cgetZ u22 0, cgetI u23 0, cgetI u24 0, cgetI u25 0, cgetI u26 0⟩, fun a j ha hj => by rcases (by omega : a = 0 ∨ a = 1 ∨ a = 2 ∨ a = 3 ∨ a = 4) with rfl | rfl | rfl | rfl | rfl; (exact ((same_I hS (k := 21) (j := 6) u21 rfl) j hj).trans ((congrFun hsp j).trans (congrFun aT_0 j).symm)); (exact ((same_Z hS (k := 22) (j := 7) u22 rfl) j hj).trans ((congrFun hwh j).trans (congrFun aT_1 j).symm)); (exact ((same_I hS (k := 23) (j := 8) u23 rfl) j hj).trans ((congrFun hfi j).trans (congrFun aT_2 j).symm)); (exact ((same_I hS (k := 24) (j := 9) u24 rfl) j hj).trans ((congrFun hse j).trans (congrFun aT_3 j).symm)); (exact ((same_I hS (k := 25) (j := 10) u25 rfl) j hj).trans ((congrFun hgi j).trans (congrFun aT_4 j).symm)), fun j hj => ((same_I hS (k := 26) (j := 11) u26 rfl) j hj).trans ((hle j hj).trans aT_5.symm)⟩
set_option maxHeartbeats 4000000 in
set_option maxRecDepth 100000 in
theorem ac_mux (l : Launch) (G : KG) {ad : Nat → Nat} {w0 : va_W} {h p o s t sq uq vq : Int32} {zp zx zy zh : Nat → Int32} {F : Nat → Nat → Int32} (hW : WT G ad TX w0) (eh : fget w0 5 0 = some (.int h)) (ep : fget w0 5 7 = some (.int p)) (eo : fget w0 5 8 = some (.int o)) (es : fget w0 12 0 = some (.int s)) (et : fget w0 22 0 = some (.int t)) (ezp : cget w0 6 0 = some (.inr (cyI G, 16, .inl zp))) (ezx : cget w0 7 0 = some (.inr (cyI G, 16, .inl zx))) (ezy : cget w0 8 0 = some (.inr (cyI G, 16, .inl zy))) (ezh : cget w0 10 0 = some (.inr (cyI G, 16, .inl zh))) (eF : TRx G w0 23 F) : Ct l G yX10_much cX10_much 4 (some .int) { frames := 4, cells := 0, slots := 0, locals := 99 } [.ref (ad 0), .int sq, .int uq, .int vq] w0 (fun r w1 => WT G ad TX w1 ∧ FRM C_X10_much_0.2.2.2.2.1 w0 w1 ∧ (r = some (.int (if (okU s.toInt t.toInt sq uq vq) then t else -1)) ∧ fget w1 22 0 = some (.int (aN (okU s.toInt t.toInt sq uq vq) t)) ∧ TQ G w1 23 (aT (okU s.toInt t.toInt sq uq vq) F t sq 0 uq vq 0 (ldp h.toInt zp zh zx zy p o)))) := by
  obtain ⟨g0, q0, t0⟩ := WT.tab hW (k := 0) rfl
  have r0_2 : g0 2 = .ref (ad 5) := vty2 (t0 2 _ rfl).1 rfl
  have r0_3 : g0 3 = .ref (ad 12) := vty2 (t0 3 _ rfl).1 rfl
  have r0_5 : g0 5 = .ref (ad 22) := vty2 (t0 5 _ rfl).1 rfl
  have c0 : w0[0]? = some ((ad 0), ob 10 [(g0 0), (g0 1), .ref (ad 5), .ref (ad 12), (g0 4), .ref (ad 22), (g0 6), (g0 7), (g0 8), (g0 9), (g0 10), (g0 11), (g0 12), (g0 13), (g0 14), (g0 15)]) := by
    rw [q0]
    show some (ad 0, ob 10 [g0 0, g0 1, g0 2, g0 3, g0 4, g0 5, g0 6, g0 7, g0 8, g0 9, g0 10, g0 11, g0 12, g0 13, g0 14, g0 15]) = _
    rw [r0_2, r0_3, r0_5]
  obtain ⟨g22, q22, t22⟩ := WT.tab hW (k := 22) rfl
  have r22_0 : g22 0 = .int t := Option.some.inj ((t22 0 _ rfl).2.symm.trans et)
  have b22_0 : 0 ≤ t.toInt ∧ t.toInt ≤ 12 := by
    have h := (t22 0 _ rfl).1
    rw [r22_0] at h
    obtain ⟨y, e, l1, u1⟩ := vty0 h rfl
    obtain rfl := Value.int.inj e
    exact ⟨l1, u1⟩
  have r22_1 : g22 1 = .ref (ad 23) := vty2 (t22 1 _ rfl).1 rfl
  have r22_2 : g22 2 = .ref (ad 24) := vty2 (t22 2 _ rfl).1 rfl
  have r22_3 : g22 3 = .ref (ad 25) := vty2 (t22 3 _ rfl).1 rfl
  have r22_4 : g22 4 = .ref (ad 26) := vty2 (t22 4 _ rfl).1 rfl
  have r22_5 : g22 5 = .ref (ad 27) := vty2 (t22 5 _ rfl).1 rfl
  have r22_6 : g22 6 = .ref (ad 28) := vty2 (t22 6 _ rfl).1 rfl
  have c22 : w0[22]? = some ((ad 22), ob 9 [.int t, .ref (ad 23), .ref (ad 24), .ref (ad 25), .ref (ad 26), .ref (ad 27), .ref (ad 28), (g22 7), (g22 8), (g22 9)]) := by
    rw [q22]
    show some (ad 22, ob 9 [g22 0, g22 1, g22 2, g22 3, g22 4, g22 5, g22 6, g22 7, g22 8, g22 9]) = _
    rw [r22_0, r22_1, r22_2, r22_3, r22_4, r22_5, r22_6]
  obtain ⟨f23, c23, -⟩ := WT.ints hW (k := 23) rfl
  have ef23 : f23 = (F 0) := arrinj ((cgetI c23 0).symm.trans eF.1)
  rw [ef23] at c23
  obtain ⟨f24, c24, -⟩ := WT.bools hW (k := 24) rfl
  have ef24 : f24 = (F 1) := arrinj ((cgetZ c24 0).symm.trans eF.2.1)
  rw [ef24] at c24
  obtain ⟨f25, c25, -⟩ := WT.ints hW (k := 25) rfl
  have ef25 : f25 = (F 2) := arrinj ((cgetI c25 0).symm.trans eF.2.2.1)
  rw [ef25] at c25
  obtain ⟨f26, c26, -⟩ := WT.ints hW (k := 26) rfl
  have ef26 : f26 = (F 3) := arrinj ((cgetI c26 0).symm.trans eF.2.2.2.1)
  rw [ef26] at c26
  obtain ⟨f27, c27, -⟩ := WT.ints hW (k := 27) rfl
  have ef27 : f27 = (F 4) := arrinj ((cgetI c27 0).symm.trans eF.2.2.2.2.1)
  rw [ef27] at c27
  obtain ⟨f28, c28, -⟩ := WT.ints hW (k := 28) rfl
  have ef28 : f28 = (F 5) := arrinj ((cgetI c28 0).symm.trans eF.2.2.2.2.2)
  rw [ef28] at c28
  obtain ⟨g5, q5, t5⟩ := WT.tab hW (k := 5) rfl
  have r5_0 : g5 0 = .int h := Option.some.inj ((t5 0 _ rfl).2.symm.trans eh)
  have b5_0 : 0 ≤ h.toInt ∧ h.toInt ≤ 16 := by
    have h := (t5 0 _ rfl).1
    rw [r5_0] at h
    obtain ⟨y, e, l1, u1⟩ := vty0 h rfl
    obtain rfl := Value.int.inj e
    exact ⟨l1, u1⟩
  have r5_1 : g5 1 = .ref (ad 6) := vty2 (t5 1 _ rfl).1 rfl
  have r5_2 : g5 2 = .ref (ad 7) := vty2 (t5 2 _ rfl).1 rfl
  have r5_3 : g5 3 = .ref (ad 8) := vty2 (t5 3 _ rfl).1 rfl
  have r5_5 : g5 5 = .ref (ad 10) := vty2 (t5 5 _ rfl).1 rfl
  have r5_7 : g5 7 = .int p := Option.some.inj ((t5 7 _ rfl).2.symm.trans ep)
  have b5_7 : (-1) ≤ p.toInt ∧ p.toInt ≤ 15 := by
    have h := (t5 7 _ rfl).1
    rw [r5_7] at h
    obtain ⟨y, e, l1, u1⟩ := vty0 h rfl
    obtain rfl := Value.int.inj e
    exact ⟨l1, u1⟩
  have r5_8 : g5 8 = .int o := Option.some.inj ((t5 8 _ rfl).2.symm.trans eo)
  have b5_8 : (-2147483648) ≤ o.toInt ∧ o.toInt ≤ 2147483647 := by
    have h := (t5 8 _ rfl).1
    rw [r5_8] at h
    obtain ⟨y, e, l1, u1⟩ := vty0 h rfl
    obtain rfl := Value.int.inj e
    exact ⟨l1, u1⟩
  have c5 : w0[5]? = some ((ad 5), ob 5 [.int h, .ref (ad 6), .ref (ad 7), .ref (ad 8), (g5 4), .ref (ad 10), (g5 6), .int p, .int o]) := by
    rw [q5]
    show some (ad 5, ob 5 [g5 0, g5 1, g5 2, g5 3, g5 4, g5 5, g5 6, g5 7, g5 8]) = _
    rw [r5_0, r5_1, r5_2, r5_3, r5_5, r5_7, r5_8]
  obtain ⟨f6, c6, -⟩ := WT.ints hW (k := 6) rfl
  have ef6 : f6 = zp := arrinj ((cgetI c6 0).symm.trans ezp)
  rw [ef6] at c6
  obtain ⟨f7, c7, -⟩ := WT.ints hW (k := 7) rfl
  have ef7 : f7 = zx := arrinj ((cgetI c7 0).symm.trans ezx)
  rw [ef7] at c7
  obtain ⟨f8, c8, -⟩ := WT.ints hW (k := 8) rfl
  have ef8 : f8 = zy := arrinj ((cgetI c8 0).symm.trans ezy)
  rw [ef8] at c8
  obtain ⟨f10, c10, -⟩ := WT.ints hW (k := 10) rfl
  have ef10 : f10 = zh := arrinj ((cgetI c10 0).symm.trans ezh)
  rw [ef10] at c10
  obtain ⟨g12, q12, t12⟩ := WT.tab hW (k := 12) rfl
  have r12_0 : g12 0 = .int s := Option.some.inj ((t12 0 _ rfl).2.symm.trans es)
  have b12_0 : 0 ≤ s.toInt ∧ s.toInt ≤ 6 := by
    have h := (t12 0 _ rfl).1
    rw [r12_0] at h
    obtain ⟨y, e, l1, u1⟩ := vty0 h rfl
    obtain rfl := Value.int.inj e
    exact ⟨l1, u1⟩
  have c12 : w0[12]? = some ((ad 12), ob 7 [.int s, (g12 1), (g12 2), (g12 3), (g12 4), (g12 5)]) := by
    rw [q12]
    show some (ad 12, ob 7 [g12 0, g12 1, g12 2, g12 3, g12 4, g12 5]) = _
    rw [r12_0]
  have h2 := cf_X10_much l G (ad 0) (g0 0) (g0 1) (ad 5) (ad 12) (g0 4) (ad 22) (g0 6) (g0 7) (g0 8) (g0 9) (g0 10) (g0 11) (g0 12) (g0 13) (g0 14) (g0 15) t (ad 23) (ad 24) (ad 25) (ad 26) (ad 27) (ad 28) (g22 7) (g22 8) (g22 9) (F 0) (F 1) (F 2) (F 3) (F 4) (F 5) h (ad 6) (ad 7) (ad 8) (g5 4) (ad 10) (g5 6) p o zp zx zy zh s (g12 1) (g12 2) (g12 3) (g12 4) (g12 5) sq uq vq h.toInt t.toInt s.toInt sq.toInt uq.toInt vq.toInt rfl rfl rfl rfl rfl rfl (by omega) (by omega)
  refine Ct.weak (Ct.and (show Ct l G yX10_much cX10_much 4 (some .int) { frames := 4, cells := 0, slots := 0, locals := 99 } [.ref (ad 0), .int sq, .int uq, .int vq] w0 (fun r w1 => POST G ad TX C_X10_much_0 (fun k => ((Value.ref (ad 0) :: [.int sq, .int uq, .int vq])[k]?).getD .null) w0 r w1) from ac_X10_much_0 l G ad w0 _ hW (pre_mu (C := C_X10_much_0) (ts := [tI0, tI0, tI0]) (As := [.int sq, .int uq, .int vq]) rfl rfl rfl rfl ⟨fun _ => vty_i0 _, fun _ => vty_i0 _, fun _ => vty_i0 _, trivial⟩ ad w0 rfl)) h2 [0, 22, 23, 24, 25, 26, 27, 28, 5, 6, 7, 8, 10, 12] (pk_cons c0 (pk_cons c22 (pk_cons c23 (pk_cons c24 (pk_cons c25 (pk_cons c26 (pk_cons c27 (pk_cons c28 (pk_cons c5 (pk_cons c6 (pk_cons c7 (pk_cons c8 (pk_cons c10 (pk_cons c12 rfl)))))))))))))) (by decide)) ?_
  rintro r w1 ⟨hp, w2, ⟨rz, tc2, fsp2, fwh2, ffi2, fse2, fgi2, fle2, hr, ht, hsp, hwh, hfi, hse, hgi, hle, rfl, rfl⟩, hS⟩
  obtain ⟨A1, hA1, μ2, -, -, -, -, -, -, hW1, hF1⟩ := hp
  obtain ⟨fs0, -, u0, ul0, -, -⟩ := WT.obj hW1 (k := 0) (j := 0) rfl rfl
  obtain ⟨fs5, -, u5, ul5, -, -⟩ := WT.obj hW1 (k := 5) (j := 0) rfl rfl
  obtain ⟨p6, u6, -⟩ := WT.ints hW1 (k := 6) rfl
  obtain ⟨p7, u7, -⟩ := WT.ints hW1 (k := 7) rfl
  obtain ⟨p8, u8, -⟩ := WT.ints hW1 (k := 8) rfl
  obtain ⟨p10, u10, -⟩ := WT.ints hW1 (k := 10) rfl
  obtain ⟨fs12, -, u12, ul12, -, -⟩ := WT.obj hW1 (k := 12) (j := 0) rfl rfl
  obtain ⟨fs22, -, u22, ul22, -, -⟩ := WT.obj hW1 (k := 22) (j := 0) rfl rfl
  obtain ⟨p23, u23, -⟩ := WT.ints hW1 (k := 23) rfl
  obtain ⟨p24, u24, -⟩ := WT.bools hW1 (k := 24) rfl
  obtain ⟨p25, u25, -⟩ := WT.ints hW1 (k := 25) rfl
  obtain ⟨p26, u26, -⟩ := WT.ints hW1 (k := 26) rfl
  obtain ⟨p27, u27, -⟩ := WT.ints hW1 (k := 27) rfl
  obtain ⟨p28, u28, -⟩ := WT.ints hW1 (k := 28) rfl
  exact ⟨hW1, hF1, by rw [hr], (same_f hS (k := 22) (j := 1) (q := (RX9, TX9, 10)) rfl u22 rfl (by decide) ul22 rfl).trans (by rw [ht]; rfl), tr6 p23 p24 p25 p26 p27 p28, ⟨cgetI u23 0, cgetZ u24 0, cgetI u25 0, cgetI u26 0, cgetI u27 0, cgetI u28 0⟩, fun a j ha hj => by rcases (by omega : a = 0 ∨ a = 1 ∨ a = 2 ∨ a = 3 ∨ a = 4) with rfl | rfl | rfl | rfl | rfl; (exact ((same_I hS (k := 23) (j := 2) u23 rfl) j hj).trans ((congrFun hsp j).trans (congrFun aT_0 j).symm)); (exact ((same_Z hS (k := 24) (j := 3) u24 rfl) j hj).trans ((congrFun hwh j).trans (congrFun aT_1 j).symm)); (exact ((same_I hS (k := 25) (j := 4) u25 rfl) j hj).trans ((congrFun hfi j).trans (congrFun aT_2 j).symm)); (exact ((same_I hS (k := 26) (j := 5) u26 rfl) j hj).trans ((congrFun hse j).trans (congrFun aT_3 j).symm)); (exact ((same_I hS (k := 27) (j := 6) u27 rfl) j hj).trans ((congrFun hgi j).trans (congrFun aT_4 j).symm)), fun j hj => ((same_I hS (k := 28) (j := 7) u28 rfl) j hj).trans ((hle j hj).trans aT_5.symm)⟩
set_option maxHeartbeats 4000000 in
set_option maxRecDepth 100000 in
theorem ac_mum (l : Launch) (G : KG) {ad : Nat → Nat} {w0 : va_W} {h p o s t sq uq vq : Int32} {zp zx zy zh : Nat → Int32} {H : Nat → Nat → Int32} (hW : WT G ad TM w0) (eh : fget w0 0 3 = some (.int h)) (ep : fget w0 0 28 = some (.int p)) (eo : fget w0 0 29 = some (.int o)) (es : fget w0 0 10 = some (.int s)) (et : fget w0 0 31 = some (.int t)) (ezp : cget w0 2 0 = some (.inr (cyI G, 16, .inl zp))) (ezx : cget w0 3 0 = some (.inr (cyI G, 16, .inl zx))) (ezy : cget w0 4 0 = some (.inr (cyI G, 16, .inl zy))) (ezh : cget w0 6 0 = some (.inr (cyI G, 16, .inl zh))) (eH : TRx G w0 21 H) : Ct l G yX11_much cX11_much 4 (some .int) { frames := 3, cells := 0, slots := 0, locals := 70 } [.ref (ad 0), .int sq, .int uq, .int vq] w0 (fun r w1 => WT G ad TM w1 ∧ FRM C_X11_much_0.2.2.2.2.1 w0 w1 ∧ (r = some (.int (if (okU s.toInt t.toInt sq uq vq) then t else -1)) ∧ fget w1 0 31 = some (.int (aN (okU s.toInt t.toInt sq uq vq) t)) ∧ TQ G w1 21 (aT (okU s.toInt t.toInt sq uq vq) H t sq 0 uq vq 0 (ldp h.toInt zp zh zx zy p o)))) := by
  obtain ⟨g0, q0, t0⟩ := WT.tab hW (k := 0) rfl
  obtain ⟨y0_0, r0_0, -, -⟩ := vty0 (t0 0 _ rfl).1 rfl
  have r0_3 : g0 3 = .int h := Option.some.inj ((t0 3 _ rfl).2.symm.trans eh)
  have b0_3 : 0 ≤ h.toInt ∧ h.toInt ≤ 16 := by
    have h := (t0 3 _ rfl).1
    rw [r0_3] at h
    obtain ⟨y, e, l1, u1⟩ := vty0 h rfl
    obtain rfl := Value.int.inj e
    exact ⟨l1, u1⟩
  have r0_4 : g0 4 = .ref (ad 2) := vty2 (t0 4 _ rfl).1 rfl
  have r0_5 : g0 5 = .ref (ad 3) := vty2 (t0 5 _ rfl).1 rfl
  have r0_6 : g0 6 = .ref (ad 4) := vty2 (t0 6 _ rfl).1 rfl
  have r0_7 : g0 7 = .ref (ad 5) := vty2 (t0 7 _ rfl).1 rfl
  have r0_8 : g0 8 = .ref (ad 6) := vty2 (t0 8 _ rfl).1 rfl
  have r0_9 : g0 9 = .ref (ad 7) := vty2 (t0 9 _ rfl).1 rfl
  have r0_10 : g0 10 = .int s := Option.some.inj ((t0 10 _ rfl).2.symm.trans es)
  have b0_10 : 0 ≤ s.toInt ∧ s.toInt ≤ 6 := by
    have h := (t0 10 _ rfl).1
    rw [r0_10] at h
    obtain ⟨y, e, l1, u1⟩ := vty0 h rfl
    obtain rfl := Value.int.inj e
    exact ⟨l1, u1⟩
  have r0_11 : g0 11 = .ref (ad 8) := vty2 (t0 11 _ rfl).1 rfl
  have r0_12 : g0 12 = .ref (ad 9) := vty2 (t0 12 _ rfl).1 rfl
  have r0_13 : g0 13 = .ref (ad 10) := vty2 (t0 13 _ rfl).1 rfl
  have r0_14 : g0 14 = .ref (ad 11) := vty2 (t0 14 _ rfl).1 rfl
  have r0_15 : g0 15 = .ref (ad 12) := vty2 (t0 15 _ rfl).1 rfl
  obtain ⟨y0_16, r0_16, -, -⟩ := vty0 (t0 16 _ rfl).1 rfl
  have r0_17 : g0 17 = .ref (ad 13) := vty2 (t0 17 _ rfl).1 rfl
  have r0_18 : g0 18 = .ref (ad 14) := vty2 (t0 18 _ rfl).1 rfl
  obtain ⟨y0_19, r0_19, -, -⟩ := vty0 (t0 19 _ rfl).1 rfl
  obtain ⟨y0_20, r0_20, -, -⟩ := vty0 (t0 20 _ rfl).1 rfl
  obtain ⟨y0_21, r0_21, -, -⟩ := vty0 (t0 21 _ rfl).1 rfl
  obtain ⟨y0_22, r0_22, -, -⟩ := vty0 (t0 22 _ rfl).1 rfl
  have r0_28 : g0 28 = .int p := Option.some.inj ((t0 28 _ rfl).2.symm.trans ep)
  have b0_28 : (-1) ≤ p.toInt ∧ p.toInt ≤ 15 := by
    have h := (t0 28 _ rfl).1
    rw [r0_28] at h
    obtain ⟨y, e, l1, u1⟩ := vty0 h rfl
    obtain rfl := Value.int.inj e
    exact ⟨l1, u1⟩
  have r0_29 : g0 29 = .int o := Option.some.inj ((t0 29 _ rfl).2.symm.trans eo)
  have b0_29 : (-2147483648) ≤ o.toInt ∧ o.toInt ≤ 2147483647 := by
    have h := (t0 29 _ rfl).1
    rw [r0_29] at h
    obtain ⟨y, e, l1, u1⟩ := vty0 h rfl
    obtain rfl := Value.int.inj e
    exact ⟨l1, u1⟩
  have r0_30 : g0 30 = .ref (ad 20) := vty2 (t0 30 _ rfl).1 rfl
  have r0_31 : g0 31 = .int t := Option.some.inj ((t0 31 _ rfl).2.symm.trans et)
  have b0_31 : 0 ≤ t.toInt ∧ t.toInt ≤ 12 := by
    have h := (t0 31 _ rfl).1
    rw [r0_31] at h
    obtain ⟨y, e, l1, u1⟩ := vty0 h rfl
    obtain rfl := Value.int.inj e
    exact ⟨l1, u1⟩
  have r0_32 : g0 32 = .ref (ad 21) := vty2 (t0 32 _ rfl).1 rfl
  have r0_33 : g0 33 = .ref (ad 22) := vty2 (t0 33 _ rfl).1 rfl
  have r0_34 : g0 34 = .ref (ad 23) := vty2 (t0 34 _ rfl).1 rfl
  have r0_35 : g0 35 = .ref (ad 24) := vty2 (t0 35 _ rfl).1 rfl
  have r0_36 : g0 36 = .ref (ad 25) := vty2 (t0 36 _ rfl).1 rfl
  have r0_37 : g0 37 = .ref (ad 26) := vty2 (t0 37 _ rfl).1 rfl
  have c0 : w0[0]? = some ((ad 0), ob 11 [.int y0_0, (g0 1), (g0 2), .int h, .ref (ad 2), .ref (ad 3), .ref (ad 4), .ref (ad 5), .ref (ad 6), .ref (ad 7), .int s, .ref (ad 8), .ref (ad 9), .ref (ad 10), .ref (ad 11), .ref (ad 12), .int y0_16, .ref (ad 13), .ref (ad 14), .int y0_19, .int y0_20, .int y0_21, .int y0_22, (g0 23), (g0 24), (g0 25), (g0 26), (g0 27), .int p, .int o, .ref (ad 20), .int t, .ref (ad 21), .ref (ad 22), .ref (ad 23), .ref (ad 24), .ref (ad 25), .ref (ad 26), (g0 38), (g0 39), (g0 40), (g0 41), (g0 42), (g0 43), (g0 44), (g0 45), (g0 46), (g0 47), (g0 48), (g0 49), (g0 50), (g0 51), (g0 52), (g0 53), (g0 54), (g0 55), (g0 56), (g0 57), (g0 58), (g0 59), (g0 60), (g0 61), (g0 62), (g0 63), (g0 64), (g0 65), (g0 66), (g0 67), (g0 68), (g0 69), (g0 70), (g0 71), (g0 72), (g0 73), (g0 74)]) := by
    rw [q0]
    show some (ad 0, ob 11 [g0 0, g0 1, g0 2, g0 3, g0 4, g0 5, g0 6, g0 7, g0 8, g0 9, g0 10, g0 11, g0 12, g0 13, g0 14, g0 15, g0 16, g0 17, g0 18, g0 19, g0 20, g0 21, g0 22, g0 23, g0 24, g0 25, g0 26, g0 27, g0 28, g0 29, g0 30, g0 31, g0 32, g0 33, g0 34, g0 35, g0 36, g0 37, g0 38, g0 39, g0 40, g0 41, g0 42, g0 43, g0 44, g0 45, g0 46, g0 47, g0 48, g0 49, g0 50, g0 51, g0 52, g0 53, g0 54, g0 55, g0 56, g0 57, g0 58, g0 59, g0 60, g0 61, g0 62, g0 63, g0 64, g0 65, g0 66, g0 67, g0 68, g0 69, g0 70, g0 71, g0 72, g0 73, g0 74]) = _
    rw [r0_0, r0_3, r0_4, r0_5, r0_6, r0_7, r0_8, r0_9, r0_10, r0_11, r0_12, r0_13, r0_14, r0_15, r0_16, r0_17, r0_18, r0_19, r0_20, r0_21, r0_22, r0_28, r0_29, r0_30, r0_31, r0_32, r0_33, r0_34, r0_35, r0_36, r0_37]
  obtain ⟨f20, c20, -⟩ := WT.ints hW (k := 20) rfl
  obtain ⟨f2, c2, -⟩ := WT.ints hW (k := 2) rfl
  have ef2 : f2 = zp := arrinj ((cgetI c2 0).symm.trans ezp)
  rw [ef2] at c2
  obtain ⟨f3, c3, -⟩ := WT.ints hW (k := 3) rfl
  have ef3 : f3 = zx := arrinj ((cgetI c3 0).symm.trans ezx)
  rw [ef3] at c3
  obtain ⟨f4, c4, -⟩ := WT.ints hW (k := 4) rfl
  have ef4 : f4 = zy := arrinj ((cgetI c4 0).symm.trans ezy)
  rw [ef4] at c4
  obtain ⟨f6, c6, -⟩ := WT.ints hW (k := 6) rfl
  have ef6 : f6 = zh := arrinj ((cgetI c6 0).symm.trans ezh)
  rw [ef6] at c6
  obtain ⟨f21, c21, -⟩ := WT.ints hW (k := 21) rfl
  have ef21 : f21 = (H 0) := arrinj ((cgetI c21 0).symm.trans eH.1)
  rw [ef21] at c21
  obtain ⟨f22, c22, -⟩ := WT.bools hW (k := 22) rfl
  have ef22 : f22 = (H 1) := arrinj ((cgetZ c22 0).symm.trans eH.2.1)
  rw [ef22] at c22
  obtain ⟨f23, c23, -⟩ := WT.ints hW (k := 23) rfl
  have ef23 : f23 = (H 2) := arrinj ((cgetI c23 0).symm.trans eH.2.2.1)
  rw [ef23] at c23
  obtain ⟨f24, c24, -⟩ := WT.ints hW (k := 24) rfl
  have ef24 : f24 = (H 3) := arrinj ((cgetI c24 0).symm.trans eH.2.2.2.1)
  rw [ef24] at c24
  obtain ⟨f25, c25, -⟩ := WT.ints hW (k := 25) rfl
  have ef25 : f25 = (H 4) := arrinj ((cgetI c25 0).symm.trans eH.2.2.2.2.1)
  rw [ef25] at c25
  obtain ⟨f26, c26, -⟩ := WT.ints hW (k := 26) rfl
  have ef26 : f26 = (H 5) := arrinj ((cgetI c26 0).symm.trans eH.2.2.2.2.2)
  rw [ef26] at c26
  have hpl := ref_plane hW eh ezp
  have h2 := cf_X11_much l G (ad 0) y0_0 (g0 1) (g0 2) h (ad 2) (ad 3) (ad 4) (ad 5) (ad 6) (ad 7) s (ad 8) (ad 9) (ad 10) (ad 11) (ad 12) y0_16 (ad 13) (ad 14) y0_19 y0_20 y0_21 y0_22 (g0 23) (g0 24) (g0 25) (g0 26) (g0 27) p o (ad 20) t (ad 21) (ad 22) (ad 23) (ad 24) (ad 25) (ad 26) (g0 38) (g0 39) (g0 40) (g0 41) (g0 42) (g0 43) (g0 44) (g0 45) (g0 46) (g0 47) (g0 48) (g0 49) (g0 50) (g0 51) (g0 52) (g0 53) (g0 54) (g0 55) (g0 56) (g0 57) (g0 58) (g0 59) (g0 60) (g0 61) (g0 62) (g0 63) (g0 64) (g0 65) (g0 66) (g0 67) (g0 68) (g0 69) (g0 70) (g0 71) (g0 72) (g0 73) (g0 74) zp zx zy zh f20 (H 0) (H 1) (H 2) (H 3) (H 4) (H 5) sq uq vq h.toInt t.toInt s.toInt sq.toInt uq.toInt vq.toInt rfl rfl rfl rfl rfl rfl (by omega) (by omega) (by omega) (by omega)
  refine Ct.weak (Ct.and (show Ct l G yX11_much cX11_much 4 (some .int) { frames := 3, cells := 0, slots := 0, locals := 70 } [.ref (ad 0), .int sq, .int uq, .int vq] w0 (fun r w1 => POST G ad TM C_X11_much_0 (fun k => ((Value.ref (ad 0) :: [.int sq, .int uq, .int vq])[k]?).getD .null) w0 r w1) from ac_X11_much_0 l G ad w0 _ hW (pre_mu (C := C_X11_much_0) (ts := [tI0, tI0, tI0]) (As := [.int sq, .int uq, .int vq]) rfl rfl rfl rfl ⟨fun _ => vty_i0 _, fun _ => vty_i0 _, fun _ => vty_i0 _, trivial⟩ ad w0 rfl)) h2 [0, 20, 2, 3, 4, 6, 21, 22, 23, 24, 25, 26] (pk_cons c0 (pk_cons c20 (pk_cons c2 (pk_cons c3 (pk_cons c4 (pk_cons c6 (pk_cons c21 (pk_cons c22 (pk_cons c23 (pk_cons c24 (pk_cons c25 (pk_cons c26 rfl)))))))))))) (by decide)) ?_
  rintro r w1 ⟨hp, w2, ⟨rz, tc2, fl2, fsp2, fwh2, ffi2, fse2, fgi2, fle2, hr, ht, hsp, hwh, hfi, hse, hgi, hle, rfl, rfl⟩, hS⟩
  obtain ⟨A1, hA1, μ2, -, -, -, -, -, -, hW1, hF1⟩ := hp
  obtain ⟨fs0, -, u0, ul0, -, -⟩ := WT.obj hW1 (k := 0) (j := 0) rfl rfl
  obtain ⟨p2, u2, -⟩ := WT.ints hW1 (k := 2) rfl
  obtain ⟨p3, u3, -⟩ := WT.ints hW1 (k := 3) rfl
  obtain ⟨p4, u4, -⟩ := WT.ints hW1 (k := 4) rfl
  obtain ⟨p6, u6, -⟩ := WT.ints hW1 (k := 6) rfl
  obtain ⟨p20, u20, -⟩ := WT.ints hW1 (k := 20) rfl
  obtain ⟨p21, u21, -⟩ := WT.ints hW1 (k := 21) rfl
  obtain ⟨p22, u22, -⟩ := WT.bools hW1 (k := 22) rfl
  obtain ⟨p23, u23, -⟩ := WT.ints hW1 (k := 23) rfl
  obtain ⟨p24, u24, -⟩ := WT.ints hW1 (k := 24) rfl
  obtain ⟨p25, u25, -⟩ := WT.ints hW1 (k := 25) rfl
  obtain ⟨p26, u26, -⟩ := WT.ints hW1 (k := 26) rfl
  exact ⟨hW1, hF1, by rw [hr], (same_f hS (k := 0) (j := 0) (q := (RX11, TX11, 75)) rfl u0 rfl (by decide) ul0 rfl).trans (by rw [ht]; rfl), tr6 p21 p22 p23 p24 p25 p26, ⟨cgetI u21 0, cgetZ u22 0, cgetI u23 0, cgetI u24 0, cgetI u25 0, cgetI u26 0⟩, fun a j ha hj => by rcases (by omega : a = 0 ∨ a = 1 ∨ a = 2 ∨ a = 3 ∨ a = 4) with rfl | rfl | rfl | rfl | rfl; (exact ((same_I hS (k := 21) (j := 6) u21 rfl) j hj).trans ((congrFun hsp j).trans (congrFun aT_0 j).symm)); (exact ((same_Z hS (k := 22) (j := 7) u22 rfl) j hj).trans ((congrFun hwh j).trans (congrFun aT_1 j).symm)); (exact ((same_I hS (k := 23) (j := 8) u23 rfl) j hj).trans ((congrFun hfi j).trans (congrFun aT_2 j).symm)); (exact ((same_I hS (k := 24) (j := 9) u24 rfl) j hj).trans ((congrFun hse j).trans (congrFun aT_3 j).symm)); (exact ((same_I hS (k := 25) (j := 10) u25 rfl) j hj).trans ((congrFun hgi j).trans (congrFun aT_4 j).symm)), fun j hj => ((same_I hS (k := 26) (j := 11) u26 rfl) j hj).trans ((hle j hj).trans aT_5.symm)⟩
