/-! keep, again in the typed worlds: HAS, THOUGHT -/
theorem WT.refs {G : KG} {ad : Nat → Nat} {T : List TE} {ws : va_W} (h : WT G ad T ws) {k n : Nat} {t : VT} (hT : T[k]? = some (.inr (3, n, t))) : ∃ f, ws[k]? = some (ad k, aO G n f) ∧ ∀ k, k < n → f k = some (ad (t.2.1.toNat + k * t.2.2.toNat)) := by
  obtain ⟨en, h1, h2⟩ := h.arr hT
  rcases h2 with ⟨h9, -⟩ | ⟨h9, -⟩ | ⟨h9, -⟩ | ⟨-, f, rfl, h3⟩
  · cases h9
  · cases h9
  · cases h9
  · exact ⟨f, h1, h3⟩
set_option maxHeartbeats 4000000 in
set_option maxRecDepth 100000 in
theorem ac_kqx0 (l : Launch) (G : KG) {ad : Nat → Nat} {w0 : va_W} {zh zt : Nat → Int32} (hW : WT G ad TX w0) (ezh : cget w0 10 0 = some (.inr (cyI G, 16, .inl zh))) (ezt : cget w0 105 0 = some (.inr (cyI G, 8, .inl zt))) : Ct l G yX10_keep cX10_keep 2 (some .boolean) { frames := 3, cells := 0, slots := 0, locals := 68 } [.ref (ad 0), .int 0] w0 (fun r w1 => WT G ad TX w1 ∧ FRM C_k_X10_keep_0.2.2.2.2.1 w0 w1 ∧ ((∃ v : Int32, r = some (.int v) ∧ v = 1) ∧ fget w1 46 0 = some (.int 1) ∧ CQ G w1 47 16 zh ∧ CQ G w1 48 8 zt)) := by
  obtain ⟨g0, q0, t0⟩ := WT.tab hW (k := 0) rfl
  have r0_2 : g0 2 = .ref (ad 5) := vty2 (t0 2 _ rfl).1 rfl
  have r0_3 : g0 3 = .ref (ad 12) := vty2 (t0 3 _ rfl).1 rfl
  have r0_5 : g0 5 = .ref (ad 22) := vty2 (t0 5 _ rfl).1 rfl
  have r0_8 : g0 8 = .ref (ad 45) := vty2 (t0 8 _ rfl).1 rfl
  have r0_11 : g0 11 = .ref (ad 105) := vty2 (t0 11 _ rfl).1 rfl
  have c0 : w0[0]? = some ((ad 0), ob 10 [(g0 0), (g0 1), .ref (ad 5), .ref (ad 12), (g0 4), .ref (ad 22), (g0 6), (g0 7), .ref (ad 45), (g0 9), (g0 10), .ref (ad 105), (g0 12), (g0 13), (g0 14), (g0 15)]) := by
    rw [q0]
    show some (ad 0, ob 10 [g0 0, g0 1, g0 2, g0 3, g0 4, g0 5, g0 6, g0 7, g0 8, g0 9, g0 10, g0 11, g0 12, g0 13, g0 14, g0 15]) = _
    rw [r0_2, r0_3, r0_5, r0_8, r0_11]
  obtain ⟨f45, c45, hO45⟩ := WT.refs hW (k := 45) rfl
  obtain ⟨g46, q46, t46⟩ := WT.tab hW (k := 46) rfl
  obtain ⟨y46_0, r46_0, bl46_0, bu46_0⟩ := vty0 (t46 0 _ rfl).1 rfl
  have b46_0 : 0 ≤ y46_0.toInt ∧ y46_0.toInt ≤ 1 := ⟨bl46_0, bu46_0⟩
  have r46_1 : g46 1 = .ref (ad 47) := vty2 (t46 1 _ rfl).1 rfl
  have r46_2 : g46 2 = .ref (ad 48) := vty2 (t46 2 _ rfl).1 rfl
  have r46_3 : g46 3 = .ref (ad 49) := vty2 (t46 3 _ rfl).1 rfl
  have r46_4 : g46 4 = .ref (ad 55) := vty2 (t46 4 _ rfl).1 rfl
  obtain ⟨y46_5, r46_5, -, -⟩ := vty0 (t46 5 _ rfl).1 rfl
  obtain ⟨y46_6, r46_6, -, -⟩ := vty0 (t46 6 _ rfl).1 rfl
  have c46 : w0[46]? = some ((ad 46), ob 2 [.int y46_0, .ref (ad 47), .ref (ad 48), .ref (ad 49), .ref (ad 55), .int y46_5, .int y46_6]) := by
    rw [q46]
    show some (ad 46, ob 2 [g46 0, g46 1, g46 2, g46 3, g46 4, g46 5, g46 6]) = _
    rw [r46_0, r46_1, r46_2, r46_3, r46_4, r46_5, r46_6]
  obtain ⟨f47, c47, -⟩ := WT.ints hW (k := 47) rfl
  obtain ⟨f48, c48, -⟩ := WT.ints hW (k := 48) rfl
  obtain ⟨g49, q49, t49⟩ := WT.tab hW (k := 49) rfl
  have r49_3 : g49 3 = .ref (ad 52) := vty2 (t49 3 _ rfl).1 rfl
  have r49_4 : g49 4 = .ref (ad 53) := vty2 (t49 4 _ rfl).1 rfl
  have r49_5 : g49 5 = .ref (ad 54) := vty2 (t49 5 _ rfl).1 rfl
  have c49 : w0[49]? = some ((ad 49), ob 7 [(g49 0), (g49 1), (g49 2), .ref (ad 52), .ref (ad 53), .ref (ad 54)]) := by
    rw [q49]
    show some (ad 49, ob 7 [g49 0, g49 1, g49 2, g49 3, g49 4, g49 5]) = _
    rw [r49_3, r49_4, r49_5]
  obtain ⟨f52, c52, -⟩ := WT.bools hW (k := 52) rfl
  obtain ⟨f53, c53, -⟩ := WT.ints hW (k := 53) rfl
  obtain ⟨f54, c54, -⟩ := WT.ints hW (k := 54) rfl
  obtain ⟨g55, q55, t55⟩ := WT.tab hW (k := 55) rfl
  obtain ⟨y55_0, r55_0, bl55_0, bu55_0⟩ := vty0 (t55 0 _ rfl).1 rfl
  have b55_0 : 0 ≤ y55_0.toInt ∧ y55_0.toInt ≤ 12 := ⟨bl55_0, bu55_0⟩
  have r55_1 : g55 1 = .ref (ad 56) := vty2 (t55 1 _ rfl).1 rfl
  have r55_2 : g55 2 = .ref (ad 57) := vty2 (t55 2 _ rfl).1 rfl
  have r55_3 : g55 3 = .ref (ad 58) := vty2 (t55 3 _ rfl).1 rfl
  have r55_4 : g55 4 = .ref (ad 59) := vty2 (t55 4 _ rfl).1 rfl
  have r55_5 : g55 5 = .ref (ad 60) := vty2 (t55 5 _ rfl).1 rfl
  have r55_6 : g55 6 = .ref (ad 61) := vty2 (t55 6 _ rfl).1 rfl
  have c55 : w0[55]? = some ((ad 55), ob 9 [.int y55_0, .ref (ad 56), .ref (ad 57), .ref (ad 58), .ref (ad 59), .ref (ad 60), .ref (ad 61), (g55 7), (g55 8), (g55 9)]) := by
    rw [q55]
    show some (ad 55, ob 9 [g55 0, g55 1, g55 2, g55 3, g55 4, g55 5, g55 6, g55 7, g55 8, g55 9]) = _
    rw [r55_0, r55_1, r55_2, r55_3, r55_4, r55_5, r55_6]
  obtain ⟨f56, c56, -⟩ := WT.ints hW (k := 56) rfl
  obtain ⟨f57, c57, -⟩ := WT.bools hW (k := 57) rfl
  obtain ⟨f58, c58, -⟩ := WT.ints hW (k := 58) rfl
  obtain ⟨f59, c59, -⟩ := WT.ints hW (k := 59) rfl
  obtain ⟨f60, c60, -⟩ := WT.ints hW (k := 60) rfl
  obtain ⟨f61, c61, -⟩ := WT.ints hW (k := 61) rfl
  obtain ⟨g5, q5, t5⟩ := WT.tab hW (k := 5) rfl
  have r5_5 : g5 5 = .ref (ad 10) := vty2 (t5 5 _ rfl).1 rfl
  obtain ⟨y5_7, r5_7, -, -⟩ := vty0 (t5 7 _ rfl).1 rfl
  obtain ⟨y5_8, r5_8, -, -⟩ := vty0 (t5 8 _ rfl).1 rfl
  have c5 : w0[5]? = some ((ad 5), ob 5 [(g5 0), (g5 1), (g5 2), (g5 3), (g5 4), .ref (ad 10), (g5 6), .int y5_7, .int y5_8]) := by
    rw [q5]
    show some (ad 5, ob 5 [g5 0, g5 1, g5 2, g5 3, g5 4, g5 5, g5 6, g5 7, g5 8]) = _
    rw [r5_5, r5_7, r5_8]
  obtain ⟨f10, c10, -⟩ := WT.ints hW (k := 10) rfl
  have ef10 : f10 = zh := arrinj ((cgetI c10 0).symm.trans ezh)
  rw [ef10] at c10
  obtain ⟨g12, q12, t12⟩ := WT.tab hW (k := 12) rfl
  have r12_3 : g12 3 = .ref (ad 15) := vty2 (t12 3 _ rfl).1 rfl
  have r12_4 : g12 4 = .ref (ad 16) := vty2 (t12 4 _ rfl).1 rfl
  have r12_5 : g12 5 = .ref (ad 17) := vty2 (t12 5 _ rfl).1 rfl
  have c12 : w0[12]? = some ((ad 12), ob 7 [(g12 0), (g12 1), (g12 2), .ref (ad 15), .ref (ad 16), .ref (ad 17)]) := by
    rw [q12]
    show some (ad 12, ob 7 [g12 0, g12 1, g12 2, g12 3, g12 4, g12 5]) = _
    rw [r12_3, r12_4, r12_5]
  obtain ⟨f15, c15, -⟩ := WT.bools hW (k := 15) rfl
  obtain ⟨f16, c16, -⟩ := WT.ints hW (k := 16) rfl
  obtain ⟨f17, c17, -⟩ := WT.ints hW (k := 17) rfl
  obtain ⟨g22, q22, t22⟩ := WT.tab hW (k := 22) rfl
  obtain ⟨y22_0, r22_0, bl22_0, bu22_0⟩ := vty0 (t22 0 _ rfl).1 rfl
  have b22_0 : 0 ≤ y22_0.toInt ∧ y22_0.toInt ≤ 12 := ⟨bl22_0, bu22_0⟩
  have r22_1 : g22 1 = .ref (ad 23) := vty2 (t22 1 _ rfl).1 rfl
  have r22_2 : g22 2 = .ref (ad 24) := vty2 (t22 2 _ rfl).1 rfl
  have r22_3 : g22 3 = .ref (ad 25) := vty2 (t22 3 _ rfl).1 rfl
  have r22_4 : g22 4 = .ref (ad 26) := vty2 (t22 4 _ rfl).1 rfl
  have r22_5 : g22 5 = .ref (ad 27) := vty2 (t22 5 _ rfl).1 rfl
  have r22_6 : g22 6 = .ref (ad 28) := vty2 (t22 6 _ rfl).1 rfl
  have c22 : w0[22]? = some ((ad 22), ob 9 [.int y22_0, .ref (ad 23), .ref (ad 24), .ref (ad 25), .ref (ad 26), .ref (ad 27), .ref (ad 28), (g22 7), (g22 8), (g22 9)]) := by
    rw [q22]
    show some (ad 22, ob 9 [g22 0, g22 1, g22 2, g22 3, g22 4, g22 5, g22 6, g22 7, g22 8, g22 9]) = _
    rw [r22_0, r22_1, r22_2, r22_3, r22_4, r22_5, r22_6]
  obtain ⟨f23, c23, -⟩ := WT.ints hW (k := 23) rfl
  obtain ⟨f24, c24, -⟩ := WT.bools hW (k := 24) rfl
  obtain ⟨f25, c25, -⟩ := WT.ints hW (k := 25) rfl
  obtain ⟨f26, c26, -⟩ := WT.ints hW (k := 26) rfl
  obtain ⟨f27, c27, -⟩ := WT.ints hW (k := 27) rfl
  obtain ⟨f28, c28, -⟩ := WT.ints hW (k := 28) rfl
  obtain ⟨f105, c105, -⟩ := WT.ints hW (k := 105) rfl
  have ef105 : f105 = zt := arrinj ((cgetI c105 0).symm.trans ezt)
  rw [ef105] at c105
  have h2 := cx_X10_keep0 l G (ad 0) (g0 0) (g0 1) (g0 4) (g0 6) (g0 7) (g0 9) (g0 10) (g0 12) (g0 13) (g0 14) (g0 15) (ad 45) f45 (ad 46) y46_0 (ad 47) (ad 48) y46_5 y46_6 (ad 49) (g49 0) (g49 1) (g49 2) (ad 52) (ad 53) (ad 54) (ad 55) y55_0 (ad 56) (ad 57) (ad 58) (ad 59) (ad 60) (ad 61) (g55 7) (g55 8) (g55 9) (ad 5) (g5 0) (g5 1) (g5 2) (g5 3) (g5 4) (ad 10) (g5 6) y5_7 y5_8 (ad 12) (g12 0) (g12 1) (g12 2) (ad 15) (ad 16) (ad 17) (ad 22) y22_0 (ad 23) (ad 24) (ad 25) (ad 26) (ad 27) (ad 28) (g22 7) (g22 8) (g22 9) (ad 105) f47 f48 f52 f53 f54 f56 f57 f58 f59 f60 f61 zh f15 f16 f17 f23 f24 f25 f26 f27 f28 zt  (by show va_rf (f45 0) = _; rw [hO45 0 (by decide)]; rfl)
  refine Ct.weak (Ct.and (show Ct l G yX10_keep cX10_keep 2 (some .boolean) { frames := 3, cells := 0, slots := 0, locals := 68 } [.ref (ad 0), .int 0] w0 (fun r w1 => POST G ad TX C_k_X10_keep_0 (muF (ad 0) [.int 0] [.int y22_0]) w0 r w1) from ac_k_X10_keep_0 l G ad w0 _ hW (pre_F (C := C_k_X10_keep_0) (ts := [(0, 0, 0)]) (As := [.int 0]) (t0 := (0, 0, 12)) rfl rfl (Nat.le_of_ble_eq_true rfl) ⟨fun _ => vty_i (by decide) (by decide), trivial⟩ (fun _ => vty_i b22_0.1 b22_0.2) (fun _ h => absurd h List.not_mem_nil) ad w0 rfl ((t22 0 _ rfl).2.trans (congrArg some r22_0)))) h2 [0, 45, 46, 47, 48, 49, 52, 53, 54, 55, 56, 57, 58, 59, 60, 61, 5, 10, 12, 15, 16, 17, 22, 23, 24, 25, 26, 27, 28, 105] (pk_cons c0 (pk_cons c45 (pk_cons c46 (pk_cons c47 (pk_cons c48 (pk_cons c49 (pk_cons c52 (pk_cons c53 (pk_cons c54 (pk_cons c55 (pk_cons c56 (pk_cons c57 (pk_cons c58 (pk_cons c59 (pk_cons c60 (pk_cons c61 (pk_cons c5 (pk_cons c10 (pk_cons c12 (pk_cons c15 (pk_cons c16 (pk_cons c17 (pk_cons c22 (pk_cons c23 (pk_cons c24 (pk_cons c25 (pk_cons c26 (pk_cons c27 (pk_cons c28 (pk_cons c105 rfl)))))))))))))))))))))))))))))) (by decide)) ?_
  rintro r w1 ⟨hp, w2, ⟨kfh2, kft2, kfA2, kfX2, kfY2, kfsp2, kfwh2, kffi2, kfse2, kfgi2, kfle2, hh, ht, hX, hY, hA, hsp, hwh, hfi, hse, hgi, hle, rfl, rfl⟩, hS⟩
  obtain ⟨A1, hA1, μ2, -, -, -, -, -, -, hW1, hF1⟩ := hp
  obtain ⟨fs0, -, u0, ul0, -, -⟩ := WT.obj hW1 (k := 0) (j := 0) rfl rfl
  obtain ⟨fs5, -, u5, ul5, -, -⟩ := WT.obj hW1 (k := 5) (j := 0) rfl rfl
  obtain ⟨p10, u10, -⟩ := WT.ints hW1 (k := 10) rfl
  obtain ⟨fs12, -, u12, ul12, -, -⟩ := WT.obj hW1 (k := 12) (j := 0) rfl rfl
  obtain ⟨p15, u15, -⟩ := WT.bools hW1 (k := 15) rfl
  obtain ⟨p16, u16, -⟩ := WT.ints hW1 (k := 16) rfl
  obtain ⟨p17, u17, -⟩ := WT.ints hW1 (k := 17) rfl
  obtain ⟨fs22, -, u22, ul22, -, -⟩ := WT.obj hW1 (k := 22) (j := 0) rfl rfl
  obtain ⟨p23, u23, -⟩ := WT.ints hW1 (k := 23) rfl
  obtain ⟨p24, u24, -⟩ := WT.bools hW1 (k := 24) rfl
  obtain ⟨p25, u25, -⟩ := WT.ints hW1 (k := 25) rfl
  obtain ⟨p26, u26, -⟩ := WT.ints hW1 (k := 26) rfl
  obtain ⟨p27, u27, -⟩ := WT.ints hW1 (k := 27) rfl
  obtain ⟨p28, u28, -⟩ := WT.ints hW1 (k := 28) rfl
  obtain ⟨fs46, -, u46, ul46, -, -⟩ := WT.obj hW1 (k := 46) (j := 0) rfl rfl
  obtain ⟨p47, u47, -⟩ := WT.ints hW1 (k := 47) rfl
  obtain ⟨p48, u48, -⟩ := WT.ints hW1 (k := 48) rfl
  obtain ⟨fs49, -, u49, ul49, -, -⟩ := WT.obj hW1 (k := 49) (j := 0) rfl rfl
  obtain ⟨p52, u52, -⟩ := WT.bools hW1 (k := 52) rfl
  obtain ⟨p53, u53, -⟩ := WT.ints hW1 (k := 53) rfl
  obtain ⟨p54, u54, -⟩ := WT.ints hW1 (k := 54) rfl
  obtain ⟨fs55, -, u55, ul55, -, -⟩ := WT.obj hW1 (k := 55) (j := 0) rfl rfl
  obtain ⟨p56, u56, -⟩ := WT.ints hW1 (k := 56) rfl
  obtain ⟨p57, u57, -⟩ := WT.bools hW1 (k := 57) rfl
  obtain ⟨p58, u58, -⟩ := WT.ints hW1 (k := 58) rfl
  obtain ⟨p59, u59, -⟩ := WT.ints hW1 (k := 59) rfl
  obtain ⟨p60, u60, -⟩ := WT.ints hW1 (k := 60) rfl
  obtain ⟨p61, u61, -⟩ := WT.ints hW1 (k := 61) rfl
  obtain ⟨p105, u105, -⟩ := WT.ints hW1 (k := 105) rfl
  exact ⟨hW1, hF1, ⟨_, rfl, rfl⟩, (same_f hS (k := 46) (j := 2) (q := (RX2, TX2, 7)) rfl u46 rfl (by decide) ul46 rfl), ⟨p47, cgetI u47 0, fun k hk => ((same_I hS (k := 47) (j := 3) u47 rfl) k hk).trans (hh k hk)⟩, ⟨p48, cgetI u48 0, fun k hk => ((same_I hS (k := 48) (j := 4) u48 rfl) k hk).trans (ht k hk)⟩⟩
set_option maxHeartbeats 4000000 in
set_option maxRecDepth 100000 in
theorem ac_kqx1 (l : Launch) (G : KG) {ad : Nat → Nat} {w0 : va_W} {zh zt : Nat → Int32} (hW : WT G ad TX w0) (ezh : cget w0 10 0 = some (.inr (cyI G, 16, .inl zh))) (ezt : cget w0 105 0 = some (.inr (cyI G, 8, .inl zt))) : Ct l G yX10_keep cX10_keep 2 (some .boolean) { frames := 3, cells := 0, slots := 0, locals := 68 } [.ref (ad 0), .int 1] w0 (fun r w1 => WT G ad TX w1 ∧ FRM C_k_X10_keep_1.2.2.2.2.1 w0 w1 ∧ ((∃ v : Int32, r = some (.int v) ∧ v = 1) ∧ fget w1 65 0 = some (.int 1) ∧ CQ G w1 66 16 zh ∧ CQ G w1 67 8 zt)) := by
  obtain ⟨g0, q0, t0⟩ := WT.tab hW (k := 0) rfl
  have r0_2 : g0 2 = .ref (ad 5) := vty2 (t0 2 _ rfl).1 rfl
  have r0_3 : g0 3 = .ref (ad 12) := vty2 (t0 3 _ rfl).1 rfl
  have r0_5 : g0 5 = .ref (ad 22) := vty2 (t0 5 _ rfl).1 rfl
  have r0_8 : g0 8 = .ref (ad 45) := vty2 (t0 8 _ rfl).1 rfl
  have r0_11 : g0 11 = .ref (ad 105) := vty2 (t0 11 _ rfl).1 rfl
  have c0 : w0[0]? = some ((ad 0), ob 10 [(g0 0), (g0 1), .ref (ad 5), .ref (ad 12), (g0 4), .ref (ad 22), (g0 6), (g0 7), .ref (ad 45), (g0 9), (g0 10), .ref (ad 105), (g0 12), (g0 13), (g0 14), (g0 15)]) := by
    rw [q0]
    show some (ad 0, ob 10 [g0 0, g0 1, g0 2, g0 3, g0 4, g0 5, g0 6, g0 7, g0 8, g0 9, g0 10, g0 11, g0 12, g0 13, g0 14, g0 15]) = _
    rw [r0_2, r0_3, r0_5, r0_8, r0_11]
  obtain ⟨f45, c45, hO45⟩ := WT.refs hW (k := 45) rfl
  obtain ⟨g65, q65, t65⟩ := WT.tab hW (k := 65) rfl
  obtain ⟨y65_0, r65_0, bl65_0, bu65_0⟩ := vty0 (t65 0 _ rfl).1 rfl
  have b65_0 : 0 ≤ y65_0.toInt ∧ y65_0.toInt ≤ 1 := ⟨bl65_0, bu65_0⟩
  have r65_1 : g65 1 = .ref (ad 66) := vty2 (t65 1 _ rfl).1 rfl
  have r65_2 : g65 2 = .ref (ad 67) := vty2 (t65 2 _ rfl).1 rfl
  have r65_3 : g65 3 = .ref (ad 68) := vty2 (t65 3 _ rfl).1 rfl
  have r65_4 : g65 4 = .ref (ad 74) := vty2 (t65 4 _ rfl).1 rfl
  obtain ⟨y65_5, r65_5, -, -⟩ := vty0 (t65 5 _ rfl).1 rfl
  obtain ⟨y65_6, r65_6, -, -⟩ := vty0 (t65 6 _ rfl).1 rfl
  have c65 : w0[65]? = some ((ad 65), ob 2 [.int y65_0, .ref (ad 66), .ref (ad 67), .ref (ad 68), .ref (ad 74), .int y65_5, .int y65_6]) := by
    rw [q65]
    show some (ad 65, ob 2 [g65 0, g65 1, g65 2, g65 3, g65 4, g65 5, g65 6]) = _
    rw [r65_0, r65_1, r65_2, r65_3, r65_4, r65_5, r65_6]
  obtain ⟨f66, c66, -⟩ := WT.ints hW (k := 66) rfl
  obtain ⟨f67, c67, -⟩ := WT.ints hW (k := 67) rfl
  obtain ⟨g68, q68, t68⟩ := WT.tab hW (k := 68) rfl
  have r68_3 : g68 3 = .ref (ad 71) := vty2 (t68 3 _ rfl).1 rfl
  have r68_4 : g68 4 = .ref (ad 72) := vty2 (t68 4 _ rfl).1 rfl
  have r68_5 : g68 5 = .ref (ad 73) := vty2 (t68 5 _ rfl).1 rfl
  have c68 : w0[68]? = some ((ad 68), ob 7 [(g68 0), (g68 1), (g68 2), .ref (ad 71), .ref (ad 72), .ref (ad 73)]) := by
    rw [q68]
    show some (ad 68, ob 7 [g68 0, g68 1, g68 2, g68 3, g68 4, g68 5]) = _
    rw [r68_3, r68_4, r68_5]
  obtain ⟨f71, c71, -⟩ := WT.bools hW (k := 71) rfl
  obtain ⟨f72, c72, -⟩ := WT.ints hW (k := 72) rfl
  obtain ⟨f73, c73, -⟩ := WT.ints hW (k := 73) rfl
  obtain ⟨g74, q74, t74⟩ := WT.tab hW (k := 74) rfl
  obtain ⟨y74_0, r74_0, bl74_0, bu74_0⟩ := vty0 (t74 0 _ rfl).1 rfl
  have b74_0 : 0 ≤ y74_0.toInt ∧ y74_0.toInt ≤ 12 := ⟨bl74_0, bu74_0⟩
  have r74_1 : g74 1 = .ref (ad 75) := vty2 (t74 1 _ rfl).1 rfl
  have r74_2 : g74 2 = .ref (ad 76) := vty2 (t74 2 _ rfl).1 rfl
  have r74_3 : g74 3 = .ref (ad 77) := vty2 (t74 3 _ rfl).1 rfl
  have r74_4 : g74 4 = .ref (ad 78) := vty2 (t74 4 _ rfl).1 rfl
  have r74_5 : g74 5 = .ref (ad 79) := vty2 (t74 5 _ rfl).1 rfl
  have r74_6 : g74 6 = .ref (ad 80) := vty2 (t74 6 _ rfl).1 rfl
  have c74 : w0[74]? = some ((ad 74), ob 9 [.int y74_0, .ref (ad 75), .ref (ad 76), .ref (ad 77), .ref (ad 78), .ref (ad 79), .ref (ad 80), (g74 7), (g74 8), (g74 9)]) := by
    rw [q74]
    show some (ad 74, ob 9 [g74 0, g74 1, g74 2, g74 3, g74 4, g74 5, g74 6, g74 7, g74 8, g74 9]) = _
    rw [r74_0, r74_1, r74_2, r74_3, r74_4, r74_5, r74_6]
  obtain ⟨f75, c75, -⟩ := WT.ints hW (k := 75) rfl
  obtain ⟨f76, c76, -⟩ := WT.bools hW (k := 76) rfl
  obtain ⟨f77, c77, -⟩ := WT.ints hW (k := 77) rfl
  obtain ⟨f78, c78, -⟩ := WT.ints hW (k := 78) rfl
  obtain ⟨f79, c79, -⟩ := WT.ints hW (k := 79) rfl
  obtain ⟨f80, c80, -⟩ := WT.ints hW (k := 80) rfl
  obtain ⟨g5, q5, t5⟩ := WT.tab hW (k := 5) rfl
  have r5_5 : g5 5 = .ref (ad 10) := vty2 (t5 5 _ rfl).1 rfl
  obtain ⟨y5_7, r5_7, -, -⟩ := vty0 (t5 7 _ rfl).1 rfl
  obtain ⟨y5_8, r5_8, -, -⟩ := vty0 (t5 8 _ rfl).1 rfl
  have c5 : w0[5]? = some ((ad 5), ob 5 [(g5 0), (g5 1), (g5 2), (g5 3), (g5 4), .ref (ad 10), (g5 6), .int y5_7, .int y5_8]) := by
    rw [q5]
    show some (ad 5, ob 5 [g5 0, g5 1, g5 2, g5 3, g5 4, g5 5, g5 6, g5 7, g5 8]) = _
    rw [r5_5, r5_7, r5_8]
  obtain ⟨f10, c10, -⟩ := WT.ints hW (k := 10) rfl
  have ef10 : f10 = zh := arrinj ((cgetI c10 0).symm.trans ezh)
  rw [ef10] at c10
  obtain ⟨g12, q12, t12⟩ := WT.tab hW (k := 12) rfl
  have r12_3 : g12 3 = .ref (ad 15) := vty2 (t12 3 _ rfl).1 rfl
  have r12_4 : g12 4 = .ref (ad 16) := vty2 (t12 4 _ rfl).1 rfl
  have r12_5 : g12 5 = .ref (ad 17) := vty2 (t12 5 _ rfl).1 rfl
  have c12 : w0[12]? = some ((ad 12), ob 7 [(g12 0), (g12 1), (g12 2), .ref (ad 15), .ref (ad 16), .ref (ad 17)]) := by
    rw [q12]
    show some (ad 12, ob 7 [g12 0, g12 1, g12 2, g12 3, g12 4, g12 5]) = _
    rw [r12_3, r12_4, r12_5]
  obtain ⟨f15, c15, -⟩ := WT.bools hW (k := 15) rfl
  obtain ⟨f16, c16, -⟩ := WT.ints hW (k := 16) rfl
  obtain ⟨f17, c17, -⟩ := WT.ints hW (k := 17) rfl
  obtain ⟨g22, q22, t22⟩ := WT.tab hW (k := 22) rfl
  obtain ⟨y22_0, r22_0, bl22_0, bu22_0⟩ := vty0 (t22 0 _ rfl).1 rfl
  have b22_0 : 0 ≤ y22_0.toInt ∧ y22_0.toInt ≤ 12 := ⟨bl22_0, bu22_0⟩
  have r22_1 : g22 1 = .ref (ad 23) := vty2 (t22 1 _ rfl).1 rfl
  have r22_2 : g22 2 = .ref (ad 24) := vty2 (t22 2 _ rfl).1 rfl
  have r22_3 : g22 3 = .ref (ad 25) := vty2 (t22 3 _ rfl).1 rfl
  have r22_4 : g22 4 = .ref (ad 26) := vty2 (t22 4 _ rfl).1 rfl
  have r22_5 : g22 5 = .ref (ad 27) := vty2 (t22 5 _ rfl).1 rfl
  have r22_6 : g22 6 = .ref (ad 28) := vty2 (t22 6 _ rfl).1 rfl
  have c22 : w0[22]? = some ((ad 22), ob 9 [.int y22_0, .ref (ad 23), .ref (ad 24), .ref (ad 25), .ref (ad 26), .ref (ad 27), .ref (ad 28), (g22 7), (g22 8), (g22 9)]) := by
    rw [q22]
    show some (ad 22, ob 9 [g22 0, g22 1, g22 2, g22 3, g22 4, g22 5, g22 6, g22 7, g22 8, g22 9]) = _
    rw [r22_0, r22_1, r22_2, r22_3, r22_4, r22_5, r22_6]
  obtain ⟨f23, c23, -⟩ := WT.ints hW (k := 23) rfl
  obtain ⟨f24, c24, -⟩ := WT.bools hW (k := 24) rfl
  obtain ⟨f25, c25, -⟩ := WT.ints hW (k := 25) rfl
  obtain ⟨f26, c26, -⟩ := WT.ints hW (k := 26) rfl
  obtain ⟨f27, c27, -⟩ := WT.ints hW (k := 27) rfl
  obtain ⟨f28, c28, -⟩ := WT.ints hW (k := 28) rfl
  obtain ⟨f105, c105, -⟩ := WT.ints hW (k := 105) rfl
  have ef105 : f105 = zt := arrinj ((cgetI c105 0).symm.trans ezt)
  rw [ef105] at c105
  have h2 := cx_X10_keep1 l G (ad 0) (g0 0) (g0 1) (g0 4) (g0 6) (g0 7) (g0 9) (g0 10) (g0 12) (g0 13) (g0 14) (g0 15) (ad 45) f45 (ad 65) y65_0 (ad 66) (ad 67) y65_5 y65_6 (ad 68) (g68 0) (g68 1) (g68 2) (ad 71) (ad 72) (ad 73) (ad 74) y74_0 (ad 75) (ad 76) (ad 77) (ad 78) (ad 79) (ad 80) (g74 7) (g74 8) (g74 9) (ad 5) (g5 0) (g5 1) (g5 2) (g5 3) (g5 4) (ad 10) (g5 6) y5_7 y5_8 (ad 12) (g12 0) (g12 1) (g12 2) (ad 15) (ad 16) (ad 17) (ad 22) y22_0 (ad 23) (ad 24) (ad 25) (ad 26) (ad 27) (ad 28) (g22 7) (g22 8) (g22 9) (ad 105) f66 f67 f71 f72 f73 f75 f76 f77 f78 f79 f80 zh f15 f16 f17 f23 f24 f25 f26 f27 f28 zt  (by show va_rf (f45 1) = _; rw [hO45 1 (by decide)]; rfl)
  refine Ct.weak (Ct.and (show Ct l G yX10_keep cX10_keep 2 (some .boolean) { frames := 3, cells := 0, slots := 0, locals := 68 } [.ref (ad 0), .int 1] w0 (fun r w1 => POST G ad TX C_k_X10_keep_1 (muF (ad 0) [.int 1] [.int y22_0]) w0 r w1) from ac_k_X10_keep_1 l G ad w0 _ hW (pre_F (C := C_k_X10_keep_1) (ts := [(0, 1, 1)]) (As := [.int 1]) (t0 := (0, 0, 12)) rfl rfl (Nat.le_of_ble_eq_true rfl) ⟨fun _ => vty_i (by decide) (by decide), trivial⟩ (fun _ => vty_i b22_0.1 b22_0.2) (fun _ h => absurd h List.not_mem_nil) ad w0 rfl ((t22 0 _ rfl).2.trans (congrArg some r22_0)))) h2 [0, 45, 65, 66, 67, 68, 71, 72, 73, 74, 75, 76, 77, 78, 79, 80, 5, 10, 12, 15, 16, 17, 22, 23, 24, 25, 26, 27, 28, 105] (pk_cons c0 (pk_cons c45 (pk_cons c65 (pk_cons c66 (pk_cons c67 (pk_cons c68 (pk_cons c71 (pk_cons c72 (pk_cons c73 (pk_cons c74 (pk_cons c75 (pk_cons c76 (pk_cons c77 (pk_cons c78 (pk_cons c79 (pk_cons c80 (pk_cons c5 (pk_cons c10 (pk_cons c12 (pk_cons c15 (pk_cons c16 (pk_cons c17 (pk_cons c22 (pk_cons c23 (pk_cons c24 (pk_cons c25 (pk_cons c26 (pk_cons c27 (pk_cons c28 (pk_cons c105 rfl)))))))))))))))))))))))))))))) (by decide)) ?_
  rintro r w1 ⟨hp, w2, ⟨kfh2, kft2, kfA2, kfX2, kfY2, kfsp2, kfwh2, kffi2, kfse2, kfgi2, kfle2, hh, ht, hX, hY, hA, hsp, hwh, hfi, hse, hgi, hle, rfl, rfl⟩, hS⟩
  obtain ⟨A1, hA1, μ2, -, -, -, -, -, -, hW1, hF1⟩ := hp
  obtain ⟨fs0, -, u0, ul0, -, -⟩ := WT.obj hW1 (k := 0) (j := 0) rfl rfl
  obtain ⟨fs5, -, u5, ul5, -, -⟩ := WT.obj hW1 (k := 5) (j := 0) rfl rfl
  obtain ⟨p10, u10, -⟩ := WT.ints hW1 (k := 10) rfl
  obtain ⟨fs12, -, u12, ul12, -, -⟩ := WT.obj hW1 (k := 12) (j := 0) rfl rfl
  obtain ⟨p15, u15, -⟩ := WT.bools hW1 (k := 15) rfl
  obtain ⟨p16, u16, -⟩ := WT.ints hW1 (k := 16) rfl
  obtain ⟨p17, u17, -⟩ := WT.ints hW1 (k := 17) rfl
  obtain ⟨fs22, -, u22, ul22, -, -⟩ := WT.obj hW1 (k := 22) (j := 0) rfl rfl
  obtain ⟨p23, u23, -⟩ := WT.ints hW1 (k := 23) rfl
  obtain ⟨p24, u24, -⟩ := WT.bools hW1 (k := 24) rfl
  obtain ⟨p25, u25, -⟩ := WT.ints hW1 (k := 25) rfl
  obtain ⟨p26, u26, -⟩ := WT.ints hW1 (k := 26) rfl
  obtain ⟨p27, u27, -⟩ := WT.ints hW1 (k := 27) rfl
  obtain ⟨p28, u28, -⟩ := WT.ints hW1 (k := 28) rfl
  obtain ⟨fs65, -, u65, ul65, -, -⟩ := WT.obj hW1 (k := 65) (j := 0) rfl rfl
  obtain ⟨p66, u66, -⟩ := WT.ints hW1 (k := 66) rfl
  obtain ⟨p67, u67, -⟩ := WT.ints hW1 (k := 67) rfl
  obtain ⟨fs68, -, u68, ul68, -, -⟩ := WT.obj hW1 (k := 68) (j := 0) rfl rfl
  obtain ⟨p71, u71, -⟩ := WT.bools hW1 (k := 71) rfl
  obtain ⟨p72, u72, -⟩ := WT.ints hW1 (k := 72) rfl
  obtain ⟨p73, u73, -⟩ := WT.ints hW1 (k := 73) rfl
  obtain ⟨fs74, -, u74, ul74, -, -⟩ := WT.obj hW1 (k := 74) (j := 0) rfl rfl
  obtain ⟨p75, u75, -⟩ := WT.ints hW1 (k := 75) rfl
  obtain ⟨p76, u76, -⟩ := WT.bools hW1 (k := 76) rfl
  obtain ⟨p77, u77, -⟩ := WT.ints hW1 (k := 77) rfl
  obtain ⟨p78, u78, -⟩ := WT.ints hW1 (k := 78) rfl
  obtain ⟨p79, u79, -⟩ := WT.ints hW1 (k := 79) rfl
  obtain ⟨p80, u80, -⟩ := WT.ints hW1 (k := 80) rfl
  obtain ⟨p105, u105, -⟩ := WT.ints hW1 (k := 105) rfl
  exact ⟨hW1, hF1, ⟨_, rfl, rfl⟩, (same_f hS (k := 65) (j := 2) (q := (RX2, TX2, 7)) rfl u65 rfl (by decide) ul65 rfl), ⟨p66, cgetI u66 0, fun k hk => ((same_I hS (k := 66) (j := 3) u66 rfl) k hk).trans (hh k hk)⟩, ⟨p67, cgetI u67 0, fun k hk => ((same_I hS (k := 67) (j := 4) u67 rfl) k hk).trans (ht k hk)⟩⟩
set_option maxHeartbeats 4000000 in
set_option maxRecDepth 100000 in
theorem ac_kqx2 (l : Launch) (G : KG) {ad : Nat → Nat} {w0 : va_W} {zh zt : Nat → Int32} (hW : WT G ad TX w0) (ezh : cget w0 10 0 = some (.inr (cyI G, 16, .inl zh))) (ezt : cget w0 105 0 = some (.inr (cyI G, 8, .inl zt))) : Ct l G yX10_keep cX10_keep 2 (some .boolean) { frames := 3, cells := 0, slots := 0, locals := 68 } [.ref (ad 0), .int 2] w0 (fun r w1 => WT G ad TX w1 ∧ FRM C_k_X10_keep_2.2.2.2.2.1 w0 w1 ∧ ((∃ v : Int32, r = some (.int v) ∧ v = 1) ∧ fget w1 84 0 = some (.int 1) ∧ CQ G w1 85 16 zh ∧ CQ G w1 86 8 zt)) := by
  obtain ⟨g0, q0, t0⟩ := WT.tab hW (k := 0) rfl
  have r0_2 : g0 2 = .ref (ad 5) := vty2 (t0 2 _ rfl).1 rfl
  have r0_3 : g0 3 = .ref (ad 12) := vty2 (t0 3 _ rfl).1 rfl
  have r0_5 : g0 5 = .ref (ad 22) := vty2 (t0 5 _ rfl).1 rfl
  have r0_8 : g0 8 = .ref (ad 45) := vty2 (t0 8 _ rfl).1 rfl
  have r0_11 : g0 11 = .ref (ad 105) := vty2 (t0 11 _ rfl).1 rfl
  have c0 : w0[0]? = some ((ad 0), ob 10 [(g0 0), (g0 1), .ref (ad 5), .ref (ad 12), (g0 4), .ref (ad 22), (g0 6), (g0 7), .ref (ad 45), (g0 9), (g0 10), .ref (ad 105), (g0 12), (g0 13), (g0 14), (g0 15)]) := by
    rw [q0]
    show some (ad 0, ob 10 [g0 0, g0 1, g0 2, g0 3, g0 4, g0 5, g0 6, g0 7, g0 8, g0 9, g0 10, g0 11, g0 12, g0 13, g0 14, g0 15]) = _
    rw [r0_2, r0_3, r0_5, r0_8, r0_11]
  obtain ⟨f45, c45, hO45⟩ := WT.refs hW (k := 45) rfl
  obtain ⟨g84, q84, t84⟩ := WT.tab hW (k := 84) rfl
  obtain ⟨y84_0, r84_0, bl84_0, bu84_0⟩ := vty0 (t84 0 _ rfl).1 rfl
  have b84_0 : 0 ≤ y84_0.toInt ∧ y84_0.toInt ≤ 1 := ⟨bl84_0, bu84_0⟩
  have r84_1 : g84 1 = .ref (ad 85) := vty2 (t84 1 _ rfl).1 rfl
  have r84_2 : g84 2 = .ref (ad 86) := vty2 (t84 2 _ rfl).1 rfl
  have r84_3 : g84 3 = .ref (ad 87) := vty2 (t84 3 _ rfl).1 rfl
  have r84_4 : g84 4 = .ref (ad 93) := vty2 (t84 4 _ rfl).1 rfl
  obtain ⟨y84_5, r84_5, -, -⟩ := vty0 (t84 5 _ rfl).1 rfl
  obtain ⟨y84_6, r84_6, -, -⟩ := vty0 (t84 6 _ rfl).1 rfl
  have c84 : w0[84]? = some ((ad 84), ob 2 [.int y84_0, .ref (ad 85), .ref (ad 86), .ref (ad 87), .ref (ad 93), .int y84_5, .int y84_6]) := by
    rw [q84]
    show some (ad 84, ob 2 [g84 0, g84 1, g84 2, g84 3, g84 4, g84 5, g84 6]) = _
    rw [r84_0, r84_1, r84_2, r84_3, r84_4, r84_5, r84_6]
  obtain ⟨f85, c85, -⟩ := WT.ints hW (k := 85) rfl
  obtain ⟨f86, c86, -⟩ := WT.ints hW (k := 86) rfl
  obtain ⟨g87, q87, t87⟩ := WT.tab hW (k := 87) rfl
  have r87_3 : g87 3 = .ref (ad 90) := vty2 (t87 3 _ rfl).1 rfl
  have r87_4 : g87 4 = .ref (ad 91) := vty2 (t87 4 _ rfl).1 rfl
  have r87_5 : g87 5 = .ref (ad 92) := vty2 (t87 5 _ rfl).1 rfl
  have c87 : w0[87]? = some ((ad 87), ob 7 [(g87 0), (g87 1), (g87 2), .ref (ad 90), .ref (ad 91), .ref (ad 92)]) := by
    rw [q87]
    show some (ad 87, ob 7 [g87 0, g87 1, g87 2, g87 3, g87 4, g87 5]) = _
    rw [r87_3, r87_4, r87_5]
  obtain ⟨f90, c90, -⟩ := WT.bools hW (k := 90) rfl
  obtain ⟨f91, c91, -⟩ := WT.ints hW (k := 91) rfl
  obtain ⟨f92, c92, -⟩ := WT.ints hW (k := 92) rfl
  obtain ⟨g93, q93, t93⟩ := WT.tab hW (k := 93) rfl
  obtain ⟨y93_0, r93_0, bl93_0, bu93_0⟩ := vty0 (t93 0 _ rfl).1 rfl
  have b93_0 : 0 ≤ y93_0.toInt ∧ y93_0.toInt ≤ 12 := ⟨bl93_0, bu93_0⟩
  have r93_1 : g93 1 = .ref (ad 94) := vty2 (t93 1 _ rfl).1 rfl
  have r93_2 : g93 2 = .ref (ad 95) := vty2 (t93 2 _ rfl).1 rfl
  have r93_3 : g93 3 = .ref (ad 96) := vty2 (t93 3 _ rfl).1 rfl
  have r93_4 : g93 4 = .ref (ad 97) := vty2 (t93 4 _ rfl).1 rfl
  have r93_5 : g93 5 = .ref (ad 98) := vty2 (t93 5 _ rfl).1 rfl
  have r93_6 : g93 6 = .ref (ad 99) := vty2 (t93 6 _ rfl).1 rfl
  have c93 : w0[93]? = some ((ad 93), ob 9 [.int y93_0, .ref (ad 94), .ref (ad 95), .ref (ad 96), .ref (ad 97), .ref (ad 98), .ref (ad 99), (g93 7), (g93 8), (g93 9)]) := by
    rw [q93]
    show some (ad 93, ob 9 [g93 0, g93 1, g93 2, g93 3, g93 4, g93 5, g93 6, g93 7, g93 8, g93 9]) = _
    rw [r93_0, r93_1, r93_2, r93_3, r93_4, r93_5, r93_6]
  obtain ⟨f94, c94, -⟩ := WT.ints hW (k := 94) rfl
  obtain ⟨f95, c95, -⟩ := WT.bools hW (k := 95) rfl
  obtain ⟨f96, c96, -⟩ := WT.ints hW (k := 96) rfl
  obtain ⟨f97, c97, -⟩ := WT.ints hW (k := 97) rfl
  obtain ⟨f98, c98, -⟩ := WT.ints hW (k := 98) rfl
  obtain ⟨f99, c99, -⟩ := WT.ints hW (k := 99) rfl
  obtain ⟨g5, q5, t5⟩ := WT.tab hW (k := 5) rfl
  have r5_5 : g5 5 = .ref (ad 10) := vty2 (t5 5 _ rfl).1 rfl
  obtain ⟨y5_7, r5_7, -, -⟩ := vty0 (t5 7 _ rfl).1 rfl
  obtain ⟨y5_8, r5_8, -, -⟩ := vty0 (t5 8 _ rfl).1 rfl
  have c5 : w0[5]? = some ((ad 5), ob 5 [(g5 0), (g5 1), (g5 2), (g5 3), (g5 4), .ref (ad 10), (g5 6), .int y5_7, .int y5_8]) := by
    rw [q5]
    show some (ad 5, ob 5 [g5 0, g5 1, g5 2, g5 3, g5 4, g5 5, g5 6, g5 7, g5 8]) = _
    rw [r5_5, r5_7, r5_8]
  obtain ⟨f10, c10, -⟩ := WT.ints hW (k := 10) rfl
  have ef10 : f10 = zh := arrinj ((cgetI c10 0).symm.trans ezh)
  rw [ef10] at c10
  obtain ⟨g12, q12, t12⟩ := WT.tab hW (k := 12) rfl
  have r12_3 : g12 3 = .ref (ad 15) := vty2 (t12 3 _ rfl).1 rfl
  have r12_4 : g12 4 = .ref (ad 16) := vty2 (t12 4 _ rfl).1 rfl
  have r12_5 : g12 5 = .ref (ad 17) := vty2 (t12 5 _ rfl).1 rfl
  have c12 : w0[12]? = some ((ad 12), ob 7 [(g12 0), (g12 1), (g12 2), .ref (ad 15), .ref (ad 16), .ref (ad 17)]) := by
    rw [q12]
    show some (ad 12, ob 7 [g12 0, g12 1, g12 2, g12 3, g12 4, g12 5]) = _
    rw [r12_3, r12_4, r12_5]
  obtain ⟨f15, c15, -⟩ := WT.bools hW (k := 15) rfl
  obtain ⟨f16, c16, -⟩ := WT.ints hW (k := 16) rfl
  obtain ⟨f17, c17, -⟩ := WT.ints hW (k := 17) rfl
  obtain ⟨g22, q22, t22⟩ := WT.tab hW (k := 22) rfl
  obtain ⟨y22_0, r22_0, bl22_0, bu22_0⟩ := vty0 (t22 0 _ rfl).1 rfl
  have b22_0 : 0 ≤ y22_0.toInt ∧ y22_0.toInt ≤ 12 := ⟨bl22_0, bu22_0⟩
  have r22_1 : g22 1 = .ref (ad 23) := vty2 (t22 1 _ rfl).1 rfl
  have r22_2 : g22 2 = .ref (ad 24) := vty2 (t22 2 _ rfl).1 rfl
  have r22_3 : g22 3 = .ref (ad 25) := vty2 (t22 3 _ rfl).1 rfl
  have r22_4 : g22 4 = .ref (ad 26) := vty2 (t22 4 _ rfl).1 rfl
  have r22_5 : g22 5 = .ref (ad 27) := vty2 (t22 5 _ rfl).1 rfl
  have r22_6 : g22 6 = .ref (ad 28) := vty2 (t22 6 _ rfl).1 rfl
  have c22 : w0[22]? = some ((ad 22), ob 9 [.int y22_0, .ref (ad 23), .ref (ad 24), .ref (ad 25), .ref (ad 26), .ref (ad 27), .ref (ad 28), (g22 7), (g22 8), (g22 9)]) := by
    rw [q22]
    show some (ad 22, ob 9 [g22 0, g22 1, g22 2, g22 3, g22 4, g22 5, g22 6, g22 7, g22 8, g22 9]) = _
    rw [r22_0, r22_1, r22_2, r22_3, r22_4, r22_5, r22_6]
  obtain ⟨f23, c23, -⟩ := WT.ints hW (k := 23) rfl
  obtain ⟨f24, c24, -⟩ := WT.bools hW (k := 24) rfl
  obtain ⟨f25, c25, -⟩ := WT.ints hW (k := 25) rfl
  obtain ⟨f26, c26, -⟩ := WT.ints hW (k := 26) rfl
  obtain ⟨f27, c27, -⟩ := WT.ints hW (k := 27) rfl
  obtain ⟨f28, c28, -⟩ := WT.ints hW (k := 28) rfl
  obtain ⟨f105, c105, -⟩ := WT.ints hW (k := 105) rfl
  have ef105 : f105 = zt := arrinj ((cgetI c105 0).symm.trans ezt)
  rw [ef105] at c105
  have h2 := cx_X10_keep2 l G (ad 0) (g0 0) (g0 1) (g0 4) (g0 6) (g0 7) (g0 9) (g0 10) (g0 12) (g0 13) (g0 14) (g0 15) (ad 45) f45 (ad 84) y84_0 (ad 85) (ad 86) y84_5 y84_6 (ad 87) (g87 0) (g87 1) (g87 2) (ad 90) (ad 91) (ad 92) (ad 93) y93_0 (ad 94) (ad 95) (ad 96) (ad 97) (ad 98) (ad 99) (g93 7) (g93 8) (g93 9) (ad 5) (g5 0) (g5 1) (g5 2) (g5 3) (g5 4) (ad 10) (g5 6) y5_7 y5_8 (ad 12) (g12 0) (g12 1) (g12 2) (ad 15) (ad 16) (ad 17) (ad 22) y22_0 (ad 23) (ad 24) (ad 25) (ad 26) (ad 27) (ad 28) (g22 7) (g22 8) (g22 9) (ad 105) f85 f86 f90 f91 f92 f94 f95 f96 f97 f98 f99 zh f15 f16 f17 f23 f24 f25 f26 f27 f28 zt  (by show va_rf (f45 2) = _; rw [hO45 2 (by decide)]; rfl)
  refine Ct.weak (Ct.and (show Ct l G yX10_keep cX10_keep 2 (some .boolean) { frames := 3, cells := 0, slots := 0, locals := 68 } [.ref (ad 0), .int 2] w0 (fun r w1 => POST G ad TX C_k_X10_keep_2 (muF (ad 0) [.int 2] [.int y22_0]) w0 r w1) from ac_k_X10_keep_2 l G ad w0 _ hW (pre_F (C := C_k_X10_keep_2) (ts := [(0, 2, 2)]) (As := [.int 2]) (t0 := (0, 0, 12)) rfl rfl (Nat.le_of_ble_eq_true rfl) ⟨fun _ => vty_i (by decide) (by decide), trivial⟩ (fun _ => vty_i b22_0.1 b22_0.2) (fun _ h => absurd h List.not_mem_nil) ad w0 rfl ((t22 0 _ rfl).2.trans (congrArg some r22_0)))) h2 [0, 45, 84, 85, 86, 87, 90, 91, 92, 93, 94, 95, 96, 97, 98, 99, 5, 10, 12, 15, 16, 17, 22, 23, 24, 25, 26, 27, 28, 105] (pk_cons c0 (pk_cons c45 (pk_cons c84 (pk_cons c85 (pk_cons c86 (pk_cons c87 (pk_cons c90 (pk_cons c91 (pk_cons c92 (pk_cons c93 (pk_cons c94 (pk_cons c95 (pk_cons c96 (pk_cons c97 (pk_cons c98 (pk_cons c99 (pk_cons c5 (pk_cons c10 (pk_cons c12 (pk_cons c15 (pk_cons c16 (pk_cons c17 (pk_cons c22 (pk_cons c23 (pk_cons c24 (pk_cons c25 (pk_cons c26 (pk_cons c27 (pk_cons c28 (pk_cons c105 rfl)))))))))))))))))))))))))))))) (by decide)) ?_
  rintro r w1 ⟨hp, w2, ⟨kfh2, kft2, kfA2, kfX2, kfY2, kfsp2, kfwh2, kffi2, kfse2, kfgi2, kfle2, hh, ht, hX, hY, hA, hsp, hwh, hfi, hse, hgi, hle, rfl, rfl⟩, hS⟩
  obtain ⟨A1, hA1, μ2, -, -, -, -, -, -, hW1, hF1⟩ := hp
  obtain ⟨fs0, -, u0, ul0, -, -⟩ := WT.obj hW1 (k := 0) (j := 0) rfl rfl
  obtain ⟨fs5, -, u5, ul5, -, -⟩ := WT.obj hW1 (k := 5) (j := 0) rfl rfl
  obtain ⟨p10, u10, -⟩ := WT.ints hW1 (k := 10) rfl
  obtain ⟨fs12, -, u12, ul12, -, -⟩ := WT.obj hW1 (k := 12) (j := 0) rfl rfl
  obtain ⟨p15, u15, -⟩ := WT.bools hW1 (k := 15) rfl
  obtain ⟨p16, u16, -⟩ := WT.ints hW1 (k := 16) rfl
  obtain ⟨p17, u17, -⟩ := WT.ints hW1 (k := 17) rfl
  obtain ⟨fs22, -, u22, ul22, -, -⟩ := WT.obj hW1 (k := 22) (j := 0) rfl rfl
  obtain ⟨p23, u23, -⟩ := WT.ints hW1 (k := 23) rfl
  obtain ⟨p24, u24, -⟩ := WT.bools hW1 (k := 24) rfl
  obtain ⟨p25, u25, -⟩ := WT.ints hW1 (k := 25) rfl
  obtain ⟨p26, u26, -⟩ := WT.ints hW1 (k := 26) rfl
  obtain ⟨p27, u27, -⟩ := WT.ints hW1 (k := 27) rfl
  obtain ⟨p28, u28, -⟩ := WT.ints hW1 (k := 28) rfl
  obtain ⟨fs84, -, u84, ul84, -, -⟩ := WT.obj hW1 (k := 84) (j := 0) rfl rfl
  obtain ⟨p85, u85, -⟩ := WT.ints hW1 (k := 85) rfl
  obtain ⟨p86, u86, -⟩ := WT.ints hW1 (k := 86) rfl
  obtain ⟨fs87, -, u87, ul87, -, -⟩ := WT.obj hW1 (k := 87) (j := 0) rfl rfl
  obtain ⟨p90, u90, -⟩ := WT.bools hW1 (k := 90) rfl
  obtain ⟨p91, u91, -⟩ := WT.ints hW1 (k := 91) rfl
  obtain ⟨p92, u92, -⟩ := WT.ints hW1 (k := 92) rfl
  obtain ⟨fs93, -, u93, ul93, -, -⟩ := WT.obj hW1 (k := 93) (j := 0) rfl rfl
  obtain ⟨p94, u94, -⟩ := WT.ints hW1 (k := 94) rfl
  obtain ⟨p95, u95, -⟩ := WT.bools hW1 (k := 95) rfl
  obtain ⟨p96, u96, -⟩ := WT.ints hW1 (k := 96) rfl
  obtain ⟨p97, u97, -⟩ := WT.ints hW1 (k := 97) rfl
  obtain ⟨p98, u98, -⟩ := WT.ints hW1 (k := 98) rfl
  obtain ⟨p99, u99, -⟩ := WT.ints hW1 (k := 99) rfl
  obtain ⟨p105, u105, -⟩ := WT.ints hW1 (k := 105) rfl
  exact ⟨hW1, hF1, ⟨_, rfl, rfl⟩, (same_f hS (k := 84) (j := 2) (q := (RX2, TX2, 7)) rfl u84 rfl (by decide) ul84 rfl), ⟨p85, cgetI u85 0, fun k hk => ((same_I hS (k := 85) (j := 3) u85 rfl) k hk).trans (hh k hk)⟩, ⟨p86, cgetI u86 0, fun k hk => ((same_I hS (k := 86) (j := 4) u86 rfl) k hk).trans (ht k hk)⟩⟩
set_option maxHeartbeats 4000000 in
set_option maxRecDepth 100000 in
theorem ac_gqx0 (l : Launch) (G : KG) {ad : Nat → Nat} {w0 : va_W} {fl : Int32} {zh zt : Nat → Int32} (hW : WT G ad TX w0) (efl : fget w0 46 0 = some (.int fl)) (hfl : fl.toInt ≠ 0) (ezh : cget w0 47 0 = some (.inr (cyI G, 16, .inl zh))) (ezt : cget w0 48 0 = some (.inr (cyI G, 8, .inl zt))) : Ct l G yX10_again cX10_again 2 (some .boolean) { frames := 3, cells := 0, slots := 0, locals := 68 } [.ref (ad 0), .int 0] w0 (fun r w1 => WT G ad TX w1 ∧ FRM C_k_X10_again_0.2.2.2.2.1 w0 w1 ∧ ((∃ v : Int32, r = some (.int v) ∧ v = 1) ∧ CQ G w1 10 16 zh ∧ CQ G w1 105 8 zt)) := by
  obtain ⟨g0, q0, t0⟩ := WT.tab hW (k := 0) rfl
  have r0_2 : g0 2 = .ref (ad 5) := vty2 (t0 2 _ rfl).1 rfl
  have r0_3 : g0 3 = .ref (ad 12) := vty2 (t0 3 _ rfl).1 rfl
  have r0_5 : g0 5 = .ref (ad 22) := vty2 (t0 5 _ rfl).1 rfl
  have r0_8 : g0 8 = .ref (ad 45) := vty2 (t0 8 _ rfl).1 rfl
  have r0_11 : g0 11 = .ref (ad 105) := vty2 (t0 11 _ rfl).1 rfl
  have c0 : w0[0]? = some ((ad 0), ob 10 [(g0 0), (g0 1), .ref (ad 5), .ref (ad 12), (g0 4), .ref (ad 22), (g0 6), (g0 7), .ref (ad 45), (g0 9), (g0 10), .ref (ad 105), (g0 12), (g0 13), (g0 14), (g0 15)]) := by
    rw [q0]
    show some (ad 0, ob 10 [g0 0, g0 1, g0 2, g0 3, g0 4, g0 5, g0 6, g0 7, g0 8, g0 9, g0 10, g0 11, g0 12, g0 13, g0 14, g0 15]) = _
    rw [r0_2, r0_3, r0_5, r0_8, r0_11]
  obtain ⟨f45, c45, hO45⟩ := WT.refs hW (k := 45) rfl
  obtain ⟨g46, q46, t46⟩ := WT.tab hW (k := 46) rfl
  have r46_0 : g46 0 = .int fl := Option.some.inj ((t46 0 _ rfl).2.symm.trans efl)
  have b46_0 : 0 ≤ fl.toInt ∧ fl.toInt ≤ 1 := by
    have h := (t46 0 _ rfl).1
    rw [r46_0] at h
    obtain ⟨y, e, l1, u1⟩ := vty0 h rfl
    obtain rfl := Value.int.inj e
    exact ⟨l1, u1⟩
  have r46_1 : g46 1 = .ref (ad 47) := vty2 (t46 1 _ rfl).1 rfl
  have r46_2 : g46 2 = .ref (ad 48) := vty2 (t46 2 _ rfl).1 rfl
  have r46_3 : g46 3 = .ref (ad 49) := vty2 (t46 3 _ rfl).1 rfl
  have r46_4 : g46 4 = .ref (ad 55) := vty2 (t46 4 _ rfl).1 rfl
  obtain ⟨y46_5, r46_5, -, -⟩ := vty0 (t46 5 _ rfl).1 rfl
  obtain ⟨y46_6, r46_6, -, -⟩ := vty0 (t46 6 _ rfl).1 rfl
  have c46 : w0[46]? = some ((ad 46), ob 2 [.int fl, .ref (ad 47), .ref (ad 48), .ref (ad 49), .ref (ad 55), .int y46_5, .int y46_6]) := by
    rw [q46]
    show some (ad 46, ob 2 [g46 0, g46 1, g46 2, g46 3, g46 4, g46 5, g46 6]) = _
    rw [r46_0, r46_1, r46_2, r46_3, r46_4, r46_5, r46_6]
  obtain ⟨f47, c47, -⟩ := WT.ints hW (k := 47) rfl
  have ef47 : f47 = zh := arrinj ((cgetI c47 0).symm.trans ezh)
  rw [ef47] at c47
  obtain ⟨f48, c48, -⟩ := WT.ints hW (k := 48) rfl
  have ef48 : f48 = zt := arrinj ((cgetI c48 0).symm.trans ezt)
  rw [ef48] at c48
  obtain ⟨g49, q49, t49⟩ := WT.tab hW (k := 49) rfl
  have r49_3 : g49 3 = .ref (ad 52) := vty2 (t49 3 _ rfl).1 rfl
  have r49_4 : g49 4 = .ref (ad 53) := vty2 (t49 4 _ rfl).1 rfl
  have r49_5 : g49 5 = .ref (ad 54) := vty2 (t49 5 _ rfl).1 rfl
  have c49 : w0[49]? = some ((ad 49), ob 7 [(g49 0), (g49 1), (g49 2), .ref (ad 52), .ref (ad 53), .ref (ad 54)]) := by
    rw [q49]
    show some (ad 49, ob 7 [g49 0, g49 1, g49 2, g49 3, g49 4, g49 5]) = _
    rw [r49_3, r49_4, r49_5]
  obtain ⟨f52, c52, -⟩ := WT.bools hW (k := 52) rfl
  obtain ⟨f53, c53, -⟩ := WT.ints hW (k := 53) rfl
  obtain ⟨f54, c54, -⟩ := WT.ints hW (k := 54) rfl
  obtain ⟨g55, q55, t55⟩ := WT.tab hW (k := 55) rfl
  obtain ⟨y55_0, r55_0, bl55_0, bu55_0⟩ := vty0 (t55 0 _ rfl).1 rfl
  have b55_0 : 0 ≤ y55_0.toInt ∧ y55_0.toInt ≤ 12 := ⟨bl55_0, bu55_0⟩
  have r55_1 : g55 1 = .ref (ad 56) := vty2 (t55 1 _ rfl).1 rfl
  have r55_2 : g55 2 = .ref (ad 57) := vty2 (t55 2 _ rfl).1 rfl
  have r55_3 : g55 3 = .ref (ad 58) := vty2 (t55 3 _ rfl).1 rfl
  have r55_4 : g55 4 = .ref (ad 59) := vty2 (t55 4 _ rfl).1 rfl
  have r55_5 : g55 5 = .ref (ad 60) := vty2 (t55 5 _ rfl).1 rfl
  have r55_6 : g55 6 = .ref (ad 61) := vty2 (t55 6 _ rfl).1 rfl
  have c55 : w0[55]? = some ((ad 55), ob 9 [.int y55_0, .ref (ad 56), .ref (ad 57), .ref (ad 58), .ref (ad 59), .ref (ad 60), .ref (ad 61), (g55 7), (g55 8), (g55 9)]) := by
    rw [q55]
    show some (ad 55, ob 9 [g55 0, g55 1, g55 2, g55 3, g55 4, g55 5, g55 6, g55 7, g55 8, g55 9]) = _
    rw [r55_0, r55_1, r55_2, r55_3, r55_4, r55_5, r55_6]
  obtain ⟨f56, c56, -⟩ := WT.ints hW (k := 56) rfl
  obtain ⟨f57, c57, -⟩ := WT.bools hW (k := 57) rfl
  obtain ⟨f58, c58, -⟩ := WT.ints hW (k := 58) rfl
  obtain ⟨f59, c59, -⟩ := WT.ints hW (k := 59) rfl
  obtain ⟨f60, c60, -⟩ := WT.ints hW (k := 60) rfl
  obtain ⟨f61, c61, -⟩ := WT.ints hW (k := 61) rfl
  obtain ⟨g5, q5, t5⟩ := WT.tab hW (k := 5) rfl
  have r5_5 : g5 5 = .ref (ad 10) := vty2 (t5 5 _ rfl).1 rfl
  obtain ⟨y5_7, r5_7, -, -⟩ := vty0 (t5 7 _ rfl).1 rfl
  obtain ⟨y5_8, r5_8, -, -⟩ := vty0 (t5 8 _ rfl).1 rfl
  have c5 : w0[5]? = some ((ad 5), ob 5 [(g5 0), (g5 1), (g5 2), (g5 3), (g5 4), .ref (ad 10), (g5 6), .int y5_7, .int y5_8]) := by
    rw [q5]
    show some (ad 5, ob 5 [g5 0, g5 1, g5 2, g5 3, g5 4, g5 5, g5 6, g5 7, g5 8]) = _
    rw [r5_5, r5_7, r5_8]
  obtain ⟨f10, c10, -⟩ := WT.ints hW (k := 10) rfl
  obtain ⟨g12, q12, t12⟩ := WT.tab hW (k := 12) rfl
  have r12_3 : g12 3 = .ref (ad 15) := vty2 (t12 3 _ rfl).1 rfl
  have r12_4 : g12 4 = .ref (ad 16) := vty2 (t12 4 _ rfl).1 rfl
  have r12_5 : g12 5 = .ref (ad 17) := vty2 (t12 5 _ rfl).1 rfl
  have c12 : w0[12]? = some ((ad 12), ob 7 [(g12 0), (g12 1), (g12 2), .ref (ad 15), .ref (ad 16), .ref (ad 17)]) := by
    rw [q12]
    show some (ad 12, ob 7 [g12 0, g12 1, g12 2, g12 3, g12 4, g12 5]) = _
    rw [r12_3, r12_4, r12_5]
  obtain ⟨f15, c15, -⟩ := WT.bools hW (k := 15) rfl
  obtain ⟨f16, c16, -⟩ := WT.ints hW (k := 16) rfl
  obtain ⟨f17, c17, -⟩ := WT.ints hW (k := 17) rfl
  obtain ⟨g22, q22, t22⟩ := WT.tab hW (k := 22) rfl
  obtain ⟨y22_0, r22_0, bl22_0, bu22_0⟩ := vty0 (t22 0 _ rfl).1 rfl
  have b22_0 : 0 ≤ y22_0.toInt ∧ y22_0.toInt ≤ 12 := ⟨bl22_0, bu22_0⟩
  have r22_1 : g22 1 = .ref (ad 23) := vty2 (t22 1 _ rfl).1 rfl
  have r22_2 : g22 2 = .ref (ad 24) := vty2 (t22 2 _ rfl).1 rfl
  have r22_3 : g22 3 = .ref (ad 25) := vty2 (t22 3 _ rfl).1 rfl
  have r22_4 : g22 4 = .ref (ad 26) := vty2 (t22 4 _ rfl).1 rfl
  have r22_5 : g22 5 = .ref (ad 27) := vty2 (t22 5 _ rfl).1 rfl
  have r22_6 : g22 6 = .ref (ad 28) := vty2 (t22 6 _ rfl).1 rfl
  have c22 : w0[22]? = some ((ad 22), ob 9 [.int y22_0, .ref (ad 23), .ref (ad 24), .ref (ad 25), .ref (ad 26), .ref (ad 27), .ref (ad 28), (g22 7), (g22 8), (g22 9)]) := by
    rw [q22]
    show some (ad 22, ob 9 [g22 0, g22 1, g22 2, g22 3, g22 4, g22 5, g22 6, g22 7, g22 8, g22 9]) = _
    rw [r22_0, r22_1, r22_2, r22_3, r22_4, r22_5, r22_6]
  obtain ⟨f23, c23, -⟩ := WT.ints hW (k := 23) rfl
  obtain ⟨f24, c24, -⟩ := WT.bools hW (k := 24) rfl
  obtain ⟨f25, c25, -⟩ := WT.ints hW (k := 25) rfl
  obtain ⟨f26, c26, -⟩ := WT.ints hW (k := 26) rfl
  obtain ⟨f27, c27, -⟩ := WT.ints hW (k := 27) rfl
  obtain ⟨f28, c28, -⟩ := WT.ints hW (k := 28) rfl
  obtain ⟨f105, c105, -⟩ := WT.ints hW (k := 105) rfl
  have h2 := cx_X10_again0 l G (ad 0) (g0 0) (g0 1) (g0 4) (g0 6) (g0 7) (g0 9) (g0 10) (g0 12) (g0 13) (g0 14) (g0 15) (ad 45) f45 (ad 46) fl (ad 47) (ad 48) y46_5 y46_6 (ad 49) (g49 0) (g49 1) (g49 2) (ad 52) (ad 53) (ad 54) (ad 55) y55_0 (ad 56) (ad 57) (ad 58) (ad 59) (ad 60) (ad 61) (g55 7) (g55 8) (g55 9) (ad 5) (g5 0) (g5 1) (g5 2) (g5 3) (g5 4) (ad 10) (g5 6) y5_7 y5_8 (ad 12) (g12 0) (g12 1) (g12 2) (ad 15) (ad 16) (ad 17) (ad 22) y22_0 (ad 23) (ad 24) (ad 25) (ad 26) (ad 27) (ad 28) (g22 7) (g22 8) (g22 9) (ad 105) zh zt f52 f53 f54 f56 f57 f58 f59 f60 f61 f10 f15 f16 f17 f23 f24 f25 f26 f27 f28 f105  (by show va_rf (f45 0) = _; rw [hO45 0 (by decide)]; rfl) hfl
  refine Ct.weak (Ct.and (show Ct l G yX10_again cX10_again 2 (some .boolean) { frames := 3, cells := 0, slots := 0, locals := 68 } [.ref (ad 0), .int 0] w0 (fun r w1 => POST G ad TX C_k_X10_again_0 (muF (ad 0) [.int 0] [.int fl, .int y55_0]) w0 r w1) from ac_k_X10_again_0 l G ad w0 _ hW (pre_F2 (C := C_k_X10_again_0) (ts := [(0, 0, 0)]) (As := [.int 0]) (t0 := (0, 1, 1)) (t1 := (0, 0, 12)) rfl rfl (Nat.le_of_ble_eq_true rfl) ⟨fun _ => vty_i (by decide) (by decide), trivial⟩ (fun _ => vty_i (by omega) (by omega)) (fun _ => vty_i b55_0.1 b55_0.2) (fun _ h => absurd h List.not_mem_nil) ad w0 rfl efl ((t55 0 _ rfl).2.trans (congrArg some r55_0)))) h2 [0, 45, 46, 47, 48, 49, 52, 53, 54, 55, 56, 57, 58, 59, 60, 61, 5, 10, 12, 15, 16, 17, 22, 23, 24, 25, 26, 27, 28, 105] (pk_cons c0 (pk_cons c45 (pk_cons c46 (pk_cons c47 (pk_cons c48 (pk_cons c49 (pk_cons c52 (pk_cons c53 (pk_cons c54 (pk_cons c55 (pk_cons c56 (pk_cons c57 (pk_cons c58 (pk_cons c59 (pk_cons c60 (pk_cons c61 (pk_cons c5 (pk_cons c10 (pk_cons c12 (pk_cons c15 (pk_cons c16 (pk_cons c17 (pk_cons c22 (pk_cons c23 (pk_cons c24 (pk_cons c25 (pk_cons c26 (pk_cons c27 (pk_cons c28 (pk_cons c105 rfl)))))))))))))))))))))))))))))) (by decide)) ?_
  rintro r w1 ⟨hp, w2, ⟨rfh2, tft2, sfA2, sfX2, sfY2, sfsp2, sfwh2, sffi2, sfse2, sfgi2, sfle2, hh, ht, hX, hY, hA, hsp, hwh, hfi, hse, hgi, hle, rfl, rfl⟩, hS⟩
  obtain ⟨A1, hA1, μ2, -, -, -, -, -, -, hW1, hF1⟩ := hp
  obtain ⟨fs0, -, u0, ul0, -, -⟩ := WT.obj hW1 (k := 0) (j := 0) rfl rfl
  obtain ⟨fs5, -, u5, ul5, -, -⟩ := WT.obj hW1 (k := 5) (j := 0) rfl rfl
  obtain ⟨p10, u10, -⟩ := WT.ints hW1 (k := 10) rfl
  obtain ⟨fs12, -, u12, ul12, -, -⟩ := WT.obj hW1 (k := 12) (j := 0) rfl rfl
  obtain ⟨p15, u15, -⟩ := WT.bools hW1 (k := 15) rfl
  obtain ⟨p16, u16, -⟩ := WT.ints hW1 (k := 16) rfl
  obtain ⟨p17, u17, -⟩ := WT.ints hW1 (k := 17) rfl
  obtain ⟨fs22, -, u22, ul22, -, -⟩ := WT.obj hW1 (k := 22) (j := 0) rfl rfl
  obtain ⟨p23, u23, -⟩ := WT.ints hW1 (k := 23) rfl
  obtain ⟨p24, u24, -⟩ := WT.bools hW1 (k := 24) rfl
  obtain ⟨p25, u25, -⟩ := WT.ints hW1 (k := 25) rfl
  obtain ⟨p26, u26, -⟩ := WT.ints hW1 (k := 26) rfl
  obtain ⟨p27, u27, -⟩ := WT.ints hW1 (k := 27) rfl
  obtain ⟨p28, u28, -⟩ := WT.ints hW1 (k := 28) rfl
  obtain ⟨fs46, -, u46, ul46, -, -⟩ := WT.obj hW1 (k := 46) (j := 0) rfl rfl
  obtain ⟨p47, u47, -⟩ := WT.ints hW1 (k := 47) rfl
  obtain ⟨p48, u48, -⟩ := WT.ints hW1 (k := 48) rfl
  obtain ⟨fs49, -, u49, ul49, -, -⟩ := WT.obj hW1 (k := 49) (j := 0) rfl rfl
  obtain ⟨p52, u52, -⟩ := WT.bools hW1 (k := 52) rfl
  obtain ⟨p53, u53, -⟩ := WT.ints hW1 (k := 53) rfl
  obtain ⟨p54, u54, -⟩ := WT.ints hW1 (k := 54) rfl
  obtain ⟨fs55, -, u55, ul55, -, -⟩ := WT.obj hW1 (k := 55) (j := 0) rfl rfl
  obtain ⟨p56, u56, -⟩ := WT.ints hW1 (k := 56) rfl
  obtain ⟨p57, u57, -⟩ := WT.bools hW1 (k := 57) rfl
  obtain ⟨p58, u58, -⟩ := WT.ints hW1 (k := 58) rfl
  obtain ⟨p59, u59, -⟩ := WT.ints hW1 (k := 59) rfl
  obtain ⟨p60, u60, -⟩ := WT.ints hW1 (k := 60) rfl
  obtain ⟨p61, u61, -⟩ := WT.ints hW1 (k := 61) rfl
  obtain ⟨p105, u105, -⟩ := WT.ints hW1 (k := 105) rfl
  exact ⟨hW1, hF1, ⟨_, rfl, rfl⟩, ⟨p10, cgetI u10 0, fun k hk => ((same_I hS (k := 10) (j := 17) u10 rfl) k hk).trans (hh k hk)⟩, ⟨p105, cgetI u105 0, fun k hk => ((same_I hS (k := 105) (j := 29) u105 rfl) k hk).trans (ht k hk)⟩⟩
set_option maxHeartbeats 4000000 in
set_option maxRecDepth 100000 in
theorem ac_gqx1 (l : Launch) (G : KG) {ad : Nat → Nat} {w0 : va_W} {fl : Int32} {zh zt : Nat → Int32} (hW : WT G ad TX w0) (efl : fget w0 65 0 = some (.int fl)) (hfl : fl.toInt ≠ 0) (ezh : cget w0 66 0 = some (.inr (cyI G, 16, .inl zh))) (ezt : cget w0 67 0 = some (.inr (cyI G, 8, .inl zt))) : Ct l G yX10_again cX10_again 2 (some .boolean) { frames := 3, cells := 0, slots := 0, locals := 68 } [.ref (ad 0), .int 1] w0 (fun r w1 => WT G ad TX w1 ∧ FRM C_k_X10_again_2.2.2.2.2.1 w0 w1 ∧ ((∃ v : Int32, r = some (.int v) ∧ v = 1) ∧ CQ G w1 10 16 zh ∧ CQ G w1 105 8 zt)) := by
  obtain ⟨g0, q0, t0⟩ := WT.tab hW (k := 0) rfl
  have r0_2 : g0 2 = .ref (ad 5) := vty2 (t0 2 _ rfl).1 rfl
  have r0_3 : g0 3 = .ref (ad 12) := vty2 (t0 3 _ rfl).1 rfl
  have r0_5 : g0 5 = .ref (ad 22) := vty2 (t0 5 _ rfl).1 rfl
  have r0_8 : g0 8 = .ref (ad 45) := vty2 (t0 8 _ rfl).1 rfl
  have r0_11 : g0 11 = .ref (ad 105) := vty2 (t0 11 _ rfl).1 rfl
  have c0 : w0[0]? = some ((ad 0), ob 10 [(g0 0), (g0 1), .ref (ad 5), .ref (ad 12), (g0 4), .ref (ad 22), (g0 6), (g0 7), .ref (ad 45), (g0 9), (g0 10), .ref (ad 105), (g0 12), (g0 13), (g0 14), (g0 15)]) := by
    rw [q0]
    show some (ad 0, ob 10 [g0 0, g0 1, g0 2, g0 3, g0 4, g0 5, g0 6, g0 7, g0 8, g0 9, g0 10, g0 11, g0 12, g0 13, g0 14, g0 15]) = _
    rw [r0_2, r0_3, r0_5, r0_8, r0_11]
  obtain ⟨f45, c45, hO45⟩ := WT.refs hW (k := 45) rfl
  obtain ⟨g65, q65, t65⟩ := WT.tab hW (k := 65) rfl
  have r65_0 : g65 0 = .int fl := Option.some.inj ((t65 0 _ rfl).2.symm.trans efl)
  have b65_0 : 0 ≤ fl.toInt ∧ fl.toInt ≤ 1 := by
    have h := (t65 0 _ rfl).1
    rw [r65_0] at h
    obtain ⟨y, e, l1, u1⟩ := vty0 h rfl
    obtain rfl := Value.int.inj e
    exact ⟨l1, u1⟩
  have r65_1 : g65 1 = .ref (ad 66) := vty2 (t65 1 _ rfl).1 rfl
  have r65_2 : g65 2 = .ref (ad 67) := vty2 (t65 2 _ rfl).1 rfl
  have r65_3 : g65 3 = .ref (ad 68) := vty2 (t65 3 _ rfl).1 rfl
  have r65_4 : g65 4 = .ref (ad 74) := vty2 (t65 4 _ rfl).1 rfl
  obtain ⟨y65_5, r65_5, -, -⟩ := vty0 (t65 5 _ rfl).1 rfl
  obtain ⟨y65_6, r65_6, -, -⟩ := vty0 (t65 6 _ rfl).1 rfl
  have c65 : w0[65]? = some ((ad 65), ob 2 [.int fl, .ref (ad 66), .ref (ad 67), .ref (ad 68), .ref (ad 74), .int y65_5, .int y65_6]) := by
    rw [q65]
    show some (ad 65, ob 2 [g65 0, g65 1, g65 2, g65 3, g65 4, g65 5, g65 6]) = _
    rw [r65_0, r65_1, r65_2, r65_3, r65_4, r65_5, r65_6]
  obtain ⟨f66, c66, -⟩ := WT.ints hW (k := 66) rfl
  have ef66 : f66 = zh := arrinj ((cgetI c66 0).symm.trans ezh)
  rw [ef66] at c66
  obtain ⟨f67, c67, -⟩ := WT.ints hW (k := 67) rfl
  have ef67 : f67 = zt := arrinj ((cgetI c67 0).symm.trans ezt)
  rw [ef67] at c67
  obtain ⟨g68, q68, t68⟩ := WT.tab hW (k := 68) rfl
  have r68_3 : g68 3 = .ref (ad 71) := vty2 (t68 3 _ rfl).1 rfl
  have r68_4 : g68 4 = .ref (ad 72) := vty2 (t68 4 _ rfl).1 rfl
  have r68_5 : g68 5 = .ref (ad 73) := vty2 (t68 5 _ rfl).1 rfl
  have c68 : w0[68]? = some ((ad 68), ob 7 [(g68 0), (g68 1), (g68 2), .ref (ad 71), .ref (ad 72), .ref (ad 73)]) := by
    rw [q68]
    show some (ad 68, ob 7 [g68 0, g68 1, g68 2, g68 3, g68 4, g68 5]) = _
    rw [r68_3, r68_4, r68_5]
  obtain ⟨f71, c71, -⟩ := WT.bools hW (k := 71) rfl
  obtain ⟨f72, c72, -⟩ := WT.ints hW (k := 72) rfl
  obtain ⟨f73, c73, -⟩ := WT.ints hW (k := 73) rfl
  obtain ⟨g74, q74, t74⟩ := WT.tab hW (k := 74) rfl
  obtain ⟨y74_0, r74_0, bl74_0, bu74_0⟩ := vty0 (t74 0 _ rfl).1 rfl
  have b74_0 : 0 ≤ y74_0.toInt ∧ y74_0.toInt ≤ 12 := ⟨bl74_0, bu74_0⟩
  have r74_1 : g74 1 = .ref (ad 75) := vty2 (t74 1 _ rfl).1 rfl
  have r74_2 : g74 2 = .ref (ad 76) := vty2 (t74 2 _ rfl).1 rfl
  have r74_3 : g74 3 = .ref (ad 77) := vty2 (t74 3 _ rfl).1 rfl
  have r74_4 : g74 4 = .ref (ad 78) := vty2 (t74 4 _ rfl).1 rfl
  have r74_5 : g74 5 = .ref (ad 79) := vty2 (t74 5 _ rfl).1 rfl
  have r74_6 : g74 6 = .ref (ad 80) := vty2 (t74 6 _ rfl).1 rfl
  have c74 : w0[74]? = some ((ad 74), ob 9 [.int y74_0, .ref (ad 75), .ref (ad 76), .ref (ad 77), .ref (ad 78), .ref (ad 79), .ref (ad 80), (g74 7), (g74 8), (g74 9)]) := by
    rw [q74]
    show some (ad 74, ob 9 [g74 0, g74 1, g74 2, g74 3, g74 4, g74 5, g74 6, g74 7, g74 8, g74 9]) = _
    rw [r74_0, r74_1, r74_2, r74_3, r74_4, r74_5, r74_6]
  obtain ⟨f75, c75, -⟩ := WT.ints hW (k := 75) rfl
  obtain ⟨f76, c76, -⟩ := WT.bools hW (k := 76) rfl
  obtain ⟨f77, c77, -⟩ := WT.ints hW (k := 77) rfl
  obtain ⟨f78, c78, -⟩ := WT.ints hW (k := 78) rfl
  obtain ⟨f79, c79, -⟩ := WT.ints hW (k := 79) rfl
  obtain ⟨f80, c80, -⟩ := WT.ints hW (k := 80) rfl
  obtain ⟨g5, q5, t5⟩ := WT.tab hW (k := 5) rfl
  have r5_5 : g5 5 = .ref (ad 10) := vty2 (t5 5 _ rfl).1 rfl
  obtain ⟨y5_7, r5_7, -, -⟩ := vty0 (t5 7 _ rfl).1 rfl
  obtain ⟨y5_8, r5_8, -, -⟩ := vty0 (t5 8 _ rfl).1 rfl
  have c5 : w0[5]? = some ((ad 5), ob 5 [(g5 0), (g5 1), (g5 2), (g5 3), (g5 4), .ref (ad 10), (g5 6), .int y5_7, .int y5_8]) := by
    rw [q5]
    show some (ad 5, ob 5 [g5 0, g5 1, g5 2, g5 3, g5 4, g5 5, g5 6, g5 7, g5 8]) = _
    rw [r5_5, r5_7, r5_8]
  obtain ⟨f10, c10, -⟩ := WT.ints hW (k := 10) rfl
  obtain ⟨g12, q12, t12⟩ := WT.tab hW (k := 12) rfl
  have r12_3 : g12 3 = .ref (ad 15) := vty2 (t12 3 _ rfl).1 rfl
  have r12_4 : g12 4 = .ref (ad 16) := vty2 (t12 4 _ rfl).1 rfl
  have r12_5 : g12 5 = .ref (ad 17) := vty2 (t12 5 _ rfl).1 rfl
  have c12 : w0[12]? = some ((ad 12), ob 7 [(g12 0), (g12 1), (g12 2), .ref (ad 15), .ref (ad 16), .ref (ad 17)]) := by
    rw [q12]
    show some (ad 12, ob 7 [g12 0, g12 1, g12 2, g12 3, g12 4, g12 5]) = _
    rw [r12_3, r12_4, r12_5]
  obtain ⟨f15, c15, -⟩ := WT.bools hW (k := 15) rfl
  obtain ⟨f16, c16, -⟩ := WT.ints hW (k := 16) rfl
  obtain ⟨f17, c17, -⟩ := WT.ints hW (k := 17) rfl
  obtain ⟨g22, q22, t22⟩ := WT.tab hW (k := 22) rfl
  obtain ⟨y22_0, r22_0, bl22_0, bu22_0⟩ := vty0 (t22 0 _ rfl).1 rfl
  have b22_0 : 0 ≤ y22_0.toInt ∧ y22_0.toInt ≤ 12 := ⟨bl22_0, bu22_0⟩
  have r22_1 : g22 1 = .ref (ad 23) := vty2 (t22 1 _ rfl).1 rfl
  have r22_2 : g22 2 = .ref (ad 24) := vty2 (t22 2 _ rfl).1 rfl
  have r22_3 : g22 3 = .ref (ad 25) := vty2 (t22 3 _ rfl).1 rfl
  have r22_4 : g22 4 = .ref (ad 26) := vty2 (t22 4 _ rfl).1 rfl
  have r22_5 : g22 5 = .ref (ad 27) := vty2 (t22 5 _ rfl).1 rfl
  have r22_6 : g22 6 = .ref (ad 28) := vty2 (t22 6 _ rfl).1 rfl
  have c22 : w0[22]? = some ((ad 22), ob 9 [.int y22_0, .ref (ad 23), .ref (ad 24), .ref (ad 25), .ref (ad 26), .ref (ad 27), .ref (ad 28), (g22 7), (g22 8), (g22 9)]) := by
    rw [q22]
    show some (ad 22, ob 9 [g22 0, g22 1, g22 2, g22 3, g22 4, g22 5, g22 6, g22 7, g22 8, g22 9]) = _
    rw [r22_0, r22_1, r22_2, r22_3, r22_4, r22_5, r22_6]
  obtain ⟨f23, c23, -⟩ := WT.ints hW (k := 23) rfl
  obtain ⟨f24, c24, -⟩ := WT.bools hW (k := 24) rfl
  obtain ⟨f25, c25, -⟩ := WT.ints hW (k := 25) rfl
  obtain ⟨f26, c26, -⟩ := WT.ints hW (k := 26) rfl
  obtain ⟨f27, c27, -⟩ := WT.ints hW (k := 27) rfl
  obtain ⟨f28, c28, -⟩ := WT.ints hW (k := 28) rfl
  obtain ⟨f105, c105, -⟩ := WT.ints hW (k := 105) rfl
  have h2 := cx_X10_again1 l G (ad 0) (g0 0) (g0 1) (g0 4) (g0 6) (g0 7) (g0 9) (g0 10) (g0 12) (g0 13) (g0 14) (g0 15) (ad 45) f45 (ad 65) fl (ad 66) (ad 67) y65_5 y65_6 (ad 68) (g68 0) (g68 1) (g68 2) (ad 71) (ad 72) (ad 73) (ad 74) y74_0 (ad 75) (ad 76) (ad 77) (ad 78) (ad 79) (ad 80) (g74 7) (g74 8) (g74 9) (ad 5) (g5 0) (g5 1) (g5 2) (g5 3) (g5 4) (ad 10) (g5 6) y5_7 y5_8 (ad 12) (g12 0) (g12 1) (g12 2) (ad 15) (ad 16) (ad 17) (ad 22) y22_0 (ad 23) (ad 24) (ad 25) (ad 26) (ad 27) (ad 28) (g22 7) (g22 8) (g22 9) (ad 105) zh zt f71 f72 f73 f75 f76 f77 f78 f79 f80 f10 f15 f16 f17 f23 f24 f25 f26 f27 f28 f105  (by show va_rf (f45 1) = _; rw [hO45 1 (by decide)]; rfl) hfl
  refine Ct.weak (Ct.and (show Ct l G yX10_again cX10_again 2 (some .boolean) { frames := 3, cells := 0, slots := 0, locals := 68 } [.ref (ad 0), .int 1] w0 (fun r w1 => POST G ad TX C_k_X10_again_2 (muF (ad 0) [.int 1] [.int fl, .int y74_0]) w0 r w1) from ac_k_X10_again_2 l G ad w0 _ hW (pre_F2 (C := C_k_X10_again_2) (ts := [(0, 1, 1)]) (As := [.int 1]) (t0 := (0, 1, 1)) (t1 := (0, 0, 12)) rfl rfl (Nat.le_of_ble_eq_true rfl) ⟨fun _ => vty_i (by decide) (by decide), trivial⟩ (fun _ => vty_i (by omega) (by omega)) (fun _ => vty_i b74_0.1 b74_0.2) (fun _ h => absurd h List.not_mem_nil) ad w0 rfl efl ((t74 0 _ rfl).2.trans (congrArg some r74_0)))) h2 [0, 45, 65, 66, 67, 68, 71, 72, 73, 74, 75, 76, 77, 78, 79, 80, 5, 10, 12, 15, 16, 17, 22, 23, 24, 25, 26, 27, 28, 105] (pk_cons c0 (pk_cons c45 (pk_cons c65 (pk_cons c66 (pk_cons c67 (pk_cons c68 (pk_cons c71 (pk_cons c72 (pk_cons c73 (pk_cons c74 (pk_cons c75 (pk_cons c76 (pk_cons c77 (pk_cons c78 (pk_cons c79 (pk_cons c80 (pk_cons c5 (pk_cons c10 (pk_cons c12 (pk_cons c15 (pk_cons c16 (pk_cons c17 (pk_cons c22 (pk_cons c23 (pk_cons c24 (pk_cons c25 (pk_cons c26 (pk_cons c27 (pk_cons c28 (pk_cons c105 rfl)))))))))))))))))))))))))))))) (by decide)) ?_
  rintro r w1 ⟨hp, w2, ⟨rfh2, tft2, sfA2, sfX2, sfY2, sfsp2, sfwh2, sffi2, sfse2, sfgi2, sfle2, hh, ht, hX, hY, hA, hsp, hwh, hfi, hse, hgi, hle, rfl, rfl⟩, hS⟩
  obtain ⟨A1, hA1, μ2, -, -, -, -, -, -, hW1, hF1⟩ := hp
  obtain ⟨fs0, -, u0, ul0, -, -⟩ := WT.obj hW1 (k := 0) (j := 0) rfl rfl
  obtain ⟨fs5, -, u5, ul5, -, -⟩ := WT.obj hW1 (k := 5) (j := 0) rfl rfl
  obtain ⟨p10, u10, -⟩ := WT.ints hW1 (k := 10) rfl
  obtain ⟨fs12, -, u12, ul12, -, -⟩ := WT.obj hW1 (k := 12) (j := 0) rfl rfl
  obtain ⟨p15, u15, -⟩ := WT.bools hW1 (k := 15) rfl
  obtain ⟨p16, u16, -⟩ := WT.ints hW1 (k := 16) rfl
  obtain ⟨p17, u17, -⟩ := WT.ints hW1 (k := 17) rfl
  obtain ⟨fs22, -, u22, ul22, -, -⟩ := WT.obj hW1 (k := 22) (j := 0) rfl rfl
  obtain ⟨p23, u23, -⟩ := WT.ints hW1 (k := 23) rfl
  obtain ⟨p24, u24, -⟩ := WT.bools hW1 (k := 24) rfl
  obtain ⟨p25, u25, -⟩ := WT.ints hW1 (k := 25) rfl
  obtain ⟨p26, u26, -⟩ := WT.ints hW1 (k := 26) rfl
  obtain ⟨p27, u27, -⟩ := WT.ints hW1 (k := 27) rfl
  obtain ⟨p28, u28, -⟩ := WT.ints hW1 (k := 28) rfl
  obtain ⟨fs65, -, u65, ul65, -, -⟩ := WT.obj hW1 (k := 65) (j := 0) rfl rfl
  obtain ⟨p66, u66, -⟩ := WT.ints hW1 (k := 66) rfl
  obtain ⟨p67, u67, -⟩ := WT.ints hW1 (k := 67) rfl
  obtain ⟨fs68, -, u68, ul68, -, -⟩ := WT.obj hW1 (k := 68) (j := 0) rfl rfl
  obtain ⟨p71, u71, -⟩ := WT.bools hW1 (k := 71) rfl
  obtain ⟨p72, u72, -⟩ := WT.ints hW1 (k := 72) rfl
  obtain ⟨p73, u73, -⟩ := WT.ints hW1 (k := 73) rfl
  obtain ⟨fs74, -, u74, ul74, -, -⟩ := WT.obj hW1 (k := 74) (j := 0) rfl rfl
  obtain ⟨p75, u75, -⟩ := WT.ints hW1 (k := 75) rfl
  obtain ⟨p76, u76, -⟩ := WT.bools hW1 (k := 76) rfl
  obtain ⟨p77, u77, -⟩ := WT.ints hW1 (k := 77) rfl
  obtain ⟨p78, u78, -⟩ := WT.ints hW1 (k := 78) rfl
  obtain ⟨p79, u79, -⟩ := WT.ints hW1 (k := 79) rfl
  obtain ⟨p80, u80, -⟩ := WT.ints hW1 (k := 80) rfl
  obtain ⟨p105, u105, -⟩ := WT.ints hW1 (k := 105) rfl
  exact ⟨hW1, hF1, ⟨_, rfl, rfl⟩, ⟨p10, cgetI u10 0, fun k hk => ((same_I hS (k := 10) (j := 17) u10 rfl) k hk).trans (hh k hk)⟩, ⟨p105, cgetI u105 0, fun k hk => ((same_I hS (k := 105) (j := 29) u105 rfl) k hk).trans (ht k hk)⟩⟩
set_option maxHeartbeats 4000000 in
set_option maxRecDepth 100000 in
theorem ac_gqx2 (l : Launch) (G : KG) {ad : Nat → Nat} {w0 : va_W} {fl : Int32} {zh zt : Nat → Int32} (hW : WT G ad TX w0) (efl : fget w0 84 0 = some (.int fl)) (hfl : fl.toInt ≠ 0) (ezh : cget w0 85 0 = some (.inr (cyI G, 16, .inl zh))) (ezt : cget w0 86 0 = some (.inr (cyI G, 8, .inl zt))) : Ct l G yX10_again cX10_again 2 (some .boolean) { frames := 3, cells := 0, slots := 0, locals := 68 } [.ref (ad 0), .int 2] w0 (fun r w1 => WT G ad TX w1 ∧ FRM C_k_X10_again_4.2.2.2.2.1 w0 w1 ∧ ((∃ v : Int32, r = some (.int v) ∧ v = 1) ∧ CQ G w1 10 16 zh ∧ CQ G w1 105 8 zt)) := by
  obtain ⟨g0, q0, t0⟩ := WT.tab hW (k := 0) rfl
  have r0_2 : g0 2 = .ref (ad 5) := vty2 (t0 2 _ rfl).1 rfl
  have r0_3 : g0 3 = .ref (ad 12) := vty2 (t0 3 _ rfl).1 rfl
  have r0_5 : g0 5 = .ref (ad 22) := vty2 (t0 5 _ rfl).1 rfl
  have r0_8 : g0 8 = .ref (ad 45) := vty2 (t0 8 _ rfl).1 rfl
  have r0_11 : g0 11 = .ref (ad 105) := vty2 (t0 11 _ rfl).1 rfl
  have c0 : w0[0]? = some ((ad 0), ob 10 [(g0 0), (g0 1), .ref (ad 5), .ref (ad 12), (g0 4), .ref (ad 22), (g0 6), (g0 7), .ref (ad 45), (g0 9), (g0 10), .ref (ad 105), (g0 12), (g0 13), (g0 14), (g0 15)]) := by
    rw [q0]
    show some (ad 0, ob 10 [g0 0, g0 1, g0 2, g0 3, g0 4, g0 5, g0 6, g0 7, g0 8, g0 9, g0 10, g0 11, g0 12, g0 13, g0 14, g0 15]) = _
    rw [r0_2, r0_3, r0_5, r0_8, r0_11]
  obtain ⟨f45, c45, hO45⟩ := WT.refs hW (k := 45) rfl
  obtain ⟨g84, q84, t84⟩ := WT.tab hW (k := 84) rfl
  have r84_0 : g84 0 = .int fl := Option.some.inj ((t84 0 _ rfl).2.symm.trans efl)
  have b84_0 : 0 ≤ fl.toInt ∧ fl.toInt ≤ 1 := by
    have h := (t84 0 _ rfl).1
    rw [r84_0] at h
    obtain ⟨y, e, l1, u1⟩ := vty0 h rfl
    obtain rfl := Value.int.inj e
    exact ⟨l1, u1⟩
  have r84_1 : g84 1 = .ref (ad 85) := vty2 (t84 1 _ rfl).1 rfl
  have r84_2 : g84 2 = .ref (ad 86) := vty2 (t84 2 _ rfl).1 rfl
  have r84_3 : g84 3 = .ref (ad 87) := vty2 (t84 3 _ rfl).1 rfl
  have r84_4 : g84 4 = .ref (ad 93) := vty2 (t84 4 _ rfl).1 rfl
  obtain ⟨y84_5, r84_5, -, -⟩ := vty0 (t84 5 _ rfl).1 rfl
  obtain ⟨y84_6, r84_6, -, -⟩ := vty0 (t84 6 _ rfl).1 rfl
  have c84 : w0[84]? = some ((ad 84), ob 2 [.int fl, .ref (ad 85), .ref (ad 86), .ref (ad 87), .ref (ad 93), .int y84_5, .int y84_6]) := by
    rw [q84]
    show some (ad 84, ob 2 [g84 0, g84 1, g84 2, g84 3, g84 4, g84 5, g84 6]) = _
    rw [r84_0, r84_1, r84_2, r84_3, r84_4, r84_5, r84_6]
  obtain ⟨f85, c85, -⟩ := WT.ints hW (k := 85) rfl
  have ef85 : f85 = zh := arrinj ((cgetI c85 0).symm.trans ezh)
  rw [ef85] at c85
  obtain ⟨f86, c86, -⟩ := WT.ints hW (k := 86) rfl
  have ef86 : f86 = zt := arrinj ((cgetI c86 0).symm.trans ezt)
  rw [ef86] at c86
  obtain ⟨g87, q87, t87⟩ := WT.tab hW (k := 87) rfl
  have r87_3 : g87 3 = .ref (ad 90) := vty2 (t87 3 _ rfl).1 rfl
  have r87_4 : g87 4 = .ref (ad 91) := vty2 (t87 4 _ rfl).1 rfl
  have r87_5 : g87 5 = .ref (ad 92) := vty2 (t87 5 _ rfl).1 rfl
  have c87 : w0[87]? = some ((ad 87), ob 7 [(g87 0), (g87 1), (g87 2), .ref (ad 90), .ref (ad 91), .ref (ad 92)]) := by
    rw [q87]
    show some (ad 87, ob 7 [g87 0, g87 1, g87 2, g87 3, g87 4, g87 5]) = _
    rw [r87_3, r87_4, r87_5]
  obtain ⟨f90, c90, -⟩ := WT.bools hW (k := 90) rfl
  obtain ⟨f91, c91, -⟩ := WT.ints hW (k := 91) rfl
  obtain ⟨f92, c92, -⟩ := WT.ints hW (k := 92) rfl
  obtain ⟨g93, q93, t93⟩ := WT.tab hW (k := 93) rfl
  obtain ⟨y93_0, r93_0, bl93_0, bu93_0⟩ := vty0 (t93 0 _ rfl).1 rfl
  have b93_0 : 0 ≤ y93_0.toInt ∧ y93_0.toInt ≤ 12 := ⟨bl93_0, bu93_0⟩
  have r93_1 : g93 1 = .ref (ad 94) := vty2 (t93 1 _ rfl).1 rfl
  have r93_2 : g93 2 = .ref (ad 95) := vty2 (t93 2 _ rfl).1 rfl
  have r93_3 : g93 3 = .ref (ad 96) := vty2 (t93 3 _ rfl).1 rfl
  have r93_4 : g93 4 = .ref (ad 97) := vty2 (t93 4 _ rfl).1 rfl
  have r93_5 : g93 5 = .ref (ad 98) := vty2 (t93 5 _ rfl).1 rfl
  have r93_6 : g93 6 = .ref (ad 99) := vty2 (t93 6 _ rfl).1 rfl
  have c93 : w0[93]? = some ((ad 93), ob 9 [.int y93_0, .ref (ad 94), .ref (ad 95), .ref (ad 96), .ref (ad 97), .ref (ad 98), .ref (ad 99), (g93 7), (g93 8), (g93 9)]) := by
    rw [q93]
    show some (ad 93, ob 9 [g93 0, g93 1, g93 2, g93 3, g93 4, g93 5, g93 6, g93 7, g93 8, g93 9]) = _
    rw [r93_0, r93_1, r93_2, r93_3, r93_4, r93_5, r93_6]
  obtain ⟨f94, c94, -⟩ := WT.ints hW (k := 94) rfl
  obtain ⟨f95, c95, -⟩ := WT.bools hW (k := 95) rfl
  obtain ⟨f96, c96, -⟩ := WT.ints hW (k := 96) rfl
  obtain ⟨f97, c97, -⟩ := WT.ints hW (k := 97) rfl
  obtain ⟨f98, c98, -⟩ := WT.ints hW (k := 98) rfl
  obtain ⟨f99, c99, -⟩ := WT.ints hW (k := 99) rfl
  obtain ⟨g5, q5, t5⟩ := WT.tab hW (k := 5) rfl
  have r5_5 : g5 5 = .ref (ad 10) := vty2 (t5 5 _ rfl).1 rfl
  obtain ⟨y5_7, r5_7, -, -⟩ := vty0 (t5 7 _ rfl).1 rfl
  obtain ⟨y5_8, r5_8, -, -⟩ := vty0 (t5 8 _ rfl).1 rfl
  have c5 : w0[5]? = some ((ad 5), ob 5 [(g5 0), (g5 1), (g5 2), (g5 3), (g5 4), .ref (ad 10), (g5 6), .int y5_7, .int y5_8]) := by
    rw [q5]
    show some (ad 5, ob 5 [g5 0, g5 1, g5 2, g5 3, g5 4, g5 5, g5 6, g5 7, g5 8]) = _
    rw [r5_5, r5_7, r5_8]
  obtain ⟨f10, c10, -⟩ := WT.ints hW (k := 10) rfl
  obtain ⟨g12, q12, t12⟩ := WT.tab hW (k := 12) rfl
  have r12_3 : g12 3 = .ref (ad 15) := vty2 (t12 3 _ rfl).1 rfl
  have r12_4 : g12 4 = .ref (ad 16) := vty2 (t12 4 _ rfl).1 rfl
  have r12_5 : g12 5 = .ref (ad 17) := vty2 (t12 5 _ rfl).1 rfl
  have c12 : w0[12]? = some ((ad 12), ob 7 [(g12 0), (g12 1), (g12 2), .ref (ad 15), .ref (ad 16), .ref (ad 17)]) := by
    rw [q12]
    show some (ad 12, ob 7 [g12 0, g12 1, g12 2, g12 3, g12 4, g12 5]) = _
    rw [r12_3, r12_4, r12_5]
  obtain ⟨f15, c15, -⟩ := WT.bools hW (k := 15) rfl
  obtain ⟨f16, c16, -⟩ := WT.ints hW (k := 16) rfl
  obtain ⟨f17, c17, -⟩ := WT.ints hW (k := 17) rfl
  obtain ⟨g22, q22, t22⟩ := WT.tab hW (k := 22) rfl
  obtain ⟨y22_0, r22_0, bl22_0, bu22_0⟩ := vty0 (t22 0 _ rfl).1 rfl
  have b22_0 : 0 ≤ y22_0.toInt ∧ y22_0.toInt ≤ 12 := ⟨bl22_0, bu22_0⟩
  have r22_1 : g22 1 = .ref (ad 23) := vty2 (t22 1 _ rfl).1 rfl
  have r22_2 : g22 2 = .ref (ad 24) := vty2 (t22 2 _ rfl).1 rfl
  have r22_3 : g22 3 = .ref (ad 25) := vty2 (t22 3 _ rfl).1 rfl
  have r22_4 : g22 4 = .ref (ad 26) := vty2 (t22 4 _ rfl).1 rfl
  have r22_5 : g22 5 = .ref (ad 27) := vty2 (t22 5 _ rfl).1 rfl
  have r22_6 : g22 6 = .ref (ad 28) := vty2 (t22 6 _ rfl).1 rfl
  have c22 : w0[22]? = some ((ad 22), ob 9 [.int y22_0, .ref (ad 23), .ref (ad 24), .ref (ad 25), .ref (ad 26), .ref (ad 27), .ref (ad 28), (g22 7), (g22 8), (g22 9)]) := by
    rw [q22]
    show some (ad 22, ob 9 [g22 0, g22 1, g22 2, g22 3, g22 4, g22 5, g22 6, g22 7, g22 8, g22 9]) = _
    rw [r22_0, r22_1, r22_2, r22_3, r22_4, r22_5, r22_6]
  obtain ⟨f23, c23, -⟩ := WT.ints hW (k := 23) rfl
  obtain ⟨f24, c24, -⟩ := WT.bools hW (k := 24) rfl
  obtain ⟨f25, c25, -⟩ := WT.ints hW (k := 25) rfl
  obtain ⟨f26, c26, -⟩ := WT.ints hW (k := 26) rfl
  obtain ⟨f27, c27, -⟩ := WT.ints hW (k := 27) rfl
  obtain ⟨f28, c28, -⟩ := WT.ints hW (k := 28) rfl
  obtain ⟨f105, c105, -⟩ := WT.ints hW (k := 105) rfl
  have h2 := cx_X10_again2 l G (ad 0) (g0 0) (g0 1) (g0 4) (g0 6) (g0 7) (g0 9) (g0 10) (g0 12) (g0 13) (g0 14) (g0 15) (ad 45) f45 (ad 84) fl (ad 85) (ad 86) y84_5 y84_6 (ad 87) (g87 0) (g87 1) (g87 2) (ad 90) (ad 91) (ad 92) (ad 93) y93_0 (ad 94) (ad 95) (ad 96) (ad 97) (ad 98) (ad 99) (g93 7) (g93 8) (g93 9) (ad 5) (g5 0) (g5 1) (g5 2) (g5 3) (g5 4) (ad 10) (g5 6) y5_7 y5_8 (ad 12) (g12 0) (g12 1) (g12 2) (ad 15) (ad 16) (ad 17) (ad 22) y22_0 (ad 23) (ad 24) (ad 25) (ad 26) (ad 27) (ad 28) (g22 7) (g22 8) (g22 9) (ad 105) zh zt f90 f91 f92 f94 f95 f96 f97 f98 f99 f10 f15 f16 f17 f23 f24 f25 f26 f27 f28 f105  (by show va_rf (f45 2) = _; rw [hO45 2 (by decide)]; rfl) hfl
  refine Ct.weak (Ct.and (show Ct l G yX10_again cX10_again 2 (some .boolean) { frames := 3, cells := 0, slots := 0, locals := 68 } [.ref (ad 0), .int 2] w0 (fun r w1 => POST G ad TX C_k_X10_again_4 (muF (ad 0) [.int 2] [.int fl, .int y93_0]) w0 r w1) from ac_k_X10_again_4 l G ad w0 _ hW (pre_F2 (C := C_k_X10_again_4) (ts := [(0, 2, 2)]) (As := [.int 2]) (t0 := (0, 1, 1)) (t1 := (0, 0, 12)) rfl rfl (Nat.le_of_ble_eq_true rfl) ⟨fun _ => vty_i (by decide) (by decide), trivial⟩ (fun _ => vty_i (by omega) (by omega)) (fun _ => vty_i b93_0.1 b93_0.2) (fun _ h => absurd h List.not_mem_nil) ad w0 rfl efl ((t93 0 _ rfl).2.trans (congrArg some r93_0)))) h2 [0, 45, 84, 85, 86, 87, 90, 91, 92, 93, 94, 95, 96, 97, 98, 99, 5, 10, 12, 15, 16, 17, 22, 23, 24, 25, 26, 27, 28, 105] (pk_cons c0 (pk_cons c45 (pk_cons c84 (pk_cons c85 (pk_cons c86 (pk_cons c87 (pk_cons c90 (pk_cons c91 (pk_cons c92 (pk_cons c93 (pk_cons c94 (pk_cons c95 (pk_cons c96 (pk_cons c97 (pk_cons c98 (pk_cons c99 (pk_cons c5 (pk_cons c10 (pk_cons c12 (pk_cons c15 (pk_cons c16 (pk_cons c17 (pk_cons c22 (pk_cons c23 (pk_cons c24 (pk_cons c25 (pk_cons c26 (pk_cons c27 (pk_cons c28 (pk_cons c105 rfl)))))))))))))))))))))))))))))) (by decide)) ?_
  rintro r w1 ⟨hp, w2, ⟨rfh2, tft2, sfA2, sfX2, sfY2, sfsp2, sfwh2, sffi2, sfse2, sfgi2, sfle2, hh, ht, hX, hY, hA, hsp, hwh, hfi, hse, hgi, hle, rfl, rfl⟩, hS⟩
  obtain ⟨A1, hA1, μ2, -, -, -, -, -, -, hW1, hF1⟩ := hp
  obtain ⟨fs0, -, u0, ul0, -, -⟩ := WT.obj hW1 (k := 0) (j := 0) rfl rfl
  obtain ⟨fs5, -, u5, ul5, -, -⟩ := WT.obj hW1 (k := 5) (j := 0) rfl rfl
  obtain ⟨p10, u10, -⟩ := WT.ints hW1 (k := 10) rfl
  obtain ⟨fs12, -, u12, ul12, -, -⟩ := WT.obj hW1 (k := 12) (j := 0) rfl rfl
  obtain ⟨p15, u15, -⟩ := WT.bools hW1 (k := 15) rfl
  obtain ⟨p16, u16, -⟩ := WT.ints hW1 (k := 16) rfl
  obtain ⟨p17, u17, -⟩ := WT.ints hW1 (k := 17) rfl
  obtain ⟨fs22, -, u22, ul22, -, -⟩ := WT.obj hW1 (k := 22) (j := 0) rfl rfl
  obtain ⟨p23, u23, -⟩ := WT.ints hW1 (k := 23) rfl
  obtain ⟨p24, u24, -⟩ := WT.bools hW1 (k := 24) rfl
  obtain ⟨p25, u25, -⟩ := WT.ints hW1 (k := 25) rfl
  obtain ⟨p26, u26, -⟩ := WT.ints hW1 (k := 26) rfl
  obtain ⟨p27, u27, -⟩ := WT.ints hW1 (k := 27) rfl
  obtain ⟨p28, u28, -⟩ := WT.ints hW1 (k := 28) rfl
  obtain ⟨fs84, -, u84, ul84, -, -⟩ := WT.obj hW1 (k := 84) (j := 0) rfl rfl
  obtain ⟨p85, u85, -⟩ := WT.ints hW1 (k := 85) rfl
  obtain ⟨p86, u86, -⟩ := WT.ints hW1 (k := 86) rfl
  obtain ⟨fs87, -, u87, ul87, -, -⟩ := WT.obj hW1 (k := 87) (j := 0) rfl rfl
  obtain ⟨p90, u90, -⟩ := WT.bools hW1 (k := 90) rfl
  obtain ⟨p91, u91, -⟩ := WT.ints hW1 (k := 91) rfl
  obtain ⟨p92, u92, -⟩ := WT.ints hW1 (k := 92) rfl
  obtain ⟨fs93, -, u93, ul93, -, -⟩ := WT.obj hW1 (k := 93) (j := 0) rfl rfl
  obtain ⟨p94, u94, -⟩ := WT.ints hW1 (k := 94) rfl
  obtain ⟨p95, u95, -⟩ := WT.bools hW1 (k := 95) rfl
  obtain ⟨p96, u96, -⟩ := WT.ints hW1 (k := 96) rfl
  obtain ⟨p97, u97, -⟩ := WT.ints hW1 (k := 97) rfl
  obtain ⟨p98, u98, -⟩ := WT.ints hW1 (k := 98) rfl
  obtain ⟨p99, u99, -⟩ := WT.ints hW1 (k := 99) rfl
  obtain ⟨p105, u105, -⟩ := WT.ints hW1 (k := 105) rfl
  exact ⟨hW1, hF1, ⟨_, rfl, rfl⟩, ⟨p10, cgetI u10 0, fun k hk => ((same_I hS (k := 10) (j := 17) u10 rfl) k hk).trans (hh k hk)⟩, ⟨p105, cgetI u105 0, fun k hk => ((same_I hS (k := 105) (j := 29) u105 rfl) k hk).trans (ht k hk)⟩⟩
theorem same_Z {G : KG} {w1 w2 : va_W} (h : Same2 G w1 w2) {k j a n : Nat} {f g : Nat → Int32} (h1 : w1[k]? = some (a, aZ G n f)) (h2 : w2[j]? = some (a, aZ G n g)) : ∀ i, i < n → f i = g i := by
  obtain ⟨H, p1, p2⟩ := same_at h h1 h2
  have p1 : H[a]? = some (arrV (cyZ G) n (fun j => .int (f j))) := p1
  have p2 : H[a]? = some (arrV (cyZ G) n (fun j => .int (g j))) := p2
  rw [p1] at p2
  have e := congrArg Cell.slots (Option.some.inj p2)
  intro i hi
  have e2 : (Array.ofFn (n := n) fun j => Value.int (f j.val))[i]? = (Array.ofFn (n := n) fun j => Value.int (g j.val))[i]? := congrArg (fun q : Array Value => q[i]?) e
  rw [Array.getElem?_ofFn, Array.getElem?_ofFn, dif_pos hi, dif_pos hi] at e2
  exact Value.int.inj (Option.some.inj e2)
/-- what lies under a number after keep: HAS, THOUGHT -/
def KpQ (G : KG) (i : Nat) (h : Int) (b kk u X Y : Nat → Int32) (r : Option Value) (w1 : va_W) : Prop := r = some (.int 1) ∧ (∃ q : Nat → Int32, cget w1 45 0 = some (.inr (cyZ G, 3, .inl q)) ∧ ∀ j : Nat, j < 3 → q j = if j = i then 1 else b j) ∧ ∃ q : Nat → Int32, cget w1 46 0 = some (.inr (cyI G, 462, .inl q)) ∧ (∀ m : Nat, m < 16 → q (154 * i + 2 + m) = (if (m : Int) < h then u m else 0)) ∧ (∀ m : Nat, m < 4 → q (154 * i + 18 + 2 * m) = X m ∧ q (154 * i + 19 + 2 * m) = Y m) ∧ ∀ j : Nat, j < 462 → (j < 154 * i ∨ 154 * i + 153 ≤ j) → q j = kk j
set_option maxHeartbeats 4000000 in
set_option maxRecDepth 100000 in
theorem ac_kqm0 (l : Launch) (G : KG) {ad : Nat → Nat} {w0 : va_W} {h a : Int32} {b kk zu zX zY : Nat → Int32} (hW : WT G ad TM w0) (ha : a.toInt = 0) (eh : fget w0 0 3 = some (.int h)) (eb : cget w0 45 0 = some (.inr (cyZ G, 3, .inl b))) (ek : cget w0 46 0 = some (.inr (cyI G, 462, .inl kk))) (eu : cget w0 6 0 = some (.inr (cyI G, 16, .inl zu))) (eX : cget w0 18 0 = some (.inr (cyI G, 4, .inl zX))) (eY : cget w0 19 0 = some (.inr (cyI G, 4, .inl zY))) : Ct l G yX11_keep cX11_keep 4 (some .boolean) { frames := 1, cells := 0, slots := 0, locals := 25 } [.ref (ad 0), .int a] w0 (fun r w1 => WT G ad TM w1 ∧ FRM C_X11_keep_1.2.2.2.2.1 w0 w1 ∧ KpQ G 0 h.toInt b kk zu zX zY r w1) := by
  obtain ⟨g0, q0, t0⟩ := WT.tab hW (k := 0) rfl
  obtain ⟨y0_0, r0_0, -, -⟩ := vty0 (t0 0 _ rfl).1 rfl
  have r0_3 : g0 3 = .int h := Option.some.inj ((t0 3 _ rfl).2.symm.trans eh)
  have b0_3 : 0 ≤ h.toInt ∧ h.toInt ≤ 16 := by
    have h := (t0 3 _ rfl).1
    rw [r0_3] at h
    obtain ⟨y, e, l1, u1⟩ := vty0 h rfl
    obtain rfl := Value.int.inj e
    exact ⟨l1, u1⟩
  have r0_4 : g0 4 = .ref (ad 2) := vty2 (t0 4 _ rfl).1 rfl
  have r0_5 : g0 5 = .ref (ad 3) := vty2 (t0 5 _ rfl).1 rfl
  have r0_6 : g0 6 = .ref (ad 4) := vty2 (t0 6 _ rfl).1 rfl
  have r0_7 : g0 7 = .ref (ad 5) := vty2 (t0 7 _ rfl).1 rfl
  have r0_8 : g0 8 = .ref (ad 6) := vty2 (t0 8 _ rfl).1 rfl
  have r0_9 : g0 9 = .ref (ad 7) := vty2 (t0 9 _ rfl).1 rfl
  obtain ⟨y0_10, r0_10, bl0_10, bu0_10⟩ := vty0 (t0 10 _ rfl).1 rfl
  have b0_10 : 0 ≤ y0_10.toInt ∧ y0_10.toInt ≤ 6 := ⟨bl0_10, bu0_10⟩
  have r0_11 : g0 11 = .ref (ad 8) := vty2 (t0 11 _ rfl).1 rfl
  have r0_12 : g0 12 = .ref (ad 9) := vty2 (t0 12 _ rfl).1 rfl
  have r0_13 : g0 13 = .ref (ad 10) := vty2 (t0 13 _ rfl).1 rfl
  have r0_14 : g0 14 = .ref (ad 11) := vty2 (t0 14 _ rfl).1 rfl
  have r0_15 : g0 15 = .ref (ad 12) := vty2 (t0 15 _ rfl).1 rfl
  obtain ⟨y0_16, r0_16, -, -⟩ := vty0 (t0 16 _ rfl).1 rfl
  have r0_17 : g0 17 = .ref (ad 13) := vty2 (t0 17 _ rfl).1 rfl
  have r0_18 : g0 18 = .ref (ad 14) := vty2 (t0 18 _ rfl).1 rfl
  obtain ⟨y0_19, r0_19, -, -⟩ := vty0 (t0 19 _ rfl).1 rfl
  obtain ⟨y0_20, r0_20, -, -⟩ := vty0 (t0 20 _ rfl).1 rfl
  obtain ⟨y0_21, r0_21, -, -⟩ := vty0 (t0 21 _ rfl).1 rfl
  obtain ⟨y0_22, r0_22, -, -⟩ := vty0 (t0 22 _ rfl).1 rfl
  have r0_26 : g0 26 = .ref (ad 18) := vty2 (t0 26 _ rfl).1 rfl
  have r0_27 : g0 27 = .ref (ad 19) := vty2 (t0 27 _ rfl).1 rfl
  obtain ⟨y0_28, r0_28, -, -⟩ := vty0 (t0 28 _ rfl).1 rfl
  obtain ⟨y0_29, r0_29, -, -⟩ := vty0 (t0 29 _ rfl).1 rfl
  obtain ⟨y0_31, r0_31, -, -⟩ := vty0 (t0 31 _ rfl).1 rfl
  have r0_32 : g0 32 = .ref (ad 21) := vty2 (t0 32 _ rfl).1 rfl
  have r0_33 : g0 33 = .ref (ad 22) := vty2 (t0 33 _ rfl).1 rfl
  have r0_34 : g0 34 = .ref (ad 23) := vty2 (t0 34 _ rfl).1 rfl
  have r0_35 : g0 35 = .ref (ad 24) := vty2 (t0 35 _ rfl).1 rfl
  have r0_36 : g0 36 = .ref (ad 25) := vty2 (t0 36 _ rfl).1 rfl
  have r0_37 : g0 37 = .ref (ad 26) := vty2 (t0 37 _ rfl).1 rfl
  have r0_72 : g0 72 = .ref (ad 45) := vty2 (t0 72 _ rfl).1 rfl
  have r0_73 : g0 73 = .ref (ad 46) := vty2 (t0 73 _ rfl).1 rfl
  obtain ⟨y0_74, r0_74, -, -⟩ := vty0 (t0 74 _ rfl).1 rfl
  have c0 : w0[0]? = some ((ad 0), ob 11 [.int y0_0, (g0 1), (g0 2), .int h, .ref (ad 2), .ref (ad 3), .ref (ad 4), .ref (ad 5), .ref (ad 6), .ref (ad 7), .int y0_10, .ref (ad 8), .ref (ad 9), .ref (ad 10), .ref (ad 11), .ref (ad 12), .int y0_16, .ref (ad 13), .ref (ad 14), .int y0_19, .int y0_20, .int y0_21, .int y0_22, (g0 23), (g0 24), (g0 25), .ref (ad 18), .ref (ad 19), .int y0_28, .int y0_29, (g0 30), .int y0_31, .ref (ad 21), .ref (ad 22), .ref (ad 23), .ref (ad 24), .ref (ad 25), .ref (ad 26), (g0 38), (g0 39), (g0 40), (g0 41), (g0 42), (g0 43), (g0 44), (g0 45), (g0 46), (g0 47), (g0 48), (g0 49), (g0 50), (g0 51), (g0 52), (g0 53), (g0 54), (g0 55), (g0 56), (g0 57), (g0 58), (g0 59), (g0 60), (g0 61), (g0 62), (g0 63), (g0 64), (g0 65), (g0 66), (g0 67), (g0 68), (g0 69), (g0 70), (g0 71), .ref (ad 45), .ref (ad 46), .int y0_74]) := by
    rw [q0]
    show some (ad 0, ob 11 [g0 0, g0 1, g0 2, g0 3, g0 4, g0 5, g0 6, g0 7, g0 8, g0 9, g0 10, g0 11, g0 12, g0 13, g0 14, g0 15, g0 16, g0 17, g0 18, g0 19, g0 20, g0 21, g0 22, g0 23, g0 24, g0 25, g0 26, g0 27, g0 28, g0 29, g0 30, g0 31, g0 32, g0 33, g0 34, g0 35, g0 36, g0 37, g0 38, g0 39, g0 40, g0 41, g0 42, g0 43, g0 44, g0 45, g0 46, g0 47, g0 48, g0 49, g0 50, g0 51, g0 52, g0 53, g0 54, g0 55, g0 56, g0 57, g0 58, g0 59, g0 60, g0 61, g0 62, g0 63, g0 64, g0 65, g0 66, g0 67, g0 68, g0 69, g0 70, g0 71, g0 72, g0 73, g0 74]) = _
    rw [r0_0, r0_3, r0_4, r0_5, r0_6, r0_7, r0_8, r0_9, r0_10, r0_11, r0_12, r0_13, r0_14, r0_15, r0_16, r0_17, r0_18, r0_19, r0_20, r0_21, r0_22, r0_26, r0_27, r0_28, r0_29, r0_31, r0_32, r0_33, r0_34, r0_35, r0_36, r0_37, r0_72, r0_73, r0_74]
  obtain ⟨f46, c46, -⟩ := WT.ints hW (k := 46) rfl
  have ef46 : f46 = kk := arrinj ((cgetI c46 0).symm.trans ek)
  rw [ef46] at c46
  obtain ⟨f45, c45, -⟩ := WT.bools hW (k := 45) rfl
  have ef45 : f45 = b := arrinj ((cgetZ c45 0).symm.trans eb)
  rw [ef45] at c45
  obtain ⟨f6, c6, -⟩ := WT.ints hW (k := 6) rfl
  have ef6 : f6 = zu := arrinj ((cgetI c6 0).symm.trans eu)
  rw [ef6] at c6
  obtain ⟨f18, c18, -⟩ := WT.ints hW (k := 18) rfl
  have ef18 : f18 = zX := arrinj ((cgetI c18 0).symm.trans eX)
  rw [ef18] at c18
  obtain ⟨f19, c19, -⟩ := WT.ints hW (k := 19) rfl
  have ef19 : f19 = zY := arrinj ((cgetI c19 0).symm.trans eY)
  rw [ef19] at c19
  obtain ⟨f10, c10, -⟩ := WT.bools hW (k := 10) rfl
  obtain ⟨f11, c11, -⟩ := WT.ints hW (k := 11) rfl
  obtain ⟨f12, c12, -⟩ := WT.ints hW (k := 12) rfl
  obtain ⟨f21, c21, -⟩ := WT.ints hW (k := 21) rfl
  obtain ⟨f22, c22, -⟩ := WT.bools hW (k := 22) rfl
  obtain ⟨f23, c23, -⟩ := WT.ints hW (k := 23) rfl
  obtain ⟨f24, c24, -⟩ := WT.ints hW (k := 24) rfl
  obtain ⟨f25, c25, -⟩ := WT.ints hW (k := 25) rfl
  obtain ⟨f26, c26, -⟩ := WT.ints hW (k := 26) rfl
  have h2 := ce_X11_keep l G (ad 0) y0_0 (g0 1) (g0 2) h (ad 2) (ad 3) (ad 4) (ad 5) (ad 6) (ad 7) y0_10 (ad 8) (ad 9) (ad 10) (ad 11) (ad 12) y0_16 (ad 13) (ad 14) y0_19 y0_20 y0_21 y0_22 (g0 23) (g0 24) (g0 25) (ad 18) (ad 19) y0_28 y0_29 (g0 30) y0_31 (ad 21) (ad 22) (ad 23) (ad 24) (ad 25) (ad 26) (g0 38) (g0 39) (g0 40) (g0 41) (g0 42) (g0 43) (g0 44) (g0 45) (g0 46) (g0 47) (g0 48) (g0 49) (g0 50) (g0 51) (g0 52) (g0 53) (g0 54) (g0 55) (g0 56) (g0 57) (g0 58) (g0 59) (g0 60) (g0 61) (g0 62) (g0 63) (g0 64) (g0 65) (g0 66) (g0 67) (g0 68) (g0 69) (g0 70) (g0 71) (ad 45) (ad 46) y0_74 kk b zu zX zY f10 f11 f12 f21 f22 f23 f24 f25 f26 a a.toInt h.toInt y0_10.toInt rfl rfl rfl (by omega) (by omega)
  refine Ct.weak (Ct.and (show Ct l G yX11_keep cX11_keep 4 (some .boolean) { frames := 1, cells := 0, slots := 0, locals := 25 } [.ref (ad 0), .int a] w0 (fun r w1 => POST G ad TM C_X11_keep_1 (fun k => ((Value.ref (ad 0) :: [.int a])[k]?).getD .null) w0 r w1) from ac_X11_keep_1 l G ad w0 _ hW (pre_mu (C := C_X11_keep_1) (ts := [(0, 0, 0)]) (As := [.int a]) rfl rfl rfl rfl ⟨fun _ => vty_i (by omega) (by omega), trivial⟩ ad w0 rfl)) h2 [0, 46, 45, 6, 18, 19, 10, 11, 12, 21, 22, 23, 24, 25, 26] (pk_cons c0 (pk_cons c46 (pk_cons c45 (pk_cons c6 (pk_cons c18 (pk_cons c19 (pk_cons c10 (pk_cons c11 (pk_cons c12 (pk_cons c21 (pk_cons c22 (pk_cons c23 (pk_cons c24 (pk_cons c25 (pk_cons c26 rfl))))))))))))))) (by decide)) ?_
  rintro r w1 ⟨hp, w2, ⟨k2, fk2, hE, rfl, rfl⟩, hS⟩
  obtain ⟨A1, hA1, μ2, -, -, -, -, -, -, hW1, hF1⟩ := hp
  obtain ⟨fs0, -, u0, ul0, -, -⟩ := WT.obj hW1 (k := 0) (j := 0) rfl rfl
  obtain ⟨p6, u6, -⟩ := WT.ints hW1 (k := 6) rfl
  obtain ⟨p10, u10, -⟩ := WT.bools hW1 (k := 10) rfl
  obtain ⟨p11, u11, -⟩ := WT.ints hW1 (k := 11) rfl
  obtain ⟨p12, u12, -⟩ := WT.ints hW1 (k := 12) rfl
  obtain ⟨p18, u18, -⟩ := WT.ints hW1 (k := 18) rfl
  obtain ⟨p19, u19, -⟩ := WT.ints hW1 (k := 19) rfl
  obtain ⟨p21, u21, -⟩ := WT.ints hW1 (k := 21) rfl
  obtain ⟨p22, u22, -⟩ := WT.bools hW1 (k := 22) rfl
  obtain ⟨p23, u23, -⟩ := WT.ints hW1 (k := 23) rfl
  obtain ⟨p24, u24, -⟩ := WT.ints hW1 (k := 24) rfl
  obtain ⟨p25, u25, -⟩ := WT.ints hW1 (k := 25) rfl
  obtain ⟨p26, u26, -⟩ := WT.ints hW1 (k := 26) rfl
  obtain ⟨p45, u45, -⟩ := WT.bools hW1 (k := 45) rfl
  obtain ⟨p46, u46, -⟩ := WT.ints hW1 (k := 46) rfl
  exact ⟨hW1, hF1, rfl, ⟨p45, cgetZ u45 0, fun j hj => ((same_Z hS (k := 45) (j := 2) u45 rfl) j hj).trans (by unfold upd; by_cases ej : j = 0; (rw [if_pos ej, if_pos (show j = a.toNatClampNeg from (show j = a.toInt.toNat by omega))]; try rfl); (rw [if_neg ej, if_neg (show ¬ j = a.toNatClampNeg from (show ¬ j = a.toInt.toNat by omega))]))⟩, p46, cgetI u46 0, fun m hm => ((same_I hS (k := 46) (j := 1) u46 rfl) _ (by omega)).trans (by rw [hE, if_pos (by omega), show (154 * 0 + 2 + m) - (154 * a.toInt).toNat = 2 + m by omega, enc_oz _ hm]), fun m hm => ⟨((same_I hS (k := 46) (j := 1) u46 rfl) _ (by omega)).trans (by rw [hE, if_pos (by omega), show (154 * 0 + 18 + 2 * m) - (154 * a.toInt).toNat = 18 + 2 * m by omega, enc_tx _ hm]), ((same_I hS (k := 46) (j := 1) u46 rfl) _ (by omega)).trans (by rw [hE, if_pos (by omega), show (154 * 0 + 19 + 2 * m) - (154 * a.toInt).toNat = 18 + 2 * m + 1 by omega, enc_ty _ hm])⟩, fun j hj hq => ((same_I hS (k := 46) (j := 1) u46 rfl) j hj).trans (by rw [hE, if_neg (by omega)])⟩
set_option maxHeartbeats 4000000 in
set_option maxRecDepth 100000 in
theorem ac_gqm0 (l : Launch) (G : KG) {ad : Nat → Nat} {w0 : va_W} {h a : Int32} {b kk zu zX zY : Nat → Int32} (hW : WT G ad TM w0) (ha : a.toInt = 0) (eh : fget w0 0 3 = some (.int h)) (eb : cget w0 45 0 = some (.inr (cyZ G, 3, .inl b))) (ek : cget w0 46 0 = some (.inr (cyI G, 462, .inl kk))) (eu : cget w0 6 0 = some (.inr (cyI G, 16, .inl zu))) (eX : cget w0 18 0 = some (.inr (cyI G, 4, .inl zX))) (eY : cget w0 19 0 = some (.inr (cyI G, 4, .inl zY))) (hb : (b a.toNatClampNeg).toInt ≠ 0) : Ct l G yX11_again cX11_again 4 (some .boolean) { frames := 1, cells := 0, slots := 0, locals := 25 } [.ref (ad 0), .int a] w0 (fun r w1 => WT G ad TM w1 ∧ FRM C_X11_again_1.2.2.2.2.1 w0 w1 ∧ (r = some (.int 1) ∧ CQ G w1 6 16 (fun m => kk (154 * 0 + 2 + m)) ∧ CQ G w1 18 4 (fun m => kk (154 * 0 + 18 + 2 * m)) ∧ CQ G w1 19 4 (fun m => kk (154 * 0 + 19 + 2 * m)))) := by
  obtain ⟨g0, q0, t0⟩ := WT.tab hW (k := 0) rfl
  obtain ⟨y0_0, r0_0, -, -⟩ := vty0 (t0 0 _ rfl).1 rfl
  have r0_3 : g0 3 = .int h := Option.some.inj ((t0 3 _ rfl).2.symm.trans eh)
  have b0_3 : 0 ≤ h.toInt ∧ h.toInt ≤ 16 := by
    have h := (t0 3 _ rfl).1
    rw [r0_3] at h
    obtain ⟨y, e, l1, u1⟩ := vty0 h rfl
    obtain rfl := Value.int.inj e
    exact ⟨l1, u1⟩
  have r0_4 : g0 4 = .ref (ad 2) := vty2 (t0 4 _ rfl).1 rfl
  have r0_5 : g0 5 = .ref (ad 3) := vty2 (t0 5 _ rfl).1 rfl
  have r0_6 : g0 6 = .ref (ad 4) := vty2 (t0 6 _ rfl).1 rfl
  have r0_7 : g0 7 = .ref (ad 5) := vty2 (t0 7 _ rfl).1 rfl
  have r0_8 : g0 8 = .ref (ad 6) := vty2 (t0 8 _ rfl).1 rfl
  have r0_9 : g0 9 = .ref (ad 7) := vty2 (t0 9 _ rfl).1 rfl
  obtain ⟨y0_10, r0_10, bl0_10, bu0_10⟩ := vty0 (t0 10 _ rfl).1 rfl
  have b0_10 : 0 ≤ y0_10.toInt ∧ y0_10.toInt ≤ 6 := ⟨bl0_10, bu0_10⟩
  have r0_11 : g0 11 = .ref (ad 8) := vty2 (t0 11 _ rfl).1 rfl
  have r0_12 : g0 12 = .ref (ad 9) := vty2 (t0 12 _ rfl).1 rfl
  have r0_13 : g0 13 = .ref (ad 10) := vty2 (t0 13 _ rfl).1 rfl
  have r0_14 : g0 14 = .ref (ad 11) := vty2 (t0 14 _ rfl).1 rfl
  have r0_15 : g0 15 = .ref (ad 12) := vty2 (t0 15 _ rfl).1 rfl
  obtain ⟨y0_16, r0_16, -, -⟩ := vty0 (t0 16 _ rfl).1 rfl
  have r0_17 : g0 17 = .ref (ad 13) := vty2 (t0 17 _ rfl).1 rfl
  have r0_18 : g0 18 = .ref (ad 14) := vty2 (t0 18 _ rfl).1 rfl
  obtain ⟨y0_19, r0_19, -, -⟩ := vty0 (t0 19 _ rfl).1 rfl
  obtain ⟨y0_20, r0_20, -, -⟩ := vty0 (t0 20 _ rfl).1 rfl
  obtain ⟨y0_21, r0_21, -, -⟩ := vty0 (t0 21 _ rfl).1 rfl
  obtain ⟨y0_22, r0_22, -, -⟩ := vty0 (t0 22 _ rfl).1 rfl
  have r0_26 : g0 26 = .ref (ad 18) := vty2 (t0 26 _ rfl).1 rfl
  have r0_27 : g0 27 = .ref (ad 19) := vty2 (t0 27 _ rfl).1 rfl
  obtain ⟨y0_28, r0_28, -, -⟩ := vty0 (t0 28 _ rfl).1 rfl
  obtain ⟨y0_29, r0_29, -, -⟩ := vty0 (t0 29 _ rfl).1 rfl
  obtain ⟨y0_31, r0_31, -, -⟩ := vty0 (t0 31 _ rfl).1 rfl
  have r0_32 : g0 32 = .ref (ad 21) := vty2 (t0 32 _ rfl).1 rfl
  have r0_33 : g0 33 = .ref (ad 22) := vty2 (t0 33 _ rfl).1 rfl
  have r0_34 : g0 34 = .ref (ad 23) := vty2 (t0 34 _ rfl).1 rfl
  have r0_35 : g0 35 = .ref (ad 24) := vty2 (t0 35 _ rfl).1 rfl
  have r0_36 : g0 36 = .ref (ad 25) := vty2 (t0 36 _ rfl).1 rfl
  have r0_37 : g0 37 = .ref (ad 26) := vty2 (t0 37 _ rfl).1 rfl
  have r0_72 : g0 72 = .ref (ad 45) := vty2 (t0 72 _ rfl).1 rfl
  have r0_73 : g0 73 = .ref (ad 46) := vty2 (t0 73 _ rfl).1 rfl
  obtain ⟨y0_74, r0_74, -, -⟩ := vty0 (t0 74 _ rfl).1 rfl
  have c0 : w0[0]? = some ((ad 0), ob 11 [.int y0_0, (g0 1), (g0 2), .int h, .ref (ad 2), .ref (ad 3), .ref (ad 4), .ref (ad 5), .ref (ad 6), .ref (ad 7), .int y0_10, .ref (ad 8), .ref (ad 9), .ref (ad 10), .ref (ad 11), .ref (ad 12), .int y0_16, .ref (ad 13), .ref (ad 14), .int y0_19, .int y0_20, .int y0_21, .int y0_22, (g0 23), (g0 24), (g0 25), .ref (ad 18), .ref (ad 19), .int y0_28, .int y0_29, (g0 30), .int y0_31, .ref (ad 21), .ref (ad 22), .ref (ad 23), .ref (ad 24), .ref (ad 25), .ref (ad 26), (g0 38), (g0 39), (g0 40), (g0 41), (g0 42), (g0 43), (g0 44), (g0 45), (g0 46), (g0 47), (g0 48), (g0 49), (g0 50), (g0 51), (g0 52), (g0 53), (g0 54), (g0 55), (g0 56), (g0 57), (g0 58), (g0 59), (g0 60), (g0 61), (g0 62), (g0 63), (g0 64), (g0 65), (g0 66), (g0 67), (g0 68), (g0 69), (g0 70), (g0 71), .ref (ad 45), .ref (ad 46), .int y0_74]) := by
    rw [q0]
    show some (ad 0, ob 11 [g0 0, g0 1, g0 2, g0 3, g0 4, g0 5, g0 6, g0 7, g0 8, g0 9, g0 10, g0 11, g0 12, g0 13, g0 14, g0 15, g0 16, g0 17, g0 18, g0 19, g0 20, g0 21, g0 22, g0 23, g0 24, g0 25, g0 26, g0 27, g0 28, g0 29, g0 30, g0 31, g0 32, g0 33, g0 34, g0 35, g0 36, g0 37, g0 38, g0 39, g0 40, g0 41, g0 42, g0 43, g0 44, g0 45, g0 46, g0 47, g0 48, g0 49, g0 50, g0 51, g0 52, g0 53, g0 54, g0 55, g0 56, g0 57, g0 58, g0 59, g0 60, g0 61, g0 62, g0 63, g0 64, g0 65, g0 66, g0 67, g0 68, g0 69, g0 70, g0 71, g0 72, g0 73, g0 74]) = _
    rw [r0_0, r0_3, r0_4, r0_5, r0_6, r0_7, r0_8, r0_9, r0_10, r0_11, r0_12, r0_13, r0_14, r0_15, r0_16, r0_17, r0_18, r0_19, r0_20, r0_21, r0_22, r0_26, r0_27, r0_28, r0_29, r0_31, r0_32, r0_33, r0_34, r0_35, r0_36, r0_37, r0_72, r0_73, r0_74]
  obtain ⟨f46, c46, -⟩ := WT.ints hW (k := 46) rfl
  have ef46 : f46 = kk := arrinj ((cgetI c46 0).symm.trans ek)
  rw [ef46] at c46
  obtain ⟨f45, c45, -⟩ := WT.bools hW (k := 45) rfl
  have ef45 : f45 = b := arrinj ((cgetZ c45 0).symm.trans eb)
  rw [ef45] at c45
  obtain ⟨f6, c6, -⟩ := WT.ints hW (k := 6) rfl
  have ef6 : f6 = zu := arrinj ((cgetI c6 0).symm.trans eu)
  rw [ef6] at c6
  obtain ⟨f18, c18, -⟩ := WT.ints hW (k := 18) rfl
  have ef18 : f18 = zX := arrinj ((cgetI c18 0).symm.trans eX)
  rw [ef18] at c18
  obtain ⟨f19, c19, -⟩ := WT.ints hW (k := 19) rfl
  have ef19 : f19 = zY := arrinj ((cgetI c19 0).symm.trans eY)
  rw [ef19] at c19
  obtain ⟨f10, c10, -⟩ := WT.bools hW (k := 10) rfl
  obtain ⟨f11, c11, -⟩ := WT.ints hW (k := 11) rfl
  obtain ⟨f12, c12, -⟩ := WT.ints hW (k := 12) rfl
  obtain ⟨f21, c21, -⟩ := WT.ints hW (k := 21) rfl
  obtain ⟨f22, c22, -⟩ := WT.bools hW (k := 22) rfl
  obtain ⟨f23, c23, -⟩ := WT.ints hW (k := 23) rfl
  obtain ⟨f24, c24, -⟩ := WT.ints hW (k := 24) rfl
  obtain ⟨f25, c25, -⟩ := WT.ints hW (k := 25) rfl
  obtain ⟨f26, c26, -⟩ := WT.ints hW (k := 26) rfl
  have h2 := ce_X11_again l G (ad 0) y0_0 (g0 1) (g0 2) h (ad 2) (ad 3) (ad 4) (ad 5) (ad 6) (ad 7) y0_10 (ad 8) (ad 9) (ad 10) (ad 11) (ad 12) y0_16 (ad 13) (ad 14) y0_19 y0_20 y0_21 y0_22 (g0 23) (g0 24) (g0 25) (ad 18) (ad 19) y0_28 y0_29 (g0 30) y0_31 (ad 21) (ad 22) (ad 23) (ad 24) (ad 25) (ad 26) (g0 38) (g0 39) (g0 40) (g0 41) (g0 42) (g0 43) (g0 44) (g0 45) (g0 46) (g0 47) (g0 48) (g0 49) (g0 50) (g0 51) (g0 52) (g0 53) (g0 54) (g0 55) (g0 56) (g0 57) (g0 58) (g0 59) (g0 60) (g0 61) (g0 62) (g0 63) (g0 64) (g0 65) (g0 66) (g0 67) (g0 68) (g0 69) (g0 70) (g0 71) (ad 45) (ad 46) y0_74 kk b zu zX zY f10 f11 f12 f21 f22 f23 f24 f25 f26 a a.toInt h.toInt y0_10.toInt rfl rfl rfl (by omega) (by omega) (by omega)
  refine Ct.weak (Ct.and (show Ct l G yX11_again cX11_again 4 (some .boolean) { frames := 1, cells := 0, slots := 0, locals := 25 } [.ref (ad 0), .int a] w0 (fun r w1 => POST G ad TM C_X11_again_1 (fun k => ((Value.ref (ad 0) :: [.int a])[k]?).getD .null) w0 r w1) from ac_X11_again_1 l G ad w0 _ hW (pre_mu (C := C_X11_again_1) (ts := [(0, 0, 0)]) (As := [.int a]) rfl rfl rfl rfl ⟨fun _ => vty_i (by omega) (by omega), trivial⟩ ad w0 rfl)) h2 [0, 46, 45, 6, 18, 19, 10, 11, 12, 21, 22, 23, 24, 25, 26] (pk_cons c0 (pk_cons c46 (pk_cons c45 (pk_cons c6 (pk_cons c18 (pk_cons c19 (pk_cons c10 (pk_cons c11 (pk_cons c12 (pk_cons c21 (pk_cons c22 (pk_cons c23 (pk_cons c24 (pk_cons c25 (pk_cons c26 rfl))))))))))))))) (by decide)) ?_
  rintro r w1 ⟨hp, w2, ⟨k2, ph2, po2, t2, fu2, fX2, fY2, fa2, fA2, fB2, fS2, fW2, f12, f22, f32, f42, hph, hpo, ht2, z_fu, z_fX, z_fY, z_fa, z_fA, z_fB, z_fS, z_fW, z_f1, z_f2, z_f3, z_f4, rfl, rfl⟩, hS⟩
  obtain ⟨A1, hA1, μ2, -, -, -, -, -, -, hW1, hF1⟩ := hp
  obtain ⟨fs0, -, u0, ul0, -, -⟩ := WT.obj hW1 (k := 0) (j := 0) rfl rfl
  obtain ⟨p6, u6, -⟩ := WT.ints hW1 (k := 6) rfl
  obtain ⟨p10, u10, -⟩ := WT.bools hW1 (k := 10) rfl
  obtain ⟨p11, u11, -⟩ := WT.ints hW1 (k := 11) rfl
  obtain ⟨p12, u12, -⟩ := WT.ints hW1 (k := 12) rfl
  obtain ⟨p18, u18, -⟩ := WT.ints hW1 (k := 18) rfl
  obtain ⟨p19, u19, -⟩ := WT.ints hW1 (k := 19) rfl
  obtain ⟨p21, u21, -⟩ := WT.ints hW1 (k := 21) rfl
  obtain ⟨p22, u22, -⟩ := WT.bools hW1 (k := 22) rfl
  obtain ⟨p23, u23, -⟩ := WT.ints hW1 (k := 23) rfl
  obtain ⟨p24, u24, -⟩ := WT.ints hW1 (k := 24) rfl
  obtain ⟨p25, u25, -⟩ := WT.ints hW1 (k := 25) rfl
  obtain ⟨p26, u26, -⟩ := WT.ints hW1 (k := 26) rfl
  obtain ⟨p45, u45, -⟩ := WT.bools hW1 (k := 45) rfl
  obtain ⟨p46, u46, -⟩ := WT.ints hW1 (k := 46) rfl
  exact ⟨hW1, hF1, rfl, ⟨p6, cgetI u6 0, fun k hk => ((same_I hS (k := 6) (j := 3) u6 rfl) k hk).trans ((z_fu k hk).trans (congrArg kk (by omega)))⟩, ⟨p18, cgetI u18 0, fun k hk => ((same_I hS (k := 18) (j := 4) u18 rfl) k hk).trans ((z_fX k hk).trans (congrArg kk (by omega)))⟩, ⟨p19, cgetI u19 0, fun k hk => ((same_I hS (k := 19) (j := 5) u19 rfl) k hk).trans ((z_fY k hk).trans (congrArg kk (by omega)))⟩⟩
set_option maxHeartbeats 4000000 in
set_option maxRecDepth 100000 in
theorem ac_nqm0 (l : Launch) (G : KG) {ad : Nat → Nat} {w0 : va_W} {h a : Int32} {b kk zu zX zY : Nat → Int32} (hW : WT G ad TM w0) (ha : a.toInt = 0) (eh : fget w0 0 3 = some (.int h)) (eb : cget w0 45 0 = some (.inr (cyZ G, 3, .inl b))) (ek : cget w0 46 0 = some (.inr (cyI G, 462, .inl kk))) (eu : cget w0 6 0 = some (.inr (cyI G, 16, .inl zu))) (eX : cget w0 18 0 = some (.inr (cyI G, 4, .inl zX))) (eY : cget w0 19 0 = some (.inr (cyI G, 4, .inl zY))) (hb : (b a.toNatClampNeg).toInt = 0) : Ct l G yX11_again cX11_again 4 (some .boolean) { frames := 1, cells := 0, slots := 0, locals := 25 } [.ref (ad 0), .int a] w0 (fun r w1 => WT G ad TM w1 ∧ FRM C_X11_again_1.2.2.2.2.1 w0 w1 ∧ (r = some (.int 0) ∧ CQ G w1 6 16 (zu) ∧ CQ G w1 18 4 (zX) ∧ CQ G w1 19 4 (zY))) := by
  obtain ⟨g0, q0, t0⟩ := WT.tab hW (k := 0) rfl
  obtain ⟨y0_0, r0_0, -, -⟩ := vty0 (t0 0 _ rfl).1 rfl
  have r0_3 : g0 3 = .int h := Option.some.inj ((t0 3 _ rfl).2.symm.trans eh)
  have b0_3 : 0 ≤ h.toInt ∧ h.toInt ≤ 16 := by
    have h := (t0 3 _ rfl).1
    rw [r0_3] at h
    obtain ⟨y, e, l1, u1⟩ := vty0 h rfl
    obtain rfl := Value.int.inj e
    exact ⟨l1, u1⟩
  have r0_4 : g0 4 = .ref (ad 2) := vty2 (t0 4 _ rfl).1 rfl
  have r0_5 : g0 5 = .ref (ad 3) := vty2 (t0 5 _ rfl).1 rfl
  have r0_6 : g0 6 = .ref (ad 4) := vty2 (t0 6 _ rfl).1 rfl
  have r0_7 : g0 7 = .ref (ad 5) := vty2 (t0 7 _ rfl).1 rfl
  have r0_8 : g0 8 = .ref (ad 6) := vty2 (t0 8 _ rfl).1 rfl
  have r0_9 : g0 9 = .ref (ad 7) := vty2 (t0 9 _ rfl).1 rfl
  obtain ⟨y0_10, r0_10, bl0_10, bu0_10⟩ := vty0 (t0 10 _ rfl).1 rfl
  have b0_10 : 0 ≤ y0_10.toInt ∧ y0_10.toInt ≤ 6 := ⟨bl0_10, bu0_10⟩
  have r0_11 : g0 11 = .ref (ad 8) := vty2 (t0 11 _ rfl).1 rfl
  have r0_12 : g0 12 = .ref (ad 9) := vty2 (t0 12 _ rfl).1 rfl
  have r0_13 : g0 13 = .ref (ad 10) := vty2 (t0 13 _ rfl).1 rfl
  have r0_14 : g0 14 = .ref (ad 11) := vty2 (t0 14 _ rfl).1 rfl
  have r0_15 : g0 15 = .ref (ad 12) := vty2 (t0 15 _ rfl).1 rfl
  obtain ⟨y0_16, r0_16, -, -⟩ := vty0 (t0 16 _ rfl).1 rfl
  have r0_17 : g0 17 = .ref (ad 13) := vty2 (t0 17 _ rfl).1 rfl
  have r0_18 : g0 18 = .ref (ad 14) := vty2 (t0 18 _ rfl).1 rfl
  obtain ⟨y0_19, r0_19, -, -⟩ := vty0 (t0 19 _ rfl).1 rfl
  obtain ⟨y0_20, r0_20, -, -⟩ := vty0 (t0 20 _ rfl).1 rfl
  obtain ⟨y0_21, r0_21, -, -⟩ := vty0 (t0 21 _ rfl).1 rfl
  obtain ⟨y0_22, r0_22, -, -⟩ := vty0 (t0 22 _ rfl).1 rfl
  have r0_26 : g0 26 = .ref (ad 18) := vty2 (t0 26 _ rfl).1 rfl
  have r0_27 : g0 27 = .ref (ad 19) := vty2 (t0 27 _ rfl).1 rfl
  obtain ⟨y0_28, r0_28, -, -⟩ := vty0 (t0 28 _ rfl).1 rfl
  obtain ⟨y0_29, r0_29, -, -⟩ := vty0 (t0 29 _ rfl).1 rfl
  obtain ⟨y0_31, r0_31, -, -⟩ := vty0 (t0 31 _ rfl).1 rfl
  have r0_32 : g0 32 = .ref (ad 21) := vty2 (t0 32 _ rfl).1 rfl
  have r0_33 : g0 33 = .ref (ad 22) := vty2 (t0 33 _ rfl).1 rfl
  have r0_34 : g0 34 = .ref (ad 23) := vty2 (t0 34 _ rfl).1 rfl
  have r0_35 : g0 35 = .ref (ad 24) := vty2 (t0 35 _ rfl).1 rfl
  have r0_36 : g0 36 = .ref (ad 25) := vty2 (t0 36 _ rfl).1 rfl
  have r0_37 : g0 37 = .ref (ad 26) := vty2 (t0 37 _ rfl).1 rfl
  have r0_72 : g0 72 = .ref (ad 45) := vty2 (t0 72 _ rfl).1 rfl
  have r0_73 : g0 73 = .ref (ad 46) := vty2 (t0 73 _ rfl).1 rfl
  obtain ⟨y0_74, r0_74, -, -⟩ := vty0 (t0 74 _ rfl).1 rfl
  have c0 : w0[0]? = some ((ad 0), ob 11 [.int y0_0, (g0 1), (g0 2), .int h, .ref (ad 2), .ref (ad 3), .ref (ad 4), .ref (ad 5), .ref (ad 6), .ref (ad 7), .int y0_10, .ref (ad 8), .ref (ad 9), .ref (ad 10), .ref (ad 11), .ref (ad 12), .int y0_16, .ref (ad 13), .ref (ad 14), .int y0_19, .int y0_20, .int y0_21, .int y0_22, (g0 23), (g0 24), (g0 25), .ref (ad 18), .ref (ad 19), .int y0_28, .int y0_29, (g0 30), .int y0_31, .ref (ad 21), .ref (ad 22), .ref (ad 23), .ref (ad 24), .ref (ad 25), .ref (ad 26), (g0 38), (g0 39), (g0 40), (g0 41), (g0 42), (g0 43), (g0 44), (g0 45), (g0 46), (g0 47), (g0 48), (g0 49), (g0 50), (g0 51), (g0 52), (g0 53), (g0 54), (g0 55), (g0 56), (g0 57), (g0 58), (g0 59), (g0 60), (g0 61), (g0 62), (g0 63), (g0 64), (g0 65), (g0 66), (g0 67), (g0 68), (g0 69), (g0 70), (g0 71), .ref (ad 45), .ref (ad 46), .int y0_74]) := by
    rw [q0]
    show some (ad 0, ob 11 [g0 0, g0 1, g0 2, g0 3, g0 4, g0 5, g0 6, g0 7, g0 8, g0 9, g0 10, g0 11, g0 12, g0 13, g0 14, g0 15, g0 16, g0 17, g0 18, g0 19, g0 20, g0 21, g0 22, g0 23, g0 24, g0 25, g0 26, g0 27, g0 28, g0 29, g0 30, g0 31, g0 32, g0 33, g0 34, g0 35, g0 36, g0 37, g0 38, g0 39, g0 40, g0 41, g0 42, g0 43, g0 44, g0 45, g0 46, g0 47, g0 48, g0 49, g0 50, g0 51, g0 52, g0 53, g0 54, g0 55, g0 56, g0 57, g0 58, g0 59, g0 60, g0 61, g0 62, g0 63, g0 64, g0 65, g0 66, g0 67, g0 68, g0 69, g0 70, g0 71, g0 72, g0 73, g0 74]) = _
    rw [r0_0, r0_3, r0_4, r0_5, r0_6, r0_7, r0_8, r0_9, r0_10, r0_11, r0_12, r0_13, r0_14, r0_15, r0_16, r0_17, r0_18, r0_19, r0_20, r0_21, r0_22, r0_26, r0_27, r0_28, r0_29, r0_31, r0_32, r0_33, r0_34, r0_35, r0_36, r0_37, r0_72, r0_73, r0_74]
  obtain ⟨f46, c46, -⟩ := WT.ints hW (k := 46) rfl
  have ef46 : f46 = kk := arrinj ((cgetI c46 0).symm.trans ek)
  rw [ef46] at c46
  obtain ⟨f45, c45, -⟩ := WT.bools hW (k := 45) rfl
  have ef45 : f45 = b := arrinj ((cgetZ c45 0).symm.trans eb)
  rw [ef45] at c45
  obtain ⟨f6, c6, -⟩ := WT.ints hW (k := 6) rfl
  have ef6 : f6 = zu := arrinj ((cgetI c6 0).symm.trans eu)
  rw [ef6] at c6
  obtain ⟨f18, c18, -⟩ := WT.ints hW (k := 18) rfl
  have ef18 : f18 = zX := arrinj ((cgetI c18 0).symm.trans eX)
  rw [ef18] at c18
  obtain ⟨f19, c19, -⟩ := WT.ints hW (k := 19) rfl
  have ef19 : f19 = zY := arrinj ((cgetI c19 0).symm.trans eY)
  rw [ef19] at c19
  obtain ⟨f10, c10, -⟩ := WT.bools hW (k := 10) rfl
  obtain ⟨f11, c11, -⟩ := WT.ints hW (k := 11) rfl
  obtain ⟨f12, c12, -⟩ := WT.ints hW (k := 12) rfl
  obtain ⟨f21, c21, -⟩ := WT.ints hW (k := 21) rfl
  obtain ⟨f22, c22, -⟩ := WT.bools hW (k := 22) rfl
  obtain ⟨f23, c23, -⟩ := WT.ints hW (k := 23) rfl
  obtain ⟨f24, c24, -⟩ := WT.ints hW (k := 24) rfl
  obtain ⟨f25, c25, -⟩ := WT.ints hW (k := 25) rfl
  obtain ⟨f26, c26, -⟩ := WT.ints hW (k := 26) rfl
  have h2 := ce_X11_again0 l G (ad 0) y0_0 (g0 1) (g0 2) h (ad 2) (ad 3) (ad 4) (ad 5) (ad 6) (ad 7) y0_10 (ad 8) (ad 9) (ad 10) (ad 11) (ad 12) y0_16 (ad 13) (ad 14) y0_19 y0_20 y0_21 y0_22 (g0 23) (g0 24) (g0 25) (ad 18) (ad 19) y0_28 y0_29 (g0 30) y0_31 (ad 21) (ad 22) (ad 23) (ad 24) (ad 25) (ad 26) (g0 38) (g0 39) (g0 40) (g0 41) (g0 42) (g0 43) (g0 44) (g0 45) (g0 46) (g0 47) (g0 48) (g0 49) (g0 50) (g0 51) (g0 52) (g0 53) (g0 54) (g0 55) (g0 56) (g0 57) (g0 58) (g0 59) (g0 60) (g0 61) (g0 62) (g0 63) (g0 64) (g0 65) (g0 66) (g0 67) (g0 68) (g0 69) (g0 70) (g0 71) (ad 45) (ad 46) y0_74 kk b zu zX zY f10 f11 f12 f21 f22 f23 f24 f25 f26 a a.toInt h.toInt y0_10.toInt rfl rfl rfl (by omega) (by omega) (by omega)
  refine Ct.weak (Ct.and (show Ct l G yX11_again cX11_again 4 (some .boolean) { frames := 1, cells := 0, slots := 0, locals := 25 } [.ref (ad 0), .int a] w0 (fun r w1 => POST G ad TM C_X11_again_1 (fun k => ((Value.ref (ad 0) :: [.int a])[k]?).getD .null) w0 r w1) from ac_X11_again_1 l G ad w0 _ hW (pre_mu (C := C_X11_again_1) (ts := [(0, 0, 0)]) (As := [.int a]) rfl rfl rfl rfl ⟨fun _ => vty_i (by omega) (by omega), trivial⟩ ad w0 rfl)) h2 [0, 46, 45, 6, 18, 19, 10, 11, 12, 21, 22, 23, 24, 25, 26] (pk_cons c0 (pk_cons c46 (pk_cons c45 (pk_cons c6 (pk_cons c18 (pk_cons c19 (pk_cons c10 (pk_cons c11 (pk_cons c12 (pk_cons c21 (pk_cons c22 (pk_cons c23 (pk_cons c24 (pk_cons c25 (pk_cons c26 rfl))))))))))))))) (by decide)) ?_
  rintro r w1 ⟨hp, w2, ⟨rfl, rfl⟩, hS⟩
  obtain ⟨A1, hA1, μ2, -, -, -, -, -, -, hW1, hF1⟩ := hp
  obtain ⟨fs0, -, u0, ul0, -, -⟩ := WT.obj hW1 (k := 0) (j := 0) rfl rfl
  obtain ⟨p6, u6, -⟩ := WT.ints hW1 (k := 6) rfl
  obtain ⟨p10, u10, -⟩ := WT.bools hW1 (k := 10) rfl
  obtain ⟨p11, u11, -⟩ := WT.ints hW1 (k := 11) rfl
  obtain ⟨p12, u12, -⟩ := WT.ints hW1 (k := 12) rfl
  obtain ⟨p18, u18, -⟩ := WT.ints hW1 (k := 18) rfl
  obtain ⟨p19, u19, -⟩ := WT.ints hW1 (k := 19) rfl
  obtain ⟨p21, u21, -⟩ := WT.ints hW1 (k := 21) rfl
  obtain ⟨p22, u22, -⟩ := WT.bools hW1 (k := 22) rfl
  obtain ⟨p23, u23, -⟩ := WT.ints hW1 (k := 23) rfl
  obtain ⟨p24, u24, -⟩ := WT.ints hW1 (k := 24) rfl
  obtain ⟨p25, u25, -⟩ := WT.ints hW1 (k := 25) rfl
  obtain ⟨p26, u26, -⟩ := WT.ints hW1 (k := 26) rfl
  obtain ⟨p45, u45, -⟩ := WT.bools hW1 (k := 45) rfl
  obtain ⟨p46, u46, -⟩ := WT.ints hW1 (k := 46) rfl
  exact ⟨hW1, hF1, rfl, ⟨p6, cgetI u6 0, fun k hk => (same_I hS (k := 6) (j := 3) u6 rfl) k hk⟩, ⟨p18, cgetI u18 0, fun k hk => (same_I hS (k := 18) (j := 4) u18 rfl) k hk⟩, ⟨p19, cgetI u19 0, fun k hk => (same_I hS (k := 19) (j := 5) u19 rfl) k hk⟩⟩
set_option maxHeartbeats 4000000 in
set_option maxRecDepth 100000 in
theorem ac_kqm1 (l : Launch) (G : KG) {ad : Nat → Nat} {w0 : va_W} {h a : Int32} {b kk zu zX zY : Nat → Int32} (hW : WT G ad TM w0) (ha : a.toInt = 1) (eh : fget w0 0 3 = some (.int h)) (eb : cget w0 45 0 = some (.inr (cyZ G, 3, .inl b))) (ek : cget w0 46 0 = some (.inr (cyI G, 462, .inl kk))) (eu : cget w0 6 0 = some (.inr (cyI G, 16, .inl zu))) (eX : cget w0 18 0 = some (.inr (cyI G, 4, .inl zX))) (eY : cget w0 19 0 = some (.inr (cyI G, 4, .inl zY))) : Ct l G yX11_keep cX11_keep 4 (some .boolean) { frames := 1, cells := 0, slots := 0, locals := 25 } [.ref (ad 0), .int a] w0 (fun r w1 => WT G ad TM w1 ∧ FRM C_X11_keep_2.2.2.2.2.1 w0 w1 ∧ KpQ G 1 h.toInt b kk zu zX zY r w1) := by
  obtain ⟨g0, q0, t0⟩ := WT.tab hW (k := 0) rfl
  obtain ⟨y0_0, r0_0, -, -⟩ := vty0 (t0 0 _ rfl).1 rfl
  have r0_3 : g0 3 = .int h := Option.some.inj ((t0 3 _ rfl).2.symm.trans eh)
  have b0_3 : 0 ≤ h.toInt ∧ h.toInt ≤ 16 := by
    have h := (t0 3 _ rfl).1
    rw [r0_3] at h
    obtain ⟨y, e, l1, u1⟩ := vty0 h rfl
    obtain rfl := Value.int.inj e
    exact ⟨l1, u1⟩
  have r0_4 : g0 4 = .ref (ad 2) := vty2 (t0 4 _ rfl).1 rfl
  have r0_5 : g0 5 = .ref (ad 3) := vty2 (t0 5 _ rfl).1 rfl
  have r0_6 : g0 6 = .ref (ad 4) := vty2 (t0 6 _ rfl).1 rfl
  have r0_7 : g0 7 = .ref (ad 5) := vty2 (t0 7 _ rfl).1 rfl
  have r0_8 : g0 8 = .ref (ad 6) := vty2 (t0 8 _ rfl).1 rfl
  have r0_9 : g0 9 = .ref (ad 7) := vty2 (t0 9 _ rfl).1 rfl
  obtain ⟨y0_10, r0_10, bl0_10, bu0_10⟩ := vty0 (t0 10 _ rfl).1 rfl
  have b0_10 : 0 ≤ y0_10.toInt ∧ y0_10.toInt ≤ 6 := ⟨bl0_10, bu0_10⟩
  have r0_11 : g0 11 = .ref (ad 8) := vty2 (t0 11 _ rfl).1 rfl
  have r0_12 : g0 12 = .ref (ad 9) := vty2 (t0 12 _ rfl).1 rfl
  have r0_13 : g0 13 = .ref (ad 10) := vty2 (t0 13 _ rfl).1 rfl
  have r0_14 : g0 14 = .ref (ad 11) := vty2 (t0 14 _ rfl).1 rfl
  have r0_15 : g0 15 = .ref (ad 12) := vty2 (t0 15 _ rfl).1 rfl
  obtain ⟨y0_16, r0_16, -, -⟩ := vty0 (t0 16 _ rfl).1 rfl
  have r0_17 : g0 17 = .ref (ad 13) := vty2 (t0 17 _ rfl).1 rfl
  have r0_18 : g0 18 = .ref (ad 14) := vty2 (t0 18 _ rfl).1 rfl
  obtain ⟨y0_19, r0_19, -, -⟩ := vty0 (t0 19 _ rfl).1 rfl
  obtain ⟨y0_20, r0_20, -, -⟩ := vty0 (t0 20 _ rfl).1 rfl
  obtain ⟨y0_21, r0_21, -, -⟩ := vty0 (t0 21 _ rfl).1 rfl
  obtain ⟨y0_22, r0_22, -, -⟩ := vty0 (t0 22 _ rfl).1 rfl
  have r0_26 : g0 26 = .ref (ad 18) := vty2 (t0 26 _ rfl).1 rfl
  have r0_27 : g0 27 = .ref (ad 19) := vty2 (t0 27 _ rfl).1 rfl
  obtain ⟨y0_28, r0_28, -, -⟩ := vty0 (t0 28 _ rfl).1 rfl
  obtain ⟨y0_29, r0_29, -, -⟩ := vty0 (t0 29 _ rfl).1 rfl
  obtain ⟨y0_31, r0_31, -, -⟩ := vty0 (t0 31 _ rfl).1 rfl
  have r0_32 : g0 32 = .ref (ad 21) := vty2 (t0 32 _ rfl).1 rfl
  have r0_33 : g0 33 = .ref (ad 22) := vty2 (t0 33 _ rfl).1 rfl
  have r0_34 : g0 34 = .ref (ad 23) := vty2 (t0 34 _ rfl).1 rfl
  have r0_35 : g0 35 = .ref (ad 24) := vty2 (t0 35 _ rfl).1 rfl
  have r0_36 : g0 36 = .ref (ad 25) := vty2 (t0 36 _ rfl).1 rfl
  have r0_37 : g0 37 = .ref (ad 26) := vty2 (t0 37 _ rfl).1 rfl
  have r0_72 : g0 72 = .ref (ad 45) := vty2 (t0 72 _ rfl).1 rfl
  have r0_73 : g0 73 = .ref (ad 46) := vty2 (t0 73 _ rfl).1 rfl
  obtain ⟨y0_74, r0_74, -, -⟩ := vty0 (t0 74 _ rfl).1 rfl
  have c0 : w0[0]? = some ((ad 0), ob 11 [.int y0_0, (g0 1), (g0 2), .int h, .ref (ad 2), .ref (ad 3), .ref (ad 4), .ref (ad 5), .ref (ad 6), .ref (ad 7), .int y0_10, .ref (ad 8), .ref (ad 9), .ref (ad 10), .ref (ad 11), .ref (ad 12), .int y0_16, .ref (ad 13), .ref (ad 14), .int y0_19, .int y0_20, .int y0_21, .int y0_22, (g0 23), (g0 24), (g0 25), .ref (ad 18), .ref (ad 19), .int y0_28, .int y0_29, (g0 30), .int y0_31, .ref (ad 21), .ref (ad 22), .ref (ad 23), .ref (ad 24), .ref (ad 25), .ref (ad 26), (g0 38), (g0 39), (g0 40), (g0 41), (g0 42), (g0 43), (g0 44), (g0 45), (g0 46), (g0 47), (g0 48), (g0 49), (g0 50), (g0 51), (g0 52), (g0 53), (g0 54), (g0 55), (g0 56), (g0 57), (g0 58), (g0 59), (g0 60), (g0 61), (g0 62), (g0 63), (g0 64), (g0 65), (g0 66), (g0 67), (g0 68), (g0 69), (g0 70), (g0 71), .ref (ad 45), .ref (ad 46), .int y0_74]) := by
    rw [q0]
    show some (ad 0, ob 11 [g0 0, g0 1, g0 2, g0 3, g0 4, g0 5, g0 6, g0 7, g0 8, g0 9, g0 10, g0 11, g0 12, g0 13, g0 14, g0 15, g0 16, g0 17, g0 18, g0 19, g0 20, g0 21, g0 22, g0 23, g0 24, g0 25, g0 26, g0 27, g0 28, g0 29, g0 30, g0 31, g0 32, g0 33, g0 34, g0 35, g0 36, g0 37, g0 38, g0 39, g0 40, g0 41, g0 42, g0 43, g0 44, g0 45, g0 46, g0 47, g0 48, g0 49, g0 50, g0 51, g0 52, g0 53, g0 54, g0 55, g0 56, g0 57, g0 58, g0 59, g0 60, g0 61, g0 62, g0 63, g0 64, g0 65, g0 66, g0 67, g0 68, g0 69, g0 70, g0 71, g0 72, g0 73, g0 74]) = _
    rw [r0_0, r0_3, r0_4, r0_5, r0_6, r0_7, r0_8, r0_9, r0_10, r0_11, r0_12, r0_13, r0_14, r0_15, r0_16, r0_17, r0_18, r0_19, r0_20, r0_21, r0_22, r0_26, r0_27, r0_28, r0_29, r0_31, r0_32, r0_33, r0_34, r0_35, r0_36, r0_37, r0_72, r0_73, r0_74]
  obtain ⟨f46, c46, -⟩ := WT.ints hW (k := 46) rfl
  have ef46 : f46 = kk := arrinj ((cgetI c46 0).symm.trans ek)
  rw [ef46] at c46
  obtain ⟨f45, c45, -⟩ := WT.bools hW (k := 45) rfl
  have ef45 : f45 = b := arrinj ((cgetZ c45 0).symm.trans eb)
  rw [ef45] at c45
  obtain ⟨f6, c6, -⟩ := WT.ints hW (k := 6) rfl
  have ef6 : f6 = zu := arrinj ((cgetI c6 0).symm.trans eu)
  rw [ef6] at c6
  obtain ⟨f18, c18, -⟩ := WT.ints hW (k := 18) rfl
  have ef18 : f18 = zX := arrinj ((cgetI c18 0).symm.trans eX)
  rw [ef18] at c18
  obtain ⟨f19, c19, -⟩ := WT.ints hW (k := 19) rfl
  have ef19 : f19 = zY := arrinj ((cgetI c19 0).symm.trans eY)
  rw [ef19] at c19
  obtain ⟨f10, c10, -⟩ := WT.bools hW (k := 10) rfl
  obtain ⟨f11, c11, -⟩ := WT.ints hW (k := 11) rfl
  obtain ⟨f12, c12, -⟩ := WT.ints hW (k := 12) rfl
  obtain ⟨f21, c21, -⟩ := WT.ints hW (k := 21) rfl
  obtain ⟨f22, c22, -⟩ := WT.bools hW (k := 22) rfl
  obtain ⟨f23, c23, -⟩ := WT.ints hW (k := 23) rfl
  obtain ⟨f24, c24, -⟩ := WT.ints hW (k := 24) rfl
  obtain ⟨f25, c25, -⟩ := WT.ints hW (k := 25) rfl
  obtain ⟨f26, c26, -⟩ := WT.ints hW (k := 26) rfl
  have h2 := ce_X11_keep l G (ad 0) y0_0 (g0 1) (g0 2) h (ad 2) (ad 3) (ad 4) (ad 5) (ad 6) (ad 7) y0_10 (ad 8) (ad 9) (ad 10) (ad 11) (ad 12) y0_16 (ad 13) (ad 14) y0_19 y0_20 y0_21 y0_22 (g0 23) (g0 24) (g0 25) (ad 18) (ad 19) y0_28 y0_29 (g0 30) y0_31 (ad 21) (ad 22) (ad 23) (ad 24) (ad 25) (ad 26) (g0 38) (g0 39) (g0 40) (g0 41) (g0 42) (g0 43) (g0 44) (g0 45) (g0 46) (g0 47) (g0 48) (g0 49) (g0 50) (g0 51) (g0 52) (g0 53) (g0 54) (g0 55) (g0 56) (g0 57) (g0 58) (g0 59) (g0 60) (g0 61) (g0 62) (g0 63) (g0 64) (g0 65) (g0 66) (g0 67) (g0 68) (g0 69) (g0 70) (g0 71) (ad 45) (ad 46) y0_74 kk b zu zX zY f10 f11 f12 f21 f22 f23 f24 f25 f26 a a.toInt h.toInt y0_10.toInt rfl rfl rfl (by omega) (by omega)
  refine Ct.weak (Ct.and (show Ct l G yX11_keep cX11_keep 4 (some .boolean) { frames := 1, cells := 0, slots := 0, locals := 25 } [.ref (ad 0), .int a] w0 (fun r w1 => POST G ad TM C_X11_keep_2 (fun k => ((Value.ref (ad 0) :: [.int a])[k]?).getD .null) w0 r w1) from ac_X11_keep_2 l G ad w0 _ hW (pre_mu (C := C_X11_keep_2) (ts := [(0, 1, 1)]) (As := [.int a]) rfl rfl rfl rfl ⟨fun _ => vty_i (by omega) (by omega), trivial⟩ ad w0 rfl)) h2 [0, 46, 45, 6, 18, 19, 10, 11, 12, 21, 22, 23, 24, 25, 26] (pk_cons c0 (pk_cons c46 (pk_cons c45 (pk_cons c6 (pk_cons c18 (pk_cons c19 (pk_cons c10 (pk_cons c11 (pk_cons c12 (pk_cons c21 (pk_cons c22 (pk_cons c23 (pk_cons c24 (pk_cons c25 (pk_cons c26 rfl))))))))))))))) (by decide)) ?_
  rintro r w1 ⟨hp, w2, ⟨k2, fk2, hE, rfl, rfl⟩, hS⟩
  obtain ⟨A1, hA1, μ2, -, -, -, -, -, -, hW1, hF1⟩ := hp
  obtain ⟨fs0, -, u0, ul0, -, -⟩ := WT.obj hW1 (k := 0) (j := 0) rfl rfl
  obtain ⟨p6, u6, -⟩ := WT.ints hW1 (k := 6) rfl
  obtain ⟨p10, u10, -⟩ := WT.bools hW1 (k := 10) rfl
  obtain ⟨p11, u11, -⟩ := WT.ints hW1 (k := 11) rfl
  obtain ⟨p12, u12, -⟩ := WT.ints hW1 (k := 12) rfl
  obtain ⟨p18, u18, -⟩ := WT.ints hW1 (k := 18) rfl
  obtain ⟨p19, u19, -⟩ := WT.ints hW1 (k := 19) rfl
  obtain ⟨p21, u21, -⟩ := WT.ints hW1 (k := 21) rfl
  obtain ⟨p22, u22, -⟩ := WT.bools hW1 (k := 22) rfl
  obtain ⟨p23, u23, -⟩ := WT.ints hW1 (k := 23) rfl
  obtain ⟨p24, u24, -⟩ := WT.ints hW1 (k := 24) rfl
  obtain ⟨p25, u25, -⟩ := WT.ints hW1 (k := 25) rfl
  obtain ⟨p26, u26, -⟩ := WT.ints hW1 (k := 26) rfl
  obtain ⟨p45, u45, -⟩ := WT.bools hW1 (k := 45) rfl
  obtain ⟨p46, u46, -⟩ := WT.ints hW1 (k := 46) rfl
  exact ⟨hW1, hF1, rfl, ⟨p45, cgetZ u45 0, fun j hj => ((same_Z hS (k := 45) (j := 2) u45 rfl) j hj).trans (by unfold upd; by_cases ej : j = 1; (rw [if_pos ej, if_pos (show j = a.toNatClampNeg from (show j = a.toInt.toNat by omega))]; try rfl); (rw [if_neg ej, if_neg (show ¬ j = a.toNatClampNeg from (show ¬ j = a.toInt.toNat by omega))]))⟩, p46, cgetI u46 0, fun m hm => ((same_I hS (k := 46) (j := 1) u46 rfl) _ (by omega)).trans (by rw [hE, if_pos (by omega), show (154 * 1 + 2 + m) - (154 * a.toInt).toNat = 2 + m by omega, enc_oz _ hm]), fun m hm => ⟨((same_I hS (k := 46) (j := 1) u46 rfl) _ (by omega)).trans (by rw [hE, if_pos (by omega), show (154 * 1 + 18 + 2 * m) - (154 * a.toInt).toNat = 18 + 2 * m by omega, enc_tx _ hm]), ((same_I hS (k := 46) (j := 1) u46 rfl) _ (by omega)).trans (by rw [hE, if_pos (by omega), show (154 * 1 + 19 + 2 * m) - (154 * a.toInt).toNat = 18 + 2 * m + 1 by omega, enc_ty _ hm])⟩, fun j hj hq => ((same_I hS (k := 46) (j := 1) u46 rfl) j hj).trans (by rw [hE, if_neg (by omega)])⟩
set_option maxHeartbeats 4000000 in
set_option maxRecDepth 100000 in
theorem ac_gqm1 (l : Launch) (G : KG) {ad : Nat → Nat} {w0 : va_W} {h a : Int32} {b kk zu zX zY : Nat → Int32} (hW : WT G ad TM w0) (ha : a.toInt = 1) (eh : fget w0 0 3 = some (.int h)) (eb : cget w0 45 0 = some (.inr (cyZ G, 3, .inl b))) (ek : cget w0 46 0 = some (.inr (cyI G, 462, .inl kk))) (eu : cget w0 6 0 = some (.inr (cyI G, 16, .inl zu))) (eX : cget w0 18 0 = some (.inr (cyI G, 4, .inl zX))) (eY : cget w0 19 0 = some (.inr (cyI G, 4, .inl zY))) (hb : (b a.toNatClampNeg).toInt ≠ 0) : Ct l G yX11_again cX11_again 4 (some .boolean) { frames := 1, cells := 0, slots := 0, locals := 25 } [.ref (ad 0), .int a] w0 (fun r w1 => WT G ad TM w1 ∧ FRM C_X11_again_2.2.2.2.2.1 w0 w1 ∧ (r = some (.int 1) ∧ CQ G w1 6 16 (fun m => kk (154 * 1 + 2 + m)) ∧ CQ G w1 18 4 (fun m => kk (154 * 1 + 18 + 2 * m)) ∧ CQ G w1 19 4 (fun m => kk (154 * 1 + 19 + 2 * m)))) := by
  obtain ⟨g0, q0, t0⟩ := WT.tab hW (k := 0) rfl
  obtain ⟨y0_0, r0_0, -, -⟩ := vty0 (t0 0 _ rfl).1 rfl
  have r0_3 : g0 3 = .int h := Option.some.inj ((t0 3 _ rfl).2.symm.trans eh)
  have b0_3 : 0 ≤ h.toInt ∧ h.toInt ≤ 16 := by
    have h := (t0 3 _ rfl).1
    rw [r0_3] at h
    obtain ⟨y, e, l1, u1⟩ := vty0 h rfl
    obtain rfl := Value.int.inj e
    exact ⟨l1, u1⟩
  have r0_4 : g0 4 = .ref (ad 2) := vty2 (t0 4 _ rfl).1 rfl
  have r0_5 : g0 5 = .ref (ad 3) := vty2 (t0 5 _ rfl).1 rfl
  have r0_6 : g0 6 = .ref (ad 4) := vty2 (t0 6 _ rfl).1 rfl
  have r0_7 : g0 7 = .ref (ad 5) := vty2 (t0 7 _ rfl).1 rfl
  have r0_8 : g0 8 = .ref (ad 6) := vty2 (t0 8 _ rfl).1 rfl
  have r0_9 : g0 9 = .ref (ad 7) := vty2 (t0 9 _ rfl).1 rfl
  obtain ⟨y0_10, r0_10, bl0_10, bu0_10⟩ := vty0 (t0 10 _ rfl).1 rfl
  have b0_10 : 0 ≤ y0_10.toInt ∧ y0_10.toInt ≤ 6 := ⟨bl0_10, bu0_10⟩
  have r0_11 : g0 11 = .ref (ad 8) := vty2 (t0 11 _ rfl).1 rfl
  have r0_12 : g0 12 = .ref (ad 9) := vty2 (t0 12 _ rfl).1 rfl
  have r0_13 : g0 13 = .ref (ad 10) := vty2 (t0 13 _ rfl).1 rfl
  have r0_14 : g0 14 = .ref (ad 11) := vty2 (t0 14 _ rfl).1 rfl
  have r0_15 : g0 15 = .ref (ad 12) := vty2 (t0 15 _ rfl).1 rfl
  obtain ⟨y0_16, r0_16, -, -⟩ := vty0 (t0 16 _ rfl).1 rfl
  have r0_17 : g0 17 = .ref (ad 13) := vty2 (t0 17 _ rfl).1 rfl
  have r0_18 : g0 18 = .ref (ad 14) := vty2 (t0 18 _ rfl).1 rfl
  obtain ⟨y0_19, r0_19, -, -⟩ := vty0 (t0 19 _ rfl).1 rfl
  obtain ⟨y0_20, r0_20, -, -⟩ := vty0 (t0 20 _ rfl).1 rfl
  obtain ⟨y0_21, r0_21, -, -⟩ := vty0 (t0 21 _ rfl).1 rfl
  obtain ⟨y0_22, r0_22, -, -⟩ := vty0 (t0 22 _ rfl).1 rfl
  have r0_26 : g0 26 = .ref (ad 18) := vty2 (t0 26 _ rfl).1 rfl
  have r0_27 : g0 27 = .ref (ad 19) := vty2 (t0 27 _ rfl).1 rfl
  obtain ⟨y0_28, r0_28, -, -⟩ := vty0 (t0 28 _ rfl).1 rfl
  obtain ⟨y0_29, r0_29, -, -⟩ := vty0 (t0 29 _ rfl).1 rfl
  obtain ⟨y0_31, r0_31, -, -⟩ := vty0 (t0 31 _ rfl).1 rfl
  have r0_32 : g0 32 = .ref (ad 21) := vty2 (t0 32 _ rfl).1 rfl
  have r0_33 : g0 33 = .ref (ad 22) := vty2 (t0 33 _ rfl).1 rfl
  have r0_34 : g0 34 = .ref (ad 23) := vty2 (t0 34 _ rfl).1 rfl
  have r0_35 : g0 35 = .ref (ad 24) := vty2 (t0 35 _ rfl).1 rfl
  have r0_36 : g0 36 = .ref (ad 25) := vty2 (t0 36 _ rfl).1 rfl
  have r0_37 : g0 37 = .ref (ad 26) := vty2 (t0 37 _ rfl).1 rfl
  have r0_72 : g0 72 = .ref (ad 45) := vty2 (t0 72 _ rfl).1 rfl
  have r0_73 : g0 73 = .ref (ad 46) := vty2 (t0 73 _ rfl).1 rfl
  obtain ⟨y0_74, r0_74, -, -⟩ := vty0 (t0 74 _ rfl).1 rfl
  have c0 : w0[0]? = some ((ad 0), ob 11 [.int y0_0, (g0 1), (g0 2), .int h, .ref (ad 2), .ref (ad 3), .ref (ad 4), .ref (ad 5), .ref (ad 6), .ref (ad 7), .int y0_10, .ref (ad 8), .ref (ad 9), .ref (ad 10), .ref (ad 11), .ref (ad 12), .int y0_16, .ref (ad 13), .ref (ad 14), .int y0_19, .int y0_20, .int y0_21, .int y0_22, (g0 23), (g0 24), (g0 25), .ref (ad 18), .ref (ad 19), .int y0_28, .int y0_29, (g0 30), .int y0_31, .ref (ad 21), .ref (ad 22), .ref (ad 23), .ref (ad 24), .ref (ad 25), .ref (ad 26), (g0 38), (g0 39), (g0 40), (g0 41), (g0 42), (g0 43), (g0 44), (g0 45), (g0 46), (g0 47), (g0 48), (g0 49), (g0 50), (g0 51), (g0 52), (g0 53), (g0 54), (g0 55), (g0 56), (g0 57), (g0 58), (g0 59), (g0 60), (g0 61), (g0 62), (g0 63), (g0 64), (g0 65), (g0 66), (g0 67), (g0 68), (g0 69), (g0 70), (g0 71), .ref (ad 45), .ref (ad 46), .int y0_74]) := by
    rw [q0]
    show some (ad 0, ob 11 [g0 0, g0 1, g0 2, g0 3, g0 4, g0 5, g0 6, g0 7, g0 8, g0 9, g0 10, g0 11, g0 12, g0 13, g0 14, g0 15, g0 16, g0 17, g0 18, g0 19, g0 20, g0 21, g0 22, g0 23, g0 24, g0 25, g0 26, g0 27, g0 28, g0 29, g0 30, g0 31, g0 32, g0 33, g0 34, g0 35, g0 36, g0 37, g0 38, g0 39, g0 40, g0 41, g0 42, g0 43, g0 44, g0 45, g0 46, g0 47, g0 48, g0 49, g0 50, g0 51, g0 52, g0 53, g0 54, g0 55, g0 56, g0 57, g0 58, g0 59, g0 60, g0 61, g0 62, g0 63, g0 64, g0 65, g0 66, g0 67, g0 68, g0 69, g0 70, g0 71, g0 72, g0 73, g0 74]) = _
    rw [r0_0, r0_3, r0_4, r0_5, r0_6, r0_7, r0_8, r0_9, r0_10, r0_11, r0_12, r0_13, r0_14, r0_15, r0_16, r0_17, r0_18, r0_19, r0_20, r0_21, r0_22, r0_26, r0_27, r0_28, r0_29, r0_31, r0_32, r0_33, r0_34, r0_35, r0_36, r0_37, r0_72, r0_73, r0_74]
  obtain ⟨f46, c46, -⟩ := WT.ints hW (k := 46) rfl
  have ef46 : f46 = kk := arrinj ((cgetI c46 0).symm.trans ek)
  rw [ef46] at c46
  obtain ⟨f45, c45, -⟩ := WT.bools hW (k := 45) rfl
  have ef45 : f45 = b := arrinj ((cgetZ c45 0).symm.trans eb)
  rw [ef45] at c45
  obtain ⟨f6, c6, -⟩ := WT.ints hW (k := 6) rfl
  have ef6 : f6 = zu := arrinj ((cgetI c6 0).symm.trans eu)
  rw [ef6] at c6
  obtain ⟨f18, c18, -⟩ := WT.ints hW (k := 18) rfl
  have ef18 : f18 = zX := arrinj ((cgetI c18 0).symm.trans eX)
  rw [ef18] at c18
  obtain ⟨f19, c19, -⟩ := WT.ints hW (k := 19) rfl
  have ef19 : f19 = zY := arrinj ((cgetI c19 0).symm.trans eY)
  rw [ef19] at c19
  obtain ⟨f10, c10, -⟩ := WT.bools hW (k := 10) rfl
  obtain ⟨f11, c11, -⟩ := WT.ints hW (k := 11) rfl
  obtain ⟨f12, c12, -⟩ := WT.ints hW (k := 12) rfl
  obtain ⟨f21, c21, -⟩ := WT.ints hW (k := 21) rfl
  obtain ⟨f22, c22, -⟩ := WT.bools hW (k := 22) rfl
  obtain ⟨f23, c23, -⟩ := WT.ints hW (k := 23) rfl
  obtain ⟨f24, c24, -⟩ := WT.ints hW (k := 24) rfl
  obtain ⟨f25, c25, -⟩ := WT.ints hW (k := 25) rfl
  obtain ⟨f26, c26, -⟩ := WT.ints hW (k := 26) rfl
  have h2 := ce_X11_again l G (ad 0) y0_0 (g0 1) (g0 2) h (ad 2) (ad 3) (ad 4) (ad 5) (ad 6) (ad 7) y0_10 (ad 8) (ad 9) (ad 10) (ad 11) (ad 12) y0_16 (ad 13) (ad 14) y0_19 y0_20 y0_21 y0_22 (g0 23) (g0 24) (g0 25) (ad 18) (ad 19) y0_28 y0_29 (g0 30) y0_31 (ad 21) (ad 22) (ad 23) (ad 24) (ad 25) (ad 26) (g0 38) (g0 39) (g0 40) (g0 41) (g0 42) (g0 43) (g0 44) (g0 45) (g0 46) (g0 47) (g0 48) (g0 49) (g0 50) (g0 51) (g0 52) (g0 53) (g0 54) (g0 55) (g0 56) (g0 57) (g0 58) (g0 59) (g0 60) (g0 61) (g0 62) (g0 63) (g0 64) (g0 65) (g0 66) (g0 67) (g0 68) (g0 69) (g0 70) (g0 71) (ad 45) (ad 46) y0_74 kk b zu zX zY f10 f11 f12 f21 f22 f23 f24 f25 f26 a a.toInt h.toInt y0_10.toInt rfl rfl rfl (by omega) (by omega) (by omega)
  refine Ct.weak (Ct.and (show Ct l G yX11_again cX11_again 4 (some .boolean) { frames := 1, cells := 0, slots := 0, locals := 25 } [.ref (ad 0), .int a] w0 (fun r w1 => POST G ad TM C_X11_again_2 (fun k => ((Value.ref (ad 0) :: [.int a])[k]?).getD .null) w0 r w1) from ac_X11_again_2 l G ad w0 _ hW (pre_mu (C := C_X11_again_2) (ts := [(0, 1, 1)]) (As := [.int a]) rfl rfl rfl rfl ⟨fun _ => vty_i (by omega) (by omega), trivial⟩ ad w0 rfl)) h2 [0, 46, 45, 6, 18, 19, 10, 11, 12, 21, 22, 23, 24, 25, 26] (pk_cons c0 (pk_cons c46 (pk_cons c45 (pk_cons c6 (pk_cons c18 (pk_cons c19 (pk_cons c10 (pk_cons c11 (pk_cons c12 (pk_cons c21 (pk_cons c22 (pk_cons c23 (pk_cons c24 (pk_cons c25 (pk_cons c26 rfl))))))))))))))) (by decide)) ?_
  rintro r w1 ⟨hp, w2, ⟨k2, ph2, po2, t2, fu2, fX2, fY2, fa2, fA2, fB2, fS2, fW2, f12, f22, f32, f42, hph, hpo, ht2, z_fu, z_fX, z_fY, z_fa, z_fA, z_fB, z_fS, z_fW, z_f1, z_f2, z_f3, z_f4, rfl, rfl⟩, hS⟩
  obtain ⟨A1, hA1, μ2, -, -, -, -, -, -, hW1, hF1⟩ := hp
  obtain ⟨fs0, -, u0, ul0, -, -⟩ := WT.obj hW1 (k := 0) (j := 0) rfl rfl
  obtain ⟨p6, u6, -⟩ := WT.ints hW1 (k := 6) rfl
  obtain ⟨p10, u10, -⟩ := WT.bools hW1 (k := 10) rfl
  obtain ⟨p11, u11, -⟩ := WT.ints hW1 (k := 11) rfl
  obtain ⟨p12, u12, -⟩ := WT.ints hW1 (k := 12) rfl
  obtain ⟨p18, u18, -⟩ := WT.ints hW1 (k := 18) rfl
  obtain ⟨p19, u19, -⟩ := WT.ints hW1 (k := 19) rfl
  obtain ⟨p21, u21, -⟩ := WT.ints hW1 (k := 21) rfl
  obtain ⟨p22, u22, -⟩ := WT.bools hW1 (k := 22) rfl
  obtain ⟨p23, u23, -⟩ := WT.ints hW1 (k := 23) rfl
  obtain ⟨p24, u24, -⟩ := WT.ints hW1 (k := 24) rfl
  obtain ⟨p25, u25, -⟩ := WT.ints hW1 (k := 25) rfl
  obtain ⟨p26, u26, -⟩ := WT.ints hW1 (k := 26) rfl
  obtain ⟨p45, u45, -⟩ := WT.bools hW1 (k := 45) rfl
  obtain ⟨p46, u46, -⟩ := WT.ints hW1 (k := 46) rfl
  exact ⟨hW1, hF1, rfl, ⟨p6, cgetI u6 0, fun k hk => ((same_I hS (k := 6) (j := 3) u6 rfl) k hk).trans ((z_fu k hk).trans (congrArg kk (by omega)))⟩, ⟨p18, cgetI u18 0, fun k hk => ((same_I hS (k := 18) (j := 4) u18 rfl) k hk).trans ((z_fX k hk).trans (congrArg kk (by omega)))⟩, ⟨p19, cgetI u19 0, fun k hk => ((same_I hS (k := 19) (j := 5) u19 rfl) k hk).trans ((z_fY k hk).trans (congrArg kk (by omega)))⟩⟩
set_option maxHeartbeats 4000000 in
set_option maxRecDepth 100000 in
theorem ac_nqm1 (l : Launch) (G : KG) {ad : Nat → Nat} {w0 : va_W} {h a : Int32} {b kk zu zX zY : Nat → Int32} (hW : WT G ad TM w0) (ha : a.toInt = 1) (eh : fget w0 0 3 = some (.int h)) (eb : cget w0 45 0 = some (.inr (cyZ G, 3, .inl b))) (ek : cget w0 46 0 = some (.inr (cyI G, 462, .inl kk))) (eu : cget w0 6 0 = some (.inr (cyI G, 16, .inl zu))) (eX : cget w0 18 0 = some (.inr (cyI G, 4, .inl zX))) (eY : cget w0 19 0 = some (.inr (cyI G, 4, .inl zY))) (hb : (b a.toNatClampNeg).toInt = 0) : Ct l G yX11_again cX11_again 4 (some .boolean) { frames := 1, cells := 0, slots := 0, locals := 25 } [.ref (ad 0), .int a] w0 (fun r w1 => WT G ad TM w1 ∧ FRM C_X11_again_2.2.2.2.2.1 w0 w1 ∧ (r = some (.int 0) ∧ CQ G w1 6 16 (zu) ∧ CQ G w1 18 4 (zX) ∧ CQ G w1 19 4 (zY))) := by
  obtain ⟨g0, q0, t0⟩ := WT.tab hW (k := 0) rfl
  obtain ⟨y0_0, r0_0, -, -⟩ := vty0 (t0 0 _ rfl).1 rfl
  have r0_3 : g0 3 = .int h := Option.some.inj ((t0 3 _ rfl).2.symm.trans eh)
  have b0_3 : 0 ≤ h.toInt ∧ h.toInt ≤ 16 := by
    have h := (t0 3 _ rfl).1
    rw [r0_3] at h
    obtain ⟨y, e, l1, u1⟩ := vty0 h rfl
    obtain rfl := Value.int.inj e
    exact ⟨l1, u1⟩
  have r0_4 : g0 4 = .ref (ad 2) := vty2 (t0 4 _ rfl).1 rfl
  have r0_5 : g0 5 = .ref (ad 3) := vty2 (t0 5 _ rfl).1 rfl
  have r0_6 : g0 6 = .ref (ad 4) := vty2 (t0 6 _ rfl).1 rfl
  have r0_7 : g0 7 = .ref (ad 5) := vty2 (t0 7 _ rfl).1 rfl
  have r0_8 : g0 8 = .ref (ad 6) := vty2 (t0 8 _ rfl).1 rfl
  have r0_9 : g0 9 = .ref (ad 7) := vty2 (t0 9 _ rfl).1 rfl
  obtain ⟨y0_10, r0_10, bl0_10, bu0_10⟩ := vty0 (t0 10 _ rfl).1 rfl
  have b0_10 : 0 ≤ y0_10.toInt ∧ y0_10.toInt ≤ 6 := ⟨bl0_10, bu0_10⟩
  have r0_11 : g0 11 = .ref (ad 8) := vty2 (t0 11 _ rfl).1 rfl
  have r0_12 : g0 12 = .ref (ad 9) := vty2 (t0 12 _ rfl).1 rfl
  have r0_13 : g0 13 = .ref (ad 10) := vty2 (t0 13 _ rfl).1 rfl
  have r0_14 : g0 14 = .ref (ad 11) := vty2 (t0 14 _ rfl).1 rfl
  have r0_15 : g0 15 = .ref (ad 12) := vty2 (t0 15 _ rfl).1 rfl
  obtain ⟨y0_16, r0_16, -, -⟩ := vty0 (t0 16 _ rfl).1 rfl
  have r0_17 : g0 17 = .ref (ad 13) := vty2 (t0 17 _ rfl).1 rfl
  have r0_18 : g0 18 = .ref (ad 14) := vty2 (t0 18 _ rfl).1 rfl
  obtain ⟨y0_19, r0_19, -, -⟩ := vty0 (t0 19 _ rfl).1 rfl
  obtain ⟨y0_20, r0_20, -, -⟩ := vty0 (t0 20 _ rfl).1 rfl
  obtain ⟨y0_21, r0_21, -, -⟩ := vty0 (t0 21 _ rfl).1 rfl
  obtain ⟨y0_22, r0_22, -, -⟩ := vty0 (t0 22 _ rfl).1 rfl
  have r0_26 : g0 26 = .ref (ad 18) := vty2 (t0 26 _ rfl).1 rfl
  have r0_27 : g0 27 = .ref (ad 19) := vty2 (t0 27 _ rfl).1 rfl
  obtain ⟨y0_28, r0_28, -, -⟩ := vty0 (t0 28 _ rfl).1 rfl
  obtain ⟨y0_29, r0_29, -, -⟩ := vty0 (t0 29 _ rfl).1 rfl
  obtain ⟨y0_31, r0_31, -, -⟩ := vty0 (t0 31 _ rfl).1 rfl
  have r0_32 : g0 32 = .ref (ad 21) := vty2 (t0 32 _ rfl).1 rfl
  have r0_33 : g0 33 = .ref (ad 22) := vty2 (t0 33 _ rfl).1 rfl
  have r0_34 : g0 34 = .ref (ad 23) := vty2 (t0 34 _ rfl).1 rfl
  have r0_35 : g0 35 = .ref (ad 24) := vty2 (t0 35 _ rfl).1 rfl
  have r0_36 : g0 36 = .ref (ad 25) := vty2 (t0 36 _ rfl).1 rfl
  have r0_37 : g0 37 = .ref (ad 26) := vty2 (t0 37 _ rfl).1 rfl
  have r0_72 : g0 72 = .ref (ad 45) := vty2 (t0 72 _ rfl).1 rfl
  have r0_73 : g0 73 = .ref (ad 46) := vty2 (t0 73 _ rfl).1 rfl
  obtain ⟨y0_74, r0_74, -, -⟩ := vty0 (t0 74 _ rfl).1 rfl
  have c0 : w0[0]? = some ((ad 0), ob 11 [.int y0_0, (g0 1), (g0 2), .int h, .ref (ad 2), .ref (ad 3), .ref (ad 4), .ref (ad 5), .ref (ad 6), .ref (ad 7), .int y0_10, .ref (ad 8), .ref (ad 9), .ref (ad 10), .ref (ad 11), .ref (ad 12), .int y0_16, .ref (ad 13), .ref (ad 14), .int y0_19, .int y0_20, .int y0_21, .int y0_22, (g0 23), (g0 24), (g0 25), .ref (ad 18), .ref (ad 19), .int y0_28, .int y0_29, (g0 30), .int y0_31, .ref (ad 21), .ref (ad 22), .ref (ad 23), .ref (ad 24), .ref (ad 25), .ref (ad 26), (g0 38), (g0 39), (g0 40), (g0 41), (g0 42), (g0 43), (g0 44), (g0 45), (g0 46), (g0 47), (g0 48), (g0 49), (g0 50), (g0 51), (g0 52), (g0 53), (g0 54), (g0 55), (g0 56), (g0 57), (g0 58), (g0 59), (g0 60), (g0 61), (g0 62), (g0 63), (g0 64), (g0 65), (g0 66), (g0 67), (g0 68), (g0 69), (g0 70), (g0 71), .ref (ad 45), .ref (ad 46), .int y0_74]) := by
    rw [q0]
    show some (ad 0, ob 11 [g0 0, g0 1, g0 2, g0 3, g0 4, g0 5, g0 6, g0 7, g0 8, g0 9, g0 10, g0 11, g0 12, g0 13, g0 14, g0 15, g0 16, g0 17, g0 18, g0 19, g0 20, g0 21, g0 22, g0 23, g0 24, g0 25, g0 26, g0 27, g0 28, g0 29, g0 30, g0 31, g0 32, g0 33, g0 34, g0 35, g0 36, g0 37, g0 38, g0 39, g0 40, g0 41, g0 42, g0 43, g0 44, g0 45, g0 46, g0 47, g0 48, g0 49, g0 50, g0 51, g0 52, g0 53, g0 54, g0 55, g0 56, g0 57, g0 58, g0 59, g0 60, g0 61, g0 62, g0 63, g0 64, g0 65, g0 66, g0 67, g0 68, g0 69, g0 70, g0 71, g0 72, g0 73, g0 74]) = _
    rw [r0_0, r0_3, r0_4, r0_5, r0_6, r0_7, r0_8, r0_9, r0_10, r0_11, r0_12, r0_13, r0_14, r0_15, r0_16, r0_17, r0_18, r0_19, r0_20, r0_21, r0_22, r0_26, r0_27, r0_28, r0_29, r0_31, r0_32, r0_33, r0_34, r0_35, r0_36, r0_37, r0_72, r0_73, r0_74]
  obtain ⟨f46, c46, -⟩ := WT.ints hW (k := 46) rfl
  have ef46 : f46 = kk := arrinj ((cgetI c46 0).symm.trans ek)
  rw [ef46] at c46
  obtain ⟨f45, c45, -⟩ := WT.bools hW (k := 45) rfl
  have ef45 : f45 = b := arrinj ((cgetZ c45 0).symm.trans eb)
  rw [ef45] at c45
  obtain ⟨f6, c6, -⟩ := WT.ints hW (k := 6) rfl
  have ef6 : f6 = zu := arrinj ((cgetI c6 0).symm.trans eu)
  rw [ef6] at c6
  obtain ⟨f18, c18, -⟩ := WT.ints hW (k := 18) rfl
  have ef18 : f18 = zX := arrinj ((cgetI c18 0).symm.trans eX)
  rw [ef18] at c18
  obtain ⟨f19, c19, -⟩ := WT.ints hW (k := 19) rfl
  have ef19 : f19 = zY := arrinj ((cgetI c19 0).symm.trans eY)
  rw [ef19] at c19
  obtain ⟨f10, c10, -⟩ := WT.bools hW (k := 10) rfl
  obtain ⟨f11, c11, -⟩ := WT.ints hW (k := 11) rfl
  obtain ⟨f12, c12, -⟩ := WT.ints hW (k := 12) rfl
  obtain ⟨f21, c21, -⟩ := WT.ints hW (k := 21) rfl
  obtain ⟨f22, c22, -⟩ := WT.bools hW (k := 22) rfl
  obtain ⟨f23, c23, -⟩ := WT.ints hW (k := 23) rfl
  obtain ⟨f24, c24, -⟩ := WT.ints hW (k := 24) rfl
  obtain ⟨f25, c25, -⟩ := WT.ints hW (k := 25) rfl
  obtain ⟨f26, c26, -⟩ := WT.ints hW (k := 26) rfl
  have h2 := ce_X11_again0 l G (ad 0) y0_0 (g0 1) (g0 2) h (ad 2) (ad 3) (ad 4) (ad 5) (ad 6) (ad 7) y0_10 (ad 8) (ad 9) (ad 10) (ad 11) (ad 12) y0_16 (ad 13) (ad 14) y0_19 y0_20 y0_21 y0_22 (g0 23) (g0 24) (g0 25) (ad 18) (ad 19) y0_28 y0_29 (g0 30) y0_31 (ad 21) (ad 22) (ad 23) (ad 24) (ad 25) (ad 26) (g0 38) (g0 39) (g0 40) (g0 41) (g0 42) (g0 43) (g0 44) (g0 45) (g0 46) (g0 47) (g0 48) (g0 49) (g0 50) (g0 51) (g0 52) (g0 53) (g0 54) (g0 55) (g0 56) (g0 57) (g0 58) (g0 59) (g0 60) (g0 61) (g0 62) (g0 63) (g0 64) (g0 65) (g0 66) (g0 67) (g0 68) (g0 69) (g0 70) (g0 71) (ad 45) (ad 46) y0_74 kk b zu zX zY f10 f11 f12 f21 f22 f23 f24 f25 f26 a a.toInt h.toInt y0_10.toInt rfl rfl rfl (by omega) (by omega) (by omega)
  refine Ct.weak (Ct.and (show Ct l G yX11_again cX11_again 4 (some .boolean) { frames := 1, cells := 0, slots := 0, locals := 25 } [.ref (ad 0), .int a] w0 (fun r w1 => POST G ad TM C_X11_again_2 (fun k => ((Value.ref (ad 0) :: [.int a])[k]?).getD .null) w0 r w1) from ac_X11_again_2 l G ad w0 _ hW (pre_mu (C := C_X11_again_2) (ts := [(0, 1, 1)]) (As := [.int a]) rfl rfl rfl rfl ⟨fun _ => vty_i (by omega) (by omega), trivial⟩ ad w0 rfl)) h2 [0, 46, 45, 6, 18, 19, 10, 11, 12, 21, 22, 23, 24, 25, 26] (pk_cons c0 (pk_cons c46 (pk_cons c45 (pk_cons c6 (pk_cons c18 (pk_cons c19 (pk_cons c10 (pk_cons c11 (pk_cons c12 (pk_cons c21 (pk_cons c22 (pk_cons c23 (pk_cons c24 (pk_cons c25 (pk_cons c26 rfl))))))))))))))) (by decide)) ?_
  rintro r w1 ⟨hp, w2, ⟨rfl, rfl⟩, hS⟩
  obtain ⟨A1, hA1, μ2, -, -, -, -, -, -, hW1, hF1⟩ := hp
  obtain ⟨fs0, -, u0, ul0, -, -⟩ := WT.obj hW1 (k := 0) (j := 0) rfl rfl
  obtain ⟨p6, u6, -⟩ := WT.ints hW1 (k := 6) rfl
  obtain ⟨p10, u10, -⟩ := WT.bools hW1 (k := 10) rfl
  obtain ⟨p11, u11, -⟩ := WT.ints hW1 (k := 11) rfl
  obtain ⟨p12, u12, -⟩ := WT.ints hW1 (k := 12) rfl
  obtain ⟨p18, u18, -⟩ := WT.ints hW1 (k := 18) rfl
  obtain ⟨p19, u19, -⟩ := WT.ints hW1 (k := 19) rfl
  obtain ⟨p21, u21, -⟩ := WT.ints hW1 (k := 21) rfl
  obtain ⟨p22, u22, -⟩ := WT.bools hW1 (k := 22) rfl
  obtain ⟨p23, u23, -⟩ := WT.ints hW1 (k := 23) rfl
  obtain ⟨p24, u24, -⟩ := WT.ints hW1 (k := 24) rfl
  obtain ⟨p25, u25, -⟩ := WT.ints hW1 (k := 25) rfl
  obtain ⟨p26, u26, -⟩ := WT.ints hW1 (k := 26) rfl
  obtain ⟨p45, u45, -⟩ := WT.bools hW1 (k := 45) rfl
  obtain ⟨p46, u46, -⟩ := WT.ints hW1 (k := 46) rfl
  exact ⟨hW1, hF1, rfl, ⟨p6, cgetI u6 0, fun k hk => (same_I hS (k := 6) (j := 3) u6 rfl) k hk⟩, ⟨p18, cgetI u18 0, fun k hk => (same_I hS (k := 18) (j := 4) u18 rfl) k hk⟩, ⟨p19, cgetI u19 0, fun k hk => (same_I hS (k := 19) (j := 5) u19 rfl) k hk⟩⟩
set_option maxHeartbeats 4000000 in
set_option maxRecDepth 100000 in
theorem ac_kqm2 (l : Launch) (G : KG) {ad : Nat → Nat} {w0 : va_W} {h a : Int32} {b kk zu zX zY : Nat → Int32} (hW : WT G ad TM w0) (ha : a.toInt = 2) (eh : fget w0 0 3 = some (.int h)) (eb : cget w0 45 0 = some (.inr (cyZ G, 3, .inl b))) (ek : cget w0 46 0 = some (.inr (cyI G, 462, .inl kk))) (eu : cget w0 6 0 = some (.inr (cyI G, 16, .inl zu))) (eX : cget w0 18 0 = some (.inr (cyI G, 4, .inl zX))) (eY : cget w0 19 0 = some (.inr (cyI G, 4, .inl zY))) : Ct l G yX11_keep cX11_keep 4 (some .boolean) { frames := 1, cells := 0, slots := 0, locals := 25 } [.ref (ad 0), .int a] w0 (fun r w1 => WT G ad TM w1 ∧ FRM C_X11_keep_3.2.2.2.2.1 w0 w1 ∧ KpQ G 2 h.toInt b kk zu zX zY r w1) := by
  obtain ⟨g0, q0, t0⟩ := WT.tab hW (k := 0) rfl
  obtain ⟨y0_0, r0_0, -, -⟩ := vty0 (t0 0 _ rfl).1 rfl
  have r0_3 : g0 3 = .int h := Option.some.inj ((t0 3 _ rfl).2.symm.trans eh)
  have b0_3 : 0 ≤ h.toInt ∧ h.toInt ≤ 16 := by
    have h := (t0 3 _ rfl).1
    rw [r0_3] at h
    obtain ⟨y, e, l1, u1⟩ := vty0 h rfl
    obtain rfl := Value.int.inj e
    exact ⟨l1, u1⟩
  have r0_4 : g0 4 = .ref (ad 2) := vty2 (t0 4 _ rfl).1 rfl
  have r0_5 : g0 5 = .ref (ad 3) := vty2 (t0 5 _ rfl).1 rfl
  have r0_6 : g0 6 = .ref (ad 4) := vty2 (t0 6 _ rfl).1 rfl
  have r0_7 : g0 7 = .ref (ad 5) := vty2 (t0 7 _ rfl).1 rfl
  have r0_8 : g0 8 = .ref (ad 6) := vty2 (t0 8 _ rfl).1 rfl
  have r0_9 : g0 9 = .ref (ad 7) := vty2 (t0 9 _ rfl).1 rfl
  obtain ⟨y0_10, r0_10, bl0_10, bu0_10⟩ := vty0 (t0 10 _ rfl).1 rfl
  have b0_10 : 0 ≤ y0_10.toInt ∧ y0_10.toInt ≤ 6 := ⟨bl0_10, bu0_10⟩
  have r0_11 : g0 11 = .ref (ad 8) := vty2 (t0 11 _ rfl).1 rfl
  have r0_12 : g0 12 = .ref (ad 9) := vty2 (t0 12 _ rfl).1 rfl
  have r0_13 : g0 13 = .ref (ad 10) := vty2 (t0 13 _ rfl).1 rfl
  have r0_14 : g0 14 = .ref (ad 11) := vty2 (t0 14 _ rfl).1 rfl
  have r0_15 : g0 15 = .ref (ad 12) := vty2 (t0 15 _ rfl).1 rfl
  obtain ⟨y0_16, r0_16, -, -⟩ := vty0 (t0 16 _ rfl).1 rfl
  have r0_17 : g0 17 = .ref (ad 13) := vty2 (t0 17 _ rfl).1 rfl
  have r0_18 : g0 18 = .ref (ad 14) := vty2 (t0 18 _ rfl).1 rfl
  obtain ⟨y0_19, r0_19, -, -⟩ := vty0 (t0 19 _ rfl).1 rfl
  obtain ⟨y0_20, r0_20, -, -⟩ := vty0 (t0 20 _ rfl).1 rfl
  obtain ⟨y0_21, r0_21, -, -⟩ := vty0 (t0 21 _ rfl).1 rfl
  obtain ⟨y0_22, r0_22, -, -⟩ := vty0 (t0 22 _ rfl).1 rfl
  have r0_26 : g0 26 = .ref (ad 18) := vty2 (t0 26 _ rfl).1 rfl
  have r0_27 : g0 27 = .ref (ad 19) := vty2 (t0 27 _ rfl).1 rfl
  obtain ⟨y0_28, r0_28, -, -⟩ := vty0 (t0 28 _ rfl).1 rfl
  obtain ⟨y0_29, r0_29, -, -⟩ := vty0 (t0 29 _ rfl).1 rfl
  obtain ⟨y0_31, r0_31, -, -⟩ := vty0 (t0 31 _ rfl).1 rfl
  have r0_32 : g0 32 = .ref (ad 21) := vty2 (t0 32 _ rfl).1 rfl
  have r0_33 : g0 33 = .ref (ad 22) := vty2 (t0 33 _ rfl).1 rfl
  have r0_34 : g0 34 = .ref (ad 23) := vty2 (t0 34 _ rfl).1 rfl
  have r0_35 : g0 35 = .ref (ad 24) := vty2 (t0 35 _ rfl).1 rfl
  have r0_36 : g0 36 = .ref (ad 25) := vty2 (t0 36 _ rfl).1 rfl
  have r0_37 : g0 37 = .ref (ad 26) := vty2 (t0 37 _ rfl).1 rfl
  have r0_72 : g0 72 = .ref (ad 45) := vty2 (t0 72 _ rfl).1 rfl
  have r0_73 : g0 73 = .ref (ad 46) := vty2 (t0 73 _ rfl).1 rfl
  obtain ⟨y0_74, r0_74, -, -⟩ := vty0 (t0 74 _ rfl).1 rfl
  have c0 : w0[0]? = some ((ad 0), ob 11 [.int y0_0, (g0 1), (g0 2), .int h, .ref (ad 2), .ref (ad 3), .ref (ad 4), .ref (ad 5), .ref (ad 6), .ref (ad 7), .int y0_10, .ref (ad 8), .ref (ad 9), .ref (ad 10), .ref (ad 11), .ref (ad 12), .int y0_16, .ref (ad 13), .ref (ad 14), .int y0_19, .int y0_20, .int y0_21, .int y0_22, (g0 23), (g0 24), (g0 25), .ref (ad 18), .ref (ad 19), .int y0_28, .int y0_29, (g0 30), .int y0_31, .ref (ad 21), .ref (ad 22), .ref (ad 23), .ref (ad 24), .ref (ad 25), .ref (ad 26), (g0 38), (g0 39), (g0 40), (g0 41), (g0 42), (g0 43), (g0 44), (g0 45), (g0 46), (g0 47), (g0 48), (g0 49), (g0 50), (g0 51), (g0 52), (g0 53), (g0 54), (g0 55), (g0 56), (g0 57), (g0 58), (g0 59), (g0 60), (g0 61), (g0 62), (g0 63), (g0 64), (g0 65), (g0 66), (g0 67), (g0 68), (g0 69), (g0 70), (g0 71), .ref (ad 45), .ref (ad 46), .int y0_74]) := by
    rw [q0]
    show some (ad 0, ob 11 [g0 0, g0 1, g0 2, g0 3, g0 4, g0 5, g0 6, g0 7, g0 8, g0 9, g0 10, g0 11, g0 12, g0 13, g0 14, g0 15, g0 16, g0 17, g0 18, g0 19, g0 20, g0 21, g0 22, g0 23, g0 24, g0 25, g0 26, g0 27, g0 28, g0 29, g0 30, g0 31, g0 32, g0 33, g0 34, g0 35, g0 36, g0 37, g0 38, g0 39, g0 40, g0 41, g0 42, g0 43, g0 44, g0 45, g0 46, g0 47, g0 48, g0 49, g0 50, g0 51, g0 52, g0 53, g0 54, g0 55, g0 56, g0 57, g0 58, g0 59, g0 60, g0 61, g0 62, g0 63, g0 64, g0 65, g0 66, g0 67, g0 68, g0 69, g0 70, g0 71, g0 72, g0 73, g0 74]) = _
    rw [r0_0, r0_3, r0_4, r0_5, r0_6, r0_7, r0_8, r0_9, r0_10, r0_11, r0_12, r0_13, r0_14, r0_15, r0_16, r0_17, r0_18, r0_19, r0_20, r0_21, r0_22, r0_26, r0_27, r0_28, r0_29, r0_31, r0_32, r0_33, r0_34, r0_35, r0_36, r0_37, r0_72, r0_73, r0_74]
  obtain ⟨f46, c46, -⟩ := WT.ints hW (k := 46) rfl
  have ef46 : f46 = kk := arrinj ((cgetI c46 0).symm.trans ek)
  rw [ef46] at c46
  obtain ⟨f45, c45, -⟩ := WT.bools hW (k := 45) rfl
  have ef45 : f45 = b := arrinj ((cgetZ c45 0).symm.trans eb)
  rw [ef45] at c45
  obtain ⟨f6, c6, -⟩ := WT.ints hW (k := 6) rfl
  have ef6 : f6 = zu := arrinj ((cgetI c6 0).symm.trans eu)
  rw [ef6] at c6
  obtain ⟨f18, c18, -⟩ := WT.ints hW (k := 18) rfl
  have ef18 : f18 = zX := arrinj ((cgetI c18 0).symm.trans eX)
  rw [ef18] at c18
  obtain ⟨f19, c19, -⟩ := WT.ints hW (k := 19) rfl
  have ef19 : f19 = zY := arrinj ((cgetI c19 0).symm.trans eY)
  rw [ef19] at c19
  obtain ⟨f10, c10, -⟩ := WT.bools hW (k := 10) rfl
  obtain ⟨f11, c11, -⟩ := WT.ints hW (k := 11) rfl
  obtain ⟨f12, c12, -⟩ := WT.ints hW (k := 12) rfl
  obtain ⟨f21, c21, -⟩ := WT.ints hW (k := 21) rfl
  obtain ⟨f22, c22, -⟩ := WT.bools hW (k := 22) rfl
  obtain ⟨f23, c23, -⟩ := WT.ints hW (k := 23) rfl
  obtain ⟨f24, c24, -⟩ := WT.ints hW (k := 24) rfl
  obtain ⟨f25, c25, -⟩ := WT.ints hW (k := 25) rfl
  obtain ⟨f26, c26, -⟩ := WT.ints hW (k := 26) rfl
  have h2 := ce_X11_keep l G (ad 0) y0_0 (g0 1) (g0 2) h (ad 2) (ad 3) (ad 4) (ad 5) (ad 6) (ad 7) y0_10 (ad 8) (ad 9) (ad 10) (ad 11) (ad 12) y0_16 (ad 13) (ad 14) y0_19 y0_20 y0_21 y0_22 (g0 23) (g0 24) (g0 25) (ad 18) (ad 19) y0_28 y0_29 (g0 30) y0_31 (ad 21) (ad 22) (ad 23) (ad 24) (ad 25) (ad 26) (g0 38) (g0 39) (g0 40) (g0 41) (g0 42) (g0 43) (g0 44) (g0 45) (g0 46) (g0 47) (g0 48) (g0 49) (g0 50) (g0 51) (g0 52) (g0 53) (g0 54) (g0 55) (g0 56) (g0 57) (g0 58) (g0 59) (g0 60) (g0 61) (g0 62) (g0 63) (g0 64) (g0 65) (g0 66) (g0 67) (g0 68) (g0 69) (g0 70) (g0 71) (ad 45) (ad 46) y0_74 kk b zu zX zY f10 f11 f12 f21 f22 f23 f24 f25 f26 a a.toInt h.toInt y0_10.toInt rfl rfl rfl (by omega) (by omega)
  refine Ct.weak (Ct.and (show Ct l G yX11_keep cX11_keep 4 (some .boolean) { frames := 1, cells := 0, slots := 0, locals := 25 } [.ref (ad 0), .int a] w0 (fun r w1 => POST G ad TM C_X11_keep_3 (fun k => ((Value.ref (ad 0) :: [.int a])[k]?).getD .null) w0 r w1) from ac_X11_keep_3 l G ad w0 _ hW (pre_mu (C := C_X11_keep_3) (ts := [(0, 2, 2)]) (As := [.int a]) rfl rfl rfl rfl ⟨fun _ => vty_i (by omega) (by omega), trivial⟩ ad w0 rfl)) h2 [0, 46, 45, 6, 18, 19, 10, 11, 12, 21, 22, 23, 24, 25, 26] (pk_cons c0 (pk_cons c46 (pk_cons c45 (pk_cons c6 (pk_cons c18 (pk_cons c19 (pk_cons c10 (pk_cons c11 (pk_cons c12 (pk_cons c21 (pk_cons c22 (pk_cons c23 (pk_cons c24 (pk_cons c25 (pk_cons c26 rfl))))))))))))))) (by decide)) ?_
  rintro r w1 ⟨hp, w2, ⟨k2, fk2, hE, rfl, rfl⟩, hS⟩
  obtain ⟨A1, hA1, μ2, -, -, -, -, -, -, hW1, hF1⟩ := hp
  obtain ⟨fs0, -, u0, ul0, -, -⟩ := WT.obj hW1 (k := 0) (j := 0) rfl rfl
  obtain ⟨p6, u6, -⟩ := WT.ints hW1 (k := 6) rfl
  obtain ⟨p10, u10, -⟩ := WT.bools hW1 (k := 10) rfl
  obtain ⟨p11, u11, -⟩ := WT.ints hW1 (k := 11) rfl
  obtain ⟨p12, u12, -⟩ := WT.ints hW1 (k := 12) rfl
  obtain ⟨p18, u18, -⟩ := WT.ints hW1 (k := 18) rfl
  obtain ⟨p19, u19, -⟩ := WT.ints hW1 (k := 19) rfl
  obtain ⟨p21, u21, -⟩ := WT.ints hW1 (k := 21) rfl
  obtain ⟨p22, u22, -⟩ := WT.bools hW1 (k := 22) rfl
  obtain ⟨p23, u23, -⟩ := WT.ints hW1 (k := 23) rfl
  obtain ⟨p24, u24, -⟩ := WT.ints hW1 (k := 24) rfl
  obtain ⟨p25, u25, -⟩ := WT.ints hW1 (k := 25) rfl
  obtain ⟨p26, u26, -⟩ := WT.ints hW1 (k := 26) rfl
  obtain ⟨p45, u45, -⟩ := WT.bools hW1 (k := 45) rfl
  obtain ⟨p46, u46, -⟩ := WT.ints hW1 (k := 46) rfl
  exact ⟨hW1, hF1, rfl, ⟨p45, cgetZ u45 0, fun j hj => ((same_Z hS (k := 45) (j := 2) u45 rfl) j hj).trans (by unfold upd; by_cases ej : j = 2; (rw [if_pos ej, if_pos (show j = a.toNatClampNeg from (show j = a.toInt.toNat by omega))]; try rfl); (rw [if_neg ej, if_neg (show ¬ j = a.toNatClampNeg from (show ¬ j = a.toInt.toNat by omega))]))⟩, p46, cgetI u46 0, fun m hm => ((same_I hS (k := 46) (j := 1) u46 rfl) _ (by omega)).trans (by rw [hE, if_pos (by omega), show (154 * 2 + 2 + m) - (154 * a.toInt).toNat = 2 + m by omega, enc_oz _ hm]), fun m hm => ⟨((same_I hS (k := 46) (j := 1) u46 rfl) _ (by omega)).trans (by rw [hE, if_pos (by omega), show (154 * 2 + 18 + 2 * m) - (154 * a.toInt).toNat = 18 + 2 * m by omega, enc_tx _ hm]), ((same_I hS (k := 46) (j := 1) u46 rfl) _ (by omega)).trans (by rw [hE, if_pos (by omega), show (154 * 2 + 19 + 2 * m) - (154 * a.toInt).toNat = 18 + 2 * m + 1 by omega, enc_ty _ hm])⟩, fun j hj hq => ((same_I hS (k := 46) (j := 1) u46 rfl) j hj).trans (by rw [hE, if_neg (by omega)])⟩
set_option maxHeartbeats 4000000 in
set_option maxRecDepth 100000 in
theorem ac_gqm2 (l : Launch) (G : KG) {ad : Nat → Nat} {w0 : va_W} {h a : Int32} {b kk zu zX zY : Nat → Int32} (hW : WT G ad TM w0) (ha : a.toInt = 2) (eh : fget w0 0 3 = some (.int h)) (eb : cget w0 45 0 = some (.inr (cyZ G, 3, .inl b))) (ek : cget w0 46 0 = some (.inr (cyI G, 462, .inl kk))) (eu : cget w0 6 0 = some (.inr (cyI G, 16, .inl zu))) (eX : cget w0 18 0 = some (.inr (cyI G, 4, .inl zX))) (eY : cget w0 19 0 = some (.inr (cyI G, 4, .inl zY))) (hb : (b a.toNatClampNeg).toInt ≠ 0) : Ct l G yX11_again cX11_again 4 (some .boolean) { frames := 1, cells := 0, slots := 0, locals := 25 } [.ref (ad 0), .int a] w0 (fun r w1 => WT G ad TM w1 ∧ FRM C_X11_again_3.2.2.2.2.1 w0 w1 ∧ (r = some (.int 1) ∧ CQ G w1 6 16 (fun m => kk (154 * 2 + 2 + m)) ∧ CQ G w1 18 4 (fun m => kk (154 * 2 + 18 + 2 * m)) ∧ CQ G w1 19 4 (fun m => kk (154 * 2 + 19 + 2 * m)))) := by
  obtain ⟨g0, q0, t0⟩ := WT.tab hW (k := 0) rfl
  obtain ⟨y0_0, r0_0, -, -⟩ := vty0 (t0 0 _ rfl).1 rfl
  have r0_3 : g0 3 = .int h := Option.some.inj ((t0 3 _ rfl).2.symm.trans eh)
  have b0_3 : 0 ≤ h.toInt ∧ h.toInt ≤ 16 := by
    have h := (t0 3 _ rfl).1
    rw [r0_3] at h
    obtain ⟨y, e, l1, u1⟩ := vty0 h rfl
    obtain rfl := Value.int.inj e
    exact ⟨l1, u1⟩
  have r0_4 : g0 4 = .ref (ad 2) := vty2 (t0 4 _ rfl).1 rfl
  have r0_5 : g0 5 = .ref (ad 3) := vty2 (t0 5 _ rfl).1 rfl
  have r0_6 : g0 6 = .ref (ad 4) := vty2 (t0 6 _ rfl).1 rfl
  have r0_7 : g0 7 = .ref (ad 5) := vty2 (t0 7 _ rfl).1 rfl
  have r0_8 : g0 8 = .ref (ad 6) := vty2 (t0 8 _ rfl).1 rfl
  have r0_9 : g0 9 = .ref (ad 7) := vty2 (t0 9 _ rfl).1 rfl
  obtain ⟨y0_10, r0_10, bl0_10, bu0_10⟩ := vty0 (t0 10 _ rfl).1 rfl
  have b0_10 : 0 ≤ y0_10.toInt ∧ y0_10.toInt ≤ 6 := ⟨bl0_10, bu0_10⟩
  have r0_11 : g0 11 = .ref (ad 8) := vty2 (t0 11 _ rfl).1 rfl
  have r0_12 : g0 12 = .ref (ad 9) := vty2 (t0 12 _ rfl).1 rfl
  have r0_13 : g0 13 = .ref (ad 10) := vty2 (t0 13 _ rfl).1 rfl
  have r0_14 : g0 14 = .ref (ad 11) := vty2 (t0 14 _ rfl).1 rfl
  have r0_15 : g0 15 = .ref (ad 12) := vty2 (t0 15 _ rfl).1 rfl
  obtain ⟨y0_16, r0_16, -, -⟩ := vty0 (t0 16 _ rfl).1 rfl
  have r0_17 : g0 17 = .ref (ad 13) := vty2 (t0 17 _ rfl).1 rfl
  have r0_18 : g0 18 = .ref (ad 14) := vty2 (t0 18 _ rfl).1 rfl
  obtain ⟨y0_19, r0_19, -, -⟩ := vty0 (t0 19 _ rfl).1 rfl
  obtain ⟨y0_20, r0_20, -, -⟩ := vty0 (t0 20 _ rfl).1 rfl
  obtain ⟨y0_21, r0_21, -, -⟩ := vty0 (t0 21 _ rfl).1 rfl
  obtain ⟨y0_22, r0_22, -, -⟩ := vty0 (t0 22 _ rfl).1 rfl
  have r0_26 : g0 26 = .ref (ad 18) := vty2 (t0 26 _ rfl).1 rfl
  have r0_27 : g0 27 = .ref (ad 19) := vty2 (t0 27 _ rfl).1 rfl
  obtain ⟨y0_28, r0_28, -, -⟩ := vty0 (t0 28 _ rfl).1 rfl
  obtain ⟨y0_29, r0_29, -, -⟩ := vty0 (t0 29 _ rfl).1 rfl
  obtain ⟨y0_31, r0_31, -, -⟩ := vty0 (t0 31 _ rfl).1 rfl
  have r0_32 : g0 32 = .ref (ad 21) := vty2 (t0 32 _ rfl).1 rfl
  have r0_33 : g0 33 = .ref (ad 22) := vty2 (t0 33 _ rfl).1 rfl
  have r0_34 : g0 34 = .ref (ad 23) := vty2 (t0 34 _ rfl).1 rfl
  have r0_35 : g0 35 = .ref (ad 24) := vty2 (t0 35 _ rfl).1 rfl
  have r0_36 : g0 36 = .ref (ad 25) := vty2 (t0 36 _ rfl).1 rfl
  have r0_37 : g0 37 = .ref (ad 26) := vty2 (t0 37 _ rfl).1 rfl
  have r0_72 : g0 72 = .ref (ad 45) := vty2 (t0 72 _ rfl).1 rfl
  have r0_73 : g0 73 = .ref (ad 46) := vty2 (t0 73 _ rfl).1 rfl
  obtain ⟨y0_74, r0_74, -, -⟩ := vty0 (t0 74 _ rfl).1 rfl
  have c0 : w0[0]? = some ((ad 0), ob 11 [.int y0_0, (g0 1), (g0 2), .int h, .ref (ad 2), .ref (ad 3), .ref (ad 4), .ref (ad 5), .ref (ad 6), .ref (ad 7), .int y0_10, .ref (ad 8), .ref (ad 9), .ref (ad 10), .ref (ad 11), .ref (ad 12), .int y0_16, .ref (ad 13), .ref (ad 14), .int y0_19, .int y0_20, .int y0_21, .int y0_22, (g0 23), (g0 24), (g0 25), .ref (ad 18), .ref (ad 19), .int y0_28, .int y0_29, (g0 30), .int y0_31, .ref (ad 21), .ref (ad 22), .ref (ad 23), .ref (ad 24), .ref (ad 25), .ref (ad 26), (g0 38), (g0 39), (g0 40), (g0 41), (g0 42), (g0 43), (g0 44), (g0 45), (g0 46), (g0 47), (g0 48), (g0 49), (g0 50), (g0 51), (g0 52), (g0 53), (g0 54), (g0 55), (g0 56), (g0 57), (g0 58), (g0 59), (g0 60), (g0 61), (g0 62), (g0 63), (g0 64), (g0 65), (g0 66), (g0 67), (g0 68), (g0 69), (g0 70), (g0 71), .ref (ad 45), .ref (ad 46), .int y0_74]) := by
    rw [q0]
    show some (ad 0, ob 11 [g0 0, g0 1, g0 2, g0 3, g0 4, g0 5, g0 6, g0 7, g0 8, g0 9, g0 10, g0 11, g0 12, g0 13, g0 14, g0 15, g0 16, g0 17, g0 18, g0 19, g0 20, g0 21, g0 22, g0 23, g0 24, g0 25, g0 26, g0 27, g0 28, g0 29, g0 30, g0 31, g0 32, g0 33, g0 34, g0 35, g0 36, g0 37, g0 38, g0 39, g0 40, g0 41, g0 42, g0 43, g0 44, g0 45, g0 46, g0 47, g0 48, g0 49, g0 50, g0 51, g0 52, g0 53, g0 54, g0 55, g0 56, g0 57, g0 58, g0 59, g0 60, g0 61, g0 62, g0 63, g0 64, g0 65, g0 66, g0 67, g0 68, g0 69, g0 70, g0 71, g0 72, g0 73, g0 74]) = _
    rw [r0_0, r0_3, r0_4, r0_5, r0_6, r0_7, r0_8, r0_9, r0_10, r0_11, r0_12, r0_13, r0_14, r0_15, r0_16, r0_17, r0_18, r0_19, r0_20, r0_21, r0_22, r0_26, r0_27, r0_28, r0_29, r0_31, r0_32, r0_33, r0_34, r0_35, r0_36, r0_37, r0_72, r0_73, r0_74]
  obtain ⟨f46, c46, -⟩ := WT.ints hW (k := 46) rfl
  have ef46 : f46 = kk := arrinj ((cgetI c46 0).symm.trans ek)
  rw [ef46] at c46
  obtain ⟨f45, c45, -⟩ := WT.bools hW (k := 45) rfl
  have ef45 : f45 = b := arrinj ((cgetZ c45 0).symm.trans eb)
  rw [ef45] at c45
  obtain ⟨f6, c6, -⟩ := WT.ints hW (k := 6) rfl
  have ef6 : f6 = zu := arrinj ((cgetI c6 0).symm.trans eu)
  rw [ef6] at c6
  obtain ⟨f18, c18, -⟩ := WT.ints hW (k := 18) rfl
  have ef18 : f18 = zX := arrinj ((cgetI c18 0).symm.trans eX)
  rw [ef18] at c18
  obtain ⟨f19, c19, -⟩ := WT.ints hW (k := 19) rfl
  have ef19 : f19 = zY := arrinj ((cgetI c19 0).symm.trans eY)
  rw [ef19] at c19
  obtain ⟨f10, c10, -⟩ := WT.bools hW (k := 10) rfl
  obtain ⟨f11, c11, -⟩ := WT.ints hW (k := 11) rfl
  obtain ⟨f12, c12, -⟩ := WT.ints hW (k := 12) rfl
  obtain ⟨f21, c21, -⟩ := WT.ints hW (k := 21) rfl
  obtain ⟨f22, c22, -⟩ := WT.bools hW (k := 22) rfl
  obtain ⟨f23, c23, -⟩ := WT.ints hW (k := 23) rfl
  obtain ⟨f24, c24, -⟩ := WT.ints hW (k := 24) rfl
  obtain ⟨f25, c25, -⟩ := WT.ints hW (k := 25) rfl
  obtain ⟨f26, c26, -⟩ := WT.ints hW (k := 26) rfl
  have h2 := ce_X11_again l G (ad 0) y0_0 (g0 1) (g0 2) h (ad 2) (ad 3) (ad 4) (ad 5) (ad 6) (ad 7) y0_10 (ad 8) (ad 9) (ad 10) (ad 11) (ad 12) y0_16 (ad 13) (ad 14) y0_19 y0_20 y0_21 y0_22 (g0 23) (g0 24) (g0 25) (ad 18) (ad 19) y0_28 y0_29 (g0 30) y0_31 (ad 21) (ad 22) (ad 23) (ad 24) (ad 25) (ad 26) (g0 38) (g0 39) (g0 40) (g0 41) (g0 42) (g0 43) (g0 44) (g0 45) (g0 46) (g0 47) (g0 48) (g0 49) (g0 50) (g0 51) (g0 52) (g0 53) (g0 54) (g0 55) (g0 56) (g0 57) (g0 58) (g0 59) (g0 60) (g0 61) (g0 62) (g0 63) (g0 64) (g0 65) (g0 66) (g0 67) (g0 68) (g0 69) (g0 70) (g0 71) (ad 45) (ad 46) y0_74 kk b zu zX zY f10 f11 f12 f21 f22 f23 f24 f25 f26 a a.toInt h.toInt y0_10.toInt rfl rfl rfl (by omega) (by omega) (by omega)
  refine Ct.weak (Ct.and (show Ct l G yX11_again cX11_again 4 (some .boolean) { frames := 1, cells := 0, slots := 0, locals := 25 } [.ref (ad 0), .int a] w0 (fun r w1 => POST G ad TM C_X11_again_3 (fun k => ((Value.ref (ad 0) :: [.int a])[k]?).getD .null) w0 r w1) from ac_X11_again_3 l G ad w0 _ hW (pre_mu (C := C_X11_again_3) (ts := [(0, 2, 2)]) (As := [.int a]) rfl rfl rfl rfl ⟨fun _ => vty_i (by omega) (by omega), trivial⟩ ad w0 rfl)) h2 [0, 46, 45, 6, 18, 19, 10, 11, 12, 21, 22, 23, 24, 25, 26] (pk_cons c0 (pk_cons c46 (pk_cons c45 (pk_cons c6 (pk_cons c18 (pk_cons c19 (pk_cons c10 (pk_cons c11 (pk_cons c12 (pk_cons c21 (pk_cons c22 (pk_cons c23 (pk_cons c24 (pk_cons c25 (pk_cons c26 rfl))))))))))))))) (by decide)) ?_
  rintro r w1 ⟨hp, w2, ⟨k2, ph2, po2, t2, fu2, fX2, fY2, fa2, fA2, fB2, fS2, fW2, f12, f22, f32, f42, hph, hpo, ht2, z_fu, z_fX, z_fY, z_fa, z_fA, z_fB, z_fS, z_fW, z_f1, z_f2, z_f3, z_f4, rfl, rfl⟩, hS⟩
  obtain ⟨A1, hA1, μ2, -, -, -, -, -, -, hW1, hF1⟩ := hp
  obtain ⟨fs0, -, u0, ul0, -, -⟩ := WT.obj hW1 (k := 0) (j := 0) rfl rfl
  obtain ⟨p6, u6, -⟩ := WT.ints hW1 (k := 6) rfl
  obtain ⟨p10, u10, -⟩ := WT.bools hW1 (k := 10) rfl
  obtain ⟨p11, u11, -⟩ := WT.ints hW1 (k := 11) rfl
  obtain ⟨p12, u12, -⟩ := WT.ints hW1 (k := 12) rfl
  obtain ⟨p18, u18, -⟩ := WT.ints hW1 (k := 18) rfl
  obtain ⟨p19, u19, -⟩ := WT.ints hW1 (k := 19) rfl
  obtain ⟨p21, u21, -⟩ := WT.ints hW1 (k := 21) rfl
  obtain ⟨p22, u22, -⟩ := WT.bools hW1 (k := 22) rfl
  obtain ⟨p23, u23, -⟩ := WT.ints hW1 (k := 23) rfl
  obtain ⟨p24, u24, -⟩ := WT.ints hW1 (k := 24) rfl
  obtain ⟨p25, u25, -⟩ := WT.ints hW1 (k := 25) rfl
  obtain ⟨p26, u26, -⟩ := WT.ints hW1 (k := 26) rfl
  obtain ⟨p45, u45, -⟩ := WT.bools hW1 (k := 45) rfl
  obtain ⟨p46, u46, -⟩ := WT.ints hW1 (k := 46) rfl
  exact ⟨hW1, hF1, rfl, ⟨p6, cgetI u6 0, fun k hk => ((same_I hS (k := 6) (j := 3) u6 rfl) k hk).trans ((z_fu k hk).trans (congrArg kk (by omega)))⟩, ⟨p18, cgetI u18 0, fun k hk => ((same_I hS (k := 18) (j := 4) u18 rfl) k hk).trans ((z_fX k hk).trans (congrArg kk (by omega)))⟩, ⟨p19, cgetI u19 0, fun k hk => ((same_I hS (k := 19) (j := 5) u19 rfl) k hk).trans ((z_fY k hk).trans (congrArg kk (by omega)))⟩⟩
set_option maxHeartbeats 4000000 in
set_option maxRecDepth 100000 in
theorem ac_nqm2 (l : Launch) (G : KG) {ad : Nat → Nat} {w0 : va_W} {h a : Int32} {b kk zu zX zY : Nat → Int32} (hW : WT G ad TM w0) (ha : a.toInt = 2) (eh : fget w0 0 3 = some (.int h)) (eb : cget w0 45 0 = some (.inr (cyZ G, 3, .inl b))) (ek : cget w0 46 0 = some (.inr (cyI G, 462, .inl kk))) (eu : cget w0 6 0 = some (.inr (cyI G, 16, .inl zu))) (eX : cget w0 18 0 = some (.inr (cyI G, 4, .inl zX))) (eY : cget w0 19 0 = some (.inr (cyI G, 4, .inl zY))) (hb : (b a.toNatClampNeg).toInt = 0) : Ct l G yX11_again cX11_again 4 (some .boolean) { frames := 1, cells := 0, slots := 0, locals := 25 } [.ref (ad 0), .int a] w0 (fun r w1 => WT G ad TM w1 ∧ FRM C_X11_again_3.2.2.2.2.1 w0 w1 ∧ (r = some (.int 0) ∧ CQ G w1 6 16 (zu) ∧ CQ G w1 18 4 (zX) ∧ CQ G w1 19 4 (zY))) := by
  obtain ⟨g0, q0, t0⟩ := WT.tab hW (k := 0) rfl
  obtain ⟨y0_0, r0_0, -, -⟩ := vty0 (t0 0 _ rfl).1 rfl
  have r0_3 : g0 3 = .int h := Option.some.inj ((t0 3 _ rfl).2.symm.trans eh)
  have b0_3 : 0 ≤ h.toInt ∧ h.toInt ≤ 16 := by
    have h := (t0 3 _ rfl).1
    rw [r0_3] at h
    obtain ⟨y, e, l1, u1⟩ := vty0 h rfl
    obtain rfl := Value.int.inj e
    exact ⟨l1, u1⟩
  have r0_4 : g0 4 = .ref (ad 2) := vty2 (t0 4 _ rfl).1 rfl
  have r0_5 : g0 5 = .ref (ad 3) := vty2 (t0 5 _ rfl).1 rfl
  have r0_6 : g0 6 = .ref (ad 4) := vty2 (t0 6 _ rfl).1 rfl
  have r0_7 : g0 7 = .ref (ad 5) := vty2 (t0 7 _ rfl).1 rfl
  have r0_8 : g0 8 = .ref (ad 6) := vty2 (t0 8 _ rfl).1 rfl
  have r0_9 : g0 9 = .ref (ad 7) := vty2 (t0 9 _ rfl).1 rfl
  obtain ⟨y0_10, r0_10, bl0_10, bu0_10⟩ := vty0 (t0 10 _ rfl).1 rfl
  have b0_10 : 0 ≤ y0_10.toInt ∧ y0_10.toInt ≤ 6 := ⟨bl0_10, bu0_10⟩
  have r0_11 : g0 11 = .ref (ad 8) := vty2 (t0 11 _ rfl).1 rfl
  have r0_12 : g0 12 = .ref (ad 9) := vty2 (t0 12 _ rfl).1 rfl
  have r0_13 : g0 13 = .ref (ad 10) := vty2 (t0 13 _ rfl).1 rfl
  have r0_14 : g0 14 = .ref (ad 11) := vty2 (t0 14 _ rfl).1 rfl
  have r0_15 : g0 15 = .ref (ad 12) := vty2 (t0 15 _ rfl).1 rfl
  obtain ⟨y0_16, r0_16, -, -⟩ := vty0 (t0 16 _ rfl).1 rfl
  have r0_17 : g0 17 = .ref (ad 13) := vty2 (t0 17 _ rfl).1 rfl
  have r0_18 : g0 18 = .ref (ad 14) := vty2 (t0 18 _ rfl).1 rfl
  obtain ⟨y0_19, r0_19, -, -⟩ := vty0 (t0 19 _ rfl).1 rfl
  obtain ⟨y0_20, r0_20, -, -⟩ := vty0 (t0 20 _ rfl).1 rfl
  obtain ⟨y0_21, r0_21, -, -⟩ := vty0 (t0 21 _ rfl).1 rfl
  obtain ⟨y0_22, r0_22, -, -⟩ := vty0 (t0 22 _ rfl).1 rfl
  have r0_26 : g0 26 = .ref (ad 18) := vty2 (t0 26 _ rfl).1 rfl
  have r0_27 : g0 27 = .ref (ad 19) := vty2 (t0 27 _ rfl).1 rfl
  obtain ⟨y0_28, r0_28, -, -⟩ := vty0 (t0 28 _ rfl).1 rfl
  obtain ⟨y0_29, r0_29, -, -⟩ := vty0 (t0 29 _ rfl).1 rfl
  obtain ⟨y0_31, r0_31, -, -⟩ := vty0 (t0 31 _ rfl).1 rfl
  have r0_32 : g0 32 = .ref (ad 21) := vty2 (t0 32 _ rfl).1 rfl
  have r0_33 : g0 33 = .ref (ad 22) := vty2 (t0 33 _ rfl).1 rfl
  have r0_34 : g0 34 = .ref (ad 23) := vty2 (t0 34 _ rfl).1 rfl
  have r0_35 : g0 35 = .ref (ad 24) := vty2 (t0 35 _ rfl).1 rfl
  have r0_36 : g0 36 = .ref (ad 25) := vty2 (t0 36 _ rfl).1 rfl
  have r0_37 : g0 37 = .ref (ad 26) := vty2 (t0 37 _ rfl).1 rfl
  have r0_72 : g0 72 = .ref (ad 45) := vty2 (t0 72 _ rfl).1 rfl
  have r0_73 : g0 73 = .ref (ad 46) := vty2 (t0 73 _ rfl).1 rfl
  obtain ⟨y0_74, r0_74, -, -⟩ := vty0 (t0 74 _ rfl).1 rfl
  have c0 : w0[0]? = some ((ad 0), ob 11 [.int y0_0, (g0 1), (g0 2), .int h, .ref (ad 2), .ref (ad 3), .ref (ad 4), .ref (ad 5), .ref (ad 6), .ref (ad 7), .int y0_10, .ref (ad 8), .ref (ad 9), .ref (ad 10), .ref (ad 11), .ref (ad 12), .int y0_16, .ref (ad 13), .ref (ad 14), .int y0_19, .int y0_20, .int y0_21, .int y0_22, (g0 23), (g0 24), (g0 25), .ref (ad 18), .ref (ad 19), .int y0_28, .int y0_29, (g0 30), .int y0_31, .ref (ad 21), .ref (ad 22), .ref (ad 23), .ref (ad 24), .ref (ad 25), .ref (ad 26), (g0 38), (g0 39), (g0 40), (g0 41), (g0 42), (g0 43), (g0 44), (g0 45), (g0 46), (g0 47), (g0 48), (g0 49), (g0 50), (g0 51), (g0 52), (g0 53), (g0 54), (g0 55), (g0 56), (g0 57), (g0 58), (g0 59), (g0 60), (g0 61), (g0 62), (g0 63), (g0 64), (g0 65), (g0 66), (g0 67), (g0 68), (g0 69), (g0 70), (g0 71), .ref (ad 45), .ref (ad 46), .int y0_74]) := by
    rw [q0]
    show some (ad 0, ob 11 [g0 0, g0 1, g0 2, g0 3, g0 4, g0 5, g0 6, g0 7, g0 8, g0 9, g0 10, g0 11, g0 12, g0 13, g0 14, g0 15, g0 16, g0 17, g0 18, g0 19, g0 20, g0 21, g0 22, g0 23, g0 24, g0 25, g0 26, g0 27, g0 28, g0 29, g0 30, g0 31, g0 32, g0 33, g0 34, g0 35, g0 36, g0 37, g0 38, g0 39, g0 40, g0 41, g0 42, g0 43, g0 44, g0 45, g0 46, g0 47, g0 48, g0 49, g0 50, g0 51, g0 52, g0 53, g0 54, g0 55, g0 56, g0 57, g0 58, g0 59, g0 60, g0 61, g0 62, g0 63, g0 64, g0 65, g0 66, g0 67, g0 68, g0 69, g0 70, g0 71, g0 72, g0 73, g0 74]) = _
    rw [r0_0, r0_3, r0_4, r0_5, r0_6, r0_7, r0_8, r0_9, r0_10, r0_11, r0_12, r0_13, r0_14, r0_15, r0_16, r0_17, r0_18, r0_19, r0_20, r0_21, r0_22, r0_26, r0_27, r0_28, r0_29, r0_31, r0_32, r0_33, r0_34, r0_35, r0_36, r0_37, r0_72, r0_73, r0_74]
  obtain ⟨f46, c46, -⟩ := WT.ints hW (k := 46) rfl
  have ef46 : f46 = kk := arrinj ((cgetI c46 0).symm.trans ek)
  rw [ef46] at c46
  obtain ⟨f45, c45, -⟩ := WT.bools hW (k := 45) rfl
  have ef45 : f45 = b := arrinj ((cgetZ c45 0).symm.trans eb)
  rw [ef45] at c45
  obtain ⟨f6, c6, -⟩ := WT.ints hW (k := 6) rfl
  have ef6 : f6 = zu := arrinj ((cgetI c6 0).symm.trans eu)
  rw [ef6] at c6
  obtain ⟨f18, c18, -⟩ := WT.ints hW (k := 18) rfl
  have ef18 : f18 = zX := arrinj ((cgetI c18 0).symm.trans eX)
  rw [ef18] at c18
  obtain ⟨f19, c19, -⟩ := WT.ints hW (k := 19) rfl
  have ef19 : f19 = zY := arrinj ((cgetI c19 0).symm.trans eY)
  rw [ef19] at c19
  obtain ⟨f10, c10, -⟩ := WT.bools hW (k := 10) rfl
  obtain ⟨f11, c11, -⟩ := WT.ints hW (k := 11) rfl
  obtain ⟨f12, c12, -⟩ := WT.ints hW (k := 12) rfl
  obtain ⟨f21, c21, -⟩ := WT.ints hW (k := 21) rfl
  obtain ⟨f22, c22, -⟩ := WT.bools hW (k := 22) rfl
  obtain ⟨f23, c23, -⟩ := WT.ints hW (k := 23) rfl
  obtain ⟨f24, c24, -⟩ := WT.ints hW (k := 24) rfl
  obtain ⟨f25, c25, -⟩ := WT.ints hW (k := 25) rfl
  obtain ⟨f26, c26, -⟩ := WT.ints hW (k := 26) rfl
  have h2 := ce_X11_again0 l G (ad 0) y0_0 (g0 1) (g0 2) h (ad 2) (ad 3) (ad 4) (ad 5) (ad 6) (ad 7) y0_10 (ad 8) (ad 9) (ad 10) (ad 11) (ad 12) y0_16 (ad 13) (ad 14) y0_19 y0_20 y0_21 y0_22 (g0 23) (g0 24) (g0 25) (ad 18) (ad 19) y0_28 y0_29 (g0 30) y0_31 (ad 21) (ad 22) (ad 23) (ad 24) (ad 25) (ad 26) (g0 38) (g0 39) (g0 40) (g0 41) (g0 42) (g0 43) (g0 44) (g0 45) (g0 46) (g0 47) (g0 48) (g0 49) (g0 50) (g0 51) (g0 52) (g0 53) (g0 54) (g0 55) (g0 56) (g0 57) (g0 58) (g0 59) (g0 60) (g0 61) (g0 62) (g0 63) (g0 64) (g0 65) (g0 66) (g0 67) (g0 68) (g0 69) (g0 70) (g0 71) (ad 45) (ad 46) y0_74 kk b zu zX zY f10 f11 f12 f21 f22 f23 f24 f25 f26 a a.toInt h.toInt y0_10.toInt rfl rfl rfl (by omega) (by omega) (by omega)
  refine Ct.weak (Ct.and (show Ct l G yX11_again cX11_again 4 (some .boolean) { frames := 1, cells := 0, slots := 0, locals := 25 } [.ref (ad 0), .int a] w0 (fun r w1 => POST G ad TM C_X11_again_3 (fun k => ((Value.ref (ad 0) :: [.int a])[k]?).getD .null) w0 r w1) from ac_X11_again_3 l G ad w0 _ hW (pre_mu (C := C_X11_again_3) (ts := [(0, 2, 2)]) (As := [.int a]) rfl rfl rfl rfl ⟨fun _ => vty_i (by omega) (by omega), trivial⟩ ad w0 rfl)) h2 [0, 46, 45, 6, 18, 19, 10, 11, 12, 21, 22, 23, 24, 25, 26] (pk_cons c0 (pk_cons c46 (pk_cons c45 (pk_cons c6 (pk_cons c18 (pk_cons c19 (pk_cons c10 (pk_cons c11 (pk_cons c12 (pk_cons c21 (pk_cons c22 (pk_cons c23 (pk_cons c24 (pk_cons c25 (pk_cons c26 rfl))))))))))))))) (by decide)) ?_
  rintro r w1 ⟨hp, w2, ⟨rfl, rfl⟩, hS⟩
  obtain ⟨A1, hA1, μ2, -, -, -, -, -, -, hW1, hF1⟩ := hp
  obtain ⟨fs0, -, u0, ul0, -, -⟩ := WT.obj hW1 (k := 0) (j := 0) rfl rfl
  obtain ⟨p6, u6, -⟩ := WT.ints hW1 (k := 6) rfl
  obtain ⟨p10, u10, -⟩ := WT.bools hW1 (k := 10) rfl
  obtain ⟨p11, u11, -⟩ := WT.ints hW1 (k := 11) rfl
  obtain ⟨p12, u12, -⟩ := WT.ints hW1 (k := 12) rfl
  obtain ⟨p18, u18, -⟩ := WT.ints hW1 (k := 18) rfl
  obtain ⟨p19, u19, -⟩ := WT.ints hW1 (k := 19) rfl
  obtain ⟨p21, u21, -⟩ := WT.ints hW1 (k := 21) rfl
  obtain ⟨p22, u22, -⟩ := WT.bools hW1 (k := 22) rfl
  obtain ⟨p23, u23, -⟩ := WT.ints hW1 (k := 23) rfl
  obtain ⟨p24, u24, -⟩ := WT.ints hW1 (k := 24) rfl
  obtain ⟨p25, u25, -⟩ := WT.ints hW1 (k := 25) rfl
  obtain ⟨p26, u26, -⟩ := WT.ints hW1 (k := 26) rfl
  obtain ⟨p45, u45, -⟩ := WT.bools hW1 (k := 45) rfl
  obtain ⟨p46, u46, -⟩ := WT.ints hW1 (k := 46) rfl
  exact ⟨hW1, hF1, rfl, ⟨p6, cgetI u6 0, fun k hk => (same_I hS (k := 6) (j := 3) u6 rfl) k hk⟩, ⟨p18, cgetI u18 0, fun k hk => (same_I hS (k := 18) (j := 4) u18 rfl) k hk⟩, ⟨p19, cgetI u19 0, fun k hk => (same_I hS (k := 19) (j := 5) u19 rfl) k hk⟩⟩
