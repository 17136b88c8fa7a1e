/-! the class's next, enough, whole -/
/-- the class's world: without its pulls, or with them -/
def CWx (G : KG) (x : Nat) (w : va_W) : Prop := ∃ ad : Nat → Nat, ad 0 = x ∧ ((WT G ad TX w ∧ w.length = 109 ∧ fget w 0 15 = some .null) ∨ (WT G ad TXP w ∧ w.length = 116 ∧ GC G w))
/-- an int, and the class's world, no shorter than before -/
def iPO (G : KG) (x : Nat) (w0 : va_W) : Option Value → va_W → Prop := fun r w1 => (∃ v : Int32, r = some (.int v)) ∧ w0.length ≤ w1.length ∧ CWx G x w1 ∧ FX mk_nxe 109 w0 w1
abbrev rm_nx (k s : Nat) : Room := { frames := 5, cells := k, slots := s, locals := 120 }
abbrev rm_en (k s : Nat) : Room := { frames := 5, cells := k, slots := s, locals := 122 }
theorem ac_nxA (l : Launch) (G : KG) {ad : Nat → Nat} {w0 : va_W} (a b : Int32) (hW : WT G ad TX w0) (hl : w0.length = 109) (hn : fget w0 0 15 = some .null) : Ct l G yX10_next cX10_next 5 (some .int) (rm_nx 7 80434) [.ref (ad 0), .int a, .int b] w0 (iPO G (ad 0) w0) := by
  obtain ⟨μ, hμ⟩ : ∃ q : Nat → Value, q = fun k => if k = 0 then .ref (ad 0) else if k = 1 then .int a else .int b := ⟨_, rfl⟩
  have m0 : μ 0 = .ref (ad 0) := by rw [hμ]; rfl
  have m1 : μ 1 = .int a := by rw [hμ]; rfl
  have m2 : μ 2 = .int b := by rw [hμ]; rfl
  have hpre : PRE ad C_nx μ w0 := by
    refine ⟨fun k t hk => ?_, fun k q hk => ?_, fun q hq => ?_⟩
    · match k, hk with
      | 0, hk => cases hk; rw [m0]; exact Or.inr (Or.inr (Or.inl ⟨rfl, rfl⟩))
      | 1, hk => cases hk; rw [m1]; exact vty_i0 _
      | 2, hk => cases hk; rw [m2]; exact vty_i0 _
      | N + 3, hk => cases hk
    · cases hk
    · cases hq
  have he : (List.range C_nx.1.length).map μ = [.ref (ad 0), .int a, .int b] := by show [μ 0, μ 1, μ 2] = _; rw [m0, m1, m2]
  rw [← he]
  refine hand_ofR (C := C_nx) (rm := rm_nx 7 80434) (PO := iPO G (ad 0) w0) hW hpre (by decide) (by decide) (by decide) (by decide) (by decide) ?_
  intro p e s m args below meth c A X lw hg
  have hPO : ∀ r w1, POST G ad TX sC_nxA μ w0 r w1 → iPO G (ad 0) w0 r w1 := by
    intro r w1 hp
    obtain ⟨A1, hA1, μ9, -, -, q3, -, -, -, q7, q8⟩ := hp
    have ee := List.mem_singleton.mp hA1
    subst ee
    obtain ⟨rr, r2⟩ := q3
    obtain ⟨v, ev', -⟩ := vty0 r2 rfl
    exact ⟨⟨v, by rw [rr, ev']⟩, by rw [q8.1]; exact Nat.le_refl _, ⟨ad, rfl, Or.inl ⟨q7, q8.1.trans hl, fget_frame q8 (by decide) hn⟩⟩, FX.refl.frm q8 (by decide)⟩
  refine aseg (C := sC_nxA) (R := rm_nx 7 80434) (PO := iPO G (ad 0) w0) (fld := fld_10) (put := put_10) (cst := cst_10) (cstl := cstl_10) (hk := hk0) (tab := D_X10_next) (rk := 1) (pids := [0, 1, 2]) D_X10_next_ok X rfl rfl hok0 (Or.inr (Or.inl ⟨rfl, rfl⟩)) (Nat.zero_le _) (Nat.zero_le _) (spin1 (C := C_nx)) (spin2 (C := C_nx)) hPO fld_10_ok put_10_ok cst_10_ok cstl_10_ok (sl_nxA_ok l G) (Nat.zero_le _) (Nat.zero_le _) spin3 sg_nxA (fun d9 hd ν2 lw2 sw2 ws2 hg2 => ?_) μ lw [] w0 hg
  rw [List.mem_singleton.mp hd] at hg2 ⊢
  have h3 := hg2.2.2
  have e0 : ν2 0 = .ref (ad 0) := h3.ref (i := 0) rfl
  obtain ⟨v1, e1, p0, p1⟩ := h3.rng (i := 1) (a := 0) (b := 5) (by decide)
  obtain ⟨v2, e2, o0, o1⟩ := h3.rng (i := 2) (a := 1) (b := 4) (by decide)
  have el : lw2 = [(0, ν2 0), (1, ν2 1), (2, ν2 2)] := hg2.1
  have es : sw2 = [ν2 0] := hg2.2.1
  have hW2 := h3.2.2.2.2.2.1
  have hF2 := h3.2.2.2.2.2.2
  rw [el, es, e0, e1, e2]
  refine hcallV (T := TX) (k := 0) (rest := []) (avs := []) X k_10_264 (ac_gpN l G hW2 (hF2.1.trans hl) (fget_frame hF2 (by decide) hn)) d_nx_38 hW2 rfl rfl rfl rfl ⟨by decide, by decide⟩ ⟨Nat.le_of_ble_eq_true rfl, Nat.le_of_ble_eq_true rfl⟩ (by decide) rfl (fun r w1 hp => ?_)
  obtain ⟨ad', a1, rfl, a2, a3, a4⟩ := hp
  rw [← a1 0 (by decide)]
  exact nx_tail (ad := ad') X a2 a3 (by decide) (by decide) (Nat.le_refl _) (Nat.le_refl _) (Nat.le_refl _) (Nat.le_refl _) p0 p1 o0 o1 (fun v w2 g1 g2 g3 => ⟨⟨v, rfl⟩, by rw [g3, a4, hl]; decide, ⟨ad', rfl, Or.inr ⟨g1, g3.trans a4, g2.1⟩⟩, (FX.refl.frm hF2 (by decide)).trans g2.2⟩)
theorem ac_nxR (l : Launch) (G : KG) {ad : Nat → Nat} {w0 : va_W} (a b : Int32) (hW : WT G ad TXP w0) (hl : w0.length = 116) (hG : GC G w0) : Ct l G yX10_next cX10_next 5 (some .int) (rm_nx 0 0) [.ref (ad 0), .int a, .int b] w0 (iPO G (ad 0) w0) := by
  obtain ⟨μ, hμ⟩ : ∃ q : Nat → Value, q = fun k => if k = 0 then .ref (ad 0) else if k = 1 then .int a else .int b := ⟨_, rfl⟩
  have m0 : μ 0 = .ref (ad 0) := by rw [hμ]; rfl
  have m1 : μ 1 = .int a := by rw [hμ]; rfl
  have m2 : μ 2 = .int b := by rw [hμ]; rfl
  have hpre : PRE ad C_nx μ w0 := by
    refine ⟨fun k t hk => ?_, fun k q hk => ?_, fun q hq => ?_⟩
    · match k, hk with
      | 0, hk => cases hk; rw [m0]; exact Or.inr (Or.inr (Or.inl ⟨rfl, rfl⟩))
      | 1, hk => cases hk; rw [m1]; exact vty_i0 _
      | 2, hk => cases hk; rw [m2]; exact vty_i0 _
      | N + 3, hk => cases hk
    · cases hk
    · cases hq
  have he : (List.range C_nx.1.length).map μ = [.ref (ad 0), .int a, .int b] := by show [μ 0, μ 1, μ 2] = _; rw [m0, m1, m2]
  rw [← he]
  refine hand_ofR (C := C_nx) (rm := rm_nx 0 0) (PO := iPO G (ad 0) w0) hW hpre (by decide) (by decide) (by decide) (by decide) (by decide) ?_
  intro p e s m args below meth c A X lw hg
  have hPO : ∀ r w1, POST G ad TXP sC_nxR μ w0 r w1 → iPO G (ad 0) w0 r w1 := by
    intro r w1 hp
    obtain ⟨A1, hA1, μ9, -, -, q3, -, -, -, q7, q8⟩ := hp
    have ee := List.mem_singleton.mp hA1
    subst ee
    obtain ⟨rr, r2⟩ := q3
    obtain ⟨v, ev', -⟩ := vty0 r2 rfl
    exact ⟨⟨v, by rw [rr, ev']⟩, by rw [q8.1]; exact Nat.le_refl _, ⟨ad, rfl, Or.inr ⟨q7, q8.1.trans hl, hG.frm q8 (by decide)⟩⟩, FX.refl.frm q8 (by decide)⟩
  refine aseg (C := sC_nxR) (R := rm_nx 0 0) (PO := iPO G (ad 0) w0) (fld := fld_10) (put := put_10) (cst := cst_10) (cstl := cstl_10) (hk := hk0) (tab := D_X10_next) (rk := 1) (pids := [0, 1, 2]) D_X10_next_ok X rfl rfl hok0 (Or.inr (Or.inl ⟨rfl, rfl⟩)) (Nat.zero_le _) (Nat.zero_le _) (spin1 (C := C_nx)) (spin2 (C := C_nx)) hPO fld_10_ok put_10_ok cst_10_ok cstl_10_ok (sl_nxR_ok l G) (Nat.zero_le _) (Nat.zero_le _) spin3 sg_nxR (fun d9 hd ν2 lw2 sw2 ws2 hg2 => ?_) μ lw [] w0 hg
  rw [List.mem_singleton.mp hd] at hg2 ⊢
  have h3 := hg2.2.2
  have e0 : ν2 0 = .ref (ad 0) := h3.ref (i := 0) rfl
  obtain ⟨v1, e1, p0, p1⟩ := h3.rng (i := 1) (a := 0) (b := 5) (by decide)
  obtain ⟨v2, e2, o0, o1⟩ := h3.rng (i := 2) (a := 1) (b := 4) (by decide)
  have el : lw2 = [(0, ν2 0), (1, ν2 1), (2, ν2 2)] := hg2.1
  have es : sw2 = [ν2 0] := hg2.2.1
  have hW2 := h3.2.2.2.2.2.1
  have hF2 := h3.2.2.2.2.2.2
  rw [el, es, e0, e1, e2]
  refine hcallV (T := TXP) (k := 0) (rest := []) (avs := []) X k_10_264 (ac_gpR l G hW2 (⟨hG.frm hF2 (by decide), FX.refl.frm hF2 (by decide)⟩ : GF G w0 ws2)) d_nx_38 hW2 rfl rfl rfl rfl ⟨by decide, by decide⟩ ⟨Nat.le_of_ble_eq_true rfl, Nat.le_of_ble_eq_true rfl⟩ (by decide) rfl (fun r w1 hp => ?_)
  obtain ⟨rfl, a2, a3, a4⟩ := hp
  exact nx_tail (ad := ad) X a2 a3 (by decide) (by decide) (Nat.le_refl _) (Nat.le_refl _) (Nat.le_refl _) (Nat.le_refl _) p0 p1 o0 o1 (fun v w2 g1 g2 g3 => ⟨⟨v, rfl⟩, by rw [g3, a4, hF2.1]; exact Nat.le_refl _, ⟨ad, rfl, Or.inr ⟨g1, (g3.trans a4).trans (hF2.1.trans hl), g2.1⟩⟩, g2.2⟩)
theorem ac_enA (l : Launch) (G : KG) {ad : Nat → Nat} {w0 : va_W} (a b d : Int32) (hW : WT G ad TX w0) (hl : w0.length = 109) (hn : fget w0 0 15 = some .null) : Ct l G yX10_enough cX10_enough 7 (some .int) (rm_en 7 80434) [.ref (ad 0), .int a, .int b, .int d] w0 (iPO G (ad 0) w0) := by
  obtain ⟨μ, hμ⟩ : ∃ q : Nat → Value, q = fun k => if k = 0 then .ref (ad 0) else if k = 1 then .int a else if k = 2 then .int b else .int d := ⟨_, rfl⟩
  have m0 : μ 0 = .ref (ad 0) := by rw [hμ]; rfl
  have m1 : μ 1 = .int a := by rw [hμ]; rfl
  have m2 : μ 2 = .int b := by rw [hμ]; rfl
  have m3 : μ 3 = .int d := by rw [hμ]; rfl
  have hpre : PRE ad C_en μ w0 := by
    refine ⟨fun k t hk => ?_, fun k q hk => ?_, fun q hq => ?_⟩
    · match k, hk with
      | 0, hk => cases hk; rw [m0]; exact Or.inr (Or.inr (Or.inl ⟨rfl, rfl⟩))
      | 1, hk => cases hk; rw [m1]; exact vty_i0 _
      | 2, hk => cases hk; rw [m2]; exact vty_i0 _
      | 3, hk => cases hk; rw [m3]; exact vty_i0 _
      | N + 4, hk => cases hk
    · cases hk
    · cases hq
  have he : (List.range C_en.1.length).map μ = [.ref (ad 0), .int a, .int b, .int d] := by show [μ 0, μ 1, μ 2, μ 3] = _; rw [m0, m1, m2, m3]
  rw [← he]
  refine hand_ofR (C := C_en) (rm := rm_en 7 80434) (PO := iPO G (ad 0) w0) hW hpre (by decide) (by decide) (by decide) (by decide) (by decide) ?_
  intro p e s m args below meth c A X lw hg
  have hPO : ∀ r w1, POST G ad TX sC_enA μ w0 r w1 → iPO G (ad 0) w0 r w1 := by
    intro r w1 hp
    obtain ⟨A1, hA1, μ9, -, -, q3, -, -, -, q7, q8⟩ := hp
    have ee := List.mem_singleton.mp hA1
    subst ee
    obtain ⟨rr, r2⟩ := q3
    obtain ⟨v, ev', -⟩ := vty0 r2 rfl
    exact ⟨⟨v, by rw [rr, ev']⟩, by rw [q8.1]; exact Nat.le_refl _, ⟨ad, rfl, Or.inl ⟨q7, q8.1.trans hl, fget_frame q8 (by decide) hn⟩⟩, FX.refl.frm q8 (by decide)⟩
  refine aseg (C := sC_enA) (R := rm_en 7 80434) (PO := iPO G (ad 0) w0) (fld := fld_10) (put := put_10) (cst := cst_10) (cstl := cstl_10) (hk := hk0) (tab := D_X10_enough) (rk := 1) (pids := [0, 1, 2, 3]) D_X10_enough_ok X rfl rfl hok0 (Or.inr (Or.inl ⟨rfl, rfl⟩)) (Nat.zero_le _) (Nat.zero_le _) (spin1 (C := C_en)) (spin2 (C := C_en)) hPO fld_10_ok put_10_ok cst_10_ok cstl_10_ok (sl_enA_ok l G) (Nat.zero_le _) (Nat.zero_le _) spin3 sg_enA (fun d9 hd ν2 lw2 sw2 ws2 hg2 => ?_) μ lw [] w0 hg
  rw [List.mem_singleton.mp hd] at hg2 ⊢
  have h3 := hg2.2.2
  have e0 : ν2 0 = .ref (ad 0) := h3.ref (i := 0) rfl
  obtain ⟨v1, e1, p0, p1⟩ := h3.rng (i := 1) (a := 0) (b := 5) (by decide)
  obtain ⟨v2, e2, x0, x1⟩ := h3.rng (i := 2) (a := -60) (b := 60) (by decide)
  obtain ⟨v3, e3, y0, y1⟩ := h3.rng (i := 3) (a := -60) (b := 60) (by decide)
  have el : lw2 = [(0, ν2 0), (1, ν2 1), (2, ν2 2), (3, ν2 3)] := hg2.1
  have es : sw2 = [ν2 0] := hg2.2.1
  have hW2 := h3.2.2.2.2.2.1
  have hF2 := h3.2.2.2.2.2.2
  rw [el, es, e0, e1, e2, e3]
  refine hcallV (T := TX) (k := 0) (rest := []) (avs := []) X k_10_264 (ac_gpN l G hW2 (hF2.1.trans hl) (fget_frame hF2 (by decide) hn)) d_en_63 hW2 rfl rfl rfl rfl ⟨by decide, by decide⟩ ⟨Nat.le_of_ble_eq_true rfl, Nat.le_of_ble_eq_true rfl⟩ (by decide) rfl (fun r w1 hp => ?_)
  obtain ⟨ad', a1, rfl, a2, a3, a4⟩ := hp
  rw [← a1 0 (by decide)]
  exact en_tail (ad := ad') X a2 a3 (by decide) (by decide) (Nat.le_refl _) (Nat.le_refl _) (Nat.le_refl _) (Nat.le_refl _) p0 p1 x0 x1 y0 y1 (fun v w2 g1 g2 g3 => ⟨⟨v, rfl⟩, by rw [g3, a4, hl]; decide, ⟨ad', rfl, Or.inr ⟨g1, g3.trans a4, g2.1⟩⟩, (FX.refl.frm hF2 (by decide)).trans g2.2⟩)
theorem ac_enR (l : Launch) (G : KG) {ad : Nat → Nat} {w0 : va_W} (a b d : Int32) (hW : WT G ad TXP w0) (hl : w0.length = 116) (hG : GC G w0) : Ct l G yX10_enough cX10_enough 7 (some .int) (rm_en 0 0) [.ref (ad 0), .int a, .int b, .int d] w0 (iPO G (ad 0) w0) := by
  obtain ⟨μ, hμ⟩ : ∃ q : Nat → Value, q = fun k => if k = 0 then .ref (ad 0) else if k = 1 then .int a else if k = 2 then .int b else .int d := ⟨_, rfl⟩
  have m0 : μ 0 = .ref (ad 0) := by rw [hμ]; rfl
  have m1 : μ 1 = .int a := by rw [hμ]; rfl
  have m2 : μ 2 = .int b := by rw [hμ]; rfl
  have m3 : μ 3 = .int d := by rw [hμ]; rfl
  have hpre : PRE ad C_en μ w0 := by
    refine ⟨fun k t hk => ?_, fun k q hk => ?_, fun q hq => ?_⟩
    · match k, hk with
      | 0, hk => cases hk; rw [m0]; exact Or.inr (Or.inr (Or.inl ⟨rfl, rfl⟩))
      | 1, hk => cases hk; rw [m1]; exact vty_i0 _
      | 2, hk => cases hk; rw [m2]; exact vty_i0 _
      | 3, hk => cases hk; rw [m3]; exact vty_i0 _
      | N + 4, hk => cases hk
    · cases hk
    · cases hq
  have he : (List.range C_en.1.length).map μ = [.ref (ad 0), .int a, .int b, .int d] := by show [μ 0, μ 1, μ 2, μ 3] = _; rw [m0, m1, m2, m3]
  rw [← he]
  refine hand_ofR (C := C_en) (rm := rm_en 0 0) (PO := iPO G (ad 0) w0) hW hpre (by decide) (by decide) (by decide) (by decide) (by decide) ?_
  intro p e s m args below meth c A X lw hg
  have hPO : ∀ r w1, POST G ad TXP sC_enR μ w0 r w1 → iPO G (ad 0) w0 r w1 := by
    intro r w1 hp
    obtain ⟨A1, hA1, μ9, -, -, q3, -, -, -, q7, q8⟩ := hp
    have ee := List.mem_singleton.mp hA1
    subst ee
    obtain ⟨rr, r2⟩ := q3
    obtain ⟨v, ev', -⟩ := vty0 r2 rfl
    exact ⟨⟨v, by rw [rr, ev']⟩, by rw [q8.1]; exact Nat.le_refl _, ⟨ad, rfl, Or.inr ⟨q7, q8.1.trans hl, hG.frm q8 (by decide)⟩⟩, FX.refl.frm q8 (by decide)⟩
  refine aseg (C := sC_enR) (R := rm_en 0 0) (PO := iPO G (ad 0) w0) (fld := fld_10) (put := put_10) (cst := cst_10) (cstl := cstl_10) (hk := hk0) (tab := D_X10_enough) (rk := 1) (pids := [0, 1, 2, 3]) D_X10_enough_ok X rfl rfl hok0 (Or.inr (Or.inl ⟨rfl, rfl⟩)) (Nat.zero_le _) (Nat.zero_le _) (spin1 (C := C_en)) (spin2 (C := C_en)) hPO fld_10_ok put_10_ok cst_10_ok cstl_10_ok (sl_enR_ok l G) (Nat.zero_le _) (Nat.zero_le _) spin3 sg_enR (fun d9 hd ν2 lw2 sw2 ws2 hg2 => ?_) μ lw [] w0 hg
  rw [List.mem_singleton.mp hd] at hg2 ⊢
  have h3 := hg2.2.2
  have e0 : ν2 0 = .ref (ad 0) := h3.ref (i := 0) rfl
  obtain ⟨v1, e1, p0, p1⟩ := h3.rng (i := 1) (a := 0) (b := 5) (by decide)
  obtain ⟨v2, e2, x0, x1⟩ := h3.rng (i := 2) (a := -60) (b := 60) (by decide)
  obtain ⟨v3, e3, y0, y1⟩ := h3.rng (i := 3) (a := -60) (b := 60) (by decide)
  have el : lw2 = [(0, ν2 0), (1, ν2 1), (2, ν2 2), (3, ν2 3)] := hg2.1
  have es : sw2 = [ν2 0] := hg2.2.1
  have hW2 := h3.2.2.2.2.2.1
  have hF2 := h3.2.2.2.2.2.2
  rw [el, es, e0, e1, e2, e3]
  refine hcallV (T := TXP) (k := 0) (rest := []) (avs := []) X k_10_264 (ac_gpR l G hW2 (⟨hG.frm hF2 (by decide), FX.refl.frm hF2 (by decide)⟩ : GF G w0 ws2)) d_en_63 hW2 rfl rfl rfl rfl ⟨by decide, by decide⟩ ⟨Nat.le_of_ble_eq_true rfl, Nat.le_of_ble_eq_true rfl⟩ (by decide) rfl (fun r w1 hp => ?_)
  obtain ⟨rfl, a2, a3, a4⟩ := hp
  exact en_tail (ad := ad) X a2 a3 (by decide) (by decide) (Nat.le_refl _) (Nat.le_refl _) (Nat.le_refl _) (Nat.le_refl _) p0 p1 x0 x1 y0 y1 (fun v w2 g1 g2 g3 => ⟨⟨v, rfl⟩, by rw [g3, a4, hF2.1]; exact Nat.le_refl _, ⟨ad, rfl, Or.inr ⟨g1, (g3.trans a4).trans (hF2.1.trans hl), g2.1⟩⟩, g2.2⟩)
