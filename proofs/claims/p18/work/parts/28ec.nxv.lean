/-! next, enough: what they cost -/
section HLV
variable {l : Launch} {G : KG} {T : List TE} {cc : ByteArray} {nL : Nat} {ret : Option FieldType} {C : CE} {y : MethodName}
/-- from its start, in a room of one's own -/
theorem hand_ofV {rm : Room} {PV : PVT} {ad : Nat → Nat} {w0 : va_W} {μ : Nat → Value} (hW : WT G ad T w0) (hPre : PRE ad C μ w0) (hy : plainName y.cls = true) (c3 : aslots C.1 ≤ nL) (c4 : ∀ t ∈ C.1, t.1 ≤ 2) (c1 : C.1.length ≤ 50) (c2 : C.2.1.length ≤ 100)
    (body : ∀ (p : Program) (e : Env) (s : State) (m : MethodId) (args : Array Value) (below : List Frame) (meth : Method) (c : Code) (A : Nat → Prop), ZC p s m args meth c cc nL y.cls G A ret y.name → ∀ (lw : List (Nat × Value)), AG G ad T C.2.2.2.2.1 w0 (spin C μ) (ast0 C) μ lw [] w0 → Z p l e rm s m args below meth c nL G A (MQV below G PV args s A) 0 lw [] w0 0 0) : CtV l G y cc nL ret rm ((List.range C.1.length).map μ) w0 PV := by
  obtain ⟨r1, r2, r3⟩ := lv0_ok (μ := μ) (ad := ad) C.1 0 0 c4 (fun k t hk => by rw [Nat.zero_add]; exact hPre.1 k t hk)
  rw [List.range_eq_range']
  refine ctV_of _ hy (by rw [r3]; exact c3) rfl ?_
  intro p e s m args below meth c A X
  refine body p e s m args below meth c A X _ ⟨r1, rfl, r2, fun q hq => ?_, fun q hq => ?_, hPre.2.2, ?_, hW, rfl, fun k j _ => rfl⟩
  · rcases List.mem_append.mp hq with hq | hq
    · obtain ⟨z, hz, rfl⟩ := List.mem_map.mp hq
      exact hPre.1 z.2 z.1 (zipIdx_mem hz)
    · obtain ⟨z, hz, rfl⟩ := List.mem_map.mp hq
      exact (hPre.2.1 z.2 z.1 (zipIdx_mem hz)).1
  · obtain ⟨z, hz, rfl⟩ := List.mem_map.mp hq
    exact (hPre.2.1 z.2 z.1 (zipIdx_mem hz)).2
  · intro q hq
    rcases List.mem_append.mp hq with hq | hq
    · obtain ⟨j, hj, rfl⟩ := List.mem_map.mp hq
      have := List.mem_range.mp hj
      exact ⟨by show j < 1000; omega, rfl⟩
    · obtain ⟨j, hj, rfl⟩ := List.mem_map.mp hq
      have := List.mem_range.mp hj
      exact ⟨by show 100 + j < 1000; omega, rfl⟩
end HLV
/-- an int, and the class's world: as long as it was at no cost, or its pulls made -/
def vPO (G : KG) (x : Nat) (w0 : va_W) : PVT := fun k n r w1 => (∃ v : Int32, r = some (.int v)) ∧ ((k = 0 ∧ n = 0 ∧ w1.length = w0.length) ∨ (k = 7 ∧ n = 80434 ∧ w0.length = 109 ∧ w1.length = 116)) ∧ CWx G x w1 ∧ FX mk_nxe 109 w0 w1
theorem ac_nxV (l : Launch) (G : KG) {ad : Nat → Nat} {w0 : va_W} (a b : Int32) (hW : WT G ad TX w0) (hl : w0.length = 109) (hn : fget w0 0 15 = some .null) : CtV l G yX10_next cX10_next 5 (some .int) (rm_nx 7 80434) [.ref (ad 0), .int a, .int b] w0 (vPO G (ad 0) w0) := by
  obtain ⟨μ, hμ⟩ : ∃ q : Nat → Value, q = fun k => if k = 0 then .ref (ad 0) else if k = 1 then .int a else .int b := ⟨_, rfl⟩
  have m0 : μ 0 = .ref (ad 0) := by rw [hμ]; rfl
  have m1 : μ 1 = .int a := by rw [hμ]; rfl
  have m2 : μ 2 = .int b := by rw [hμ]; rfl
  have hpre : PRE ad C_nx μ w0 := by
    refine ⟨fun k t hk => ?_, fun k q hk => ?_, fun q hq => ?_⟩
    · match k, hk with
      | 0, hk => cases hk; rw [m0]; exact Or.inr (Or.inr (Or.inl ⟨rfl, rfl⟩))
      | 1, hk => cases hk; rw [m1]; exact vty_i0 _
      | 2, hk => cases hk; rw [m2]; exact vty_i0 _
      | N + 3, hk => cases hk
    · cases hk
    · cases hq
  have he : (List.range C_nx.1.length).map μ = [.ref (ad 0), .int a, .int b] := by show [μ 0, μ 1, μ 2] = _; rw [m0, m1, m2]
  rw [← he]
  refine hand_ofV (C := C_nx) (rm := rm_nx 7 80434) (PV := vPO G (ad 0) w0) hW hpre (by decide) (by decide) (by decide) (by decide) (by decide) ?_
  intro p e s m args below meth c A X lw hg
  have hPO : ∀ r w1, POST G ad TX sC_nxA μ w0 r w1 → vPO G (ad 0) w0 0 0 r w1 := by
    intro r w1 hp
    obtain ⟨A1, hA1, μ9, -, -, q3, -, -, -, q7, q8⟩ := hp
    have ee := List.mem_singleton.mp hA1
    subst ee
    obtain ⟨rr, r2⟩ := q3
    obtain ⟨v, ev', -⟩ := vty0 r2 rfl
    exact ⟨⟨v, by rw [rr, ev']⟩, Or.inl ⟨rfl, rfl, q8.1⟩, ⟨ad, rfl, Or.inl ⟨q7, q8.1.trans hl, fget_frame q8 (by decide) hn⟩⟩, FX.refl.frm q8 (by decide)⟩
  refine asegQ (Q := MQV below G (vPO G (ad 0) w0) args s A) (mc := 0) (ms := 0) (C := sC_nxA) (R := rm_nx 7 80434) (PO := vPO G (ad 0) w0 0 0) (fld := fld_10) (put := put_10) (cst := cst_10) (cstl := cstl_10) (hk := hk0) (tab := D_X10_next) (rk := 1) (pids := [0, 1, 2]) (mqv_of (fun _ _ h => h)) D_X10_next_ok X rfl rfl hok0 (Or.inr (Or.inl ⟨rfl, rfl⟩)) (Nat.zero_le _) (Nat.zero_le _) (spin1 (C := C_nx)) (spin2 (C := C_nx)) hPO fld_10_ok put_10_ok cst_10_ok cstl_10_ok (sl_nxA_ok l G) (Nat.zero_le _) (Nat.zero_le _) spin3 sg_nxA (fun d9 hd ν2 lw2 sw2 ws2 hg2 => ?_) μ lw [] w0 hg
  rw [List.mem_singleton.mp hd] at hg2 ⊢
  have h3 := hg2.2.2
  have e0 : ν2 0 = .ref (ad 0) := h3.ref (i := 0) rfl
  obtain ⟨v1, e1, p0, p1⟩ := h3.rng (i := 1) (a := 0) (b := 5) (by decide)
  obtain ⟨v2, e2, o0, o1⟩ := h3.rng (i := 2) (a := 1) (b := 4) (by decide)
  have el : lw2 = [(0, ν2 0), (1, ν2 1), (2, ν2 2)] := hg2.1
  have es : sw2 = [ν2 0] := hg2.2.1
  have hW2 := h3.2.2.2.2.2.1
  have hF2 := h3.2.2.2.2.2.2
  rw [el, es, e0, e1, e2]
  refine hcallV (T := TX) (k := 0) (rest := []) (avs := []) X k_10_264 (ac_gpN l G hW2 (hF2.1.trans hl) (fget_frame hF2 (by decide) hn)) d_nx_38 hW2 rfl rfl rfl rfl ⟨by decide, by decide⟩ ⟨Nat.le_of_ble_eq_true rfl, Nat.le_of_ble_eq_true rfl⟩ (by decide) rfl (fun r w1 hp => ?_)
  obtain ⟨ad', a1, rfl, a2, a3, a4⟩ := hp
  rw [← a1 0 (by decide)]
  exact Z.imp (mqv_of (k := 7) (n := 80434) (PO := vPO G (ad' 0) w0 7 80434) (fun _ _ h => h)) (nx_tail (ad := ad') X a2 a3 (by decide) (by decide) (Nat.le_refl _) (Nat.le_refl _) (Nat.le_refl _) (Nat.le_refl _) p0 p1 o0 o1 (fun v w2 g1 g2 g3 => ⟨⟨v, rfl⟩, Or.inr ⟨rfl, rfl, hl, g3.trans a4⟩, ⟨ad', rfl, Or.inr ⟨g1, g3.trans a4, g2.1⟩⟩, (FX.refl.frm hF2 (by decide)).trans g2.2⟩))
theorem ac_enV (l : Launch) (G : KG) {ad : Nat → Nat} {w0 : va_W} (a b d : Int32) (hW : WT G ad TX w0) (hl : w0.length = 109) (hn : fget w0 0 15 = some .null) : CtV l G yX10_enough cX10_enough 7 (some .int) (rm_en 7 80434) [.ref (ad 0), .int a, .int b, .int d] w0 (vPO G (ad 0) w0) := by
  obtain ⟨μ, hμ⟩ : ∃ q : Nat → Value, q = fun k => if k = 0 then .ref (ad 0) else if k = 1 then .int a else if k = 2 then .int b else .int d := ⟨_, rfl⟩
  have m0 : μ 0 = .ref (ad 0) := by rw [hμ]; rfl
  have m1 : μ 1 = .int a := by rw [hμ]; rfl
  have m2 : μ 2 = .int b := by rw [hμ]; rfl
  have m3 : μ 3 = .int d := by rw [hμ]; rfl
  have hpre : PRE ad C_en μ w0 := by
    refine ⟨fun k t hk => ?_, fun k q hk => ?_, fun q hq => ?_⟩
    · match k, hk with
      | 0, hk => cases hk; rw [m0]; exact Or.inr (Or.inr (Or.inl ⟨rfl, rfl⟩))
      | 1, hk => cases hk; rw [m1]; exact vty_i0 _
      | 2, hk => cases hk; rw [m2]; exact vty_i0 _
      | 3, hk => cases hk; rw [m3]; exact vty_i0 _
      | N + 4, hk => cases hk
    · cases hk
    · cases hq
  have he : (List.range C_en.1.length).map μ = [.ref (ad 0), .int a, .int b, .int d] := by show [μ 0, μ 1, μ 2, μ 3] = _; rw [m0, m1, m2, m3]
  rw [← he]
  refine hand_ofV (C := C_en) (rm := rm_en 7 80434) (PV := vPO G (ad 0) w0) hW hpre (by decide) (by decide) (by decide) (by decide) (by decide) ?_
  intro p e s m args below meth c A X lw hg
  have hPO : ∀ r w1, POST G ad TX sC_enA μ w0 r w1 → vPO G (ad 0) w0 0 0 r w1 := by
    intro r w1 hp
    obtain ⟨A1, hA1, μ9, -, -, q3, -, -, -, q7, q8⟩ := hp
    have ee := List.mem_singleton.mp hA1
    subst ee
    obtain ⟨rr, r2⟩ := q3
    obtain ⟨v, ev', -⟩ := vty0 r2 rfl
    exact ⟨⟨v, by rw [rr, ev']⟩, Or.inl ⟨rfl, rfl, q8.1⟩, ⟨ad, rfl, Or.inl ⟨q7, q8.1.trans hl, fget_frame q8 (by decide) hn⟩⟩, FX.refl.frm q8 (by decide)⟩
  refine asegQ (Q := MQV below G (vPO G (ad 0) w0) args s A) (mc := 0) (ms := 0) (C := sC_enA) (R := rm_en 7 80434) (PO := vPO G (ad 0) w0 0 0) (fld := fld_10) (put := put_10) (cst := cst_10) (cstl := cstl_10) (hk := hk0) (tab := D_X10_enough) (rk := 1) (pids := [0, 1, 2, 3]) (mqv_of (fun _ _ h => h)) D_X10_enough_ok X rfl rfl hok0 (Or.inr (Or.inl ⟨rfl, rfl⟩)) (Nat.zero_le _) (Nat.zero_le _) (spin1 (C := C_en)) (spin2 (C := C_en)) hPO fld_10_ok put_10_ok cst_10_ok cstl_10_ok (sl_enA_ok l G) (Nat.zero_le _) (Nat.zero_le _) spin3 sg_enA (fun d9 hd ν2 lw2 sw2 ws2 hg2 => ?_) μ lw [] w0 hg
  rw [List.mem_singleton.mp hd] at hg2 ⊢
  have h3 := hg2.2.2
  have e0 : ν2 0 = .ref (ad 0) := h3.ref (i := 0) rfl
  obtain ⟨v1, e1, p0, p1⟩ := h3.rng (i := 1) (a := 0) (b := 5) (by decide)
  obtain ⟨v2, e2, x0, x1⟩ := h3.rng (i := 2) (a := -60) (b := 60) (by decide)
  obtain ⟨v3, e3, y0, y1⟩ := h3.rng (i := 3) (a := -60) (b := 60) (by decide)
  have el : lw2 = [(0, ν2 0), (1, ν2 1), (2, ν2 2), (3, ν2 3)] := hg2.1
  have es : sw2 = [ν2 0] := hg2.2.1
  have hW2 := h3.2.2.2.2.2.1
  have hF2 := h3.2.2.2.2.2.2
  rw [el, es, e0, e1, e2, e3]
  refine hcallV (T := TX) (k := 0) (rest := []) (avs := []) X k_10_264 (ac_gpN l G hW2 (hF2.1.trans hl) (fget_frame hF2 (by decide) hn)) d_en_63 hW2 rfl rfl rfl rfl ⟨by decide, by decide⟩ ⟨Nat.le_of_ble_eq_true rfl, Nat.le_of_ble_eq_true rfl⟩ (by decide) rfl (fun r w1 hp => ?_)
  obtain ⟨ad', a1, rfl, a2, a3, a4⟩ := hp
  rw [← a1 0 (by decide)]
  exact Z.imp (mqv_of (k := 7) (n := 80434) (PO := vPO G (ad' 0) w0 7 80434) (fun _ _ h => h)) (en_tail (ad := ad') X a2 a3 (by decide) (by decide) (Nat.le_refl _) (Nat.le_refl _) (Nat.le_refl _) (Nat.le_refl _) p0 p1 x0 x1 y0 y1 (fun v w2 g1 g2 g3 => ⟨⟨v, rfl⟩, Or.inr ⟨rfl, rfl, hl, g3.trans a4⟩, ⟨ad', rfl, Or.inr ⟨g1, g3.trans a4, g2.1⟩⟩, (FX.refl.frm hF2 (by decide)).trans g2.2⟩))
theorem CWx.len {G : KG} {x : Nat} {w : va_W} (h : CWx G x w) : w.length = 109 ∨ w.length = 116 := by
  obtain ⟨ad, -, h⟩ := h
  exact h.imp (fun h => h.2.1) (fun h => h.2.1)
section LAWV
variable {p : Program} {l : Launch} {e : Env} {R : Room} {s : State} {m : MethodId} {args : Array Value} {below : List Frame} {meth : Method} {c : Code} {nL : Nat} {G : KG} {A : Nat → Prop} {Q : State → Prop} {cc : ByteArray} {own : String} {ret : Option FieldType} {nm : String} {kc ks pc : Nat} {lv : List (Nat × Value)} {st : List Value}
theorem cx_growV {idx mx n x : Nat} {y : MethodName} {cy : ByteArray} {rt : Option FieldType} {rN rR : Room} {As rest : List Value} {wx wc : va_W} (X : ZC p s m args meth c cc nL own G A ret nm) (K : LkV own idx RX10 y cy mx rt n)
    (hN : ∀ (ad : Nat → Nat) (w0 : va_W), WT G ad TX w0 → w0.length = 109 → fget w0 0 15 = some .null → CtV l G y cy mx rt rN (.ref (ad 0) :: As) w0 (vPO G (ad 0) w0))
    (hP : ∀ (ad : Nat → Nat) (w0 : va_W), WT G ad TXP w0 → w0.length = 116 → GC G w0 → Ct l G y cy mx rt rR (.ref (ad 0) :: As) w0 (iPO G (ad 0) w0))
    (hw : CWx G x wx) (hdg : decode cc pc = .ok (.invokevirtual idx, 3)) (hR1 : rN.frames + 1 ≤ R.frames ∧ 8 + (mx + 11) + rN.locals ≤ R.locals) (hR2 : rR.frames + 1 ≤ R.frames ∧ 8 + (mx + 11) + rR.locals ≤ R.locals) (hf1 : wx.length = 109 → kc + rN.cells ≤ R.cells ∧ ks + rN.slots ≤ R.slots) (hf2 : kc + rR.cells ≤ R.cells ∧ ks + rR.slots ≤ R.slots) (hr : rR.cells = 0 ∧ rR.slots = 0) (hn : As.length = n) (hst : st = As.reverse ++ .ref x :: rest) (hcat : (rest.map fun v => v.category).sum ≤ 8) (lz : lv_pick lv (List.range lv.length) = lv)
    (kk : ∀ (k n : Nat) (v : Int32) (wx' : va_W), CWx G x wx' → FX mk_nxe 109 wx wx' → ((k = 0 ∧ n = 0 ∧ wx'.length = wx.length) ∨ (k = 7 ∧ n = 80434 ∧ wx.length = 109 ∧ wx'.length = 116)) → Z p l e R s m args below meth c nL G A Q (pc + 3) lv (.int v :: rest) (wx' ++ wc) (kc + k) (ks + n)) : Z p l e R s m args below meth c nL G A Q pc lv st (wx ++ wc) kc ks := by
  obtain ⟨ad, e0, h⟩ := hw
  subst e0
  rcases h with ⟨hW, hl, hnull⟩ | ⟨hW, hl, hG⟩
  · obtain ⟨en, w1, fs, rfl, -⟩ := hW.2.1 0 _ rfl
    refine mid_callVV (wa := []) (wb := wx) (wc := wc) X K (hN ad wx hW hl hnull) hdg w1 rfl rfl hR1 (hf1 hl) hn hst hcat lz (fun k n r w2 hp => ?_)
    obtain ⟨⟨v, rfl⟩, h1, h2, h3⟩ := hp
    exact kk k n v w2 h2 h3 h1
  · obtain ⟨en, w1, fs, rfl, -⟩ := hW.2.1 0 _ rfl
    refine mid_callV (wa := []) (wb := wx) (wc := wc) X K (hP ad wx hW hl hG) hdg w1 rfl rfl hR2 hf2 hn hst hcat lz (fun r w2 hp => ?_)
    obtain ⟨⟨v, rfl⟩, h1, h2, h3⟩ := hp
    rw [hr.1, hr.2]
    refine kk 0 0 v w2 h2 h3 (Or.inl ⟨rfl, rfl, ?_⟩)
    rcases h2.len with h | h
    · omega
    · exact h.trans hl.symm
end LAWV
