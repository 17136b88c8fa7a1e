/-! the exact contracts in the typed worlds -/
theorem pk_cons {w0 : va_W} {i : Nat} {is : List Nat} {e : Nat × va_E} {wc : va_W} (h : w0[i]? = some e) (t : is.map (fun i => w0[i]?) = wc.map some) : (i :: is).map (fun i => w0[i]?) = (e :: wc).map some := by
  rw [List.map_cons, List.map_cons, h, t]
theorem WT.tab {G : KG} {ad : Nat → Nat} {T : List TE} {ws : va_W} (h : WT G ad T ws) {k ci : Nat} {ts : List VT} (hT : T[k]? = some (.inl (ci, ts))) : ∃ g : Nat → Value, ws[k]? = some (ad k, ob ci ((List.range ts.length).map g)) ∧ ∀ j t, ts[j]? = some t → vty ad t (g j) ∧ fget ws k j = some (g j) := by
  obtain ⟨en, h1, fs, rfl, h2, h3⟩ := h.2.1 k _ hT
  have e : (List.range ts.length).map (fun j => (fs[j]?).getD .null) = fs := by
    refine List.ext_getElem (by rw [List.length_map, List.length_range, h2]) (fun i q1 q2 => ?_)
    rw [List.getElem_map, List.getElem_range, List.getElem?_eq_getElem q2]
    rfl
  refine ⟨fun j => (fs[j]?).getD .null, by rw [e]; exact h1, fun j t ht => ?_⟩
  have hj : j < fs.length := by rw [h2]; exact lt_of_getE ht
  have e2 : fs[j]? = some ((fs[j]?).getD .null) := by rw [List.getElem?_eq_getElem hj]; rfl
  exact ⟨h3 j t _ ht e2, by rw [fget_of h1]; exact e2⟩
theorem WT.bools {G : KG} {ad : Nat → Nat} {T : List TE} {ws : va_W} (h : WT G ad T ws) {k n : Nat} {t : VT} (hT : T[k]? = some (.inr (2, n, t))) : ∃ f, ws[k]? = some (ad k, aZ G n f) ∧ aint n t f := by
  obtain ⟨en, h1, h2⟩ := h.arr hT
  rcases h2 with ⟨h9, -⟩ | ⟨h9, -⟩ | ⟨-, f, rfl, h3⟩ | ⟨h9, -⟩
  · cases h9
  · cases h9
  · exact ⟨f, h1, h3⟩
  · cases h9
theorem cgetI {G : KG} {w : va_W} {k a n : Nat} {f : Nat → Int32} (h : w[k]? = some (a, aI G n f)) (j : Nat) : cget w k j = some (.inr (cyI G, n, .inl f)) := by
  unfold cget
  rw [h]
theorem arrinj {c : ClassId} {n : Nat} {f g : Nat → Int32} (h : (some (.inr (c, n, .inl f)) : Option (Value ⊕ (ClassId × vp_A))) = some (.inr (c, n, .inl g))) : f = g := by
  have h1 := Sum.inr.inj (Option.some.inj h)
  have h2 := congrArg (fun q => q.2.2) h1
  exact Sum.inl.inj h2
theorem fget_cget (w : va_W) (k j : Nat) : fget w k j = (cget w k j).bind (fun q => match q with | .inl v => some v | .inr _ => none) := by
  unfold fget cget
  rcases w[k]? with _ | ⟨a, c | o⟩
  · rfl
  · rfl
  · show o.2[j]? = ((o.2[j]?).map Sum.inl).bind _
    cases o.2[j]? <;> rfl
theorem fget_eq {w w' : va_W} {k j : Nat} (h : cget w k j = cget w' k j) : fget w k j = fget w' k j := by
  rw [fget_cget, fget_cget, h]
theorem cget_app {w wc : va_W} {k j : Nat} (h : k < w.length) : cget (w ++ wc) k j = cget w k j := by
  unfold cget
  rw [List.getElem?_append_left h]
/-- how mill ends: the answer, the counts, an empty tape -/
def MilE (kn jn kh jh ks js kc jc : Nat) (n : Int32) (f : Nat → Int32) (h s c : Int32) (r : Option Value) (w1 : va_W) : Prop :=
  ∃ v h2 s2 c2 : Int32, r = some (.int v) ∧ CN n (run0 f (if 60 < n then 60 else n) h.toInt s.toInt c.toInt) v.toInt h.toInt s.toInt c.toInt h2.toInt s2.toInt c2.toInt ∧ ((0 ≤ h2.toInt ∧ h2.toInt ≤ 16) ∧ (0 ≤ s2.toInt ∧ s2.toInt ≤ 6) ∧ (0 ≤ c2.toInt ∧ c2.toInt ≤ 8)) ∧ fget w1 kn jn = some (.int 0) ∧ fget w1 kh jh = some (.int h2) ∧ fget w1 ks js = some (.int s2) ∧ fget w1 kc jc = some (.int c2)
/-- how sign ends: four signs more -/
def SgnE (G : KG) (kn jn kt : Nat) (n : Int32) (f : Nat → Int32) (v : Int32) (r : Option Value) (w1 : va_W) : Prop :=
  ∃ (n2 : Int32) (f2 : Nat → Int32), r = some (.int n2) ∧ n2.toInt = n.toInt + 4 ∧ fget w1 kn jn = some (.int n2) ∧ cget w1 kt 0 = some (.inr (cyI G, 80, .inl f2)) ∧ ∀ k, k < 80 → f2 k = w4 f n.toInt.toNat v k
set_option maxHeartbeats 4000000 in
set_option maxRecDepth 100000 in
theorem ac_milx (l : Launch) (G : KG) {ad : Nat → Nat} {w0 : va_W} {n h s c : Int32} {f : Nat → Int32} (hW : WT G ad TX w0) (en : fget w0 3 1 = some (.int n)) (eh : fget w0 5 0 = some (.int h)) (es : fget w0 12 0 = some (.int s)) (ec : fget w0 18 0 = some (.int c)) (ef : cget w0 4 0 = some (.inr (cyI G, 80, .inl f))) : Ct l G yX10_mill cX10_mill 2 (some .int) { frames := 6, cells := 0, slots := 0, locals := 132 } [.ref (ad 0)] w0 (fun r w1 => WT G ad TX w1 ∧ FRM C_t_X10_mill_0.2.2.2.2.1 w0 w1 ∧ MilE 3 1 5 0 12 0 18 0 n f h s c r w1) := by
  obtain ⟨g0, q0, t0⟩ := WT.tab hW (k := 0) rfl
  have r0_1 : g0 1 = .ref (ad 3) := vty2 (t0 1 _ rfl).1 rfl
  have r0_2 : g0 2 = .ref (ad 5) := vty2 (t0 2 _ rfl).1 rfl
  have r0_3 : g0 3 = .ref (ad 12) := vty2 (t0 3 _ rfl).1 rfl
  have r0_4 : g0 4 = .ref (ad 18) := vty2 (t0 4 _ rfl).1 rfl
  have c0 : w0[0]? = some ((ad 0), ob 10 [(g0 0), .ref (ad 3), .ref (ad 5), .ref (ad 12), .ref (ad 18), (g0 5), (g0 6), (g0 7), (g0 8), (g0 9), (g0 10), (g0 11), (g0 12), (g0 13), (g0 14), (g0 15)]) := by
    rw [q0]
    show some (ad 0, ob 10 [g0 0, g0 1, g0 2, g0 3, g0 4, g0 5, g0 6, g0 7, g0 8, g0 9, g0 10, g0 11, g0 12, g0 13, g0 14, g0 15]) = _
    rw [r0_1, r0_2, r0_3, r0_4]
  obtain ⟨g3, q3, t3⟩ := WT.tab hW (k := 3) rfl
  have r3_0 : g3 0 = .ref (ad 4) := vty2 (t3 0 _ rfl).1 rfl
  have r3_1 : g3 1 = .int n := Option.some.inj ((t3 1 _ rfl).2.symm.trans en)
  have b3_1 : 0 ≤ n.toInt ∧ n.toInt ≤ 80 := by
    have h := (t3 1 _ rfl).1
    rw [r3_1] at h
    obtain ⟨y, e, l1, u1⟩ := vty0 h rfl
    obtain rfl := Value.int.inj e
    exact ⟨l1, u1⟩
  obtain ⟨y3_2, r3_2, -, -⟩ := vty0 (t3 2 _ rfl).1 rfl
  obtain ⟨y3_3, r3_3, -, -⟩ := vty0 (t3 3 _ rfl).1 rfl
  obtain ⟨y3_4, r3_4, -, -⟩ := vty0 (t3 4 _ rfl).1 rfl
  obtain ⟨y3_5, r3_5, -, -⟩ := vty0 (t3 5 _ rfl).1 rfl
  obtain ⟨y3_6, r3_6, -, -⟩ := vty0 (t3 6 _ rfl).1 rfl
  obtain ⟨y3_7, r3_7, -, -⟩ := vty0 (t3 7 _ rfl).1 rfl
  have c3 : w0[3]? = some ((ad 3), ob 4 [.ref (ad 4), .int n, .int y3_2, .int y3_3, .int y3_4, .int y3_5, .int y3_6, .int y3_7]) := by
    rw [q3]
    show some (ad 3, ob 4 [g3 0, g3 1, g3 2, g3 3, g3 4, g3 5, g3 6, g3 7]) = _
    rw [r3_0, r3_1, r3_2, r3_3, r3_4, r3_5, r3_6, r3_7]
  obtain ⟨f4, c4, -⟩ := WT.ints hW (k := 4) rfl
  have ef4 : f4 = f := arrinj ((cgetI c4 0).symm.trans ef)
  rw [ef4] at c4
  obtain ⟨g5, q5, t5⟩ := WT.tab hW (k := 5) rfl
  have r5_0 : g5 0 = .int h := Option.some.inj ((t5 0 _ rfl).2.symm.trans eh)
  have b5_0 : 0 ≤ h.toInt ∧ h.toInt ≤ 16 := by
    have h := (t5 0 _ rfl).1
    rw [r5_0] at h
    obtain ⟨y, e, l1, u1⟩ := vty0 h rfl
    obtain rfl := Value.int.inj e
    exact ⟨l1, u1⟩
  have r5_1 : g5 1 = .ref (ad 6) := vty2 (t5 1 _ rfl).1 rfl
  have r5_2 : g5 2 = .ref (ad 7) := vty2 (t5 2 _ rfl).1 rfl
  have r5_3 : g5 3 = .ref (ad 8) := vty2 (t5 3 _ rfl).1 rfl
  have r5_4 : g5 4 = .ref (ad 9) := vty2 (t5 4 _ rfl).1 rfl
  have c5 : w0[5]? = some ((ad 5), ob 5 [.int h, .ref (ad 6), .ref (ad 7), .ref (ad 8), .ref (ad 9), (g5 5), (g5 6), (g5 7), (g5 8)]) := by
    rw [q5]
    show some (ad 5, ob 5 [g5 0, g5 1, g5 2, g5 3, g5 4, g5 5, g5 6, g5 7, g5 8]) = _
    rw [r5_0, r5_1, r5_2, r5_3, r5_4]
  obtain ⟨f6, c6, -⟩ := WT.ints hW (k := 6) rfl
  obtain ⟨f7, c7, -⟩ := WT.ints hW (k := 7) rfl
  obtain ⟨f8, c8, -⟩ := WT.ints hW (k := 8) rfl
  obtain ⟨f9, c9, -⟩ := WT.ints hW (k := 9) rfl
  obtain ⟨g12, q12, t12⟩ := WT.tab hW (k := 12) rfl
  have r12_0 : g12 0 = .int s := Option.some.inj ((t12 0 _ rfl).2.symm.trans es)
  have b12_0 : 0 ≤ s.toInt ∧ s.toInt ≤ 6 := by
    have h := (t12 0 _ rfl).1
    rw [r12_0] at h
    obtain ⟨y, e, l1, u1⟩ := vty0 h rfl
    obtain rfl := Value.int.inj e
    exact ⟨l1, u1⟩
  have r12_1 : g12 1 = .ref (ad 13) := vty2 (t12 1 _ rfl).1 rfl
  have r12_2 : g12 2 = .ref (ad 14) := vty2 (t12 2 _ rfl).1 rfl
  have c12 : w0[12]? = some ((ad 12), ob 7 [.int s, .ref (ad 13), .ref (ad 14), (g12 3), (g12 4), (g12 5)]) := by
    rw [q12]
    show some (ad 12, ob 7 [g12 0, g12 1, g12 2, g12 3, g12 4, g12 5]) = _
    rw [r12_0, r12_1, r12_2]
  obtain ⟨f13, c13, -⟩ := WT.ints hW (k := 13) rfl
  obtain ⟨f14, c14, -⟩ := WT.ints hW (k := 14) rfl
  obtain ⟨g18, q18, t18⟩ := WT.tab hW (k := 18) rfl
  have r18_0 : g18 0 = .int c := Option.some.inj ((t18 0 _ rfl).2.symm.trans ec)
  have b18_0 : 0 ≤ c.toInt ∧ c.toInt ≤ 8 := by
    have h := (t18 0 _ rfl).1
    rw [r18_0] at h
    obtain ⟨y, e, l1, u1⟩ := vty0 h rfl
    obtain rfl := Value.int.inj e
    exact ⟨l1, u1⟩
  have r18_1 : g18 1 = .ref (ad 19) := vty2 (t18 1 _ rfl).1 rfl
  have c18 : w0[18]? = some ((ad 18), ob 0 [.int c, .ref (ad 19), (g18 2), (g18 3), (g18 4), (g18 5), (g18 6)]) := by
    rw [q18]
    show some (ad 18, ob 0 [g18 0, g18 1, g18 2, g18 3, g18 4, g18 5, g18 6]) = _
    rw [r18_0, r18_1]
  obtain ⟨f19, c19, -⟩ := WT.ints hW (k := 19) rfl
  have h2 := cm_X10_mill l G (ad 0) (g0 0) (g0 5) (g0 6) (g0 7) (g0 8) (g0 9) (g0 10) (g0 11) (g0 12) (g0 13) (g0 14) (g0 15) (ad 3) (ad 4) f n y3_2 y3_3 y3_4 y3_5 y3_6 y3_7 (ad 5) (ad 6) (ad 7) (ad 8) (ad 9) h (g5 5) (g5 6) (g5 7) (g5 8) f6 f7 f8 f9 (ad 12) (ad 13) (ad 14) s (g12 3) (g12 4) (g12 5) f13 f14 (ad 18) (ad 19) c (g18 2) (g18 3) (g18 4) (g18 5) (g18 6) f19 n.toInt h.toInt s.toInt c.toInt rfl rfl rfl rfl (by omega) (by omega)
  refine Ct.weak (Ct.and (show Ct l G yX10_mill cX10_mill 2 (some .int) { frames := 6, cells := 0, slots := 0, locals := 132 } [.ref (ad 0)] w0 (fun r w1 => POST G ad TX C_t_X10_mill_0 (fun k => ((Value.ref (ad 0) :: ([] : List Value))[k]?).getD .null) w0 r w1) from ac_t_X10_mill_0 l G ad w0 _ hW (pre_mu (C := C_t_X10_mill_0) (ts := []) (As := []) rfl rfl rfl rfl trivial ad w0 rfl)) h2 [0, 3, 4, 5, 6, 7, 8, 9, 12, 13, 14, 18, 19] (pk_cons c0 (pk_cons c3 (pk_cons c4 (pk_cons c5 (pk_cons c6 (pk_cons c7 (pk_cons c8 (pk_cons c9 (pk_cons c12 (pk_cons c13 (pk_cons c14 (pk_cons c18 (pk_cons c19 rfl))))))))))))) (by decide)) ?_
  rintro r w1 ⟨hp, w2, ⟨lim2, q, m, mh2, ms2, mc2, hc2, sc2, cc2, fp2, fx2, fy2, fr2, ff2, fo2, fw2, rz, hCN, hA7, hB, rfl, rfl⟩, hS⟩
  obtain ⟨A1, hA1, μ2, -, -, -, -, -, -, hW1, hF1⟩ := hp
  obtain ⟨fs0, -, u0, ul0, -, -⟩ := WT.obj hW1 (k := 0) (j := 0) rfl rfl
  obtain ⟨fs3, -, u3, ul3, -, -⟩ := WT.obj hW1 (k := 3) (j := 0) rfl rfl
  obtain ⟨p4, u4, -⟩ := WT.ints hW1 (k := 4) rfl
  obtain ⟨fs5, -, u5, ul5, -, -⟩ := WT.obj hW1 (k := 5) (j := 0) rfl rfl
  obtain ⟨p6, u6, -⟩ := WT.ints hW1 (k := 6) rfl
  obtain ⟨p7, u7, -⟩ := WT.ints hW1 (k := 7) rfl
  obtain ⟨p8, u8, -⟩ := WT.ints hW1 (k := 8) rfl
  obtain ⟨p9, u9, -⟩ := WT.ints hW1 (k := 9) rfl
  obtain ⟨fs12, -, u12, ul12, -, -⟩ := WT.obj hW1 (k := 12) (j := 0) rfl rfl
  obtain ⟨p13, u13, -⟩ := WT.ints hW1 (k := 13) rfl
  obtain ⟨p14, u14, -⟩ := WT.ints hW1 (k := 14) rfl
  obtain ⟨fs18, -, u18, ul18, -, -⟩ := WT.obj hW1 (k := 18) (j := 0) rfl rfl
  obtain ⟨p19, u19, -⟩ := WT.ints hW1 (k := 19) rfl
  exact ⟨hW1, hF1, rz, hc2, sc2, cc2, rfl, hCN, hB, (same_f hS (k := 3) (j := 1) (q := (RX4, TX4, 8)) rfl u3 rfl (by decide) ul3 rfl), (same_f hS (k := 5) (j := 3) (q := (RX5, TX5, 9)) rfl u5 rfl (by decide) ul5 rfl), (same_f hS (k := 12) (j := 8) (q := (RX7, TX7, 6)) rfl u12 rfl (by decide) ul12 rfl), (same_f hS (k := 18) (j := 11) (q := (RX0, TX0, 7)) rfl u18 rfl (by decide) ul18 rfl)⟩
set_option maxHeartbeats 4000000 in
set_option maxRecDepth 100000 in
theorem ac_milm (l : Launch) (G : KG) {ad : Nat → Nat} {w0 : va_W} {n h s c : Int32} {f : Nat → Int32} (hW : WT G ad TM w0) (en : fget w0 0 19 = some (.int n)) (eh : fget w0 0 3 = some (.int h)) (es : fget w0 0 10 = some (.int s)) (ec : fget w0 0 16 = some (.int c)) (ef : cget w0 14 0 = some (.inr (cyI G, 80, .inl f))) : Ct l G yX11_mill cX11_mill 10 (some .int) { frames := 5, cells := 0, slots := 0, locals := 110 } [.ref (ad 0)] w0 (fun r w1 => WT G ad TM w1 ∧ FRM C_mill1.2.2.2.2.1 w0 w1 ∧ MilE 0 19 0 3 0 10 0 16 n f h s c r w1) := by
  obtain ⟨g0, q0, t0⟩ := WT.tab hW (k := 0) rfl
  obtain ⟨y0_0, r0_0, -, -⟩ := vty0 (t0 0 _ rfl).1 rfl
  have r0_3 : g0 3 = .int h := Option.some.inj ((t0 3 _ rfl).2.symm.trans eh)
  have b0_3 : 0 ≤ h.toInt ∧ h.toInt ≤ 16 := by
    have h := (t0 3 _ rfl).1
    rw [r0_3] at h
    obtain ⟨y, e, l1, u1⟩ := vty0 h rfl
    obtain rfl := Value.int.inj e
    exact ⟨l1, u1⟩
  have r0_4 : g0 4 = .ref (ad 2) := vty2 (t0 4 _ rfl).1 rfl
  have r0_5 : g0 5 = .ref (ad 3) := vty2 (t0 5 _ rfl).1 rfl
  have r0_6 : g0 6 = .ref (ad 4) := vty2 (t0 6 _ rfl).1 rfl
  have r0_7 : g0 7 = .ref (ad 5) := vty2 (t0 7 _ rfl).1 rfl
  have r0_8 : g0 8 = .ref (ad 6) := vty2 (t0 8 _ rfl).1 rfl
  have r0_9 : g0 9 = .ref (ad 7) := vty2 (t0 9 _ rfl).1 rfl
  have r0_10 : g0 10 = .int s := Option.some.inj ((t0 10 _ rfl).2.symm.trans es)
  have b0_10 : 0 ≤ s.toInt ∧ s.toInt ≤ 6 := by
    have h := (t0 10 _ rfl).1
    rw [r0_10] at h
    obtain ⟨y, e, l1, u1⟩ := vty0 h rfl
    obtain rfl := Value.int.inj e
    exact ⟨l1, u1⟩
  have r0_11 : g0 11 = .ref (ad 8) := vty2 (t0 11 _ rfl).1 rfl
  have r0_12 : g0 12 = .ref (ad 9) := vty2 (t0 12 _ rfl).1 rfl
  have r0_13 : g0 13 = .ref (ad 10) := vty2 (t0 13 _ rfl).1 rfl
  have r0_16 : g0 16 = .int c := Option.some.inj ((t0 16 _ rfl).2.symm.trans ec)
  have b0_16 : 0 ≤ c.toInt ∧ c.toInt ≤ 8 := by
    have h := (t0 16 _ rfl).1
    rw [r0_16] at h
    obtain ⟨y, e, l1, u1⟩ := vty0 h rfl
    obtain rfl := Value.int.inj e
    exact ⟨l1, u1⟩
  have r0_17 : g0 17 = .ref (ad 13) := vty2 (t0 17 _ rfl).1 rfl
  have r0_18 : g0 18 = .ref (ad 14) := vty2 (t0 18 _ rfl).1 rfl
  have r0_19 : g0 19 = .int n := Option.some.inj ((t0 19 _ rfl).2.symm.trans en)
  have b0_19 : 0 ≤ n.toInt ∧ n.toInt ≤ 80 := by
    have h := (t0 19 _ rfl).1
    rw [r0_19] at h
    obtain ⟨y, e, l1, u1⟩ := vty0 h rfl
    obtain rfl := Value.int.inj e
    exact ⟨l1, u1⟩
  obtain ⟨y0_20, r0_20, -, -⟩ := vty0 (t0 20 _ rfl).1 rfl
  obtain ⟨y0_21, r0_21, -, -⟩ := vty0 (t0 21 _ rfl).1 rfl
  obtain ⟨y0_22, r0_22, -, -⟩ := vty0 (t0 22 _ rfl).1 rfl
  have c0 : w0[0]? = some ((ad 0), ob 11 [.int y0_0, (g0 1), (g0 2), .int h, .ref (ad 2), .ref (ad 3), .ref (ad 4), .ref (ad 5), .ref (ad 6), .ref (ad 7), .int s, .ref (ad 8), .ref (ad 9), .ref (ad 10), (g0 14), (g0 15), .int c, .ref (ad 13), .ref (ad 14), .int n, .int y0_20, .int y0_21, .int y0_22, (g0 23), (g0 24), (g0 25), (g0 26), (g0 27), (g0 28), (g0 29), (g0 30), (g0 31), (g0 32), (g0 33), (g0 34), (g0 35), (g0 36), (g0 37), (g0 38), (g0 39), (g0 40), (g0 41), (g0 42), (g0 43), (g0 44), (g0 45), (g0 46), (g0 47), (g0 48), (g0 49), (g0 50), (g0 51), (g0 52), (g0 53), (g0 54), (g0 55), (g0 56), (g0 57), (g0 58), (g0 59), (g0 60), (g0 61), (g0 62), (g0 63), (g0 64), (g0 65), (g0 66), (g0 67), (g0 68), (g0 69), (g0 70), (g0 71), (g0 72), (g0 73), (g0 74)]) := by
    rw [q0]
    show some (ad 0, ob 11 [g0 0, g0 1, g0 2, g0 3, g0 4, g0 5, g0 6, g0 7, g0 8, g0 9, g0 10, g0 11, g0 12, g0 13, g0 14, g0 15, g0 16, g0 17, g0 18, g0 19, g0 20, g0 21, g0 22, g0 23, g0 24, g0 25, g0 26, g0 27, g0 28, g0 29, g0 30, g0 31, g0 32, g0 33, g0 34, g0 35, g0 36, g0 37, g0 38, g0 39, g0 40, g0 41, g0 42, g0 43, g0 44, g0 45, g0 46, g0 47, g0 48, g0 49, g0 50, g0 51, g0 52, g0 53, g0 54, g0 55, g0 56, g0 57, g0 58, g0 59, g0 60, g0 61, g0 62, g0 63, g0 64, g0 65, g0 66, g0 67, g0 68, g0 69, g0 70, g0 71, g0 72, g0 73, g0 74]) = _
    rw [r0_0, r0_3, r0_4, r0_5, r0_6, r0_7, r0_8, r0_9, r0_10, r0_11, r0_12, r0_13, r0_16, r0_17, r0_18, r0_19, r0_20, r0_21, r0_22]
  obtain ⟨f14, c14, -⟩ := WT.ints hW (k := 14) rfl
  have ef14 : f14 = f := arrinj ((cgetI c14 0).symm.trans ef)
  rw [ef14] at c14
  obtain ⟨f2, c2, -⟩ := WT.ints hW (k := 2) rfl
  obtain ⟨f3, c3, -⟩ := WT.ints hW (k := 3) rfl
  obtain ⟨f4, c4, -⟩ := WT.ints hW (k := 4) rfl
  obtain ⟨f5, c5, -⟩ := WT.ints hW (k := 5) rfl
  obtain ⟨f6, c6, -⟩ := WT.ints hW (k := 6) rfl
  obtain ⟨f7, c7, -⟩ := WT.ints hW (k := 7) rfl
  obtain ⟨f8, c8, -⟩ := WT.ints hW (k := 8) rfl
  obtain ⟨f9, c9, -⟩ := WT.ints hW (k := 9) rfl
  obtain ⟨f10, c10, -⟩ := WT.bools hW (k := 10) rfl
  obtain ⟨f13, c13, -⟩ := WT.ints hW (k := 13) rfl
  have h2 := cm_X11_mill l G (ad 0) y0_0 (g0 1) (g0 2) h (ad 2) (ad 3) (ad 4) (ad 5) (ad 6) (ad 7) s (ad 8) (ad 9) (ad 10) (g0 14) (g0 15) c (ad 13) (ad 14) n y0_20 y0_21 y0_22 (g0 23) (g0 24) (g0 25) (g0 26) (g0 27) (g0 28) (g0 29) (g0 30) (g0 31) (g0 32) (g0 33) (g0 34) (g0 35) (g0 36) (g0 37) (g0 38) (g0 39) (g0 40) (g0 41) (g0 42) (g0 43) (g0 44) (g0 45) (g0 46) (g0 47) (g0 48) (g0 49) (g0 50) (g0 51) (g0 52) (g0 53) (g0 54) (g0 55) (g0 56) (g0 57) (g0 58) (g0 59) (g0 60) (g0 61) (g0 62) (g0 63) (g0 64) (g0 65) (g0 66) (g0 67) (g0 68) (g0 69) (g0 70) (g0 71) (g0 72) (g0 73) (g0 74) f f2 f3 f4 f5 f6 f7 f8 f9 f10 f13 n.toInt h.toInt s.toInt c.toInt rfl rfl rfl rfl (by omega) (by omega)
  refine Ct.weak (Ct.and (show Ct l G yX11_mill cX11_mill 10 (some .int) { frames := 5, cells := 0, slots := 0, locals := 110 } [.ref (ad 0)] w0 (fun r w1 => POST G ad TM C_mill1 (fun k => ((Value.ref (ad 0) :: ([] : List Value))[k]?).getD .null) w0 r w1) from ac_mill1 l G ad w0 _ hW (pre_mu (C := C_mill1) (ts := []) (As := []) rfl rfl rfl rfl trivial ad w0 rfl)) h2 [0, 14, 2, 3, 4, 5, 6, 7, 8, 9, 10, 13] (pk_cons c0 (pk_cons c14 (pk_cons c2 (pk_cons c3 (pk_cons c4 (pk_cons c5 (pk_cons c6 (pk_cons c7 (pk_cons c8 (pk_cons c9 (pk_cons c10 (pk_cons c13 rfl)))))))))))) (by decide)) ?_
  rintro r w1 ⟨hp, w2, ⟨lim2, q, fi2, hc2, sc2, cc2, fp2, fx2, fy2, fr2, fu2, fd2, ff2, fo2, fa2, fw2, rz, hCN, hA7, hE4, hE5, hE8, hB, rfl, rfl⟩, hS⟩
  obtain ⟨A1, hA1, μ2, -, -, -, -, -, -, hW1, hF1⟩ := hp
  obtain ⟨fs0, -, u0, ul0, -, -⟩ := WT.obj hW1 (k := 0) (j := 0) rfl rfl
  obtain ⟨p2, u2, -⟩ := WT.ints hW1 (k := 2) rfl
  obtain ⟨p3, u3, -⟩ := WT.ints hW1 (k := 3) rfl
  obtain ⟨p4, u4, -⟩ := WT.ints hW1 (k := 4) rfl
  obtain ⟨p5, u5, -⟩ := WT.ints hW1 (k := 5) rfl
  obtain ⟨p6, u6, -⟩ := WT.ints hW1 (k := 6) rfl
  obtain ⟨p7, u7, -⟩ := WT.ints hW1 (k := 7) rfl
  obtain ⟨p8, u8, -⟩ := WT.ints hW1 (k := 8) rfl
  obtain ⟨p9, u9, -⟩ := WT.ints hW1 (k := 9) rfl
  obtain ⟨p10, u10, -⟩ := WT.bools hW1 (k := 10) rfl
  obtain ⟨p13, u13, -⟩ := WT.ints hW1 (k := 13) rfl
  obtain ⟨p14, u14, -⟩ := WT.ints hW1 (k := 14) rfl
  exact ⟨hW1, hF1, rz, hc2, sc2, cc2, rfl, hCN, hB, (same_f hS (k := 0) (j := 0) (q := (RX11, TX11, 75)) rfl u0 rfl (by decide) ul0 rfl), (same_f hS (k := 0) (j := 0) (q := (RX11, TX11, 75)) rfl u0 rfl (by decide) ul0 rfl), (same_f hS (k := 0) (j := 0) (q := (RX11, TX11, 75)) rfl u0 rfl (by decide) ul0 rfl), (same_f hS (k := 0) (j := 0) (q := (RX11, TX11, 75)) rfl u0 rfl (by decide) ul0 rfl)⟩
set_option maxHeartbeats 4000000 in
set_option maxRecDepth 100000 in
theorem ac_sgx (l : Launch) (G : KG) {ad : Nat → Nat} {w0 : va_W} {n v : Int32} {f : Nat → Int32} (hW : WT G ad TX w0) (en : fget w0 3 1 = some (.int n)) (ef : cget w0 4 0 = some (.inr (cyI G, 80, .inl f))) (hn0 : 0 ≤ n.toInt ∧ n.toInt ≤ 76) : Ct l G yX10_sign cX10_sign 2 (some .int) { frames := 1, cells := 0, slots := 0, locals := 22 } [.ref (ad 0), .int v] w0 (fun r w1 => WT G ad TX w1 ∧ FRM C_v_X10_sign_0.2.2.2.2.1 w0 w1 ∧ SgnE G 3 1 4 n f v r w1) := by
  obtain ⟨g0, q0, t0⟩ := WT.tab hW (k := 0) rfl
  have r0_1 : g0 1 = .ref (ad 3) := vty2 (t0 1 _ rfl).1 rfl
  have c0 : w0[0]? = some ((ad 0), ob 10 [(g0 0), .ref (ad 3), (g0 2), (g0 3), (g0 4), (g0 5), (g0 6), (g0 7), (g0 8), (g0 9), (g0 10), (g0 11), (g0 12), (g0 13), (g0 14), (g0 15)]) := by
    rw [q0]
    show some (ad 0, ob 10 [g0 0, g0 1, g0 2, g0 3, g0 4, g0 5, g0 6, g0 7, g0 8, g0 9, g0 10, g0 11, g0 12, g0 13, g0 14, g0 15]) = _
    rw [r0_1]
  obtain ⟨g3, q3, t3⟩ := WT.tab hW (k := 3) rfl
  have r3_0 : g3 0 = .ref (ad 4) := vty2 (t3 0 _ rfl).1 rfl
  have r3_1 : g3 1 = .int n := Option.some.inj ((t3 1 _ rfl).2.symm.trans en)
  have b3_1 : 0 ≤ n.toInt ∧ n.toInt ≤ 80 := by
    have h := (t3 1 _ rfl).1
    rw [r3_1] at h
    obtain ⟨y, e, l1, u1⟩ := vty0 h rfl
    obtain rfl := Value.int.inj e
    exact ⟨l1, u1⟩
  obtain ⟨y3_2, r3_2, -, -⟩ := vty0 (t3 2 _ rfl).1 rfl
  obtain ⟨y3_3, r3_3, -, -⟩ := vty0 (t3 3 _ rfl).1 rfl
  obtain ⟨y3_4, r3_4, -, -⟩ := vty0 (t3 4 _ rfl).1 rfl
  obtain ⟨y3_5, r3_5, -, -⟩ := vty0 (t3 5 _ rfl).1 rfl
  obtain ⟨y3_6, r3_6, -, -⟩ := vty0 (t3 6 _ rfl).1 rfl
  obtain ⟨y3_7, r3_7, -, -⟩ := vty0 (t3 7 _ rfl).1 rfl
  have c3 : w0[3]? = some ((ad 3), ob 4 [.ref (ad 4), .int n, .int y3_2, .int y3_3, .int y3_4, .int y3_5, .int y3_6, .int y3_7]) := by
    rw [q3]
    show some (ad 3, ob 4 [g3 0, g3 1, g3 2, g3 3, g3 4, g3 5, g3 6, g3 7]) = _
    rw [r3_0, r3_1, r3_2, r3_3, r3_4, r3_5, r3_6, r3_7]
  obtain ⟨f4, c4, -⟩ := WT.ints hW (k := 4) rfl
  have ef4 : f4 = f := arrinj ((cgetI c4 0).symm.trans ef)
  rw [ef4] at c4
  have h2 := cm_X10_sign l G (ad 0) (g0 0) (g0 2) (g0 3) (g0 4) (g0 5) (g0 6) (g0 7) (g0 8) (g0 9) (g0 10) (g0 11) (g0 12) (g0 13) (g0 14) (g0 15) (ad 3) (ad 4) f n y3_2 y3_3 y3_4 y3_5 y3_6 y3_7 v n.toInt rfl (by omega)
  refine Ct.weak (Ct.and (show Ct l G yX10_sign cX10_sign 2 (some .int) { frames := 1, cells := 0, slots := 0, locals := 22 } [.ref (ad 0), .int v] w0 (fun r w1 => POST G ad TX C_v_X10_sign_0 (muF (ad 0) [.int v] [.int n]) w0 r w1) from ac_v_X10_sign_0 l G ad w0 _ hW (pre_F (C := C_v_X10_sign_0) (ts := [tI0]) (As := [.int v]) (t0 := (0, 0, 76)) rfl rfl (Nat.le_of_ble_eq_true rfl) ⟨fun _ => vty_i0 _, trivial⟩ (fun _ => vty_i hn0.1 hn0.2) (fun q hq => by cases hq) ad w0 rfl en)) h2 [0, 3, 4] (pk_cons c0 (pk_cons c3 (pk_cons c4 rfl))) (by decide)) ?_
  rintro r w1 ⟨hp, w2, ⟨n2, f2, hn2, hf2, rfl, rfl⟩, hS⟩
  obtain ⟨A1, hA1, μ2, -, -, -, -, -, -, hW1, hF1⟩ := hp
  obtain ⟨fs0, -, u0, ul0, -, -⟩ := WT.obj hW1 (k := 0) (j := 0) rfl rfl
  obtain ⟨fs3, -, u3, ul3, -, -⟩ := WT.obj hW1 (k := 3) (j := 0) rfl rfl
  obtain ⟨p4, u4, -⟩ := WT.ints hW1 (k := 4) rfl
  exact ⟨hW1, hF1, n2, p4, rfl, hn2, (same_f hS (k := 3) (j := 1) (q := (RX4, TX4, 8)) rfl u3 rfl (by decide) ul3 rfl), cgetI u4 0, fun k hk => ((same_I hS (k := 4) (j := 2) u4 rfl) k hk).trans (hf2 k)⟩
set_option maxHeartbeats 4000000 in
set_option maxRecDepth 100000 in
theorem ac_sgm (l : Launch) (G : KG) {ad : Nat → Nat} {w0 : va_W} {n v : Int32} {f : Nat → Int32} (hW : WT G ad TM w0) (en : fget w0 0 19 = some (.int n)) (ef : cget w0 14 0 = some (.inr (cyI G, 80, .inl f))) (hn0 : 0 ≤ n.toInt ∧ n.toInt ≤ 76) : Ct l G yX11_sign cX11_sign 3 (some .int) { frames := 0, cells := 0, slots := 0, locals := 0 } [.ref (ad 0), .int v] w0 (fun r w1 => WT G ad TM w1 ∧ FRM C_v_X11_sign_0.2.2.2.2.1 w0 w1 ∧ SgnE G 0 19 14 n f v r w1) := by
  obtain ⟨g0, q0, t0⟩ := WT.tab hW (k := 0) rfl
  obtain ⟨y0_0, r0_0, -, -⟩ := vty0 (t0 0 _ rfl).1 rfl
  obtain ⟨y0_3, r0_3, -, -⟩ := vty0 (t0 3 _ rfl).1 rfl
  have r0_4 : g0 4 = .ref (ad 2) := vty2 (t0 4 _ rfl).1 rfl
  have r0_5 : g0 5 = .ref (ad 3) := vty2 (t0 5 _ rfl).1 rfl
  have r0_6 : g0 6 = .ref (ad 4) := vty2 (t0 6 _ rfl).1 rfl
  have r0_7 : g0 7 = .ref (ad 5) := vty2 (t0 7 _ rfl).1 rfl
  have r0_8 : g0 8 = .ref (ad 6) := vty2 (t0 8 _ rfl).1 rfl
  have r0_9 : g0 9 = .ref (ad 7) := vty2 (t0 9 _ rfl).1 rfl
  obtain ⟨y0_10, r0_10, -, -⟩ := vty0 (t0 10 _ rfl).1 rfl
  have r0_11 : g0 11 = .ref (ad 8) := vty2 (t0 11 _ rfl).1 rfl
  have r0_12 : g0 12 = .ref (ad 9) := vty2 (t0 12 _ rfl).1 rfl
  have r0_13 : g0 13 = .ref (ad 10) := vty2 (t0 13 _ rfl).1 rfl
  obtain ⟨y0_16, r0_16, -, -⟩ := vty0 (t0 16 _ rfl).1 rfl
  have r0_17 : g0 17 = .ref (ad 13) := vty2 (t0 17 _ rfl).1 rfl
  have r0_18 : g0 18 = .ref (ad 14) := vty2 (t0 18 _ rfl).1 rfl
  have r0_19 : g0 19 = .int n := Option.some.inj ((t0 19 _ rfl).2.symm.trans en)
  have b0_19 : 0 ≤ n.toInt ∧ n.toInt ≤ 80 := by
    have h := (t0 19 _ rfl).1
    rw [r0_19] at h
    obtain ⟨y, e, l1, u1⟩ := vty0 h rfl
    obtain rfl := Value.int.inj e
    exact ⟨l1, u1⟩
  obtain ⟨y0_20, r0_20, -, -⟩ := vty0 (t0 20 _ rfl).1 rfl
  obtain ⟨y0_21, r0_21, -, -⟩ := vty0 (t0 21 _ rfl).1 rfl
  obtain ⟨y0_22, r0_22, -, -⟩ := vty0 (t0 22 _ rfl).1 rfl
  have c0 : w0[0]? = some ((ad 0), ob 11 [.int y0_0, (g0 1), (g0 2), .int y0_3, .ref (ad 2), .ref (ad 3), .ref (ad 4), .ref (ad 5), .ref (ad 6), .ref (ad 7), .int y0_10, .ref (ad 8), .ref (ad 9), .ref (ad 10), (g0 14), (g0 15), .int y0_16, .ref (ad 13), .ref (ad 14), .int n, .int y0_20, .int y0_21, .int y0_22, (g0 23), (g0 24), (g0 25), (g0 26), (g0 27), (g0 28), (g0 29), (g0 30), (g0 31), (g0 32), (g0 33), (g0 34), (g0 35), (g0 36), (g0 37), (g0 38), (g0 39), (g0 40), (g0 41), (g0 42), (g0 43), (g0 44), (g0 45), (g0 46), (g0 47), (g0 48), (g0 49), (g0 50), (g0 51), (g0 52), (g0 53), (g0 54), (g0 55), (g0 56), (g0 57), (g0 58), (g0 59), (g0 60), (g0 61), (g0 62), (g0 63), (g0 64), (g0 65), (g0 66), (g0 67), (g0 68), (g0 69), (g0 70), (g0 71), (g0 72), (g0 73), (g0 74)]) := by
    rw [q0]
    show some (ad 0, ob 11 [g0 0, g0 1, g0 2, g0 3, g0 4, g0 5, g0 6, g0 7, g0 8, g0 9, g0 10, g0 11, g0 12, g0 13, g0 14, g0 15, g0 16, g0 17, g0 18, g0 19, g0 20, g0 21, g0 22, g0 23, g0 24, g0 25, g0 26, g0 27, g0 28, g0 29, g0 30, g0 31, g0 32, g0 33, g0 34, g0 35, g0 36, g0 37, g0 38, g0 39, g0 40, g0 41, g0 42, g0 43, g0 44, g0 45, g0 46, g0 47, g0 48, g0 49, g0 50, g0 51, g0 52, g0 53, g0 54, g0 55, g0 56, g0 57, g0 58, g0 59, g0 60, g0 61, g0 62, g0 63, g0 64, g0 65, g0 66, g0 67, g0 68, g0 69, g0 70, g0 71, g0 72, g0 73, g0 74]) = _
    rw [r0_0, r0_3, r0_4, r0_5, r0_6, r0_7, r0_8, r0_9, r0_10, r0_11, r0_12, r0_13, r0_16, r0_17, r0_18, r0_19, r0_20, r0_21, r0_22]
  obtain ⟨f14, c14, -⟩ := WT.ints hW (k := 14) rfl
  have ef14 : f14 = f := arrinj ((cgetI c14 0).symm.trans ef)
  rw [ef14] at c14
  have h2 := cm_X11_sign l G (ad 0) y0_0 (g0 1) (g0 2) y0_3 (ad 2) (ad 3) (ad 4) (ad 5) (ad 6) (ad 7) y0_10 (ad 8) (ad 9) (ad 10) (g0 14) (g0 15) y0_16 (ad 13) (ad 14) n y0_20 y0_21 y0_22 (g0 23) (g0 24) (g0 25) (g0 26) (g0 27) (g0 28) (g0 29) (g0 30) (g0 31) (g0 32) (g0 33) (g0 34) (g0 35) (g0 36) (g0 37) (g0 38) (g0 39) (g0 40) (g0 41) (g0 42) (g0 43) (g0 44) (g0 45) (g0 46) (g0 47) (g0 48) (g0 49) (g0 50) (g0 51) (g0 52) (g0 53) (g0 54) (g0 55) (g0 56) (g0 57) (g0 58) (g0 59) (g0 60) (g0 61) (g0 62) (g0 63) (g0 64) (g0 65) (g0 66) (g0 67) (g0 68) (g0 69) (g0 70) (g0 71) (g0 72) (g0 73) (g0 74) f v n.toInt rfl (by omega)
  refine Ct.weak (Ct.and (show Ct l G yX11_sign cX11_sign 3 (some .int) { frames := 0, cells := 0, slots := 0, locals := 0 } [.ref (ad 0), .int v] w0 (fun r w1 => POST G ad TM C_v_X11_sign_0 (muF (ad 0) [.int v] [.int n]) w0 r w1) from ac_v_X11_sign_0 l G ad w0 _ hW (pre_F (C := C_v_X11_sign_0) (ts := [tI0]) (As := [.int v]) (t0 := (0, 0, 76)) rfl rfl (Nat.le_of_ble_eq_true rfl) ⟨fun _ => vty_i0 _, trivial⟩ (fun _ => vty_i hn0.1 hn0.2) (fun q hq => by cases hq) ad w0 rfl en)) h2 [0, 14] (pk_cons c0 (pk_cons c14 rfl)) (by decide)) ?_
  rintro r w1 ⟨hp, w2, ⟨n2, f2, hn2, hf2, rfl, rfl⟩, hS⟩
  obtain ⟨A1, hA1, μ2, -, -, -, -, -, -, hW1, hF1⟩ := hp
  obtain ⟨fs0, -, u0, ul0, -, -⟩ := WT.obj hW1 (k := 0) (j := 0) rfl rfl
  obtain ⟨p14, u14, -⟩ := WT.ints hW1 (k := 14) rfl
  exact ⟨hW1, hF1, n2, p14, rfl, hn2, (same_f hS (k := 0) (j := 0) (q := (RX11, TX11, 75)) rfl u0 rfl (by decide) ul0 rfl), cgetI u14 0, fun k hk => ((same_I hS (k := 14) (j := 1) u14 rfl) k hk).trans (hf2 k)⟩
