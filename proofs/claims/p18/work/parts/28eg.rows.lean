/-! the law: calls, with all that their contracts tell -/
/-- what a contract tells of its end, of cells below n -/
def PZ (ad : Nat → Nat) (C : CE) (n : Nat) (μ : Nat → Value) (w0 : va_W) (r : Option Value) (w1 : va_W) : Prop :=
  ∃ A ∈ C.2.2.2.1, ∃ μ' : Nat → Value, (∀ i, i < 50 → μ' i = μ i) ∧ (∀ i, 100 ≤ i → i < 200 → μ' i = μ i) ∧ resOK ad A.1 r (μ' 50) ∧ (∀ q ∈ A.2.1, vty ad q.2 (μ' q.1)) ∧ (∀ k q, A.2.2.1[k]? = some q → vty ad q.2.2 (μ' (200 + k)) ∧ fget w1 q.1 q.2.1 = some (μ' (200 + k))) ∧ (∀ q ∈ A.2.2.2, vI (μ' q.1) ≤ vI (μ' q.2.1) + q.2.2) ∧ FX C.2.2.2.2.1 n w0 w1
theorem pz_of {G : KG} {ad : Nat → Nat} {T : List TE} {C : CE} {n : Nat} {μ : Nat → Value} {w0 w1 : va_W} {r : Option Value} (h : POST G ad T C μ w0 r w1) : PZ ad C n μ w0 r w1 := by
  obtain ⟨A1, hA1, μ2, p1, p2, q3, q4, q5, q6, q7, q8⟩ := h
  exact ⟨A1, hA1, μ2, p1, p2, q3, q4, q5, q6, fun k j _ hM => q8.2 k j hM⟩
def posL (n : Nat) (C : CE) : Bool := C.2.2.2.1.all (fun A => A.2.2.1.all (fun q => Nat.blt q.1 n))
theorem fget_app {w wc : va_W} {k j : Nat} (h : k < w.length) : fget (w ++ wc) k j = fget w k j := by
  unfold fget
  rw [List.getElem?_append_left h]
theorem pz_app {ad : Nat → Nat} {C : CE} {μ : Nat → Value} {w0 w1 wc : va_W} {r : Option Value} (h : PZ ad C 109 μ w0 r w1) (hC : posL 109 C = true) (h0 : w0.length = 109) (h1 : w1.length = 109) : PZ ad C 109 μ (w0 ++ wc) r (w1 ++ wc) := by
  obtain ⟨A1, hA1, μ2, p1, p2, q3, q4, q5, q6, q7⟩ := h
  refine ⟨A1, hA1, μ2, p1, p2, q3, q4, fun k q hk => ⟨(q5 k q hk).1, ?_⟩, q6, fx_app q7 (by omega) (by omega)⟩
  have hq := blt_lt (List.all_eq_true.mp (List.all_eq_true.mp hC A1 hA1) q (List.mem_of_getElem? hk))
  rw [fget_app (by omega)]
  exact (q5 k q hk).2
theorem pz_rt {ad : Nat → Nat} {C : CE} {n : Nat} {μ : Nat → Value} {w0 w1 : va_W} {r : Option Value} {k : Nat} (h : PZ ad C n μ w0 r w1) (hk : C.2.2.2.1.all (fun A => Nat.beq (rtag A.1) k) = true) (h2 : k = 9 ∨ k = 0 ∨ k = 1) : RT k r := by
  obtain ⟨A1, hA1, μ2, -, -, q3, -⟩ := h
  have h3 := Nat.eq_of_beq_eq_true (List.all_eq_true.mp hk A1 hA1)
  cases h4 : A1.1 with
  | none =>
    rw [h4] at h3 q3
    have h3 : 9 = k := h3
    exact Or.inl ⟨h3.symm, q3⟩
  | some t =>
    rw [h4] at h3 q3
    have h3 : t.1 = k := h3
    obtain ⟨r1, r2⟩ := q3
    rcases h2 with e | e | e
    · exfalso
      rcases r2 with ⟨h, -⟩ | ⟨h, -⟩ | ⟨h, -⟩ | ⟨h, -⟩ <;> omega
    · obtain ⟨x, ex, -⟩ := vty0 r2 (h3.trans e)
      exact Or.inr (Or.inl ⟨e, x, by rw [r1, ex]⟩)
    · obtain ⟨x, ex, -⟩ := vty1 r2 (h3.trans e)
      exact Or.inr (Or.inr ⟨e, x, by rw [r1, ex]⟩)
theorem pz_fx {ad : Nat → Nat} {C : CE} {n : Nat} {μ : Nat → Value} {w0 w1 : va_W} {r : Option Value} (h : PZ ad C n μ w0 r w1) : FX C.2.2.2.2.1 n w0 w1 := by
  obtain ⟨A1, hA1, μ2, -, -, -, -, -, -, q7⟩ := h
  exact q7
section LAW1
variable {p : Program} {l : Launch} {e : Env} {R : Room} {s : State} {m : MethodId} {args : Array Value} {below : List Frame} {meth : Method} {c : Code} {nL : Nat} {G : KG} {A : Nat → Prop} {Q : State → Prop} {cc : ByteArray} {own : String} {ret : Option FieldType} {nm : String} {kc ks pc : Nat} {lv : List (Nat × Value)} {st : List Value}
theorem cx_callP {idx mx n x : Nat} {y : MethodName} {cy : ByteArray} {rt : Option FieldType} {C : CE} {As rest : List Value} {wx wc : va_W} {μ : Nat → Value} (X : ZC p s m args meth c cc nL own G A ret nm) (K : LkV own idx RX10 y cy mx rt n) (hA : ACt l G TX y cy mx rt C) (hm : (mkq C.2.2.2.2.1 0 15 = false) ∧ posL 109 C = true) (hw : CWx G x wx) (hpre : ∀ (ad : Nat → Nat) (w0 : va_W), ad 0 = x → (∀ k j, k < 109 → fget w0 k j = fget wx k j) → PRE ad C μ w0) (hmap : (List.range C.1.length).map μ = .ref x :: As) (hdg : decode cc pc = .ok (.invokevirtual idx, 3)) (hR : C.2.2.2.2.2.1 + 1 ≤ R.frames ∧ 8 + (mx + 11) + C.2.2.2.2.2.2 ≤ R.locals) (hf : kc ≤ R.cells ∧ ks ≤ R.slots) (hn : As.length = n) (hst : st = As.reverse ++ .ref x :: rest) (hcat : (rest.map fun v => v.category).sum ≤ 8) (lz : lv_pick lv (List.range lv.length) = lv)
    (kk : ∀ (ad : Nat → Nat) (r : Option Value) (wx' : va_W), PZ ad C 109 μ wx r wx' → CWx G x wx' → wx'.length = wx.length → Z p l e R s m args below meth c nL G A Q (pc + 3) lv (r.toList ++ rest) (wx' ++ wc) kc ks) : Z p l e R s m args below meth c nL G A Q pc lv st (wx ++ wc) kc ks := by
  obtain ⟨ad, e0, h⟩ := hw
  rcases h with ⟨hW, hl, hnull⟩ | ⟨hW, hl, hG⟩
  · have h1 := hpre ad wx e0 (fun _ _ _ => rfl)
    have hct := hA ad wx μ hW h1
    rw [hmap] at hct
    obtain ⟨en, w1, fs, rfl, -⟩ := hW.2.1 0 _ rfl
    rw [e0] at w1
    refine mid_callV (wa := []) (wb := wx) (wc := wc) X K hct hdg w1 rfl rfl hR hf hn hst hcat lz (fun r w2 hp => ?_)
    have hz : PZ ad C 109 μ wx r w2 := pz_of hp
    obtain ⟨-, -, μ2, -, -, -, -, -, -, q7, q8⟩ := hp
    exact kk ad r w2 hz ⟨ad, e0, Or.inl ⟨q7, q8.1.trans hl, fget_frame q8 hm.1 hnull⟩⟩ q8.1
  · have hWt := wt_take hW hl
    have hlt : (wx.take 109).length = 109 := by rw [List.length_take, hl]; rfl
    have h1 := hpre ad (wx.take 109) e0 (fun k j hk => by
      unfold fget
      rw [List.getElem?_take_of_lt hk])
    have hct := hA ad (wx.take 109) μ hWt h1
    rw [hmap] at hct
    obtain ⟨en, w1, fs, rfl, -⟩ := hWt.2.1 0 _ rfl
    rw [e0] at w1
    have ew : wx ++ wc = [] ++ wx.take 109 ++ (wx.drop 109 ++ wc) := by rw [List.nil_append, ← List.append_assoc, List.take_append_drop]
    rw [ew]
    refine mid_callV (wa := []) (wb := wx.take 109) (wc := wx.drop 109 ++ wc) X K hct hdg w1 rfl rfl hR hf hn hst hcat lz (fun r w2 hp => ?_)
    have hz0 : PZ ad C 109 μ (wx.take 109) r w2 := pz_of hp
    obtain ⟨-, -, μ2, -, -, -, -, -, -, q7, q8⟩ := hp
    have hl2 : w2.length = 109 := q8.1.trans hlt
    have hz := pz_app (wc := wx.drop 109) hz0 hm.2 hlt hl2
    rw [List.take_append_drop] at hz
    have hpl : fget (wx.take 109) 0 15 = some (.ref (ad 109)) := by
      have h5 : fget wx 0 15 = some (.ref (ad 109)) := fget_ref hW rfl rfl
      unfold fget at h5 ⊢
      rw [List.getElem?_take_of_lt (by decide)]
      exact h5
    have hj := wt_join q7 hl2 (fget_frame q8 hm.1 hpl) hW hl
    have hlj : (w2 ++ wx.drop 109).length = 116 := by rw [List.length_append, hl2, List.length_drop, hl]
    have hGj : GC G (w2 ++ wx.drop 109) := by
      obtain ⟨a, f, g1, g2⟩ := hG
      exact ⟨a, f, by rw [List.getElem?_append_right (by omega), hl2, List.getElem?_drop]; exact g1, g2⟩
    have h9 := kk ad r (w2 ++ wx.drop 109) hz ⟨ad, e0, Or.inr ⟨hj, hlj, hGj⟩⟩ (hlj.trans hl.symm)
    rw [List.append_assoc] at h9
    exact h9
theorem mx_callP {idx mx n x : Nat} {y : MethodName} {cy : ByteArray} {rt : Option FieldType} {C : CE} {As rest : List Value} {wa wm wc : va_W} {μ : Nat → Value} (X : ZC p s m args meth c cc nL own G A ret nm) (K : LkV own idx RX11 y cy mx rt n) (hA : ACt l G TM y cy mx rt C) (hw : MWx G x wm) (hpre : ∀ (ad : Nat → Nat), ad 0 = x → PRE ad C μ wm) (hmap : (List.range C.1.length).map μ = .ref x :: As) (hdg : decode cc pc = .ok (.invokevirtual idx, 3)) (hR : C.2.2.2.2.2.1 + 1 ≤ R.frames ∧ 8 + (mx + 11) + C.2.2.2.2.2.2 ≤ R.locals) (hf : kc ≤ R.cells ∧ ks ≤ R.slots) (hn : As.length = n) (hst : st = As.reverse ++ .ref x :: rest) (hcat : (rest.map fun v => v.category).sum ≤ 8) (lz : lv_pick lv (List.range lv.length) = lv)
    (kk : ∀ (ad : Nat → Nat) (r : Option Value) (wm' : va_W), PZ ad C 47 μ wm r wm' → MWx G x wm' → Z p l e R s m args below meth c nL G A Q (pc + 3) lv (r.toList ++ rest) (wa ++ wm' ++ wc) kc ks) : Z p l e R s m args below meth c nL G A Q pc lv st (wa ++ wm ++ wc) kc ks := by
  obtain ⟨ad, e0, hW⟩ := hw
  have hct := hA ad wm μ hW (hpre ad e0)
  rw [hmap] at hct
  obtain ⟨en, w1, fs, rfl, -⟩ := hW.2.1 0 _ rfl
  rw [e0] at w1
  refine mid_callV X K hct hdg w1 rfl rfl hR hf hn hst hcat lz (fun r w2 hp => ?_)
  have hz : PZ ad C 47 μ wm r w2 := pz_of hp
  obtain ⟨-, -, μ2, -, -, -, -, -, -, q7, q8⟩ := hp
  exact kk ad r w2 hz ⟨ad, e0, q7⟩
/-- simple arguments: those of its types -/
theorem cx_callF {idx mx n x k : Nat} {y : MethodName} {cy : ByteArray} {rt : Option FieldType} {C : CE} {As rest : List Value} {wx wc : va_W} (X : ZC p s m args meth c cc nL own G A ret nm) (K : LkV own idx RX10 y cy mx rt n) (hA : ACt l G TX y cy mx rt C) (hm : (mkq C.2.2.2.2.1 0 15 = false) ∧ posL 109 C = true) (hkr : C.2.2.2.1.all (fun A => Nat.beq (rtag A.1) k) = true) (hk3 : k = 9 ∨ k = 0 ∨ k = 1) (hw : CWx G x wx) {μ : Nat → Value} (hpre : ∀ (ad : Nat → Nat) (w0 : va_W), ad 0 = x → PRE ad C μ w0) (hmap : (List.range C.1.length).map μ = .ref x :: As) (hdg : decode cc pc = .ok (.invokevirtual idx, 3)) (hR : C.2.2.2.2.2.1 + 1 ≤ R.frames ∧ 8 + (mx + 11) + C.2.2.2.2.2.2 ≤ R.locals) (hf : kc ≤ R.cells ∧ ks ≤ R.slots) (hn : As.length = n) (hst : st = As.reverse ++ .ref x :: rest) (hcat : (rest.map fun v => v.category).sum ≤ 8) (lz : lv_pick lv (List.range lv.length) = lv)
    (kk : ∀ (r : Option Value) (wx' : va_W), RT k r → CWx G x wx' → wx'.length = wx.length → FX C.2.2.2.2.1 109 wx wx' → Z p l e R s m args below meth c nL G A Q (pc + 3) lv (r.toList ++ rest) (wx' ++ wc) kc ks) : Z p l e R s m args below meth c nL G A Q pc lv st (wx ++ wc) kc ks :=
  cx_callP X K hA hm hw (fun ad w0 he _ => hpre ad w0 he) hmap hdg hR hf hn hst hcat lz (fun ad r wx' hz hx' hl' => kk r wx' (pz_rt hz hkr hk3) hx' hl' (pz_fx hz))
theorem mx_callF {idx mx n x k : Nat} {y : MethodName} {cy : ByteArray} {rt : Option FieldType} {C : CE} {As rest : List Value} {wa wm wc : va_W} (X : ZC p s m args meth c cc nL own G A ret nm) (K : LkV own idx RX11 y cy mx rt n) (hA : ACt l G TM y cy mx rt C) (hkr : C.2.2.2.1.all (fun A => Nat.beq (rtag A.1) k) = true) (hk3 : k = 9 ∨ k = 0 ∨ k = 1) (hw : MWx G x wm) {μ : Nat → Value} (hpre : ∀ (ad : Nat → Nat) (w0 : va_W), ad 0 = x → PRE ad C μ w0) (hmap : (List.range C.1.length).map μ = .ref x :: As) (hdg : decode cc pc = .ok (.invokevirtual idx, 3)) (hR : C.2.2.2.2.2.1 + 1 ≤ R.frames ∧ 8 + (mx + 11) + C.2.2.2.2.2.2 ≤ R.locals) (hf : kc ≤ R.cells ∧ ks ≤ R.slots) (hn : As.length = n) (hst : st = As.reverse ++ .ref x :: rest) (hcat : (rest.map fun v => v.category).sum ≤ 8) (lz : lv_pick lv (List.range lv.length) = lv)
    (kk : ∀ (r : Option Value) (wm' : va_W), RT k r → MWx G x wm' → FX C.2.2.2.2.1 47 wm wm' → Z p l e R s m args below meth c nL G A Q (pc + 3) lv (r.toList ++ rest) (wa ++ wm' ++ wc) kc ks) : Z p l e R s m args below meth c nL G A Q pc lv st (wa ++ wm ++ wc) kc ks :=
  mx_callP X K hA hw (fun ad he => hpre ad wm he) hmap hdg hR hf hn hst hcat lz (fun ad r wm' hz hy' => kk r wm' (pz_rt hz hkr hk3) hy' (pz_fx hz))
theorem cx_callG {idx mx n x : Nat} {y : MethodName} {cy : ByteArray} {rt : Option FieldType} {rm : Room} {m0 : List (Nat × Nat)} {Ψ : Option Value → va_W → Prop} {As rest : List Value} {wx wc : va_W} (X : ZC p s m args meth c cc nL own G A ret nm) (K : LkV own idx RX10 y cy mx rt n) (hM : ∀ (ad : Nat → Nat) (w0 : va_W), WT G ad TX w0 → (∀ k j, k < 109 → cget w0 k j = cget wx k j) → Ct l G y cy mx rt rm (.ref (ad 0) :: As) w0 (fun r w1 => WT G ad TX w1 ∧ FRM m0 w0 w1 ∧ Ψ r w1)) (hrm : rm.cells = 0 ∧ rm.slots = 0) (hm : mkq m0 0 15 = false) (hΨ : ∀ r w1 wc, w1.length = 109 → Ψ r w1 → Ψ r (w1 ++ wc)) (hw : CWx G x wx) (hdg : decode cc pc = .ok (.invokevirtual idx, 3)) (hR : rm.frames + 1 ≤ R.frames ∧ 8 + (mx + 11) + rm.locals ≤ R.locals) (hf : kc ≤ R.cells ∧ ks ≤ R.slots) (hn : As.length = n) (hst : st = As.reverse ++ .ref x :: rest) (hcat : (rest.map fun v => v.category).sum ≤ 8) (lz : lv_pick lv (List.range lv.length) = lv)
    (kk : ∀ (r : Option Value) (wx' : va_W), Ψ r wx' → CWx G x wx' → wx'.length = wx.length → FX m0 109 wx wx' → Z p l e R s m args below meth c nL G A Q (pc + 3) lv (r.toList ++ rest) (wx' ++ wc) kc ks) : Z p l e R s m args below meth c nL G A Q pc lv st (wx ++ wc) kc ks := by
  obtain ⟨ad, e0, h⟩ := hw
  subst e0
  have hf2 : kc + rm.cells ≤ R.cells ∧ ks + rm.slots ≤ R.slots := by rw [hrm.1, hrm.2]; exact hf
  rcases h with ⟨hW, hl, hnull⟩ | ⟨hW, hl, hG⟩
  · have hct := hM ad wx hW (fun _ _ _ => rfl)
    obtain ⟨en, w1, fs, rfl, -⟩ := hW.2.1 0 _ rfl
    refine mid_callV (wa := []) (wb := wx) (wc := wc) X K hct hdg w1 rfl rfl hR hf2 hn hst hcat lz (fun r w2 hp => ?_)
    obtain ⟨q7, q8, q9⟩ := hp
    have h9 := kk r w2 q9 ⟨ad, rfl, Or.inl ⟨q7, q8.1.trans hl, fget_frame q8 hm hnull⟩⟩ q8.1 (fun k j _ hM => q8.2 k j hM)
    rw [hrm.1, hrm.2]
    exact h9
  · have hWt := wt_take hW hl
    have hlt : (wx.take 109).length = 109 := by rw [List.length_take, hl]; rfl
    have hct := hM ad (wx.take 109) hWt (fun k j hk => by
      unfold cget
      rw [List.getElem?_take_of_lt hk])
    obtain ⟨en, w1, fs, rfl, -⟩ := hWt.2.1 0 _ rfl
    have ew : wx ++ wc = [] ++ wx.take 109 ++ (wx.drop 109 ++ wc) := by rw [List.nil_append, ← List.append_assoc, List.take_append_drop]
    rw [ew]
    refine mid_callV (wa := []) (wb := wx.take 109) (wc := wx.drop 109 ++ wc) X K hct hdg w1 rfl rfl hR hf2 hn hst hcat lz (fun r w2 hp => ?_)
    obtain ⟨q7, q8, q9⟩ := hp
    have hl2 : w2.length = 109 := q8.1.trans hlt
    have hpl : fget (wx.take 109) 0 15 = some (.ref (ad 109)) := by
      have h5 : fget wx 0 15 = some (.ref (ad 109)) := fget_ref hW rfl rfl
      unfold fget at h5 ⊢
      rw [List.getElem?_take_of_lt (by decide)]
      exact h5
    have hj := wt_join q7 hl2 (fget_frame q8 hm hpl) hW hl
    have hlj : (w2 ++ wx.drop 109).length = 116 := by rw [List.length_append, hl2, List.length_drop, hl]
    have hGj : GC G (w2 ++ wx.drop 109) := by
      obtain ⟨a, f, g1, g2⟩ := hG
      exact ⟨a, f, by rw [List.getElem?_append_right (by omega), hl2, List.getElem?_drop]; exact g1, g2⟩
    have hfx : FX m0 109 wx (w2 ++ wx.drop 109) := by
      have h0 : FX m0 109 (wx.take 109 ++ wx.drop 109) (w2 ++ wx.drop 109) := fx_app (fun k j _ hM => q8.2 k j hM) (by omega) (by omega)
      rw [List.take_append_drop] at h0
      exact h0
    have h9 := kk r (w2 ++ wx.drop 109) (hΨ _ _ _ hl2 q9) ⟨ad, rfl, Or.inr ⟨hj, hlj, hGj⟩⟩ (hlj.trans hl.symm) hfx
    rw [List.append_assoc] at h9
    rw [hrm.1, hrm.2]
    exact h9
theorem mx_callG {idx mx n x : Nat} {y : MethodName} {cy : ByteArray} {rt : Option FieldType} {rm : Room} {m0 : List (Nat × Nat)} {Ψ : Option Value → va_W → Prop} {As rest : List Value} {wa wm wc : va_W} (X : ZC p s m args meth c cc nL own G A ret nm) (K : LkV own idx RX11 y cy mx rt n) (hM : ∀ (ad : Nat → Nat), WT G ad TM wm → Ct l G y cy mx rt rm (.ref (ad 0) :: As) wm (fun r w1 => WT G ad TM w1 ∧ FRM m0 wm w1 ∧ Ψ r w1)) (hrm : rm.cells = 0 ∧ rm.slots = 0) (hw : MWx G x wm) (hdg : decode cc pc = .ok (.invokevirtual idx, 3)) (hR : rm.frames + 1 ≤ R.frames ∧ 8 + (mx + 11) + rm.locals ≤ R.locals) (hf : kc ≤ R.cells ∧ ks ≤ R.slots) (hn : As.length = n) (hst : st = As.reverse ++ .ref x :: rest) (hcat : (rest.map fun v => v.category).sum ≤ 8) (lz : lv_pick lv (List.range lv.length) = lv)
    (kk : ∀ (r : Option Value) (wm' : va_W), Ψ r wm' → MWx G x wm' → FX m0 47 wm wm' → Z p l e R s m args below meth c nL G A Q (pc + 3) lv (r.toList ++ rest) (wa ++ wm' ++ wc) kc ks) : Z p l e R s m args below meth c nL G A Q pc lv st (wa ++ wm ++ wc) kc ks := by
  obtain ⟨ad, e0, hW⟩ := hw
  subst e0
  have hct := hM ad hW
  obtain ⟨en, w1, fs, rfl, -⟩ := hW.2.1 0 _ rfl
  refine mid_callV X K hct hdg w1 rfl rfl hR (by rw [hrm.1, hrm.2]; exact hf) hn hst hcat lz (fun r w2 hp => ?_)
  obtain ⟨q7, q8, q9⟩ := hp
  rw [hrm.1, hrm.2]
  exact kk r w2 q9 ⟨ad, rfl, q7⟩ (fun k j _ hM => q8.2 k j hM)
end LAW1
section LAW3F
variable {p : Program} {l : Launch} {e : Env} {R : Room} {s : State} {m : MethodId} {args : Array Value} {below : List Frame} {meth : Method} {c : Code} {nL : Nat} {G : KG} {A : Nat → Prop} {Q : State → Prop} {cc : ByteArray} {own : String} {ret : Option FieldType} {nm : String} {kc ks pc : Nat} {lv : List (Nat × Value)} {st : List Value}
theorem sx_callF {idx mx n x oa : Nat} {y : MethodName} {cy : ByteArray} {rt : Option FieldType} {hh : List (Nat × Nat × Nat × Nat)} {rm : Room} {As rest : List Value} {wx wm : va_W} {f : Nat → Int64} (X : ZC p s m args meth c cc nL own G A ret nm) (K : LkSW own idx y cy mx rt hh n) (hE : EXs A s s.heap)
    (hM : ∀ (ad : Nat → Nat) (w0 : va_W), WT G ad TX w0 → w0.length = 109 → ad 0 = x → CtW l G y cy mx rt hh rm As (w0 ++ [(oa, aJ G 1 f)]) (LHpo G ad w0 oa)) (hw : CWx G x wx) (hdg : decode cc pc = .ok (.invokestatic idx, 3)) (hR : rm.frames + 1 ≤ R.frames ∧ 8 + (mx + 11) + rm.locals ≤ R.locals) (hf : kc + rm.cells ≤ R.cells ∧ ks + rm.slots ≤ R.slots) (hn : As.length = n) (hst : st = As.reverse ++ rest) (hcat : (rest.map fun v => v.category).sum ≤ 8) (lz : lv_pick lv (List.range lv.length) = lv)
    (kk : ∀ (v : Int32) (wx' : va_W) (f' : Nat → Int64), CWx G x wx' → wx'.length = wx.length → FX [] 109 wx wx' → Z p l e R s m args below meth c nL G A Q (pc + 3) lv (.int v :: rest) (wx' ++ wm ++ [(oa, aJ G 1 f')]) (kc + rm.cells) (ks + rm.slots)) : Z p l e R s m args below meth c nL G A Q pc lv st (wx ++ wm ++ [(oa, aJ G 1 f)]) kc ks := by
  obtain ⟨ad, e0, h⟩ := hw
  have main : ∀ (wb : va_W) (wt : va_W), WT G ad TX wt → wt.length = 109 → wx = wt ++ wb → (∀ w1, Wsame G ad wt w1 → CWx G x (w1 ++ wb)) → Z p l e R s m args below meth c nL G A Q pc lv st (wx ++ wm ++ [(oa, aJ G 1 f)]) kc ks := by
    intro wb wt hWt hlt ew hback
    have e1 : wx ++ wm ++ [(oa, aJ G 1 f)] = wt ++ (wb ++ wm) ++ [(oa, aJ G 1 f)] := by rw [ew]; simp only [List.append_assoc]
    rw [e1]
    refine z_callSX (wr := wb ++ wm) X K (hM ad wt hWt hlt e0) hE hdg hR hf hn hst hcat (List.range wt.length ++ List.range' (wt.length + (wb ++ wm).length) [(oa, aJ G 1 f)].length) (List.range' wt.length (wb ++ wm).length) (sh_rest wt (wb ++ wm) _) (sh_nd _ _ _ (Nat.le_add_right _ _)) (sh_pick wt (wb ++ wm) _) (va_nd_of _ List.nodup_range') (sh_dis2 _ _ _) (fun r w hp => ?_)
    obtain ⟨⟨v, rfl⟩, f', w1, rfl, hs⟩ := hp
    have h9 := kk v (w1 ++ wb) f' (hback w1 hs) (by rw [ew, List.length_append, List.length_append, hs.2.1]) (by rw [ew]; exact fx_app (FX.refl.frm hs.2 rfl) (by omega) (by rw [hs.2.1]; omega))
    have e2 : w1 ++ wb ++ wm ++ [(oa, aJ G 1 f')] = [] ++ w1 ++ (wb ++ wm ++ [(oa, aJ G 1 f')]) := by simp only [List.append_assoc, List.nil_append]
    have e3 : wb ++ wm ++ ([(oa, aJ G 1 f')] ++ w1) = [] ++ (wb ++ wm ++ [(oa, aJ G 1 f')]) ++ w1 := by simp only [List.append_assoc, List.nil_append]
    rw [e2] at h9
    rw [e3]
    exact Z.mid lz h9
  rcases h with ⟨hW, hl, hnull⟩ | ⟨hW, hl, hG⟩
  · refine main [] wx hW hl (by rw [List.append_nil]) (fun w1 hs => ?_)
    rw [List.append_nil]
    exact ⟨ad, e0, Or.inl ⟨hs.1, hs.2.1.trans hl, fget_frame hs.2 rfl hnull⟩⟩
  · have hWt := wt_take hW hl
    have hlt : (wx.take 109).length = 109 := by rw [List.length_take, hl]; rfl
    refine main (wx.drop 109) (wx.take 109) hWt hlt (List.take_append_drop 109 wx).symm (fun w1 hs => ?_)
    have hl2 : w1.length = 109 := hs.2.1.trans hlt
    have hpl : fget (wx.take 109) 0 15 = some (.ref (ad 109)) := by
      have h5 : fget wx 0 15 = some (.ref (ad 109)) := fget_ref hW rfl rfl
      unfold fget at h5 ⊢
      rw [List.getElem?_take_of_lt (by decide)]
      exact h5
    have hj := wt_join hs.1 hl2 (fget_frame hs.2 rfl hpl) hW hl
    refine ⟨ad, e0, Or.inr ⟨hj, by rw [List.length_append, hl2, List.length_drop, hl], ?_⟩⟩
    obtain ⟨a, f9, g1, g2⟩ := hG
    exact ⟨a, f9, by rw [List.getElem?_append_right (by omega), hl2, List.getElem?_drop]; exact g1, g2⟩
end LAW3F
theorem pre_mu {C : CE} {ts : List VT} {As : List Value} {x : Nat} {μ : Nat → Value} (hμ : μ = fun k => ((Value.ref x :: As)[k]?).getD .null) (h1 : C.1 = (2, 0, 0) :: ts) (h2 : C.2.1 = []) (h3 : C.2.2.1 = []) (hA : AOK ts As) (ad : Nat → Nat) (w0 : va_W) (he : ad 0 = x) : PRE ad C μ w0 := by
  subst hμ
  refine ⟨fun j t hj => ?_, fun j q hj => ?_, fun q hq => ?_⟩
  · rw [h1] at hj
    match j, hj with
    | 0, hj =>
      cases hj
      exact Or.inr (Or.inr (Or.inl ⟨rfl, by show Value.ref x = .ref (ad 0); rw [he]⟩))
    | j + 1, hj => exact aok_get ts As hA j t hj ad
  · rw [h2] at hj; cases hj
  · rw [h3] at hq; cases hq
theorem map_mu {x : Nat} {As : List Value} (n : Nat) (h : n = As.length + 1) : (List.range n).map (fun k => ((Value.ref x :: As)[k]?).getD .null) = .ref x :: As := by
  subst h
  refine List.ext_getElem (by simp) (fun k q1 q2 => ?_)
  rw [List.getElem_map, List.getElem_range, List.getElem?_eq_getElem q2]
  rfl
