/-! the law: calls whose answer is exact -/
def RE (k : Int) (r : Option Value) : Prop := ∃ v : Int32, r = some (.int v) ∧ v.toInt = k
def altE (C : CE) (k : Int) : Bool := C.2.2.2.1.all (fun A => match A.1 with
  | some t => Nat.beq t.1 0 && (decide (t.2.1 = k) && decide (t.2.2 = k))
  | none => false)
theorem re_of {G : KG} {ad : Nat → Nat} {T : List TE} {C : CE} {μ : Nat → Value} {w0 w1 : va_W} {r : Option Value} {k : Int} (h : POST G ad T C μ w0 r w1) (hk : altE C k = true) : RE k r := by
  obtain ⟨A1, hA1, μ2, -, -, q3, -⟩ := h
  have h3 := List.all_eq_true.mp hk A1 hA1
  cases h4 : A1.1 with
  | none => rw [h4] at h3; cases h3
  | some t =>
    rw [h4] at h3 q3
    obtain ⟨r1, r2⟩ := q3
    obtain ⟨g1, g2⟩ := and2 h3
    obtain ⟨g2, g3⟩ := and2 g2
    have g2 := of_decide_eq_true g2
    have g3 := of_decide_eq_true g3
    obtain ⟨x, ex, x1, x2⟩ := vty0 r2 (Nat.eq_of_beq_eq_true g1)
    exact ⟨x, by rw [r1, ex], by omega⟩
section LAW1
variable {p : Program} {l : Launch} {e : Env} {R : Room} {s : State} {m : MethodId} {args : Array Value} {below : List Frame} {meth : Method} {c : Code} {nL : Nat} {G : KG} {A : Nat → Prop} {Q : State → Prop} {cc : ByteArray} {own : String} {ret : Option FieldType} {nm : String} {kc ks pc : Nat} {lv : List (Nat × Value)} {st : List Value}
theorem cx_callE {idx mx n x : Nat} {k : Int} {y : MethodName} {cy : ByteArray} {rt : Option FieldType} {C : CE} {As rest : List Value} {wx wc : va_W} (X : ZC p s m args meth c cc nL own G A ret nm) (K : LkV own idx RX10 y cy mx rt n) (hA : ACt l G TX y cy mx rt C) (hm : mkq C.2.2.2.2.1 0 15 = false) (hkr : altE C k = true) (hw : CWx G x wx) (hpre : ∀ (ad : Nat → Nat) (w0 : va_W), ad 0 = x → ∃ μ, PRE ad C μ w0 ∧ (List.range C.1.length).map μ = .ref x :: As) (hdg : decode cc pc = .ok (.invokevirtual idx, 3)) (hR : C.2.2.2.2.2.1 + 1 ≤ R.frames ∧ 8 + (mx + 11) + C.2.2.2.2.2.2 ≤ R.locals) (hf : kc ≤ R.cells ∧ ks ≤ R.slots) (hn : As.length = n) (hst : st = As.reverse ++ .ref x :: rest) (hcat : (rest.map fun v => v.category).sum ≤ 8) (lz : lv_pick lv (List.range lv.length) = lv)
    (kk : ∀ (r : Option Value) (wx' : va_W), RE k r → CWx G x wx' → wx'.length = wx.length → Z p l e R s m args below meth c nL G A Q (pc + 3) lv (r.toList ++ rest) (wx' ++ wc) kc ks) : Z p l e R s m args below meth c nL G A Q pc lv st (wx ++ wc) kc ks := by
  obtain ⟨ad, e0, h⟩ := hw
  rcases h with ⟨hW, hl, hnull⟩ | ⟨hW, hl, hG⟩
  · obtain ⟨μ, h1, h2⟩ := hpre ad wx e0
    have hct := hA ad wx μ hW h1
    rw [h2] at hct
    obtain ⟨en, w1, fs, rfl, -⟩ := hW.2.1 0 _ rfl
    rw [e0] at w1
    refine mid_callV (wa := []) (wb := wx) (wc := wc) X K hct hdg w1 rfl rfl hR hf hn hst hcat lz (fun r w2 hp => ?_)
    have hrt := re_of hp hkr
    obtain ⟨-, -, μ2, -, -, -, -, -, -, q7, q8⟩ := hp
    exact kk r w2 hrt ⟨ad, e0, Or.inl ⟨q7, q8.1.trans hl, fget_frame q8 hm hnull⟩⟩ q8.1
  · have hWt := wt_take hW hl
    obtain ⟨μ, h1, h2⟩ := hpre ad (wx.take 109) e0
    have hct := hA ad (wx.take 109) μ hWt h1
    rw [h2] at hct
    obtain ⟨en, w1, fs, rfl, -⟩ := hWt.2.1 0 _ rfl
    rw [e0] at w1
    have ew : wx ++ wc = [] ++ wx.take 109 ++ (wx.drop 109 ++ wc) := by rw [List.nil_append, ← List.append_assoc, List.take_append_drop]
    rw [ew]
    refine mid_callV (wa := []) (wb := wx.take 109) (wc := wx.drop 109 ++ wc) X K hct hdg w1 rfl rfl hR hf hn hst hcat lz (fun r w2 hp => ?_)
    have hrt := re_of hp hkr
    obtain ⟨-, -, μ2, -, -, -, -, -, -, q7, q8⟩ := hp
    have hl2 : w2.length = 109 := by rw [q8.1, List.length_take, hl]; rfl
    have hpl : fget (wx.take 109) 0 15 = some (.ref (ad 109)) := by
      have h5 : fget wx 0 15 = some (.ref (ad 109)) := fget_ref hW rfl rfl
      unfold fget at h5 ⊢
      rw [List.getElem?_take_of_lt (by decide)]
      exact h5
    have hj := wt_join q7 hl2 (fget_frame q8 hm hpl) hW hl
    have hlj : (w2 ++ wx.drop 109).length = 116 := by rw [List.length_append, hl2, List.length_drop, hl]
    have hGj : GC G (w2 ++ wx.drop 109) := by
      obtain ⟨a, f, g1, g2⟩ := hG
      exact ⟨a, f, by rw [List.getElem?_append_right (by omega), hl2, List.getElem?_drop]; exact g1, g2⟩
    have h9 := kk r (w2 ++ wx.drop 109) hrt ⟨ad, e0, Or.inr ⟨hj, hlj, hGj⟩⟩ (hlj.trans hl.symm)
    rw [List.append_assoc] at h9
    exact h9
theorem mx_callE {idx mx n x : Nat} {k : Int} {y : MethodName} {cy : ByteArray} {rt : Option FieldType} {C : CE} {As rest : List Value} {wa wm wc : va_W} (X : ZC p s m args meth c cc nL own G A ret nm) (K : LkV own idx RX11 y cy mx rt n) (hA : ACt l G TM y cy mx rt C) (hkr : altE C k = true) (hw : MWx G x wm) (hpre : ∀ (ad : Nat → Nat) (w0 : va_W), ad 0 = x → ∃ μ, PRE ad C μ w0 ∧ (List.range C.1.length).map μ = .ref x :: As) (hdg : decode cc pc = .ok (.invokevirtual idx, 3)) (hR : C.2.2.2.2.2.1 + 1 ≤ R.frames ∧ 8 + (mx + 11) + C.2.2.2.2.2.2 ≤ R.locals) (hf : kc ≤ R.cells ∧ ks ≤ R.slots) (hn : As.length = n) (hst : st = As.reverse ++ .ref x :: rest) (hcat : (rest.map fun v => v.category).sum ≤ 8) (lz : lv_pick lv (List.range lv.length) = lv)
    (kk : ∀ (r : Option Value) (wm' : va_W), RE k r → MWx G x wm' → Z p l e R s m args below meth c nL G A Q (pc + 3) lv (r.toList ++ rest) (wa ++ wm' ++ wc) kc ks) : Z p l e R s m args below meth c nL G A Q pc lv st (wa ++ wm ++ wc) kc ks := by
  obtain ⟨ad, e0, hW⟩ := hw
  obtain ⟨μ, h1, h2⟩ := hpre ad wm e0
  have hct := hA ad wm μ hW h1
  rw [h2] at hct
  obtain ⟨en, w1, fs, rfl, -⟩ := hW.2.1 0 _ rfl
  rw [e0] at w1
  refine mid_callV X K hct hdg w1 rfl rfl hR hf hn hst hcat lz (fun r w2 hp => ?_)
  have hrt := re_of hp hkr
  obtain ⟨-, -, μ2, -, -, -, -, -, -, q7, q8⟩ := hp
  exact kk r w2 hrt ⟨ad, e0, q7⟩
end LAW1
