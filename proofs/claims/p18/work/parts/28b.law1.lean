/-! the law: the class's world, and a call of one of its methods -/
theorem nopfxX {G : KG} {ws : va_W} : PFX G TX ws := by
  intro k n t a f c i h1 h2 _ _ _
  have h9 : TX.all (fun te => match te with | .inr o => !(Nat.beq o.1 0) || Nat.ble o.2.2.1 1 | .inl _ => true) = true := by decide
  have h8 := List.all_eq_true.mp h9 _ (List.mem_of_getElem? h1)
  have h8 : Nat.ble t.1 1 = true := h8
  have := Nat.le_of_ble_eq_true h8
  omega
theorem TX_len {k : Nat} {te : TE} (h : TX[k]? = some te) : k < 109 := (List.getElem?_eq_some_iff.mp h).1
theorem TXP_len {k : Nat} {te : TE} (h : TXP[k]? = some te) : k < 116 := (List.getElem?_eq_some_iff.mp h).1
theorem wt_take {G : KG} {ad : Nat → Nat} {w : va_W} (hW : WT G ad TXP w) (hl : w.length = 116) : WT G ad TX (w.take 109) := by
  refine ⟨by rw [List.length_take, hl]; show 109 ≤ min 109 116; decide, fun k te hk => ?_, nopfxX⟩
  have hk9 := TX_len hk
  rw [List.getElem?_take_of_lt hk9]
  rcases Nat.eq_zero_or_pos k with h0 | h0
  · subst h0
    obtain ⟨en, e1, fs, f1, f2, f3⟩ := hW.2.1 0 _ rfl
    have hte := Option.some.inj hk
    refine ⟨en, e1, ?_⟩
    rw [← hte]
    refine ⟨fs, f1, f2, fun j t v g1 g2 => ?_⟩
    have g1' : fty TX[0]? j = some t := g1
    rcases Nat.decEq 15 j with hj | hj
    · have hlt : j < 16 := (List.getElem?_eq_some_iff.mp g1).1
      rw [fty_eq j hlt hj] at g1'
      exact f3 j t v g1' g2
    · subst hj
      have h5 := f3 15 (2, 109, 0) v rfl g2
      have g4 := Option.some.inj g1
      rw [← g4, vty2 h5 rfl]
      exact Or.inr (Or.inr (Or.inr ⟨rfl, Or.inr ⟨_, rfl⟩⟩))
  · rw [← TXP_eq hk9 h0] at hk
    exact hW.2.1 k _ hk
theorem wt_join {G : KG} {ad : Nat → Nat} {w w1 : va_W} (hW1 : WT G ad TX w1) (hl1 : w1.length = 109) (hp : fget w1 0 15 = some (.ref (ad 109))) (hW : WT G ad TXP w) (hl : w.length = 116) : WT G ad TXP (w1 ++ w.drop 109) := by
  refine ⟨by rw [List.length_append, List.length_drop, hl, hl1]; show 116 ≤ 109 + (116 - 109); decide, fun k te hk => ?_, nopfx⟩
  have hk9 := TXP_len hk
  rcases Nat.lt_or_ge k 109 with h | h
  · rw [List.getElem?_append_left (by omega)]
    rcases Nat.eq_zero_or_pos k with h0 | h0
    · subst h0
      obtain ⟨en, e1, fs, f1, f2, f3⟩ := hW1.2.1 0 _ rfl
      have hte := Option.some.inj hk
      refine ⟨en, e1, ?_⟩
      rw [← hte]
      refine ⟨fs, f1, f2, fun j t v g1 g2 => ?_⟩
      have g1' : fty TXP[0]? j = some t := g1
      rcases Nat.decEq 15 j with hj | hj
      · have hlt : j < 16 := (List.getElem?_eq_some_iff.mp g1).1
        rw [← fty_eq j hlt hj] at g1'
        exact f3 j t v g1' g2
      · subst hj
        have g4 := Option.some.inj g1
        rw [f1] at e1
        rw [fget_of e1, g2] at hp
        rw [← g4, Option.some.inj hp]
        exact Or.inr (Or.inr (Or.inl ⟨rfl, rfl⟩))
    · rw [TXP_eq h h0] at hk
      exact hW1.2.1 k _ hk
  · rw [List.getElem?_append_right (by omega), hl1, List.getElem?_drop, show 109 + (k - 109) = k by omega]
    exact hW.2.1 k _ hk
def RT (k : Nat) (r : Option Value) : Prop := (k = 9 ∧ r = none) ∨ (k = 0 ∧ ∃ v : Int32, r = some (.int v)) ∨ (k = 1 ∧ ∃ v : Int64, r = some (.long v))
def rtag : Option VT → Nat
  | none => 9
  | some t => t.1
theorem rt_of {G : KG} {ad : Nat → Nat} {T : List TE} {C : CE} {μ : Nat → Value} {w0 w1 : va_W} {r : Option Value} {k : Nat} (h : POST G ad T C μ w0 r w1) (hk : C.2.2.2.1.all (fun A => Nat.beq (rtag A.1) k) = true) (h2 : k = 9 ∨ k = 0 ∨ k = 1) : RT k r := by
  obtain ⟨A1, hA1, μ2, -, -, q3, -⟩ := h
  have h3 := Nat.eq_of_beq_eq_true (List.all_eq_true.mp hk A1 hA1)
  cases h4 : A1.1 with
  | none =>
    rw [h4] at h3 q3
    have h3 : 9 = k := h3
    exact Or.inl ⟨h3.symm, q3⟩
  | some t =>
    rw [h4] at h3 q3
    have h3 : t.1 = k := h3
    obtain ⟨r1, r2⟩ := q3
    rcases h2 with e | e | e
    · exfalso
      rcases r2 with ⟨h, -⟩ | ⟨h, -⟩ | ⟨h, -⟩ | ⟨h, -⟩ <;> omega
    · obtain ⟨x, ex, -⟩ := vty0 r2 (h3.trans e)
      exact Or.inr (Or.inl ⟨e, x, by rw [r1, ex]⟩)
    · obtain ⟨x, ex, -⟩ := vty1 r2 (h3.trans e)
      exact Or.inr (Or.inr ⟨e, x, by rw [r1, ex]⟩)
section LAW1
variable {p : Program} {l : Launch} {e : Env} {R : Room} {s : State} {m : MethodId} {args : Array Value} {below : List Frame} {meth : Method} {c : Code} {nL : Nat} {G : KG} {A : Nat → Prop} {Q : State → Prop} {cc : ByteArray} {own : String} {ret : Option FieldType} {nm : String} {kc ks pc : Nat} {lv : List (Nat × Value)} {st : List Value}
theorem cx_callV {idx mx n x k : Nat} {y : MethodName} {cy : ByteArray} {rt : Option FieldType} {C : CE} {As rest : List Value} {wx wc : va_W} (X : ZC p s m args meth c cc nL own G A ret nm) (K : LkV own idx RX10 y cy mx rt n) (hA : ACt l G TX y cy mx rt C) (hm : mkq C.2.2.2.2.1 0 15 = false) (hkr : C.2.2.2.1.all (fun A => Nat.beq (rtag A.1) k) = true) (hk3 : k = 9 ∨ k = 0 ∨ k = 1) (hw : CWx G x wx) (hpre : ∀ (ad : Nat → Nat) (w0 : va_W), ad 0 = x → ∃ μ, PRE ad C μ w0 ∧ (List.range C.1.length).map μ = .ref x :: As) (hdg : decode cc pc = .ok (.invokevirtual idx, 3)) (hR : C.2.2.2.2.2.1 + 1 ≤ R.frames ∧ 8 + (mx + 11) + C.2.2.2.2.2.2 ≤ R.locals) (hf : kc ≤ R.cells ∧ ks ≤ R.slots) (hn : As.length = n) (hst : st = As.reverse ++ .ref x :: rest) (hcat : (rest.map fun v => v.category).sum ≤ 8) (lz : lv_pick lv (List.range lv.length) = lv)
    (kk : ∀ (r : Option Value) (wx' : va_W), RT k r → CWx G x wx' → wx'.length = wx.length → Z p l e R s m args below meth c nL G A Q (pc + 3) lv (r.toList ++ rest) (wx' ++ wc) kc ks) : Z p l e R s m args below meth c nL G A Q pc lv st (wx ++ wc) kc ks := by
  obtain ⟨ad, e0, h⟩ := hw
  rcases h with ⟨hW, hl, hnull⟩ | ⟨hW, hl, hG⟩
  · obtain ⟨μ, h1, h2⟩ := hpre ad wx e0
    have hct := hA ad wx μ hW h1
    rw [h2] at hct
    obtain ⟨en, w1, fs, rfl, -⟩ := hW.2.1 0 _ rfl
    rw [e0] at w1
    refine mid_callV (wa := []) (wb := wx) (wc := wc) X K hct hdg w1 rfl rfl hR hf hn hst hcat lz (fun r w2 hp => ?_)
    have hrt := rt_of hp hkr hk3
    obtain ⟨-, -, μ2, -, -, -, -, -, -, q7, q8⟩ := hp
    exact kk r w2 hrt ⟨ad, e0, Or.inl ⟨q7, q8.1.trans hl, fget_frame q8 hm hnull⟩⟩ q8.1
  · have hWt := wt_take hW hl
    obtain ⟨μ, h1, h2⟩ := hpre ad (wx.take 109) e0
    have hct := hA ad (wx.take 109) μ hWt h1
    rw [h2] at hct
    obtain ⟨en, w1, fs, rfl, -⟩ := hWt.2.1 0 _ rfl
    rw [e0] at w1
    have ew : wx ++ wc = [] ++ wx.take 109 ++ (wx.drop 109 ++ wc) := by rw [List.nil_append, ← List.append_assoc, List.take_append_drop]
    rw [ew]
    refine mid_callV (wa := []) (wb := wx.take 109) (wc := wx.drop 109 ++ wc) X K hct hdg w1 rfl rfl hR hf hn hst hcat lz (fun r w2 hp => ?_)
    have hrt := rt_of hp hkr hk3
    obtain ⟨-, -, μ2, -, -, -, -, -, -, q7, q8⟩ := hp
    have hl2 : w2.length = 109 := by rw [q8.1, List.length_take, hl]; rfl
    have hpl : fget (wx.take 109) 0 15 = some (.ref (ad 109)) := by
      have h5 : fget wx 0 15 = some (.ref (ad 109)) := fget_ref hW rfl rfl
      unfold fget at h5 ⊢
      rw [List.getElem?_take_of_lt (by decide)]
      exact h5
    have hj := wt_join q7 hl2 (fget_frame q8 hm hpl) hW hl
    have hlj : (w2 ++ wx.drop 109).length = 116 := by rw [List.length_append, hl2, List.length_drop, hl]
    have hGj : GC G (w2 ++ wx.drop 109) := by
      obtain ⟨a, f, g1, g2⟩ := hG
      exact ⟨a, f, by rw [List.getElem?_append_right (by omega), hl2, List.getElem?_drop]; exact g1, g2⟩
    have h9 := kk r (w2 ++ wx.drop 109) hrt ⟨ad, e0, Or.inr ⟨hj, hlj, hGj⟩⟩ (hlj.trans hl.symm)
    rw [List.append_assoc] at h9
    exact h9
/-- the reference's world -/
def MWx (G : KG) (x : Nat) (w : va_W) : Prop := ∃ ad : Nat → Nat, ad 0 = x ∧ WT G ad TM w
theorem mx_callV {idx mx n x k : Nat} {y : MethodName} {cy : ByteArray} {rt : Option FieldType} {C : CE} {As rest : List Value} {wa wm wc : va_W} (X : ZC p s m args meth c cc nL own G A ret nm) (K : LkV own idx RX11 y cy mx rt n) (hA : ACt l G TM y cy mx rt C) (hkr : C.2.2.2.1.all (fun A => Nat.beq (rtag A.1) k) = true) (hk3 : k = 9 ∨ k = 0 ∨ k = 1) (hw : MWx G x wm) (hpre : ∀ (ad : Nat → Nat) (w0 : va_W), ad 0 = x → ∃ μ, PRE ad C μ w0 ∧ (List.range C.1.length).map μ = .ref x :: As) (hdg : decode cc pc = .ok (.invokevirtual idx, 3)) (hR : C.2.2.2.2.2.1 + 1 ≤ R.frames ∧ 8 + (mx + 11) + C.2.2.2.2.2.2 ≤ R.locals) (hf : kc ≤ R.cells ∧ ks ≤ R.slots) (hn : As.length = n) (hst : st = As.reverse ++ .ref x :: rest) (hcat : (rest.map fun v => v.category).sum ≤ 8) (lz : lv_pick lv (List.range lv.length) = lv)
    (kk : ∀ (r : Option Value) (wm' : va_W), RT k r → MWx G x wm' → Z p l e R s m args below meth c nL G A Q (pc + 3) lv (r.toList ++ rest) (wa ++ wm' ++ wc) kc ks) : Z p l e R s m args below meth c nL G A Q pc lv st (wa ++ wm ++ wc) kc ks := by
  obtain ⟨ad, e0, hW⟩ := hw
  obtain ⟨μ, h1, h2⟩ := hpre ad wm e0
  have hct := hA ad wm μ hW h1
  rw [h2] at hct
  obtain ⟨en, w1, fs, rfl, -⟩ := hW.2.1 0 _ rfl
  rw [e0] at w1
  refine mid_callV X K hct hdg w1 rfl rfl hR hf hn hst hcat lz (fun r w2 hp => ?_)
  have hrt := rt_of hp hkr hk3
  obtain ⟨-, -, μ2, -, -, -, -, -, -, q7, q8⟩ := hp
  exact kk r w2 hrt ⟨ad, e0, q7⟩
end LAW1
