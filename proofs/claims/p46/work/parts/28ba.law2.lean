/-! the law: a call by which the class's world may grow -/
section LAW2
variable {p : Program} {l : Launch} {e : Env} {R : Room} {s : State} {m : MethodId} {args : Array Value} {below : List Frame} {meth : Method} {c : Code} {nL : Nat} {G : KG} {A : Nat → Prop} {Q : State → Prop} {cc : ByteArray} {own : String} {ret : Option FieldType} {nm : String} {kc ks pc : Nat} {lv : List (Nat × Value)} {st : List Value}
theorem cx_grow {idx mx n x : Nat} {y : MethodName} {cy : ByteArray} {rt : Option FieldType} {rN rR : Room} {As rest : List Value} {wx wc : va_W} (X : ZC p s m args meth c cc nL own G A ret nm) (K : LkV own idx RX10 y cy mx rt n)
    (hN : ∀ (ad : Nat → Nat) (w0 : va_W), WT G ad TX w0 → w0.length = 109 → fget w0 0 15 = some .null → Ct l G y cy mx rt rN (.ref (ad 0) :: As) w0 (iPO G (ad 0) w0.length))
    (hP : ∀ (ad : Nat → Nat) (w0 : va_W), WT G ad TXP w0 → w0.length = 116 → GC G w0 → Ct l G y cy mx rt rR (.ref (ad 0) :: As) w0 (iPO G (ad 0) w0.length))
    (hw : CWx G x wx) (hdg : decode cc pc = .ok (.invokevirtual idx, 3)) (hR1 : rN.frames + 1 ≤ R.frames ∧ 8 + (mx + 11) + rN.locals ≤ R.locals) (hR2 : rR.frames + 1 ≤ R.frames ∧ 8 + (mx + 11) + rR.locals ≤ R.locals) (hf1 : wx.length = 109 → kc + rN.cells ≤ R.cells ∧ ks + rN.slots ≤ R.slots) (hf2 : kc + rR.cells ≤ R.cells ∧ ks + rR.slots ≤ R.slots) (hn : As.length = n) (hst : st = As.reverse ++ .ref x :: rest) (hcat : (rest.map fun v => v.category).sum ≤ 8) (lz : lv_pick lv (List.range lv.length) = lv)
    (kN : wx.length = 109 → ∀ (v : Int32) (wx' : va_W), CWx G x wx' → wx.length ≤ wx'.length → Z p l e R s m args below meth c nL G A Q (pc + 3) lv (.int v :: rest) (wx' ++ wc) (kc + rN.cells) (ks + rN.slots))
    (kR : wx.length = 116 → ∀ (v : Int32) (wx' : va_W), CWx G x wx' → wx.length ≤ wx'.length → Z p l e R s m args below meth c nL G A Q (pc + 3) lv (.int v :: rest) (wx' ++ wc) (kc + rR.cells) (ks + rR.slots)) : Z p l e R s m args below meth c nL G A Q pc lv st (wx ++ wc) kc ks := by
  obtain ⟨ad, e0, h⟩ := hw
  subst e0
  rcases h with ⟨hW, hl, hnull⟩ | ⟨hW, hl, hG⟩
  · obtain ⟨en, w1, fs, rfl, -⟩ := hW.2.1 0 _ rfl
    refine mid_callV (wa := []) (wb := wx) (wc := wc) X K (hN ad wx hW hl hnull) hdg w1 rfl rfl hR1 (hf1 hl) hn hst hcat lz (fun r w2 hp => ?_)
    obtain ⟨⟨v, rfl⟩, h1, h2⟩ := hp
    exact kN hl v w2 h2 h1
  · obtain ⟨en, w1, fs, rfl, -⟩ := hW.2.1 0 _ rfl
    refine mid_callV (wa := []) (wb := wx) (wc := wc) X K (hP ad wx hW hl hG) hdg w1 rfl rfl hR2 hf2 hn hst hcat lz (fun r w2 hp => ?_)
    obtain ⟨⟨v, rfl⟩, h1, h2⟩ := hp
    exact kR hl v w2 h2 h1
end LAW2
