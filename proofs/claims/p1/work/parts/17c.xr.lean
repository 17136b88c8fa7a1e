theorem xw_k : Cond.classLink RX10 109 NSE ∈ BIG := List.mem_filter.mpr ⟨by decide +kernel, by decide +kernel⟩
theorem xw_i : Cond.initialized NSE ∈ BIG := List.mem_filter.mpr ⟨by decide +kernel, by decide +kernel⟩
section ZT
variable {p : Program} {l : Launch} {e : Env} {R : Room} {s : State} {m : MethodId} {args : Array Value} {below : List Frame} {meth : Method} {c : Code} {nL : Nat} {G : KG} {A : Nat → Prop} {Qc : Array Value → State → Outcome → State → Prop} {cc : ByteArray} {ret : Option FieldType} {nm : String}
variable {pc : Nat} {st : List Value} {ws : va_W} {kc ks mc ms : Nat} {lv : List (Nat × Value)}
theorem z_throw (X : ZC p s m args meth c cc nL RX10 G A ret nm) (hE : EXs A s s.heap) (hst : l.stackTraces = false) (hno : ∀ x ∈ c.exceptionTable.toList, False) {is : Nat} {text : String} (hstr : xn_st is text s)
    (d0 : decode cc pc = .ok (.new 109, 3)) (d3 : decode cc (pc + 3) = .ok (.dup, 1)) (d4 : decode cc (pc + 4) = .ok (.ldc is, 2)) (d6 : decode cc (pc + 6) = .ok (.invokespecial 113, 3)) (d9 : decode cc (pc + 9) = .ok (.athrow, 1))
    (hR : 2 + 3 < R.frames ∧ (st.map fun v => v.category).sum + (13 * (2 + 1) + 43) ≤ R.locals ∧ kc + 1 ≤ R.cells ∧ ks + 6 ≤ R.slots) (hm : kc + 1 ≤ mc ∧ ks + 6 ≤ ms) :
    Z p l e R s m args below meth c nL G A (vx_MQ below Qc (XCn A) args s mc ms A) pc lv st ws kc ks := by
  intro H locs ls hP hD hS hl
  obtain ⟨sa, hsa⟩ := hstr _ X.2.2.2.1
  exact xn_throwS (rest := st) X.1 X.2.1 hst X.2.2.2.1 (X.2.2.2.2.1 _ xw_k) (X.2.2.2.2.1 _ xw_i) hsa (z_xat X hE) xw_ot hE.1 hE.2.1 hS (hl.1.trans X.2.2.1.symm) d0 d3 d4 d6 d9 (fun x hx => (hno x hx).elim) hR.1 hR.2.1 hR.2.2.1 hR.2.2.2 X.2.2.2.2.2.2.2.1
    (fun t _ h2 h3 => ⟨(), trivial, rfl, Nat.le_trans hS.1 h2, fun q h4 h5 => (h3 q (Nat.lt_of_lt_of_le h4 hS.1)).trans (hS.2.1 q h4 h5)⟩) hS.2.2 hm.1 hm.2
theorem z_throwW (X : ZC p s m args meth c cc nL RX10 G A ret nm) (hE : EXs A s s.heap) (hst : l.stackTraces = false) (hno : ∀ x ∈ c.exceptionTable.toList, False) {is : Nat} {text : String} (hstr : xn_st is text s)
    (d0 : decode cc pc = .ok (.new 109, 3)) (d3 : decode cc (pc + 3) = .ok (.dup, 1)) (d4 : decode cc (pc + 4) = .ok (.ldc_w is, 3)) (d7 : decode cc (pc + 7) = .ok (.invokespecial 113, 3)) (d10 : decode cc (pc + 10) = .ok (.athrow, 1))
    (hR : 2 + 3 < R.frames ∧ (st.map fun v => v.category).sum + (13 * (2 + 1) + 43) ≤ R.locals ∧ kc + 1 ≤ R.cells ∧ ks + 6 ≤ R.slots) (hm : kc + 1 ≤ mc ∧ ks + 6 ≤ ms) :
    Z p l e R s m args below meth c nL G A (vx_MQ below Qc (XCn A) args s mc ms A) pc lv st ws kc ks := by
  intro H locs ls hP hD hS hl
  obtain ⟨sa, hsa⟩ := hstr _ X.2.2.2.1
  exact xn_throwSW (rest := st) X.1 X.2.1 hst X.2.2.2.1 (X.2.2.2.2.1 _ xw_k) (X.2.2.2.2.1 _ xw_i) hsa (z_xat X hE) xw_ot hE.1 hE.2.1 hS (hl.1.trans X.2.2.1.symm) d0 d3 d4 d7 d10 (fun x hx => (hno x hx).elim) hR.1 hR.2.1 hR.2.2.1 hR.2.2.2 X.2.2.2.2.2.2.2.1
    (fun t _ h2 h3 => ⟨(), trivial, rfl, Nat.le_trans hS.1 h2, fun q h4 h5 => (h3 q (Nat.lt_of_lt_of_le h4 hS.1)).trans (hS.2.1 q h4 h5)⟩) hS.2.2 hm.1 hm.2
end ZT
