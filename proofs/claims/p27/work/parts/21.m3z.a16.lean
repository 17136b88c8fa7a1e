/-! a check in pieces: a cut at a time -/
noncomputable def achk1 (hk : HKT) (tab : DT) (nL : Nat) (T : List TE) (fld : List (Nat × Nat × Nat)) (put : List (Nat × Nat × Nat × Nat)) (cst cstl : List (Nat × Int)) (cal : List CAL) (rk : Nat) (C : CE) (cuts : List CUT) (fuel : Nat) (d : CUT) : Bool := rposB d && (d.2.2.2.all (fun q => Nat.blt q.2 1000) && xexec hk tab nL T fld put cst cstl cal rk C cuts (apids C) (some (d.2.2.1, d.2.2.2)) fuel d.1 d.2.1)
noncomputable def achk0 (hk : HKT) (tab : DT) (nL : Nat) (T : List TE) (fld : List (Nat × Nat × Nat)) (put : List (Nat × Nat × Nat × Nat)) (cst cstl : List (Nat × Int)) (cal : List CAL) (rk : Nat) (C : CE) (cuts : List CUT) (fuel : Nat) : Bool := Nat.ble C.1.length 50 && (Nat.ble C.2.1.length 100 && (Nat.ble (aslots C.1) nL && (C.1.all (fun t => Nat.ble t.1 2) && aK cuts (apids C) none (xexec hk tab nL T fld put cst cstl cal rk C cuts (apids C) none fuel) 0 (ast0 C))))
theorem acheck_of {hk : HKT} {tab : DT} {nL : Nat} {T : List TE} {fld : List (Nat × Nat × Nat)} {put : List (Nat × Nat × Nat × Nat)} {cst cstl : List (Nat × Int)} {cal : List CAL} {rk : Nat} {C : CE} {cuts : List CUT} {fuel : Nat} (h0 : achk0 hk tab nL T fld put cst cstl cal rk C cuts fuel = true) (h : ∀ d ∈ cuts, achk1 hk tab nL T fld put cst cstl cal rk C cuts fuel d = true) : xcheckH hk tab nL T fld put cst cstl cal rk C cuts fuel = true := by
  unfold achk0 at h0
  obtain ⟨c1, h0⟩ := and2 h0
  obtain ⟨c2, h0⟩ := and2 h0
  obtain ⟨c3, h0⟩ := and2 h0
  obtain ⟨c4, h0⟩ := and2 h0
  unfold xcheckH
  rw [c1, c2, c3, c4, h0]
  simp only [Bool.true_and, Bool.and_true]
  exact List.all_eq_true.mpr h
