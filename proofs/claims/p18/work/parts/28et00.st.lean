/-! an array written one place further -/
theorem st_step {g F : Nat → Int32} {i x : Int32} (h0 : 0 ≤ i.toInt) (hg : ∀ j : Nat, (j : Int) < i.toInt → g j = F j) (hx : x = F i.toInt.toNat) : ∀ j : Nat, (j : Int) < i.toInt + 1 → upd g i.toNatClampNeg x j = F j := by
  intro j hj
  by_cases e : j = i.toInt.toNat
  · subst e
    exact (upd_at (f := g) (k := i.toNatClampNeg) (x := x)).trans hx
  · rw [upd_off (show j ≠ i.toNatClampNeg from e)]
    exact hg j (by omega)
