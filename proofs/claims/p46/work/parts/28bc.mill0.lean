/-! the reference's mill, with nothing asked of the fields -/
abbrev C_mill0 : CE := ([(2, 0, 0)], [], [], [(some (0, -2147483648, 2147483647), [], [], [])], C_z_X11_mill_0.2.2.2.2.1, C_z_X11_mill_0.2.2.2.2.2.1, C_z_X11_mill_0.2.2.2.2.2.2)
theorem ac_mill0 (l : Launch) (G : KG) : ACt l G TM yX11_mill cX11_mill 10 (some .int) C_mill0 := by
  intro ad w0 μ hW hPre
  obtain ⟨h, h1, h2, h3⟩ := fget_int (T := TM) (k := 0) (j := 3) hW rfl rfl
  obtain ⟨z, z1, z2, z3⟩ := fget_int (T := TM) (k := 0) (j := 10) hW rfl rfl
  obtain ⟨μ', hμ⟩ : ∃ μ' : Nat → Value, μ' = fun k => if k = 100 then .int h else if k = 101 then .int z else μ k := ⟨_, rfl⟩
  have m0 : μ' 0 = μ 0 := by rw [hμ]; rfl
  have m1 : μ' 100 = .int h := by rw [hμ]; rfl
  have m2 : μ' 101 = .int z := by rw [hμ]; rfl
  have hp : PRE ad C_z_X11_mill_0 μ' w0 := by
    refine ⟨fun j t hj => ?_, fun j q hj => ?_, fun q hq => (by cases hq)⟩
    · match j, hj with
      | 0, hj => cases hj; rw [m0]; exact hPre.1 0 _ rfl
      | j + 1, hj => cases hj
    · match j, hj with
      | 0, hj => cases hj; exact ⟨by rw [m1]; exact vty_i h2 h3, by show fget w0 0 3 = some (μ' 100); rw [m1]; exact h1⟩
      | 1, hj => cases hj; exact ⟨by rw [m2]; exact vty_i z2 z3, by show fget w0 0 10 = some (μ' 101); rw [m2]; exact z1⟩
      | j + 2, hj => cases hj
  have hct := ac_mill l G ad w0 μ' hW hp
  have e0 : (List.range C_z_X11_mill_0.1.length).map μ' = (List.range C_mill0.1.length).map μ := by show [μ' 0] = [μ 0]; rw [m0]
  rw [e0] at hct
  refine Ct.weak hct (fun r w1 hq => ?_)
  have hr : RT 0 r := rt_of (k := 0) hq (by decide) (Or.inr (Or.inl rfl))
  obtain ⟨-, -, μ2, -, -, -, -, -, -, q7, q8⟩ := hq
  rcases hr with ⟨h, -⟩ | ⟨-, v, rfl⟩ | ⟨h, -⟩
  · exact absurd h (by decide)
  · exact ⟨_, List.mem_cons_self, nup μ 50 (.int v), fun i hi => nup_ne hi, fun i hi _ => if_neg (by omega), (show resOK ad (some _) (some (.int v)) (nup μ 50 (.int v) 50) from ⟨by rw [nup_eq], by rw [nup_eq]; exact vty_i0 v⟩), fun q hq => absurd hq List.not_mem_nil, fun n q hq => (by have hq : ([] : List (Nat × Nat × VT))[n]? = some q := hq; simp at hq), fun q hq => absurd hq List.not_mem_nil, q7, q8⟩
  · exact absurd h (by decide)
