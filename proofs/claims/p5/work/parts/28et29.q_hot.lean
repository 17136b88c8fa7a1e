/-! thrown of the reference -/
theorem d_th_0 : decode cX11_thrown 0 = .ok (.aload_n 0, 1) := by decide +kernel
theorem d_th_1 : decode cX11_thrown 1 = .ok (.getfield 3, 3) := by decide +kernel
theorem d_th_4 : decode cX11_thrown 4 = .ok (.ireturn, 1) := by decide +kernel
theorem ac_thm (l : Launch) (G : KG) {ad : Nat → Nat} {w0 : va_W} (hW : WT G ad TM w0) {t : Int32} (et : fget w0 0 0 = some (.int t)) : Ct l G yX11_thrown cX11_thrown 1 (some .int) { frames := 0, cells := 0, slots := 0, locals := 0 } [.ref (ad 0)] w0 (fun r w1 => WT G ad TM w1 ∧ FRM [] w0 w1 ∧ (r = some (.int t))) := by
  refine ct_of [(0, .ref (ad 0))] (by decide) (Nat.le_of_ble_eq_true rfl) rfl ?_
  intro p e s m args below meth c A X
  refine z_aload_n X d_th_0 rfl 0 rfl ?_
  refine hget (T := TM) X hW (idx := 3) (Or.inl fl_11_3) d_th_1 rfl et ?_
  exact z_iret X rfl d_th_4 (Nat.zero_le _) (Nat.zero_le _) ⟨hW, ⟨rfl, fun _ _ _ => rfl⟩, rfl⟩
