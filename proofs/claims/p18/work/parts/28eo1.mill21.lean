theorem dm_X4_empty_2 : decode cX4_empty 2 = .ok (.putfield 15, 3) := by decide +kernel
theorem dm_X4_empty_5 : decode cX4_empty 5 = .ok (.return_, 1) := by decide +kernel
abbrev bm_X4_empty_0_2 : ZB := [(.aload_n 0, .null), (.iconst 0, .int 0)]
theorem km_X4_empty_0_2 : zchk cX4_empty bm_X4_empty_0_2 0 = true ∧ zpc bm_X4_empty_0_2 0 = 2 := ⟨by decide +kernel, rfl⟩
set_option maxHeartbeats 4000000 in
set_option maxRecDepth 100000 in
theorem cm_X4_empty (l : Launch) (G : KG) (reader : Nat) (rs : Nat) (f : Nat → Int32) (n : Int32) (lim : Int32) (p : Int32) (nb : Int32) (mh : Int32) (ms : Int32) (mc : Int32) : Ct l G yX4_empty cX4_empty 1 none { frames := 0, cells := 0, slots := 0, locals := 0 } [.ref reader] [(reader, ob 4 [.ref rs, .int n, .int lim, .int p, .int nb, .int mh, .int ms, .int mc]), (rs, aI G 80 f)] (fun r w1 => r = none ∧ w1 = [(reader, ob 4 [.ref rs, .int 0, .int lim, .int p, .int nb, .int mh, .int ms, .int mc]), (rs, aI G 80 f)]) := by
  refine ct_of [(0, .ref reader)] (by decide) (Nat.le_of_ble_eq_true rfl) rfl ?_
  intro p0 e0 s0 m0 args0 below0 meth0 c0 A X
  refine z_run X bm_X4_empty_0_2 km_X4_empty_0_2 (lv' := [(0, .ref reader)]) (st' := [.int 0, .ref reader]) rfl ?_
  refine z_put X fl_4_15 dm_X4_empty_2 0 rfl (ty := .int) (T := TX4) (N := 8) rfl (Or.inl rfl) (by decide +kernel) rfl (by rfl) (Nat.le_of_ble_eq_true rfl) (ws' := [(reader, ob 4 [.ref rs, .int 0, .int lim, .int p, .int nb, .int mh, .int ms, .int mc]), (rs, aI G 80 f)]) rfl ?_
  exact z_vret X rfl dm_X4_empty_5 (Nat.le_of_ble_eq_true rfl) (Nat.le_of_ble_eq_true rfl) ⟨rfl, rfl⟩

