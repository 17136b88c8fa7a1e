theorem dm_X10_sign_1 : decode cX10_sign 1 = .ok (.getfield 19, 3) := by decide +kernel
theorem dm_X10_sign_5 : decode cX10_sign 5 = .ok (.invokevirtual 91, 3) := by decide +kernel
theorem dm_X10_sign_8 : decode cX10_sign 8 = .ok (.ireturn, 1) := by decide +kernel
abbrev bm_X10_sign_0_1 : ZB := [(.aload_n 0, .null)]
theorem km_X10_sign_0_1 : zchk cX10_sign bm_X10_sign_0_1 0 = true ∧ zpc bm_X10_sign_0_1 0 = 1 := ⟨by decide +kernel, rfl⟩
abbrev bm_X10_sign_4_5 : ZB := [(.iload_n 1, .null)]
theorem km_X10_sign_4_5 : zchk cX10_sign bm_X10_sign_4_5 4 = true ∧ zpc bm_X10_sign_4_5 4 = 5 := ⟨by decide +kernel, rfl⟩
set_option maxHeartbeats 4000000 in
set_option maxRecDepth 100000 in
theorem cm_X10_sign (l : Launch) (G : KG) (x : Nat) (x_told : Value) (x_ring : Value) (x_speeds : Value) (x_wheel : Value) (x_trials : Value) (x_span : Value) (x_search : Value) (x_kept : Value) (x_crosses : Value) (x_trueMasses : Value) (x_thought : Value) (x_up : Value) (x_low : Value) (x_fits : Value) (x_pulls : Value) (reader : Nat) (rs : Nat) (f : Nat → Int32) (n : Int32) (lim : Int32) (p : Int32) (nb : Int32) (mh : Int32) (ms : Int32) (mc : Int32) (v : Int32) (ni : Int) (hn : n.toInt = ni) (hn0 : 0 ≤ ni ∧ ni ≤ 76) : Ct l G yX10_sign cX10_sign 2 (some .int) { frames := 1, cells := 0, slots := 0, locals := 22 } [.ref x, .int v] [(x, ob 10 [x_told, .ref reader, x_ring, x_speeds, x_wheel, x_trials, x_span, x_search, x_kept, x_crosses, x_trueMasses, x_thought, x_up, x_low, x_fits, x_pulls]), (reader, ob 4 [.ref rs, .int n, .int lim, .int p, .int nb, .int mh, .int ms, .int mc]), (rs, aI G 80 f)] (fun r w1 => ∃ (n2 : Int32), ∃ (f2 : Nat → Int32), (n2.toInt = ni + 4) ∧ (∀ k, f2 k = w4 f ni.toNat v k) ∧ r = some (.int n2) ∧ w1 = [(x, ob 10 [x_told, .ref reader, x_ring, x_speeds, x_wheel, x_trials, x_span, x_search, x_kept, x_crosses, x_trueMasses, x_thought, x_up, x_low, x_fits, x_pulls]), (reader, ob 4 [.ref rs, .int n2, .int lim, .int p, .int nb, .int mh, .int ms, .int mc]), (rs, aI G 80 f2)]) := by
  refine ct_of [(0, .ref x), (1, .int v)] (by decide) (Nat.le_of_ble_eq_true rfl) rfl ?_
  intro p0 e0 s0 m0 args0 below0 meth0 c0 A X
  refine z_run X bm_X10_sign_0_1 km_X10_sign_0_1 (lv' := [(0, .ref x), (1, .int v)]) (st' := [.ref x]) rfl ?_
  refine z_get X fl_10_19 dm_X10_sign_1 0 rfl (v := .ref reader) rfl ?_
  refine z_run X bm_X10_sign_4_5 km_X10_sign_4_5 (lv' := [(0, .ref x), (1, .int v)]) (st' := [.int v, .ref reader]) rfl ?_
  refine z_callV X k_10_91 (cm_X4_append l G reader rs f n lim p nb mh ms mc v ni hn (by omega)) dm_X10_sign_5 1 rfl rfl rfl ⟨Nat.le_of_ble_eq_true rfl, Nat.le_of_ble_eq_true rfl⟩ ⟨Nat.le_of_ble_eq_true rfl, Nat.le_of_ble_eq_true rfl⟩ rfl (rest := []) (As := [.int v]) rfl (Nat.le_of_ble_eq_true rfl) [1, 2] [0] rfl (by decide) (wr := [(x, ob 10 [x_told, .ref reader, x_ring, x_speeds, x_wheel, x_trials, x_span, x_search, x_kept, x_crosses, x_trueMasses, x_thought, x_up, x_low, x_fits, x_pulls])]) rfl (by decide) (by decide) ?_
  rintro _ _ ⟨n2_1, f2_2, f5_3, f5_4, rfl, rfl⟩
  refine Z.at (pc' := 8) (st' := [.int n2_1]) (ws' := [(x, ob 10 [x_told, .ref reader, x_ring, x_speeds, x_wheel, x_trials, x_span, x_search, x_kept, x_crosses, x_trueMasses, x_thought, x_up, x_low, x_fits, x_pulls]), (reader, ob 4 [.ref rs, .int n2_1, .int lim, .int p, .int nb, .int mh, .int ms, .int mc]), (rs, aI G 80 f2_2)]) (kc' := 0) (ks' := 0) rfl rfl rfl rfl rfl ?_
  exact z_iret X rfl dm_X10_sign_8 (Nat.le_of_ble_eq_true rfl) (Nat.le_of_ble_eq_true rfl) ⟨n2_1, f2_2, f5_3, f5_4, rfl, rfl⟩

