/-! what is felt TRULY in the class: exactly -/
section ZLX
variable {p : Program} {l : Launch} {e : Env} {R : Room} {s : State} {m : MethodId} {args : Array Value} {below : List Frame} {meth : Method} {c : Code} {nL : Nat} {G : KG} {A : Nat → Prop} {Q : State → Prop} {cc : ByteArray} {own : String} {ret : Option FieldType} {nm : String}
variable {pc : Nat} {rest : List Value} {ws : va_W} {kc ks : Nat}
theorem z_lmax (X : ZC p s m args meth c cc nL own G A ret nm) {lv : List (Nat × Value)} {x y : Int64} {idx : Nat} (h1 : Cond.methodLink own idx Lib.MathLoose.max_long.x ∈ BIG) (h2 : Cond.static Lib.MathLoose.max_long.x ∈ BIG) (h3 : Cond.initialized "java/lang/Math" ∈ BIG) (h4 : Cond.code Lib.MathLoose.max_long.x Lib.MathLoose.max_long.code 4 (some .long) ∈ BIG) (hR : 1 ≤ R.frames ∧ (rest.map fun v => v.category).sum + 15 ≤ R.locals) (hf : kc ≤ R.cells ∧ ks ≤ R.slots) (hdg : decode cc pc = .ok (.invokestatic idx, 3)) {v : Int64} (hv : (if y < x then x else y) = v) (kz : Z p l e R s m args below meth c nL G A Q (pc + 3) lv (.long v :: rest) ws kc ks) : Z p l e R s m args below meth c nL G A Q pc lv (.long y :: .long x :: rest) ws kc ks := by
  subst hv
  exact fun H locs ls hP hD hS hl => va_mmax_long X.1 X.2.1 (X.2.2.1.trans hl.1.symm) X.2.2.2.1 (X.2.2.2.2.1 _ h1) (X.2.2.2.2.1 _ h2) (X.2.2.2.2.1 _ h3) (X.2.2.2.2.1 _ h4) hR.1 hR.2 hf.1 hf.2 hdg (kz H locs ls hP hD hS hl)
end ZLX
theorem tJ_max {x y : Int64} {a b : Int} (ha : x.toInt = a) (hb : y.toInt = b) : (if y < x then x else y).toInt = max a b := by
  subst ha; subst hb
  by_cases h : y < x
  · rw [if_pos h]; have := Int64.lt_iff_toInt_lt.mp h; omega
  · rw [if_neg h]; have := Int.not_lt.mp (fun q => h (Int64.lt_iff_toInt_lt.mpr q)); omega
theorem dv_X10_sizeOf_7 : decode cX10_sizeOf 7 = .ok (.lreturn, 1) := by decide +kernel
abbrev bv_X10_sizeOf_0_7 : ZB := [(.lload_n 0, .null), (.lload_n 0, .null), (.lmul, .null), (.lload_n 2, .null), (.lload_n 2, .null), (.lmul, .null), (.ladd, .null)]
theorem kv_X10_sizeOf_0_7 : zchk cX10_sizeOf bv_X10_sizeOf_0_7 0 = true ∧ zpc bv_X10_sizeOf_0_7 0 = 7 := ⟨by decide +kernel, rfl⟩
set_option maxHeartbeats 4000000 in
set_option maxRecDepth 100000 in
theorem cv_X10_sizeOfF (l : Launch) (G : KG) (xq : Int64) (yq : Int64) : Ct l G yX10_sizeOf cX10_sizeOf 4 (some .long) { frames := 0, cells := 0, slots := 0, locals := 0 } [.long xq, .long yq] [] (fun r w1 => ∃ (rz : Int64), (rz = szL xq yq) ∧ r = some (.long rz) ∧ w1 = []) := by
  refine ct_of [(0, .long xq), (2, .long yq)] (by decide) (Nat.le_of_ble_eq_true rfl) rfl ?_
  intro p0 e0 s0 m0 args0 below0 meth0 c0 A X
  refine z_run X bv_X10_sizeOf_0_7 kv_X10_sizeOf_0_7 (lv' := [(0, .long xq), (2, .long yq)]) (st' := [.long ((xq * xq) + (yq * yq))]) rfl ?_
  exact z_lret X rfl dv_X10_sizeOf_7 (Nat.le_of_ble_eq_true rfl) (Nat.le_of_ble_eq_true rfl) ⟨((xq * xq) + (yq * yq)), rfl, rfl, rfl⟩

theorem dv_X11_size_7 : decode cX11_size 7 = .ok (.lreturn, 1) := by decide +kernel
abbrev bv_X11_size_0_7 : ZB := [(.lload_n 0, .null), (.lload_n 0, .null), (.lmul, .null), (.lload_n 2, .null), (.lload_n 2, .null), (.lmul, .null), (.ladd, .null)]
theorem kv_X11_size_0_7 : zchk cX11_size bv_X11_size_0_7 0 = true ∧ zpc bv_X11_size_0_7 0 = 7 := ⟨by decide +kernel, rfl⟩
set_option maxHeartbeats 4000000 in
set_option maxRecDepth 100000 in
theorem cv_X11_sizeF (l : Launch) (G : KG) (xq : Int64) (yq : Int64) : Ct l G yX11_size cX11_size 4 (some .long) { frames := 0, cells := 0, slots := 0, locals := 0 } [.long xq, .long yq] [] (fun r w1 => ∃ (rz : Int64), (rz = szL xq yq) ∧ r = some (.long rz) ∧ w1 = []) := by
  refine ct_of [(0, .long xq), (2, .long yq)] (by decide) (Nat.le_of_ble_eq_true rfl) rfl ?_
  intro p0 e0 s0 m0 args0 below0 meth0 c0 A X
  refine z_run X bv_X11_size_0_7 kv_X11_size_0_7 (lv' := [(0, .long xq), (2, .long yq)]) (st' := [.long ((xq * xq) + (yq * yq))]) rfl ?_
  exact z_lret X rfl dv_X11_size_7 (Nat.le_of_ble_eq_true rfl) (Nat.le_of_ble_eq_true rfl) ⟨((xq * xq) + (yq * yq)), rfl, rfl, rfl⟩

theorem dv_X8_start_2 : decode cX8_start 2 = .ok (.putfield 15, 3) := by decide +kernel
theorem dv_X8_start_5 : decode cX8_start 5 = .ok (.return_, 1) := by decide +kernel
abbrev bv_X8_start_0_2 : ZB := [(.aload_n 0, .null), (.iconst 0, .int 0)]
theorem kv_X8_start_0_2 : zchk cX8_start bv_X8_start_0_2 0 = true ∧ zpc bv_X8_start_0_2 0 = 2 := ⟨by decide +kernel, rfl⟩
set_option maxHeartbeats 4000000 in
set_option maxRecDepth 100000 in
theorem cv_X8_startF (l : Launch) (G : KG) (told : Nat) (tn : Nat) (tl : Int32) (fn : Nat → Int64) : Ct l G yX8_start cX8_start 1 none { frames := 0, cells := 0, slots := 0, locals := 0 } [.ref told] [(told, ob 8 [.ref tn, .int tl]), (tn, aJ G 16 fn)] (fun r w1 => r = none ∧ w1 = [(told, ob 8 [.ref tn, .int 0]), (tn, aJ G 16 fn)]) := by
  refine ct_of [(0, .ref told)] (by decide) (Nat.le_of_ble_eq_true rfl) rfl ?_
  intro p0 e0 s0 m0 args0 below0 meth0 c0 A X
  refine z_run X bv_X8_start_0_2 kv_X8_start_0_2 (lv' := [(0, .ref told)]) (st' := [.int 0, .ref told]) rfl ?_
  refine z_put X fl_8_15 dv_X8_start_2 0 rfl (ty := .int) (T := TX8) (N := 2) rfl (Or.inl rfl) (by decide +kernel) rfl (by rfl) (Nat.le_of_ble_eq_true rfl) (ws' := [(told, ob 8 [.ref tn, .int 0]), (tn, aJ G 16 fn)]) rfl ?_
  exact z_vret X rfl dv_X8_start_5 (Nat.le_of_ble_eq_true rfl) (Nat.le_of_ble_eq_true rfl) ⟨rfl, rfl⟩

theorem dv_X8_add_1 : decode cX8_add 1 = .ok (.getfield 15, 3) := by decide +kernel
theorem dv_X8_add_5 : decode cX8_add 5 = .ok (.getfield 9, 3) := by decide +kernel
theorem dv_X8_add_8 : decode cX8_add 8 = .ok (.arraylength, 1) := by decide +kernel
theorem dv_X8_add_9 : decode cX8_add 9 = .ok (.if_icmp .ge 23, 3) := by decide +kernel
theorem dv_X8_add_13 : decode cX8_add 13 = .ok (.getfield 9, 3) := by decide +kernel
theorem dv_X8_add_17 : decode cX8_add 17 = .ok (.getfield 15, 3) := by decide +kernel
theorem dv_X8_add_21 : decode cX8_add 21 = .ok (.lastore, 1) := by decide +kernel
theorem dv_X8_add_24 : decode cX8_add 24 = .ok (.getfield 15, 3) := by decide +kernel
theorem dv_X8_add_29 : decode cX8_add 29 = .ok (.putfield 15, 3) := by decide +kernel
theorem dv_X8_add_32 : decode cX8_add 32 = .ok (.return_, 1) := by decide +kernel
abbrev bv_X8_add_0_1 : ZB := [(.aload_n 0, .null)]
theorem kv_X8_add_0_1 : zchk cX8_add bv_X8_add_0_1 0 = true ∧ zpc bv_X8_add_0_1 0 = 1 := ⟨by decide +kernel, rfl⟩
abbrev bv_X8_add_4_5 : ZB := [(.aload_n 0, .null)]
theorem kv_X8_add_4_5 : zchk cX8_add bv_X8_add_4_5 4 = true ∧ zpc bv_X8_add_4_5 4 = 5 := ⟨by decide +kernel, rfl⟩
abbrev bv_X8_add_12_13 : ZB := [(.aload_n 0, .null)]
theorem kv_X8_add_12_13 : zchk cX8_add bv_X8_add_12_13 12 = true ∧ zpc bv_X8_add_12_13 12 = 13 := ⟨by decide +kernel, rfl⟩
abbrev bv_X8_add_16_17 : ZB := [(.aload_n 0, .null)]
theorem kv_X8_add_16_17 : zchk cX8_add bv_X8_add_16_17 16 = true ∧ zpc bv_X8_add_16_17 16 = 17 := ⟨by decide +kernel, rfl⟩
abbrev bv_X8_add_20_21 : ZB := [(.lload_n 1, .null)]
theorem kv_X8_add_20_21 : zchk cX8_add bv_X8_add_20_21 20 = true ∧ zpc bv_X8_add_20_21 20 = 21 := ⟨by decide +kernel, rfl⟩
abbrev bv_X8_add_22_24 : ZB := [(.aload_n 0, .null), (.dup, .null)]
theorem kv_X8_add_22_24 : zchk cX8_add bv_X8_add_22_24 22 = true ∧ zpc bv_X8_add_22_24 22 = 24 := ⟨by decide +kernel, rfl⟩
abbrev bv_X8_add_27_29 : ZB := [(.iconst 1, .int 1), (.iadd, .null)]
theorem kv_X8_add_27_29 : zchk cX8_add bv_X8_add_27_29 27 = true ∧ zpc bv_X8_add_27_29 27 = 29 := ⟨by decide +kernel, rfl⟩
set_option maxHeartbeats 4000000 in
set_option maxRecDepth 100000 in
theorem cv_X8_addF (l : Launch) (G : KG) (told : Nat) (tn : Nat) (tl : Int32) (fn : Nat → Int64) (v : Int64) (tli : Int) (htl : tl.toInt = tli) (ht15 : 0 ≤ tli ∧ tli ≤ 15) : Ct l G yX8_add cX8_add 3 none { frames := 0, cells := 0, slots := 0, locals := 0 } [.ref told, .long v] [(told, ob 8 [.ref tn, .int tl]), (tn, aJ G 16 fn)] (fun r w1 => r = none ∧ w1 = [(told, ob 8 [.ref tn, .int (tl + 1)]), (tn, aJ G 16 (vp_updL fn tl.toNatClampNeg v))]) := by
  refine ct_of [(0, .ref told), (1, .long v)] (by decide) (Nat.le_of_ble_eq_true rfl) rfl ?_
  intro p0 e0 s0 m0 args0 below0 meth0 c0 A X
  refine z_run X bv_X8_add_0_1 kv_X8_add_0_1 (lv' := [(0, .ref told), (1, .long v)]) (st' := [.ref told]) rfl ?_
  refine z_get X fl_8_15 dv_X8_add_1 0 rfl (v := .int tl) rfl ?_
  refine z_run X bv_X8_add_4_5 kv_X8_add_4_5 (lv' := [(0, .ref told), (1, .long v)]) (st' := [.ref told, .int tl]) rfl ?_
  refine z_get X fl_8_9 dv_X8_add_5 0 rfl (v := .ref tn) rfl ?_
  refine z_alen X dv_X8_add_8 1 1 rfl rfl (v := 16) rfl ?_
  refine zc_ge X dv_X8_add_9 (tgt := 32) (by decide) (a := tli) (b := 16) htl (show (16 : Int32).toInt = 16 from by decide) (fun c9_1n => absurd c9_1n (by omega)) (fun c9_1 => ?_)
  refine z_run X bv_X8_add_12_13 kv_X8_add_12_13 (lv' := [(0, .ref told), (1, .long v)]) (st' := [.ref told]) rfl ?_
  refine z_get X fl_8_9 dv_X8_add_13 0 rfl (v := .ref tn) rfl ?_
  refine z_run X bv_X8_add_16_17 kv_X8_add_16_17 (lv' := [(0, .ref told), (1, .long v)]) (st' := [.ref told, .ref tn]) rfl ?_
  refine z_get X fl_8_15 dv_X8_add_17 0 rfl (v := .int tl) rfl ?_
  refine z_run X bv_X8_add_20_21 kv_X8_add_20_21 (lv' := [(0, .ref told), (1, .long v)]) (st' := [.long v, .int tl, .ref tn]) rfl ?_
  refine z_last X dv_X8_add_21 1 rfl (vin htl (by omega) (by omega)) (ws' := [(told, ob 8 [.ref tn, .int tl]), (tn, aJ G 16 (vp_updL fn tl.toNatClampNeg v))]) rfl ?_
  refine z_run X bv_X8_add_22_24 kv_X8_add_22_24 (lv' := [(0, .ref told), (1, .long v)]) (st' := [.ref told, .ref told]) rfl ?_
  refine z_get X fl_8_15 dv_X8_add_24 0 rfl (v := .int tl) rfl ?_
  refine z_run X bv_X8_add_27_29 kv_X8_add_27_29 (lv' := [(0, .ref told), (1, .long v)]) (st' := [.int (tl + 1), .ref told]) rfl ?_
  refine z_put X fl_8_15 dv_X8_add_29 0 rfl (ty := .int) (T := TX8) (N := 2) rfl (Or.inl rfl) (by decide +kernel) rfl (by rfl) (Nat.le_of_ble_eq_true rfl) (ws' := [(told, ob 8 [.ref tn, .int (tl + 1)]), (tn, aJ G 16 (vp_updL fn tl.toNatClampNeg v))]) rfl ?_
  exact z_vret X rfl dv_X8_add_32 (Nat.le_of_ble_eq_true rfl) (Nat.le_of_ble_eq_true rfl) ⟨rfl, rfl⟩

theorem dv_X7_isSpeed_1 : decode cX7_isSpeed 1 = .ok (.ifCond .lt 15, 3) := by decide +kernel
theorem dv_X7_isSpeed_17 : decode cX7_isSpeed 17 = .ok (.ireturn, 1) := by decide +kernel
theorem dv_X7_isSpeed_6 : decode cX7_isSpeed 6 = .ok (.getfield 28, 3) := by decide +kernel
theorem dv_X7_isSpeed_9 : decode cX7_isSpeed 9 = .ok (.if_icmp .ge 7, 3) := by decide +kernel
theorem dv_X7_isSpeed_13 : decode cX7_isSpeed 13 = .ok (.goto 4, 3) := by decide +kernel
abbrev bv_X7_isSpeed_0_1 : ZB := [(.iload_n 1, .null)]
theorem kv_X7_isSpeed_0_1 : zchk cX7_isSpeed bv_X7_isSpeed_0_1 0 = true ∧ zpc bv_X7_isSpeed_0_1 0 = 1 := ⟨by decide +kernel, rfl⟩
abbrev bv_X7_isSpeed_16_17 : ZB := [(.iconst 0, .int 0)]
theorem kv_X7_isSpeed_16_17 : zchk cX7_isSpeed bv_X7_isSpeed_16_17 16 = true ∧ zpc bv_X7_isSpeed_16_17 16 = 17 := ⟨by decide +kernel, rfl⟩
abbrev bv_X7_isSpeed_4_6 : ZB := [(.iload_n 1, .null), (.aload_n 0, .null)]
theorem kv_X7_isSpeed_4_6 : zchk cX7_isSpeed bv_X7_isSpeed_4_6 4 = true ∧ zpc bv_X7_isSpeed_4_6 4 = 6 := ⟨by decide +kernel, rfl⟩
abbrev bv_X7_isSpeed_12_13 : ZB := [(.iconst 1, .int 1)]
theorem kv_X7_isSpeed_12_13 : zchk cX7_isSpeed bv_X7_isSpeed_12_13 12 = true ∧ zpc bv_X7_isSpeed_12_13 12 = 13 := ⟨by decide +kernel, rfl⟩
set_option maxHeartbeats 4000000 in
set_option maxRecDepth 100000 in
theorem cv_X7_isSpeedF (l : Launch) (G : KG) (speeds : Nat) (sc : Int32) (sf : Nat) (so : Nat) (sX0 : Value) (sX1 : Value) (sX2 : Value) (a : Int32) (sci : Int) (ai : Int) (hsc : sc.toInt = sci) (ha : a.toInt = ai) : Ct l G yX7_isSpeed cX7_isSpeed 2 (some .boolean) { frames := 0, cells := 0, slots := 0, locals := 0 } [.ref speeds, .int a] [(speeds, ob 7 [.int sc, .ref sf, .ref so, sX0, sX1, sX2])] (fun r w1 => r = some (.int (zb (decide (0 ≤ ai ∧ ai < sci)))) ∧ w1 = [(speeds, ob 7 [.int sc, .ref sf, .ref so, sX0, sX1, sX2])]) := by
  refine ct_of [(0, .ref speeds), (1, .int a)] (by decide) (Nat.le_of_ble_eq_true rfl) rfl ?_
  intro p0 e0 s0 m0 args0 below0 meth0 c0 A X
  refine z_run X bv_X7_isSpeed_0_1 kv_X7_isSpeed_0_1 (lv' := [(0, .ref speeds), (1, .int a)]) (st' := [.int a]) rfl ?_
  refine zi_lt X dv_X7_isSpeed_1 (tgt := 16) (by decide) (a := ai) ha (fun c1_1 => ?_) (fun c1_1 => ?_)
  ·
    refine z_run X bv_X7_isSpeed_16_17 kv_X7_isSpeed_16_17 (lv' := [(0, .ref speeds), (1, .int a)]) (st' := [.int 0]) rfl ?_
    exact z_zret X rfl rfl dv_X7_isSpeed_17 (Nat.le_of_ble_eq_true rfl) (Nat.le_of_ble_eq_true rfl) ⟨(congrArg (fun z => some (Value.int z)) (zb_f (by omega)).symm), rfl⟩
  ·
    refine z_run X bv_X7_isSpeed_4_6 kv_X7_isSpeed_4_6 (lv' := [(0, .ref speeds), (1, .int a)]) (st' := [.ref speeds, .int a]) rfl ?_
    refine z_get X fl_7_28 dv_X7_isSpeed_6 0 rfl (v := .int sc) rfl ?_
    refine zc_ge X dv_X7_isSpeed_9 (tgt := 16) (by decide) (a := ai) (b := sci) ha hsc (fun c9_2 => ?_) (fun c9_2 => ?_)
    ·
      refine z_run X bv_X7_isSpeed_16_17 kv_X7_isSpeed_16_17 (lv' := [(0, .ref speeds), (1, .int a)]) (st' := [.int 0]) rfl ?_
      exact z_zret X rfl rfl dv_X7_isSpeed_17 (Nat.le_of_ble_eq_true rfl) (Nat.le_of_ble_eq_true rfl) ⟨(congrArg (fun z => some (Value.int z)) (zb_f (by omega)).symm), rfl⟩
    ·
      refine z_run X bv_X7_isSpeed_12_13 kv_X7_isSpeed_12_13 (lv' := [(0, .ref speeds), (1, .int a)]) (st' := [.int 1]) rfl ?_
      refine z_goto X dv_X7_isSpeed_13 (tgt := 17) (by decide) ?_
      exact z_zret X rfl rfl dv_X7_isSpeed_17 (Nat.le_of_ble_eq_true rfl) (Nat.le_of_ble_eq_true rfl) ⟨(congrArg (fun z => some (Value.int z)) (zb_t (by omega)).symm), rfl⟩

theorem dv_X10_besides_1 : decode cX10_besides 1 = .ok (.getfield 33, 3) := by decide +kernel
theorem dv_X10_besides_4 : decode cX10_besides 4 = .ok (.getfield 202, 3) := by decide +kernel
theorem dv_X10_besides_8 : decode cX10_besides 8 = .ok (.iaload, 1) := by decide +kernel
theorem dv_X10_besides_13 : decode cX10_besides 13 = .ok (.iaload, 1) := by decide +kernel
theorem dv_X10_besides_20 : decode cX10_besides 20 = .ok (.iaload, 1) := by decide +kernel
theorem dv_X10_besides_22 : decode cX10_besides 22 = .ok (.ireturn, 1) := by decide +kernel
abbrev bv_X10_besides_0_1 : ZB := [(.aload_n 0, .null)]
theorem kv_X10_besides_0_1 : zchk cX10_besides bv_X10_besides_0_1 0 = true ∧ zpc bv_X10_besides_0_1 0 = 1 := ⟨by decide +kernel, rfl⟩
abbrev bv_X10_besides_7_8 : ZB := [(.iload_n 2, .null)]
theorem kv_X10_besides_7_8 : zchk cX10_besides bv_X10_besides_7_8 7 = true ∧ zpc bv_X10_besides_7_8 7 = 8 := ⟨by decide +kernel, rfl⟩
abbrev bv_X10_besides_9_13 : ZB := [(.aload_n 1, .null), (.iconst 4, .int 4), (.iload_n 3, .null), (.iadd, .null)]
theorem kv_X10_besides_9_13 : zchk cX10_besides bv_X10_besides_9_13 9 = true ∧ zpc bv_X10_besides_9_13 9 = 13 := ⟨by decide +kernel, rfl⟩
abbrev bv_X10_besides_14_20 : ZB := [(.imul, .null), (.aload_n 1, .null), (.bipush 6, .int 6), (.iload_n 3, .null), (.iadd, .null)]
theorem kv_X10_besides_14_20 : zchk cX10_besides bv_X10_besides_14_20 14 = true ∧ zpc bv_X10_besides_14_20 14 = 20 := ⟨by decide +kernel, rfl⟩
abbrev bv_X10_besides_21_22 : ZB := [(.iadd, .null)]
theorem kv_X10_besides_21_22 : zchk cX10_besides bv_X10_besides_21_22 21 = true ∧ zpc bv_X10_besides_21_22 21 = 22 := ⟨by decide +kernel, rfl⟩
set_option maxHeartbeats 4000000 in
set_option maxRecDepth 100000 in
theorem cv_X10_besidesF (l : Launch) (G : KG) (x : Nat) (x_told : Value) (x_reader : Value) (x_ring : Value) (speeds : Nat) (x_wheel : Value) (x_trials : Value) (x_span : Value) (x_search : Value) (x_kept : Value) (x_crosses : Value) (x_trueMasses : Value) (x_thought : Value) (x_up : Value) (x_low : Value) (x_fits : Value) (x_pulls : Value) (sc : Int32) (sf : Nat) (so : Nat) (sX0 : Value) (sX1 : Value) (sX2 : Value) (ff : Nat → Int32) (fo : Nat → Int32) (ms : Nat) (fm : Nat → Int32) (sq : Int32) (aq : Int32) (si : Int) (ai : Int) (hsq : sq.toInt = si) (haq : aq.toInt = ai) (hs0 : 0 ≤ si ∧ si < 6) (ha0 : 0 ≤ ai ∧ ai ≤ 1) : Ct l G yX10_besides cX10_besides 4 (some .int) { frames := 0, cells := 0, slots := 0, locals := 0 } [.ref x, .ref ms, .int sq, .int aq] [(x, ob 10 [x_told, x_reader, x_ring, .ref speeds, x_wheel, x_trials, x_span, x_search, x_kept, x_crosses, x_trueMasses, x_thought, x_up, x_low, x_fits, x_pulls]), (speeds, ob 7 [.int sc, .ref sf, .ref so, sX0, sX1, sX2]), (sf, aI G 6 ff), (so, aI G 6 fo), (ms, aI G 8 fm)] (fun r w1 => ∃ (rz : Int32), (rz = fo sq.toNatClampNeg * fm (4 + aq).toNatClampNeg + fm (6 + aq).toNatClampNeg) ∧ r = some (.int rz) ∧ w1 = [(x, ob 10 [x_told, x_reader, x_ring, .ref speeds, x_wheel, x_trials, x_span, x_search, x_kept, x_crosses, x_trueMasses, x_thought, x_up, x_low, x_fits, x_pulls]), (speeds, ob 7 [.int sc, .ref sf, .ref so, sX0, sX1, sX2]), (sf, aI G 6 ff), (so, aI G 6 fo), (ms, aI G 8 fm)]) := by
  refine ct_of [(0, .ref x), (1, .ref ms), (2, .int sq), (3, .int aq)] (by decide) (Nat.le_of_ble_eq_true rfl) rfl ?_
  intro p0 e0 s0 m0 args0 below0 meth0 c0 A X
  refine z_run X bv_X10_besides_0_1 kv_X10_besides_0_1 (lv' := [(0, .ref x), (1, .ref ms), (2, .int sq), (3, .int aq)]) (st' := [.ref x]) rfl ?_
  refine z_get X fl_10_33 dv_X10_besides_1 0 rfl (v := .ref speeds) rfl ?_
  refine z_getN X fl_10_202 dv_X10_besides_4 1 rfl (v := .ref so) rfl ?_
  refine z_run X bv_X10_besides_7_8 kv_X10_besides_7_8 (lv' := [(0, .ref x), (1, .ref ms), (2, .int sq), (3, .int aq)]) (st' := [.int sq, .ref so]) rfl ?_
  refine z_iald X dv_X10_besides_8 3 rfl (vin hsq (by omega) (by omega)) (v := (fo sq.toNatClampNeg)) rfl ?_
  refine z_run X bv_X10_besides_9_13 kv_X10_besides_9_13 (lv' := [(0, .ref x), (1, .ref ms), (2, .int sq), (3, .int aq)]) (st' := [.int (4 + aq), .ref ms, .int (fo sq.toNatClampNeg)]) rfl ?_
  refine z_iald X dv_X10_besides_13 4 rfl (vin (tI_add (show (4 : Int32).toInt = 4 from by decide) haq (by omega)) (by omega) (by omega)) (v := (fm (4 + aq).toNatClampNeg)) rfl ?_
  refine z_run X bv_X10_besides_14_20 kv_X10_besides_14_20 (lv' := [(0, .ref x), (1, .ref ms), (2, .int sq), (3, .int aq)]) (st' := [.int (6 + aq), .ref ms, .int ((fo sq.toNatClampNeg) * (fm (4 + aq).toNatClampNeg))]) rfl ?_
  refine z_iald X dv_X10_besides_20 4 rfl (vin (tI_add (show (6 : Int32).toInt = 6 from by decide) haq (by omega)) (by omega) (by omega)) (v := (fm (6 + aq).toNatClampNeg)) rfl ?_
  refine z_run X bv_X10_besides_21_22 kv_X10_besides_21_22 (lv' := [(0, .ref x), (1, .ref ms), (2, .int sq), (3, .int aq)]) (st' := [.int (((fo sq.toNatClampNeg) * (fm (4 + aq).toNatClampNeg)) + (fm (6 + aq).toNatClampNeg))]) rfl ?_
  exact z_iret X rfl dv_X10_besides_22 (Nat.le_of_ble_eq_true rfl) (Nat.le_of_ble_eq_true rfl) ⟨(((fo sq.toNatClampNeg) * (fm (4 + aq).toNatClampNeg)) + (fm (6 + aq).toNatClampNeg)), rfl, rfl, rfl⟩

theorem dv_X10_feltTruly_9 : decode cX10_feltTruly 9 = .ok (.if_icmp .ge 52, 3) := by decide +kernel
theorem dv_X10_feltTruly_13 : decode cX10_feltTruly 13 = .ok (.getfield 75, 3) := by decide +kernel
theorem dv_X10_feltTruly_22 : decode cX10_feltTruly 22 = .ok (.iaload, 1) := by decide +kernel
theorem dv_X10_feltTruly_24 : decode cX10_feltTruly 24 = .ok (.getfield 26, 3) := by decide +kernel
theorem dv_X10_feltTruly_30 : decode cX10_feltTruly 30 = .ok (.invokevirtual 192, 3) := by decide +kernel
theorem dv_X10_feltTruly_39 : decode cX10_feltTruly 39 = .ok (.getfield 71, 3) := by decide +kernel
theorem dv_X10_feltTruly_48 : decode cX10_feltTruly 48 = .ok (.iaload, 1) := by decide +kernel
theorem dv_X10_feltTruly_58 : decode cX10_feltTruly 58 = .ok (.goto (-52), 3) := by decide +kernel
theorem dv_X10_feltTruly_62 : decode cX10_feltTruly 62 = .ok (.getfield 33, 3) := by decide +kernel
theorem dv_X10_feltTruly_65 : decode cX10_feltTruly 65 = .ok (.getfield 195, 3) := by decide +kernel
theorem dv_X10_feltTruly_69 : decode cX10_feltTruly 69 = .ok (.iaload, 1) := by decide +kernel
theorem dv_X10_feltTruly_75 : decode cX10_feltTruly 75 = .ok (.getfield 75, 3) := by decide +kernel
theorem dv_X10_feltTruly_80 : decode cX10_feltTruly 80 = .ok (.invokevirtual 198, 3) := by decide +kernel
theorem dv_X10_feltTruly_84 : decode cX10_feltTruly 84 = .ok (.ireturn, 1) := by decide +kernel
abbrev bv_X10_feltTruly_0_9 : ZB := [(.iconst 0, .int 0), (.istore 4, .null), (.iconst 0, .int 0), (.istore 5, .null), (.iload 5, .null), (.iconst 2, .int 2)]
theorem kv_X10_feltTruly_0_9 : zchk cX10_feltTruly bv_X10_feltTruly_0_9 0 = true ∧ zpc bv_X10_feltTruly_0_9 0 = 9 := ⟨by decide +kernel, rfl⟩
abbrev bv_X10_feltTruly_12_13 : ZB := [(.aload_n 0, .null)]
theorem kv_X10_feltTruly_12_13 : zchk cX10_feltTruly bv_X10_feltTruly_12_13 12 = true ∧ zpc bv_X10_feltTruly_12_13 12 = 13 := ⟨by decide +kernel, rfl⟩
abbrev bv_X10_feltTruly_16_22 : ZB := [(.iconst 2, .int 2), (.iload 5, .null), (.imul, .null), (.iload_n 3, .null), (.iadd, .null)]
theorem kv_X10_feltTruly_16_22 : zchk cX10_feltTruly bv_X10_feltTruly_16_22 16 = true ∧ zpc bv_X10_feltTruly_16_22 16 = 22 := ⟨by decide +kernel, rfl⟩
abbrev bv_X10_feltTruly_23_24 : ZB := [(.aload_n 0, .null)]
theorem kv_X10_feltTruly_23_24 : zchk cX10_feltTruly bv_X10_feltTruly_23_24 23 = true ∧ zpc bv_X10_feltTruly_23_24 23 = 24 := ⟨by decide +kernel, rfl⟩
abbrev bv_X10_feltTruly_27_30 : ZB := [(.iload 5, .null), (.iload_n 3, .null)]
theorem kv_X10_feltTruly_27_30 : zchk cX10_feltTruly bv_X10_feltTruly_27_30 27 = true ∧ zpc bv_X10_feltTruly_27_30 27 = 30 := ⟨by decide +kernel, rfl⟩
abbrev bv_X10_feltTruly_33_39 : ZB := [(.iadd, .null), (.istore 6, .null), (.iload 4, .null), (.aload_n 0, .null)]
theorem kv_X10_feltTruly_33_39 : zchk cX10_feltTruly bv_X10_feltTruly_33_39 33 = true ∧ zpc bv_X10_feltTruly_33_39 33 = 39 := ⟨by decide +kernel, rfl⟩
abbrev bv_X10_feltTruly_42_48 : ZB := [(.iconst 2, .int 2), (.iload_n 1, .null), (.imul, .null), (.iload 5, .null), (.iadd, .null)]
theorem kv_X10_feltTruly_42_48 : zchk cX10_feltTruly bv_X10_feltTruly_42_48 42 = true ∧ zpc bv_X10_feltTruly_42_48 42 = 48 := ⟨by decide +kernel, rfl⟩
abbrev bv_X10_feltTruly_49_58 : ZB := [(.iload 6, .null), (.imul, .null), (.iadd, .null), (.istore 4, .null), (.iinc 5 1, .int 1)]
theorem kv_X10_feltTruly_49_58 : zchk cX10_feltTruly bv_X10_feltTruly_49_58 49 = true ∧ zpc bv_X10_feltTruly_49_58 49 = 58 := ⟨by decide +kernel, rfl⟩
abbrev bv_X10_feltTruly_6_9 : ZB := [(.iload 5, .null), (.iconst 2, .int 2)]
theorem kv_X10_feltTruly_6_9 : zchk cX10_feltTruly bv_X10_feltTruly_6_9 6 = true ∧ zpc bv_X10_feltTruly_6_9 6 = 9 := ⟨by decide +kernel, rfl⟩
abbrev bv_X10_feltTruly_61_62 : ZB := [(.aload_n 0, .null)]
theorem kv_X10_feltTruly_61_62 : zchk cX10_feltTruly bv_X10_feltTruly_61_62 61 = true ∧ zpc bv_X10_feltTruly_61_62 61 = 62 := ⟨by decide +kernel, rfl⟩
abbrev bv_X10_feltTruly_68_69 : ZB := [(.iload_n 2, .null)]
theorem kv_X10_feltTruly_68_69 : zchk cX10_feltTruly bv_X10_feltTruly_68_69 68 = true ∧ zpc bv_X10_feltTruly_68_69 68 = 69 := ⟨by decide +kernel, rfl⟩
abbrev bv_X10_feltTruly_70_75 : ZB := [(.iload 4, .null), (.imul, .null), (.aload_n 0, .null), (.aload_n 0, .null)]
theorem kv_X10_feltTruly_70_75 : zchk cX10_feltTruly bv_X10_feltTruly_70_75 70 = true ∧ zpc bv_X10_feltTruly_70_75 70 = 75 := ⟨by decide +kernel, rfl⟩
abbrev bv_X10_feltTruly_78_80 : ZB := [(.iload_n 2, .null), (.iload_n 3, .null)]
theorem kv_X10_feltTruly_78_80 : zchk cX10_feltTruly bv_X10_feltTruly_78_80 78 = true ∧ zpc bv_X10_feltTruly_78_80 78 = 80 := ⟨by decide +kernel, rfl⟩
abbrev bv_X10_feltTruly_83_84 : ZB := [(.iadd, .null)]
theorem kv_X10_feltTruly_83_84 : zchk cX10_feltTruly bv_X10_feltTruly_83_84 83 = true ∧ zpc bv_X10_feltTruly_83_84 83 = 84 := ⟨by decide +kernel, rfl⟩
set_option maxHeartbeats 4000000 in
set_option maxRecDepth 100000 in
theorem cv_X10_feltTrulyF (l : Launch) (G : KG) (x : Nat) (x_told : Value) (x_reader : Value) (ring : Nat) (speeds : Nat) (x_wheel : Value) (x_trials : Value) (x_span : Value) (x_search : Value) (x_kept : Value) (crosses : Nat) (trueMasses : Nat) (x_thought : Value) (x_up : Value) (x_low : Value) (x_fits : Value) (x_pulls : Value) (hc : Int32) (rp : Nat) (rx : Nat) (ry : Nat) (g_rr : Value) (rh : Nat) (g_rd : Value) (ph : Int32) (po : Int32) (fp : Nat → Int32) (fx : Nat → Int32) (fy : Nat → Int32) (fh : Nat → Int32) (sc : Int32) (sf : Nat) (so : Nat) (sX0 : Value) (sX1 : Value) (sX2 : Value) (ff : Nat → Int32) (fo : Nat → Int32) (cr : Nat → Int32) (fm : Nat → Int32) (bq : Int32) (sq : Int32) (aq : Int32) (hci : Int) (bi : Int) (si : Int) (ai : Int) (hhc : hc.toInt = hci) (hbq : bq.toInt = bi) (hsq : sq.toInt = si) (haq : aq.toInt = ai) (hc0 : 0 ≤ hci ∧ hci ≤ 16) (hb0 : 0 ≤ bi ∧ bi ≤ 1) (hs0 : 0 ≤ si ∧ si < 6) (ha0 : 0 ≤ ai ∧ ai ≤ 1) : Ct l G yX10_feltTruly cX10_feltTruly 7 (some .int) { frames := 2, cells := 0, slots := 0, locals := 48 } [.ref x, .int bq, .int sq, .int aq] [(x, ob 10 [x_told, x_reader, .ref ring, .ref speeds, x_wheel, x_trials, x_span, x_search, x_kept, .ref crosses, .ref trueMasses, x_thought, x_up, x_low, x_fits, x_pulls]), (ring, ob 5 [.int hc, .ref rp, .ref rx, .ref ry, g_rr, .ref rh, g_rd, .int ph, .int po]), (rp, aI G 16 fp), (rx, aI G 16 fx), (ry, aI G 16 fy), (rh, aI G 16 fh), (speeds, ob 7 [.int sc, .ref sf, .ref so, sX0, sX1, sX2]), (sf, aI G 6 ff), (so, aI G 6 fo), (crosses, aI G 4 cr), (trueMasses, aI G 8 fm)] (fun r w1 => ∃ (rz : Int32), (rz = (fTx hci fp fh fx fy ph po cr fm ff fo bq aq ai sq.toNatClampNeg)) ∧ r = some (.int rz) ∧ w1 = [(x, ob 10 [x_told, x_reader, .ref ring, .ref speeds, x_wheel, x_trials, x_span, x_search, x_kept, .ref crosses, .ref trueMasses, x_thought, x_up, x_low, x_fits, x_pulls]), (ring, ob 5 [.int hc, .ref rp, .ref rx, .ref ry, g_rr, .ref rh, g_rd, .int ph, .int po]), (rp, aI G 16 fp), (rx, aI G 16 fx), (ry, aI G 16 fy), (rh, aI G 16 fh), (speeds, ob 7 [.int sc, .ref sf, .ref so, sX0, sX1, sX2]), (sf, aI G 6 ff), (so, aI G 6 fo), (crosses, aI G 4 cr), (trueMasses, aI G 8 fm)]) := by
  refine ct_of [(0, .ref x), (1, .int bq), (2, .int sq), (3, .int aq)] (by decide) (Nat.le_of_ble_eq_true rfl) rfl ?_
  intro p0 e0 s0 m0 args0 below0 meth0 c0 A X
  refine z_run X bv_X10_feltTruly_0_9 kv_X10_feltTruly_0_9 (lv' := [(5, .int 0), (4, .int 0), (0, .ref x), (1, .int bq), (2, .int sq), (3, .int aq)]) (st' := [.int 2, .int 0]) rfl ?_
  refine zc_ge X dv_X10_feltTruly_9 (tgt := 61) (by decide) (a := 0) (b := 2) (show (0 : Int32).toInt = 0 from by decide) (show (2 : Int32).toInt = 2 from by decide) (fun c9_1 => absurd c9_1 (by decide)) (fun _ => ?_)
  refine z_run X bv_X10_feltTruly_12_13 kv_X10_feltTruly_12_13 (lv' := [(5, .int 0), (4, .int 0), (0, .ref x), (1, .int bq), (2, .int sq), (3, .int aq)]) (st' := [.ref x]) rfl ?_
  refine z_get X fl_10_75 dv_X10_feltTruly_13 0 rfl (v := .ref trueMasses) rfl ?_
  refine z_run X bv_X10_feltTruly_16_22 kv_X10_feltTruly_16_22 (lv' := [(5, .int 0), (4, .int 0), (0, .ref x), (1, .int bq), (2, .int sq), (3, .int aq)]) (st' := [.int (0 + aq), .ref trueMasses]) rfl ?_
  refine z_iald X dv_X10_feltTruly_22 10 rfl (vin (tI_add (show (0 : Int32).toInt = 0 from by decide) haq (by omega)) (by omega) (by omega)) (v := (fm (0 + aq).toNatClampNeg)) rfl ?_
  refine z_run X bv_X10_feltTruly_23_24 kv_X10_feltTruly_23_24 (lv' := [(5, .int 0), (4, .int 0), (0, .ref x), (1, .int bq), (2, .int sq), (3, .int aq)]) (st' := [.ref x, .int (fm (0 + aq).toNatClampNeg)]) rfl ?_
  refine z_get X fl_10_26 dv_X10_feltTruly_24 0 rfl (v := .ref ring) rfl ?_
  refine z_run X bv_X10_feltTruly_27_30 kv_X10_feltTruly_27_30 (lv' := [(5, .int 0), (4, .int 0), (0, .ref x), (1, .int bq), (2, .int sq), (3, .int aq)]) (st' := [.int aq, .int 0, .ref ring, .int (fm (0 + aq).toNatClampNeg)]) rfl ?_
  refine z_callV X k_10_192 (ce_X5_leadWithPound l G ring hc rp rx ry g_rr rh g_rd ph po fp fx fy fh 0 aq hci 0 ai ph.toInt hhc (show (0 : Int32).toInt = 0 from by decide) haq rfl (by omega)) dv_X10_feltTruly_30 1 rfl rfl rfl ⟨Nat.le_of_ble_eq_true rfl, Nat.le_of_ble_eq_true rfl⟩ ⟨Nat.le_of_ble_eq_true rfl, Nat.le_of_ble_eq_true rfl⟩ rfl (rest := [.int (fm (0 + aq).toNatClampNeg)]) (As := [.int 0, .int aq]) rfl (Nat.le_of_ble_eq_true rfl) [1, 2, 3, 4, 5] [0, 6, 7, 8, 9, 10] rfl (by decide) (wr := [(x, ob 10 [x_told, x_reader, .ref ring, .ref speeds, x_wheel, x_trials, x_span, x_search, x_kept, .ref crosses, .ref trueMasses, x_thought, x_up, x_low, x_fits, x_pulls]), (speeds, ob 7 [.int sc, .ref sf, .ref so, sX0, sX1, sX2]), (sf, aI G 6 ff), (so, aI G 6 fo), (crosses, aI G 4 cr), (trueMasses, aI G 8 fm)]) rfl (by decide) (by decide) ?_
  rintro _ _ ⟨rz_2, f30_3, rfl, rfl⟩
  refine Z.at (pc' := 33) (st' := [.int rz_2, .int (fm (0 + aq).toNatClampNeg)]) (ws' := [(x, ob 10 [x_told, x_reader, .ref ring, .ref speeds, x_wheel, x_trials, x_span, x_search, x_kept, .ref crosses, .ref trueMasses, x_thought, x_up, x_low, x_fits, x_pulls]), (speeds, ob 7 [.int sc, .ref sf, .ref so, sX0, sX1, sX2]), (sf, aI G 6 ff), (so, aI G 6 fo), (crosses, aI G 4 cr), (trueMasses, aI G 8 fm), (ring, ob 5 [.int hc, .ref rp, .ref rx, .ref ry, g_rr, .ref rh, g_rd, .int ph, .int po]), (rp, aI G 16 fp), (rx, aI G 16 fx), (ry, aI G 16 fy), (rh, aI G 16 fh)]) (kc' := 0) (ks' := 0) rfl rfl rfl rfl rfl ?_
  refine z_run X bv_X10_feltTruly_33_39 kv_X10_feltTruly_33_39 (lv' := [(6, .int ((fm (0 + aq).toNatClampNeg) + rz_2)), (5, .int 0), (4, .int 0), (0, .ref x), (1, .int bq), (2, .int sq), (3, .int aq)]) (st' := [.ref x, .int 0]) rfl ?_
  refine z_get X fl_10_71 dv_X10_feltTruly_39 0 rfl (v := .ref crosses) rfl ?_
  refine z_run X bv_X10_feltTruly_42_48 kv_X10_feltTruly_42_48 (lv' := [(6, .int ((fm (0 + aq).toNatClampNeg) + rz_2)), (5, .int 0), (4, .int 0), (0, .ref x), (1, .int bq), (2, .int sq), (3, .int aq)]) (st' := [.int ((2 * bq) + 0), .ref crosses, .int 0]) rfl ?_
  refine z_iald X dv_X10_feltTruly_48 4 rfl (vin (tI_add (tI_mul (show (2 : Int32).toInt = 2 from by decide) hbq (by omega)) (show (0 : Int32).toInt = 0 from by decide) (by omega)) (by omega) (by omega)) (v := (cr ((2 * bq) + 0).toNatClampNeg)) rfl ?_
  refine z_run X bv_X10_feltTruly_49_58 kv_X10_feltTruly_49_58 (lv' := [(5, .int 1), (4, .int (0 + ((cr ((2 * bq) + 0).toNatClampNeg) * ((fm (0 + aq).toNatClampNeg) + rz_2)))), (6, .int ((fm (0 + aq).toNatClampNeg) + rz_2)), (0, .ref x), (1, .int bq), (2, .int sq), (3, .int aq)]) (st' := []) rfl ?_
  refine z_goto X dv_X10_feltTruly_58 (tgt := 6) (by decide) ?_
  refine z_run X bv_X10_feltTruly_6_9 kv_X10_feltTruly_6_9 (lv' := [(5, .int 1), (4, .int (0 + ((cr ((2 * bq) + 0).toNatClampNeg) * ((fm (0 + aq).toNatClampNeg) + rz_2)))), (6, .int ((fm (0 + aq).toNatClampNeg) + rz_2)), (0, .ref x), (1, .int bq), (2, .int sq), (3, .int aq)]) (st' := [.int 2, .int 1]) rfl ?_
  refine zc_ge X dv_X10_feltTruly_9 (tgt := 61) (by decide) (a := 1) (b := 2) (show (1 : Int32).toInt = 1 from by decide) (show (2 : Int32).toInt = 2 from by decide) (fun c9_4 => absurd c9_4 (by decide)) (fun _ => ?_)
  refine z_run X bv_X10_feltTruly_12_13 kv_X10_feltTruly_12_13 (lv' := [(5, .int 1), (4, .int (0 + ((cr ((2 * bq) + 0).toNatClampNeg) * ((fm (0 + aq).toNatClampNeg) + rz_2)))), (6, .int ((fm (0 + aq).toNatClampNeg) + rz_2)), (0, .ref x), (1, .int bq), (2, .int sq), (3, .int aq)]) (st' := [.ref x]) rfl ?_
  refine z_get X fl_10_75 dv_X10_feltTruly_13 0 rfl (v := .ref trueMasses) rfl ?_
  refine z_run X bv_X10_feltTruly_16_22 kv_X10_feltTruly_16_22 (lv' := [(5, .int 1), (4, .int (0 + ((cr ((2 * bq) + 0).toNatClampNeg) * ((fm (0 + aq).toNatClampNeg) + rz_2)))), (6, .int ((fm (0 + aq).toNatClampNeg) + rz_2)), (0, .ref x), (1, .int bq), (2, .int sq), (3, .int aq)]) (st' := [.int (2 + aq), .ref trueMasses]) rfl ?_
  refine z_iald X dv_X10_feltTruly_22 5 rfl (vin (tI_add (show (2 : Int32).toInt = 2 from by decide) haq (by omega)) (by omega) (by omega)) (v := (fm (2 + aq).toNatClampNeg)) rfl ?_
  refine z_run X bv_X10_feltTruly_23_24 kv_X10_feltTruly_23_24 (lv' := [(5, .int 1), (4, .int (0 + ((cr ((2 * bq) + 0).toNatClampNeg) * ((fm (0 + aq).toNatClampNeg) + rz_2)))), (6, .int ((fm (0 + aq).toNatClampNeg) + rz_2)), (0, .ref x), (1, .int bq), (2, .int sq), (3, .int aq)]) (st' := [.ref x, .int (fm (2 + aq).toNatClampNeg)]) rfl ?_
  refine z_get X fl_10_26 dv_X10_feltTruly_24 0 rfl (v := .ref ring) rfl ?_
  refine z_run X bv_X10_feltTruly_27_30 kv_X10_feltTruly_27_30 (lv' := [(5, .int 1), (4, .int (0 + ((cr ((2 * bq) + 0).toNatClampNeg) * ((fm (0 + aq).toNatClampNeg) + rz_2)))), (6, .int ((fm (0 + aq).toNatClampNeg) + rz_2)), (0, .ref x), (1, .int bq), (2, .int sq), (3, .int aq)]) (st' := [.int aq, .int 1, .ref ring, .int (fm (2 + aq).toNatClampNeg)]) rfl ?_
  refine z_callV X k_10_192 (ce_X5_leadWithPound l G ring hc rp rx ry g_rr rh g_rd ph po fp fx fy fh 1 aq hci 1 ai ph.toInt hhc (show (1 : Int32).toInt = 1 from by decide) haq rfl (by omega)) dv_X10_feltTruly_30 6 rfl rfl rfl ⟨Nat.le_of_ble_eq_true rfl, Nat.le_of_ble_eq_true rfl⟩ ⟨Nat.le_of_ble_eq_true rfl, Nat.le_of_ble_eq_true rfl⟩ rfl (rest := [.int (fm (2 + aq).toNatClampNeg)]) (As := [.int 1, .int aq]) rfl (Nat.le_of_ble_eq_true rfl) [6, 7, 8, 9, 10] [0, 1, 2, 3, 4, 5] rfl (by decide) (wr := [(x, ob 10 [x_told, x_reader, .ref ring, .ref speeds, x_wheel, x_trials, x_span, x_search, x_kept, .ref crosses, .ref trueMasses, x_thought, x_up, x_low, x_fits, x_pulls]), (speeds, ob 7 [.int sc, .ref sf, .ref so, sX0, sX1, sX2]), (sf, aI G 6 ff), (so, aI G 6 fo), (crosses, aI G 4 cr), (trueMasses, aI G 8 fm)]) rfl (by decide) (by decide) ?_
  rintro _ _ ⟨rz_5, f30_6, rfl, rfl⟩
  refine Z.at (pc' := 33) (st' := [.int rz_5, .int (fm (2 + aq).toNatClampNeg)]) (ws' := [(x, ob 10 [x_told, x_reader, .ref ring, .ref speeds, x_wheel, x_trials, x_span, x_search, x_kept, .ref crosses, .ref trueMasses, x_thought, x_up, x_low, x_fits, x_pulls]), (speeds, ob 7 [.int sc, .ref sf, .ref so, sX0, sX1, sX2]), (sf, aI G 6 ff), (so, aI G 6 fo), (crosses, aI G 4 cr), (trueMasses, aI G 8 fm), (ring, ob 5 [.int hc, .ref rp, .ref rx, .ref ry, g_rr, .ref rh, g_rd, .int ph, .int po]), (rp, aI G 16 fp), (rx, aI G 16 fx), (ry, aI G 16 fy), (rh, aI G 16 fh)]) (kc' := 0) (ks' := 0) rfl rfl rfl rfl rfl ?_
  refine z_run X bv_X10_feltTruly_33_39 kv_X10_feltTruly_33_39 (lv' := [(6, .int ((fm (2 + aq).toNatClampNeg) + rz_5)), (5, .int 1), (4, .int (0 + ((cr ((2 * bq) + 0).toNatClampNeg) * ((fm (0 + aq).toNatClampNeg) + rz_2)))), (0, .ref x), (1, .int bq), (2, .int sq), (3, .int aq)]) (st' := [.ref x, .int (0 + ((cr ((2 * bq) + 0).toNatClampNeg) * ((fm (0 + aq).toNatClampNeg) + rz_2)))]) rfl ?_
  refine z_get X fl_10_71 dv_X10_feltTruly_39 0 rfl (v := .ref crosses) rfl ?_
  refine z_run X bv_X10_feltTruly_42_48 kv_X10_feltTruly_42_48 (lv' := [(6, .int ((fm (2 + aq).toNatClampNeg) + rz_5)), (5, .int 1), (4, .int (0 + ((cr ((2 * bq) + 0).toNatClampNeg) * ((fm (0 + aq).toNatClampNeg) + rz_2)))), (0, .ref x), (1, .int bq), (2, .int sq), (3, .int aq)]) (st' := [.int ((2 * bq) + 1), .ref crosses, .int (0 + ((cr ((2 * bq) + 0).toNatClampNeg) * ((fm (0 + aq).toNatClampNeg) + rz_2)))]) rfl ?_
  refine z_iald X dv_X10_feltTruly_48 4 rfl (vin (tI_add (tI_mul (show (2 : Int32).toInt = 2 from by decide) hbq (by omega)) (show (1 : Int32).toInt = 1 from by decide) (by omega)) (by omega) (by omega)) (v := (cr ((2 * bq) + 1).toNatClampNeg)) rfl ?_
  refine z_run X bv_X10_feltTruly_49_58 kv_X10_feltTruly_49_58 (lv' := [(5, .int 2), (4, .int ((0 + ((cr ((2 * bq) + 0).toNatClampNeg) * ((fm (0 + aq).toNatClampNeg) + rz_2))) + ((cr ((2 * bq) + 1).toNatClampNeg) * ((fm (2 + aq).toNatClampNeg) + rz_5)))), (6, .int ((fm (2 + aq).toNatClampNeg) + rz_5)), (0, .ref x), (1, .int bq), (2, .int sq), (3, .int aq)]) (st' := []) rfl ?_
  refine z_goto X dv_X10_feltTruly_58 (tgt := 6) (by decide) ?_
  refine z_run X bv_X10_feltTruly_6_9 kv_X10_feltTruly_6_9 (lv' := [(5, .int 2), (4, .int ((0 + ((cr ((2 * bq) + 0).toNatClampNeg) * ((fm (0 + aq).toNatClampNeg) + rz_2))) + ((cr ((2 * bq) + 1).toNatClampNeg) * ((fm (2 + aq).toNatClampNeg) + rz_5)))), (6, .int ((fm (2 + aq).toNatClampNeg) + rz_5)), (0, .ref x), (1, .int bq), (2, .int sq), (3, .int aq)]) (st' := [.int 2, .int 2]) rfl ?_
  refine zc_ge X dv_X10_feltTruly_9 (tgt := 61) (by decide) (a := 2) (b := 2) (show (2 : Int32).toInt = 2 from by decide) (show (2 : Int32).toInt = 2 from by decide) (fun _ => ?_) (fun c9_7 => absurd c9_7 (by decide))
  refine z_run X bv_X10_feltTruly_61_62 kv_X10_feltTruly_61_62 (lv' := [(5, .int 2), (4, .int ((0 + ((cr ((2 * bq) + 0).toNatClampNeg) * ((fm (0 + aq).toNatClampNeg) + rz_2))) + ((cr ((2 * bq) + 1).toNatClampNeg) * ((fm (2 + aq).toNatClampNeg) + rz_5)))), (6, .int ((fm (2 + aq).toNatClampNeg) + rz_5)), (0, .ref x), (1, .int bq), (2, .int sq), (3, .int aq)]) (st' := [.ref x]) rfl ?_
  refine z_get X fl_10_33 dv_X10_feltTruly_62 0 rfl (v := .ref speeds) rfl ?_
  refine z_getN X fl_10_195 dv_X10_feltTruly_65 1 rfl (v := .ref sf) rfl ?_
  refine z_run X bv_X10_feltTruly_68_69 kv_X10_feltTruly_68_69 (lv' := [(5, .int 2), (4, .int ((0 + ((cr ((2 * bq) + 0).toNatClampNeg) * ((fm (0 + aq).toNatClampNeg) + rz_2))) + ((cr ((2 * bq) + 1).toNatClampNeg) * ((fm (2 + aq).toNatClampNeg) + rz_5)))), (6, .int ((fm (2 + aq).toNatClampNeg) + rz_5)), (0, .ref x), (1, .int bq), (2, .int sq), (3, .int aq)]) (st' := [.int sq, .ref sf]) rfl ?_
  refine z_iald X dv_X10_feltTruly_69 2 rfl (vin hsq (by omega) (by omega)) (v := (ff sq.toNatClampNeg)) rfl ?_
  refine z_run X bv_X10_feltTruly_70_75 kv_X10_feltTruly_70_75 (lv' := [(5, .int 2), (4, .int ((0 + ((cr ((2 * bq) + 0).toNatClampNeg) * ((fm (0 + aq).toNatClampNeg) + rz_2))) + ((cr ((2 * bq) + 1).toNatClampNeg) * ((fm (2 + aq).toNatClampNeg) + rz_5)))), (6, .int ((fm (2 + aq).toNatClampNeg) + rz_5)), (0, .ref x), (1, .int bq), (2, .int sq), (3, .int aq)]) (st' := [.ref x, .ref x, .int ((ff sq.toNatClampNeg) * ((0 + ((cr ((2 * bq) + 0).toNatClampNeg) * ((fm (0 + aq).toNatClampNeg) + rz_2))) + ((cr ((2 * bq) + 1).toNatClampNeg) * ((fm (2 + aq).toNatClampNeg) + rz_5))))]) rfl ?_
  refine z_get X fl_10_75 dv_X10_feltTruly_75 0 rfl (v := .ref trueMasses) rfl ?_
  refine z_run X bv_X10_feltTruly_78_80 kv_X10_feltTruly_78_80 (lv' := [(5, .int 2), (4, .int ((0 + ((cr ((2 * bq) + 0).toNatClampNeg) * ((fm (0 + aq).toNatClampNeg) + rz_2))) + ((cr ((2 * bq) + 1).toNatClampNeg) * ((fm (2 + aq).toNatClampNeg) + rz_5)))), (6, .int ((fm (2 + aq).toNatClampNeg) + rz_5)), (0, .ref x), (1, .int bq), (2, .int sq), (3, .int aq)]) (st' := [.int aq, .int sq, .ref trueMasses, .ref x, .int ((ff sq.toNatClampNeg) * ((0 + ((cr ((2 * bq) + 0).toNatClampNeg) * ((fm (0 + aq).toNatClampNeg) + rz_2))) + ((cr ((2 * bq) + 1).toNatClampNeg) * ((fm (2 + aq).toNatClampNeg) + rz_5))))]) rfl ?_
  refine z_callV X k_10_198 (cv_X10_besidesF l G x x_told x_reader (.ref ring) speeds x_wheel x_trials x_span x_search x_kept (.ref crosses) (.ref trueMasses) x_thought x_up x_low x_fits x_pulls sc sf so sX0 sX1 sX2 ff fo trueMasses fm sq aq si ai hsq haq (by omega) (by omega)) dv_X10_feltTruly_80 0 rfl rfl rfl ⟨Nat.le_of_ble_eq_true rfl, Nat.le_of_ble_eq_true rfl⟩ ⟨Nat.le_of_ble_eq_true rfl, Nat.le_of_ble_eq_true rfl⟩ rfl (rest := [.int ((ff sq.toNatClampNeg) * ((0 + ((cr ((2 * bq) + 0).toNatClampNeg) * ((fm (0 + aq).toNatClampNeg) + rz_2))) + ((cr ((2 * bq) + 1).toNatClampNeg) * ((fm (2 + aq).toNatClampNeg) + rz_5))))]) (As := [.ref trueMasses, .int sq, .int aq]) rfl (Nat.le_of_ble_eq_true rfl) [0, 1, 2, 3, 5] [4, 6, 7, 8, 9, 10] rfl (by decide) (wr := [(crosses, aI G 4 cr), (ring, ob 5 [.int hc, .ref rp, .ref rx, .ref ry, g_rr, .ref rh, g_rd, .int ph, .int po]), (rp, aI G 16 fp), (rx, aI G 16 fx), (ry, aI G 16 fy), (rh, aI G 16 fh)]) rfl (by decide) (by decide) ?_
  rintro _ _ ⟨rz_8, f80_9, rfl, rfl⟩
  refine Z.at (pc' := 83) (st' := [.int rz_8, .int ((ff sq.toNatClampNeg) * ((0 + ((cr ((2 * bq) + 0).toNatClampNeg) * ((fm (0 + aq).toNatClampNeg) + rz_2))) + ((cr ((2 * bq) + 1).toNatClampNeg) * ((fm (2 + aq).toNatClampNeg) + rz_5))))]) (ws' := [(crosses, aI G 4 cr), (ring, ob 5 [.int hc, .ref rp, .ref rx, .ref ry, g_rr, .ref rh, g_rd, .int ph, .int po]), (rp, aI G 16 fp), (rx, aI G 16 fx), (ry, aI G 16 fy), (rh, aI G 16 fh), (x, ob 10 [x_told, x_reader, .ref ring, .ref speeds, x_wheel, x_trials, x_span, x_search, x_kept, .ref crosses, .ref trueMasses, x_thought, x_up, x_low, x_fits, x_pulls]), (speeds, ob 7 [.int sc, .ref sf, .ref so, sX0, sX1, sX2]), (sf, aI G 6 ff), (so, aI G 6 fo), (trueMasses, aI G 8 fm)]) (kc' := 0) (ks' := 0) rfl rfl rfl rfl rfl ?_
  refine z_run X bv_X10_feltTruly_83_84 kv_X10_feltTruly_83_84 (lv' := [(5, .int 2), (4, .int ((0 + ((cr ((2 * bq) + 0).toNatClampNeg) * ((fm (0 + aq).toNatClampNeg) + rz_2))) + ((cr ((2 * bq) + 1).toNatClampNeg) * ((fm (2 + aq).toNatClampNeg) + rz_5)))), (6, .int ((fm (2 + aq).toNatClampNeg) + rz_5)), (0, .ref x), (1, .int bq), (2, .int sq), (3, .int aq)]) (st' := [.int (((ff sq.toNatClampNeg) * ((0 + ((cr ((2 * bq) + 0).toNatClampNeg) * ((fm (0 + aq).toNatClampNeg) + rz_2))) + ((cr ((2 * bq) + 1).toNatClampNeg) * ((fm (2 + aq).toNatClampNeg) + rz_5)))) + rz_8)]) rfl ?_
  refine Z.sub (lv' := []) [] rfl [6, 1, 2, 3, 4, 5, 7, 8, 9, 0, 10] (ws' := [(x, ob 10 [x_told, x_reader, .ref ring, .ref speeds, x_wheel, x_trials, x_span, x_search, x_kept, .ref crosses, .ref trueMasses, x_thought, x_up, x_low, x_fits, x_pulls]), (ring, ob 5 [.int hc, .ref rp, .ref rx, .ref ry, g_rr, .ref rh, g_rd, .int ph, .int po]), (rp, aI G 16 fp), (rx, aI G 16 fx), (ry, aI G 16 fy), (rh, aI G 16 fh), (speeds, ob 7 [.int sc, .ref sf, .ref so, sX0, sX1, sX2]), (sf, aI G 6 ff), (so, aI G 6 fo), (crosses, aI G 4 cr), (trueMasses, aI G 8 fm)]) rfl (by decide) ?_
  exact z_iret X rfl dv_X10_feltTruly_84 (Nat.le_of_ble_eq_true rfl) (Nat.le_of_ble_eq_true rfl) ⟨(((ff sq.toNatClampNeg) * ((0 + ((cr ((2 * bq) + 0).toNatClampNeg) * ((fm (0 + aq).toNatClampNeg) + rz_2))) + ((cr ((2 * bq) + 1).toNatClampNeg) * ((fm (2 + aq).toNatClampNeg) + rz_5)))) + rz_8), (by rw [f30_3, f30_6, f80_9]; rfl), rfl, rfl⟩

theorem dv_X10_isOneOfTwo_1 : decode cX10_isOneOfTwo 1 = .ok (.ifCond .eq 8, 3) := by decide +kernel
theorem dv_X10_isOneOfTwo_10 : decode cX10_isOneOfTwo 10 = .ok (.goto 4, 3) := by decide +kernel
theorem dv_X10_isOneOfTwo_14 : decode cX10_isOneOfTwo 14 = .ok (.ireturn, 1) := by decide +kernel
theorem dv_X10_isOneOfTwo_6 : decode cX10_isOneOfTwo 6 = .ok (.if_icmp .ne 7, 3) := by decide +kernel
abbrev bv_X10_isOneOfTwo_0_1 : ZB := [(.iload_n 0, .null)]
theorem kv_X10_isOneOfTwo_0_1 : zchk cX10_isOneOfTwo bv_X10_isOneOfTwo_0_1 0 = true ∧ zpc bv_X10_isOneOfTwo_0_1 0 = 1 := ⟨by decide +kernel, rfl⟩
abbrev bv_X10_isOneOfTwo_9_10 : ZB := [(.iconst 1, .int 1)]
theorem kv_X10_isOneOfTwo_9_10 : zchk cX10_isOneOfTwo bv_X10_isOneOfTwo_9_10 9 = true ∧ zpc bv_X10_isOneOfTwo_9_10 9 = 10 := ⟨by decide +kernel, rfl⟩
abbrev bv_X10_isOneOfTwo_4_6 : ZB := [(.iload_n 0, .null), (.iconst 1, .int 1)]
theorem kv_X10_isOneOfTwo_4_6 : zchk cX10_isOneOfTwo bv_X10_isOneOfTwo_4_6 4 = true ∧ zpc bv_X10_isOneOfTwo_4_6 4 = 6 := ⟨by decide +kernel, rfl⟩
abbrev bv_X10_isOneOfTwo_13_14 : ZB := [(.iconst 0, .int 0)]
theorem kv_X10_isOneOfTwo_13_14 : zchk cX10_isOneOfTwo bv_X10_isOneOfTwo_13_14 13 = true ∧ zpc bv_X10_isOneOfTwo_13_14 13 = 14 := ⟨by decide +kernel, rfl⟩
set_option maxHeartbeats 4000000 in
set_option maxRecDepth 100000 in
theorem cv_X10_isOneOfTwoF (l : Launch) (G : KG) (a : Int32) (ai : Int) (ha : a.toInt = ai) : Ct l G yX10_isOneOfTwo cX10_isOneOfTwo 1 (some .boolean) { frames := 0, cells := 0, slots := 0, locals := 0 } [.int a] [] (fun r w1 => r = some (.int (zb (decide (0 ≤ ai ∧ ai ≤ 1)))) ∧ w1 = []) := by
  refine ct_of [(0, .int a)] (by decide) (Nat.le_of_ble_eq_true rfl) rfl ?_
  intro p0 e0 s0 m0 args0 below0 meth0 c0 A X
  refine z_run X bv_X10_isOneOfTwo_0_1 kv_X10_isOneOfTwo_0_1 (lv' := [(0, .int a)]) (st' := [.int a]) rfl ?_
  refine zi_eq X dv_X10_isOneOfTwo_1 (tgt := 9) (by decide) (a := ai) ha (fun c1_1 => ?_) (fun c1_1 => ?_)
  ·
    refine z_run X bv_X10_isOneOfTwo_9_10 kv_X10_isOneOfTwo_9_10 (lv' := [(0, .int a)]) (st' := [.int 1]) rfl ?_
    refine z_goto X dv_X10_isOneOfTwo_10 (tgt := 14) (by decide) ?_
    exact z_zret X rfl rfl dv_X10_isOneOfTwo_14 (Nat.le_of_ble_eq_true rfl) (Nat.le_of_ble_eq_true rfl) ⟨(congrArg (fun z => some (Value.int z)) (zb_t (by omega)).symm), rfl⟩
  ·
    refine z_run X bv_X10_isOneOfTwo_4_6 kv_X10_isOneOfTwo_4_6 (lv' := [(0, .int a)]) (st' := [.int 1, .int a]) rfl ?_
    refine zc_ne X dv_X10_isOneOfTwo_6 (tgt := 13) (by decide) (a := ai) (b := 1) ha (show (1 : Int32).toInt = 1 from by decide) (fun c6_2 => ?_) (fun c6_2 => ?_)
    ·
      refine z_run X bv_X10_isOneOfTwo_13_14 kv_X10_isOneOfTwo_13_14 (lv' := [(0, .int a)]) (st' := [.int 0]) rfl ?_
      exact z_zret X rfl rfl dv_X10_isOneOfTwo_14 (Nat.le_of_ble_eq_true rfl) (Nat.le_of_ble_eq_true rfl) ⟨(congrArg (fun z => some (Value.int z)) (zb_f (by omega)).symm), rfl⟩
    ·
      refine z_run X bv_X10_isOneOfTwo_9_10 kv_X10_isOneOfTwo_9_10 (lv' := [(0, .int a)]) (st' := [.int 1]) rfl ?_
      refine z_goto X dv_X10_isOneOfTwo_10 (tgt := 14) (by decide) ?_
      exact z_zret X rfl rfl dv_X10_isOneOfTwo_14 (Nat.le_of_ble_eq_true rfl) (Nat.le_of_ble_eq_true rfl) ⟨(congrArg (fun z => some (Value.int z)) (zb_t (by omega)).symm), rfl⟩

theorem dv_X10_hums_1 : decode cX10_hums 1 = .ok (.invokestatic 156, 3) := by decide +kernel
theorem dv_X10_hums_4 : decode cX10_hums 4 = .ok (.ifCond .eq 10, 3) := by decide +kernel
theorem dv_X10_hums_15 : decode cX10_hums 15 = .ok (.ireturn, 1) := by decide +kernel
theorem dv_X10_hums_8 : decode cX10_hums 8 = .ok (.invokestatic 156, 3) := by decide +kernel
theorem dv_X10_hums_11 : decode cX10_hums 11 = .ok (.ifCond .ne 5, 3) := by decide +kernel
theorem dv_X10_hums_28 : decode cX10_hums 28 = .ok (.getfield 33, 3) := by decide +kernel
theorem dv_X10_hums_31 : decode cX10_hums 31 = .ok (.getfield 191, 3) := by decide +kernel
theorem dv_X10_hums_34 : decode cX10_hums 34 = .ok (.if_icmp .ge 66, 3) := by decide +kernel
theorem dv_X10_hums_101 : decode cX10_hums 101 = .ok (.ifCond .lt 19, 3) := by decide +kernel
theorem dv_X10_hums_121 : decode cX10_hums 121 = .ok (.ireturn, 1) := by decide +kernel
theorem dv_X10_hums_105 : decode cX10_hums 105 = .ok (.getfield 12, 3) := by decide +kernel
theorem dv_X10_hums_108 : decode cX10_hums 108 = .ok (.invokevirtual 180, 3) := by decide +kernel
theorem dv_X10_hums_112 : decode cX10_hums 112 = .ok (.getfield 12, 3) := by decide +kernel
theorem dv_X10_hums_117 : decode cX10_hums 117 = .ok (.invokevirtual 183, 3) := by decide +kernel
theorem dv_X10_hums_42 : decode cX10_hums 42 = .ok (.invokevirtual 176, 3) := by decide +kernel
theorem dv_X10_hums_51 : decode cX10_hums 51 = .ok (.invokevirtual 176, 3) := by decide +kernel
theorem dv_X10_hums_55 : decode cX10_hums 55 = .ok (.invokestatic 187, 3) := by decide +kernel
theorem dv_X10_hums_61 : decode cX10_hums 61 = .ok (.ifCond .lt 26, 3) := by decide +kernel
theorem dv_X10_hums_97 : decode cX10_hums 97 = .ok (.goto (-72), 3) := by decide +kernel
theorem dv_X10_hums_65 : decode cX10_hums 65 = .ok (.ifCond .ne 14, 3) := by decide +kernel
theorem dv_X10_hums_83 : decode cX10_hums 83 = .ok (.lcmp, 1) := by decide +kernel
theorem dv_X10_hums_84 : decode cX10_hums 84 = .ok (.ifCond .ge 10, 3) := by decide +kernel
theorem dv_X10_hums_72 : decode cX10_hums 72 = .ok (.lcmp, 1) := by decide +kernel
theorem dv_X10_hums_73 : decode cX10_hums 73 = .ok (.ifCond .le 21, 3) := by decide +kernel
theorem dv_X10_hums_76 : decode cX10_hums 76 = .ok (.goto 11, 3) := by decide +kernel
abbrev bv_X10_hums_0_1 : ZB := [(.iload_n 1, .null)]
theorem kv_X10_hums_0_1 : zchk cX10_hums bv_X10_hums_0_1 0 = true ∧ zpc bv_X10_hums_0_1 0 = 1 := ⟨by decide +kernel, rfl⟩
abbrev bv_X10_hums_14_15 : ZB := [(.iconst (-1), .int (-1))]
theorem kv_X10_hums_14_15 : zchk cX10_hums bv_X10_hums_14_15 14 = true ∧ zpc bv_X10_hums_14_15 14 = 15 := ⟨by decide +kernel, rfl⟩
abbrev bv_X10_hums_7_8 : ZB := [(.iload_n 2, .null)]
theorem kv_X10_hums_7_8 : zchk cX10_hums bv_X10_hums_7_8 7 = true ∧ zpc bv_X10_hums_7_8 7 = 8 := ⟨by decide +kernel, rfl⟩
abbrev bv_X10_hums_16_25 : ZB := [(.bipush (-2), .int (-2)), (.istore_n 3, .null), (.lconst 0, .long 0), (.lstore 4, .null), (.iconst 0, .int 0), (.istore 6, .null)]
theorem kv_X10_hums_16_25 : zchk cX10_hums bv_X10_hums_16_25 16 = true ∧ zpc bv_X10_hums_16_25 16 = 25 := ⟨by decide +kernel, rfl⟩
abbrev bv_X10_hums_25_28 : ZB := [(.iload 6, .null), (.aload_n 0, .null)]
theorem kv_X10_hums_25_28 : zchk cX10_hums bv_X10_hums_25_28 25 = true ∧ zpc bv_X10_hums_25_28 25 = 28 := ⟨by decide +kernel, rfl⟩
abbrev bv_X10_hums_100_101 : ZB := [(.iload_n 3, .null)]
theorem kv_X10_hums_100_101 : zchk cX10_hums bv_X10_hums_100_101 100 = true ∧ zpc bv_X10_hums_100_101 100 = 101 := ⟨by decide +kernel, rfl⟩
abbrev bv_X10_hums_120_121 : ZB := [(.iload_n 3, .null)]
theorem kv_X10_hums_120_121 : zchk cX10_hums bv_X10_hums_120_121 120 = true ∧ zpc bv_X10_hums_120_121 120 = 121 := ⟨by decide +kernel, rfl⟩
abbrev bv_X10_hums_104_105 : ZB := [(.aload_n 0, .null)]
theorem kv_X10_hums_104_105 : zchk cX10_hums bv_X10_hums_104_105 104 = true ∧ zpc bv_X10_hums_104_105 104 = 105 := ⟨by decide +kernel, rfl⟩
abbrev bv_X10_hums_111_112 : ZB := [(.aload_n 0, .null)]
theorem kv_X10_hums_111_112 : zchk cX10_hums bv_X10_hums_111_112 111 = true ∧ zpc bv_X10_hums_111_112 111 = 112 := ⟨by decide +kernel, rfl⟩
abbrev bv_X10_hums_115_117 : ZB := [(.lload 4, .null)]
theorem kv_X10_hums_115_117 : zchk cX10_hums bv_X10_hums_115_117 115 = true ∧ zpc bv_X10_hums_115_117 115 = 117 := ⟨by decide +kernel, rfl⟩
abbrev bv_X10_hums_37_42 : ZB := [(.aload_n 0, .null), (.iload_n 1, .null), (.iload 6, .null), (.iconst 0, .int 0)]
theorem kv_X10_hums_37_42 : zchk cX10_hums bv_X10_hums_37_42 37 = true ∧ zpc bv_X10_hums_37_42 37 = 42 := ⟨by decide +kernel, rfl⟩
abbrev bv_X10_hums_45_51 : ZB := [(.i2l, .null), (.aload_n 0, .null), (.iload_n 1, .null), (.iload 6, .null), (.iconst 1, .int 1)]
theorem kv_X10_hums_45_51 : zchk cX10_hums bv_X10_hums_45_51 45 = true ∧ zpc bv_X10_hums_45_51 45 = 51 := ⟨by decide +kernel, rfl⟩
abbrev bv_X10_hums_54_55 : ZB := [(.i2l, .null)]
theorem kv_X10_hums_54_55 : zchk cX10_hums bv_X10_hums_54_55 54 = true ∧ zpc bv_X10_hums_54_55 54 = 55 := ⟨by decide +kernel, rfl⟩
abbrev bv_X10_hums_58_61 : ZB := [(.lstore 7, .null), (.iload_n 3, .null)]
theorem kv_X10_hums_58_61 : zchk cX10_hums bv_X10_hums_58_61 58 = true ∧ zpc bv_X10_hums_58_61 58 = 61 := ⟨by decide +kernel, rfl⟩
abbrev bv_X10_hums_87_97 : ZB := [(.iload 6, .null), (.istore_n 3, .null), (.lload 7, .null), (.lstore 4, .null), (.iinc 6 1, .int 1)]
theorem kv_X10_hums_87_97 : zchk cX10_hums bv_X10_hums_87_97 87 = true ∧ zpc bv_X10_hums_87_97 87 = 97 := ⟨by decide +kernel, rfl⟩
abbrev bv_X10_hums_64_65 : ZB := [(.iload_n 2, .null)]
theorem kv_X10_hums_64_65 : zchk cX10_hums bv_X10_hums_64_65 64 = true ∧ zpc bv_X10_hums_64_65 64 = 65 := ⟨by decide +kernel, rfl⟩
abbrev bv_X10_hums_79_83 : ZB := [(.lload 7, .null), (.lload 4, .null)]
theorem kv_X10_hums_79_83 : zchk cX10_hums bv_X10_hums_79_83 79 = true ∧ zpc bv_X10_hums_79_83 79 = 83 := ⟨by decide +kernel, rfl⟩
abbrev bv_X10_hums_94_97 : ZB := [(.iinc 6 1, .int 1)]
theorem kv_X10_hums_94_97 : zchk cX10_hums bv_X10_hums_94_97 94 = true ∧ zpc bv_X10_hums_94_97 94 = 97 := ⟨by decide +kernel, rfl⟩
abbrev bv_X10_hums_68_72 : ZB := [(.lload 7, .null), (.lload 4, .null)]
theorem kv_X10_hums_68_72 : zchk cX10_hums bv_X10_hums_68_72 68 = true ∧ zpc bv_X10_hums_68_72 68 = 72 := ⟨by decide +kernel, rfl⟩
set_option maxHeartbeats 4000000 in
set_option maxRecDepth 100000 in
theorem cv_X10_humsF (l : Launch) (G : KG) (x : Nat) (told : Nat) (x_reader : Value) (ring : Nat) (speeds : Nat) (x_wheel : Value) (x_trials : Value) (x_span : Value) (x_search : Value) (x_kept : Value) (crosses : Nat) (trueMasses : Nat) (x_thought : Value) (x_up : Value) (x_low : Value) (x_fits : Value) (x_pulls : Value) (tn : Nat) (tl : Int32) (fn : Nat → Int64) (hc : Int32) (rp : Nat) (rx : Nat) (ry : Nat) (g_rr : Value) (rh : Nat) (g_rd : Value) (ph : Int32) (po : Int32) (fp : Nat → Int32) (fx : Nat → Int32) (fy : Nat → Int32) (fh : Nat → Int32) (sc : Int32) (sf : Nat) (so : Nat) (sX0 : Value) (sX1 : Value) (sX2 : Value) (ff : Nat → Int32) (fo : Nat → Int32) (cr : Nat → Int32) (fm : Nat → Int32) (bq : Int32) (wq : Int32) (hci : Int) (sci : Int) (bi : Int) (wi : Int) (hhc : hc.toInt = hci) (hsc : sc.toInt = sci) (hbq : bq.toInt = bi) (hwq : wq.toInt = wi) (hc0 : 0 ≤ hci ∧ hci ≤ 16) (hs6 : 0 ≤ sci ∧ sci ≤ 6) : Ct l G yX10_hums cX10_hums 9 (some .int) { frames := 3, cells := 0, slots := 0, locals := 74 } [.ref x, .int bq, .int wq] [(x, ob 10 [.ref told, x_reader, .ref ring, .ref speeds, x_wheel, x_trials, x_span, x_search, x_kept, .ref crosses, .ref trueMasses, x_thought, x_up, x_low, x_fits, x_pulls]), (told, ob 8 [.ref tn, .int tl]), (tn, aJ G 16 fn), (ring, ob 5 [.int hc, .ref rp, .ref rx, .ref ry, g_rr, .ref rh, g_rd, .int ph, .int po]), (rp, aI G 16 fp), (rx, aI G 16 fx), (ry, aI G 16 fy), (rh, aI G 16 fh), (speeds, ob 7 [.int sc, .ref sf, .ref so, sX0, sX1, sX2]), (sf, aI G 6 ff), (so, aI G 6 fo), (crosses, aI G 4 cr), (trueMasses, aI G 8 fm)] (fun r _ => ∃ (rz : Int32), (rz.toInt = mHums bi wi sci (hb wi (fun k => (sz (fTx hci fp fh fx fy ph po cr fm ff fo bq 0 0 k) (fTx hci fp fh fx fy ph po cr fm ff fo bq 1 1 k)).toInt) sci.toNat)) ∧ r = some (.int rz)) := by
  refine ct_of [(0, .ref x), (1, .int bq), (2, .int wq)] (by decide) (Nat.le_of_ble_eq_true rfl) rfl ?_
  intro p0 e0 s0 m0 args0 below0 meth0 c0 A X
  refine z_run X bv_X10_hums_0_1 kv_X10_hums_0_1 (lv' := [(0, .ref x), (1, .int bq), (2, .int wq)]) (st' := [.int bq]) rfl ?_
  refine z_callS X k_10_156 (cv_X10_isOneOfTwoF l G bq bi hbq) dv_X10_hums_1 ⟨Nat.le_of_ble_eq_true rfl, Nat.le_of_ble_eq_true rfl⟩ ⟨Nat.le_of_ble_eq_true rfl, Nat.le_of_ble_eq_true rfl⟩ rfl (rest := []) (As := [.int bq]) rfl (Nat.le_of_ble_eq_true rfl) [] [0, 1, 2, 3, 4, 5, 6, 7, 8, 9, 10, 11, 12] rfl (by decide) (wr := [(x, ob 10 [.ref told, x_reader, .ref ring, .ref speeds, x_wheel, x_trials, x_span, x_search, x_kept, .ref crosses, .ref trueMasses, x_thought, x_up, x_low, x_fits, x_pulls]), (told, ob 8 [.ref tn, .int tl]), (tn, aJ G 16 fn), (ring, ob 5 [.int hc, .ref rp, .ref rx, .ref ry, g_rr, .ref rh, g_rd, .int ph, .int po]), (rp, aI G 16 fp), (rx, aI G 16 fx), (ry, aI G 16 fy), (rh, aI G 16 fh), (speeds, ob 7 [.int sc, .ref sf, .ref so, sX0, sX1, sX2]), (sf, aI G 6 ff), (so, aI G 6 fo), (crosses, aI G 4 cr), (trueMasses, aI G 8 fm)]) rfl (by decide) (by decide) ?_
  rintro _ _ ⟨rfl, rfl⟩
  refine Z.at (pc' := 4) (st' := [.int (zb (decide (0 ≤ bi ∧ bi ≤ 1)))]) (ws' := [(x, ob 10 [.ref told, x_reader, .ref ring, .ref speeds, x_wheel, x_trials, x_span, x_search, x_kept, .ref crosses, .ref trueMasses, x_thought, x_up, x_low, x_fits, x_pulls]), (told, ob 8 [.ref tn, .int tl]), (tn, aJ G 16 fn), (ring, ob 5 [.int hc, .ref rp, .ref rx, .ref ry, g_rr, .ref rh, g_rd, .int ph, .int po]), (rp, aI G 16 fp), (rx, aI G 16 fx), (ry, aI G 16 fy), (rh, aI G 16 fh), (speeds, ob 7 [.int sc, .ref sf, .ref so, sX0, sX1, sX2]), (sf, aI G 6 ff), (so, aI G 6 fo), (crosses, aI G 4 cr), (trueMasses, aI G 8 fm)]) (kc' := 0) (ks' := 0) rfl rfl rfl rfl rfl ?_
  refine zi_eq_zb X dv_X10_hums_4 (tgt := 14) (by decide) (fun c4_1 => ?_) (fun c4_1 => ?_)
  ·
    refine z_run X bv_X10_hums_14_15 kv_X10_hums_14_15 (lv' := [(0, .ref x), (1, .int bq), (2, .int wq)]) (st' := [.int (-1)]) rfl ?_
    exact z_iret X rfl dv_X10_hums_15 (Nat.le_of_ble_eq_true rfl) (Nat.le_of_ble_eq_true rfl) ⟨((-1) : Int32), ((show (-1 : Int32).toInt = -1 from by decide).trans (mHums_no (by omega)).symm), rfl⟩
  ·
    refine z_run X bv_X10_hums_7_8 kv_X10_hums_7_8 (lv' := [(0, .ref x), (1, .int bq), (2, .int wq)]) (st' := [.int wq]) rfl ?_
    refine z_callS X k_10_156 (cv_X10_isOneOfTwoF l G wq wi hwq) dv_X10_hums_8 ⟨Nat.le_of_ble_eq_true rfl, Nat.le_of_ble_eq_true rfl⟩ ⟨Nat.le_of_ble_eq_true rfl, Nat.le_of_ble_eq_true rfl⟩ rfl (rest := []) (As := [.int wq]) rfl (Nat.le_of_ble_eq_true rfl) [] [0, 1, 2, 3, 4, 5, 6, 7, 8, 9, 10, 11, 12] rfl (by decide) (wr := [(x, ob 10 [.ref told, x_reader, .ref ring, .ref speeds, x_wheel, x_trials, x_span, x_search, x_kept, .ref crosses, .ref trueMasses, x_thought, x_up, x_low, x_fits, x_pulls]), (told, ob 8 [.ref tn, .int tl]), (tn, aJ G 16 fn), (ring, ob 5 [.int hc, .ref rp, .ref rx, .ref ry, g_rr, .ref rh, g_rd, .int ph, .int po]), (rp, aI G 16 fp), (rx, aI G 16 fx), (ry, aI G 16 fy), (rh, aI G 16 fh), (speeds, ob 7 [.int sc, .ref sf, .ref so, sX0, sX1, sX2]), (sf, aI G 6 ff), (so, aI G 6 fo), (crosses, aI G 4 cr), (trueMasses, aI G 8 fm)]) rfl (by decide) (by decide) ?_
    rintro _ _ ⟨rfl, rfl⟩
    refine Z.at (pc' := 11) (st' := [.int (zb (decide (0 ≤ wi ∧ wi ≤ 1)))]) (ws' := [(x, ob 10 [.ref told, x_reader, .ref ring, .ref speeds, x_wheel, x_trials, x_span, x_search, x_kept, .ref crosses, .ref trueMasses, x_thought, x_up, x_low, x_fits, x_pulls]), (told, ob 8 [.ref tn, .int tl]), (tn, aJ G 16 fn), (ring, ob 5 [.int hc, .ref rp, .ref rx, .ref ry, g_rr, .ref rh, g_rd, .int ph, .int po]), (rp, aI G 16 fp), (rx, aI G 16 fx), (ry, aI G 16 fy), (rh, aI G 16 fh), (speeds, ob 7 [.int sc, .ref sf, .ref so, sX0, sX1, sX2]), (sf, aI G 6 ff), (so, aI G 6 fo), (crosses, aI G 4 cr), (trueMasses, aI G 8 fm)]) (kc' := 0) (ks' := 0) rfl rfl rfl rfl rfl ?_
    refine zi_ne_zb X dv_X10_hums_11 (tgt := 16) (by decide) (fun c11_2 => ?_) (fun c11_2 => ?_)
    ·
      refine z_run X bv_X10_hums_16_25 kv_X10_hums_16_25 (lv' := [(6, .int 0), (4, .long 0), (3, .int (-2)), (0, .ref x), (1, .int bq), (2, .int wq)]) (st' := []) rfl ?_
      refine zloop (σ := Int32 × Int32 × Int64) (fun z => [(6, .int z.1), (4, .long z.2.2), (3, .int z.2.1), (0, .ref x), (1, .int bq), (2, .int wq)]) (fun z => []) (fun z => [(x, ob 10 [.ref told, x_reader, .ref ring, .ref speeds, x_wheel, x_trials, x_span, x_search, x_kept, .ref crosses, .ref trueMasses, x_thought, x_up, x_low, x_fits, x_pulls]), (told, ob 8 [.ref tn, .int tl]), (tn, aJ G 16 fn), (ring, ob 5 [.int hc, .ref rp, .ref rx, .ref ry, g_rr, .ref rh, g_rd, .int ph, .int po]), (rp, aI G 16 fp), (rx, aI G 16 fx), (ry, aI G 16 fy), (rh, aI G 16 fh), (speeds, ob 7 [.int sc, .ref sf, .ref so, sX0, sX1, sX2]), (sf, aI G 6 ff), (so, aI G 6 fo), (crosses, aI G 4 cr), (trueMasses, aI G 8 fm)]) (fun z => (0 ≤ z.1.toInt ∧ z.1.toInt ≤ sci) ∧ (HX (-2) (hb wi (fun k => (sz (fTx hci fp fh fx fy ph po cr fm ff fo bq 0 0 k) (fTx hci fp fh fx fy ph po cr fm ff fo bq 1 1 k)).toInt) z.1.toInt.toNat) (fun k => (sz (fTx hci fp fh fx fy ph po cr fm ff fo bq 0 0 k) (fTx hci fp fh fx fy ph po cr fm ff fo bq 1 1 k)).toInt) z.2.1.toInt z.2.2.toInt)) (fun z => (sci - z.1.toInt).toNat) (0, (-2), 0) ?_ ?_
      ·
        rintro ⟨i_, f_, l_⟩ ⟨hi, hb_⟩ ih25
        dsimp only at *
        refine z_run X bv_X10_hums_25_28 kv_X10_hums_25_28 (lv' := [(6, .int i_), (4, .long l_), (3, .int f_), (0, .ref x), (1, .int bq), (2, .int wq)]) (st' := [.ref x, .int i_]) rfl ?_
        refine z_get X fl_10_33 dv_X10_hums_28 0 rfl (v := .ref speeds) rfl ?_
        refine z_getN X fl_10_191 dv_X10_hums_31 8 rfl (v := .int sc) rfl ?_
        refine zc_ge X dv_X10_hums_34 (tgt := 100) (by decide) (a := i_.toInt) (b := sci) rfl hsc (fun c34_3 => ?_) (fun c34_3 => ?_)
        ·
          refine z_run X bv_X10_hums_100_101 kv_X10_hums_100_101 (lv' := [(6, .int i_), (4, .long l_), (3, .int f_), (0, .ref x), (1, .int bq), (2, .int wq)]) (st' := [.int f_]) rfl ?_
          refine zi_lt X dv_X10_hums_101 (tgt := 120) (by decide) (a := f_.toInt) rfl (fun c101_4 => ?_) (fun c101_4 => ?_)
          ·
            refine z_run X bv_X10_hums_120_121 kv_X10_hums_120_121 (lv' := [(6, .int i_), (4, .long l_), (3, .int f_), (0, .ref x), (1, .int bq), (2, .int wq)]) (st' := [.int f_]) rfl ?_
            exact z_iret X rfl dv_X10_hums_121 (Nat.le_of_ble_eq_true rfl) (Nat.le_of_ble_eq_true rfl) ⟨f_, (by rw [show i_.toInt.toNat = sci.toNat by omega] at hb_; exact hb_.fin (by omega) (by omega) (Or.inl rfl)), rfl⟩
          ·
            refine z_run X bv_X10_hums_104_105 kv_X10_hums_104_105 (lv' := [(6, .int i_), (4, .long l_), (3, .int f_), (0, .ref x), (1, .int bq), (2, .int wq)]) (st' := [.ref x]) rfl ?_
            refine z_get X fl_10_12 dv_X10_hums_105 0 rfl (v := .ref told) rfl ?_
            refine z_callV X k_10_180 (cv_X8_startF l G told tn tl fn) dv_X10_hums_108 1 rfl rfl rfl ⟨Nat.le_of_ble_eq_true rfl, Nat.le_of_ble_eq_true rfl⟩ ⟨Nat.le_of_ble_eq_true rfl, Nat.le_of_ble_eq_true rfl⟩ rfl (rest := []) (As := []) rfl (Nat.le_of_ble_eq_true rfl) [1, 2] [0, 3, 4, 5, 6, 7, 8, 9, 10, 11, 12] rfl (by decide) (wr := [(x, ob 10 [.ref told, x_reader, .ref ring, .ref speeds, x_wheel, x_trials, x_span, x_search, x_kept, .ref crosses, .ref trueMasses, x_thought, x_up, x_low, x_fits, x_pulls]), (ring, ob 5 [.int hc, .ref rp, .ref rx, .ref ry, g_rr, .ref rh, g_rd, .int ph, .int po]), (rp, aI G 16 fp), (rx, aI G 16 fx), (ry, aI G 16 fy), (rh, aI G 16 fh), (speeds, ob 7 [.int sc, .ref sf, .ref so, sX0, sX1, sX2]), (sf, aI G 6 ff), (so, aI G 6 fo), (crosses, aI G 4 cr), (trueMasses, aI G 8 fm)]) rfl (by decide) (by decide) ?_
            rintro _ _ ⟨rfl, rfl⟩
            refine Z.at (pc' := 111) (st' := []) (ws' := [(x, ob 10 [.ref told, x_reader, .ref ring, .ref speeds, x_wheel, x_trials, x_span, x_search, x_kept, .ref crosses, .ref trueMasses, x_thought, x_up, x_low, x_fits, x_pulls]), (ring, ob 5 [.int hc, .ref rp, .ref rx, .ref ry, g_rr, .ref rh, g_rd, .int ph, .int po]), (rp, aI G 16 fp), (rx, aI G 16 fx), (ry, aI G 16 fy), (rh, aI G 16 fh), (speeds, ob 7 [.int sc, .ref sf, .ref so, sX0, sX1, sX2]), (sf, aI G 6 ff), (so, aI G 6 fo), (crosses, aI G 4 cr), (trueMasses, aI G 8 fm), (told, ob 8 [.ref tn, .int 0]), (tn, aJ G 16 fn)]) (kc' := 0) (ks' := 0) rfl rfl rfl rfl rfl ?_
            refine z_run X bv_X10_hums_111_112 kv_X10_hums_111_112 (lv' := [(6, .int i_), (4, .long l_), (3, .int f_), (0, .ref x), (1, .int bq), (2, .int wq)]) (st' := [.ref x]) rfl ?_
            refine z_get X fl_10_12 dv_X10_hums_112 0 rfl (v := .ref told) rfl ?_
            refine z_run X bv_X10_hums_115_117 kv_X10_hums_115_117 (lv' := [(6, .int i_), (4, .long l_), (3, .int f_), (0, .ref x), (1, .int bq), (2, .int wq)]) (st' := [.long l_, .ref told]) rfl ?_
            refine z_callV X k_10_183 (cv_X8_addF l G told tn 0 fn l_ 0 (show (0 : Int32).toInt = 0 from by decide) (by omega)) dv_X10_hums_117 11 rfl rfl rfl ⟨Nat.le_of_ble_eq_true rfl, Nat.le_of_ble_eq_true rfl⟩ ⟨Nat.le_of_ble_eq_true rfl, Nat.le_of_ble_eq_true rfl⟩ rfl (rest := []) (As := [.long l_]) rfl (Nat.le_of_ble_eq_true rfl) [11, 12] [0, 1, 2, 3, 4, 5, 6, 7, 8, 9, 10] rfl (by decide) (wr := [(x, ob 10 [.ref told, x_reader, .ref ring, .ref speeds, x_wheel, x_trials, x_span, x_search, x_kept, .ref crosses, .ref trueMasses, x_thought, x_up, x_low, x_fits, x_pulls]), (ring, ob 5 [.int hc, .ref rp, .ref rx, .ref ry, g_rr, .ref rh, g_rd, .int ph, .int po]), (rp, aI G 16 fp), (rx, aI G 16 fx), (ry, aI G 16 fy), (rh, aI G 16 fh), (speeds, ob 7 [.int sc, .ref sf, .ref so, sX0, sX1, sX2]), (sf, aI G 6 ff), (so, aI G 6 fo), (crosses, aI G 4 cr), (trueMasses, aI G 8 fm)]) rfl (by decide) (by decide) ?_
            rintro _ _ ⟨rfl, rfl⟩
            refine Z.at (pc' := 120) (st' := []) (ws' := [(x, ob 10 [.ref told, x_reader, .ref ring, .ref speeds, x_wheel, x_trials, x_span, x_search, x_kept, .ref crosses, .ref trueMasses, x_thought, x_up, x_low, x_fits, x_pulls]), (ring, ob 5 [.int hc, .ref rp, .ref rx, .ref ry, g_rr, .ref rh, g_rd, .int ph, .int po]), (rp, aI G 16 fp), (rx, aI G 16 fx), (ry, aI G 16 fy), (rh, aI G 16 fh), (speeds, ob 7 [.int sc, .ref sf, .ref so, sX0, sX1, sX2]), (sf, aI G 6 ff), (so, aI G 6 fo), (crosses, aI G 4 cr), (trueMasses, aI G 8 fm), (told, ob 8 [.ref tn, .int (0 + 1)]), (tn, aJ G 16 (vp_updL fn (0 : Int32).toNatClampNeg l_))]) (kc' := 0) (ks' := 0) rfl rfl rfl rfl rfl ?_
            refine z_run X bv_X10_hums_120_121 kv_X10_hums_120_121 (lv' := [(6, .int i_), (4, .long l_), (3, .int f_), (0, .ref x), (1, .int bq), (2, .int wq)]) (st' := [.int f_]) rfl ?_
            exact z_iret X rfl dv_X10_hums_121 (Nat.le_of_ble_eq_true rfl) (Nat.le_of_ble_eq_true rfl) ⟨f_, (by rw [show i_.toInt.toNat = sci.toNat by omega] at hb_; exact hb_.fin (by omega) (by omega) (Or.inl rfl)), rfl⟩
        ·
          refine z_run X bv_X10_hums_37_42 kv_X10_hums_37_42 (lv' := [(6, .int i_), (4, .long l_), (3, .int f_), (0, .ref x), (1, .int bq), (2, .int wq)]) (st' := [.int 0, .int i_, .int bq, .ref x]) rfl ?_
          refine z_callV X k_10_176 (cv_X10_feltTrulyF l G x (.ref told) x_reader ring speeds x_wheel x_trials x_span x_search x_kept crosses trueMasses x_thought x_up x_low x_fits x_pulls hc rp rx ry g_rr rh g_rd ph po fp fx fy fh sc sf so sX0 sX1 sX2 ff fo cr fm bq i_ 0 hci bi i_.toInt 0 hhc hbq rfl (show (0 : Int32).toInt = 0 from by decide) (by omega) (by omega) (by omega) (by omega)) dv_X10_hums_42 0 rfl rfl rfl ⟨Nat.le_of_ble_eq_true rfl, Nat.le_of_ble_eq_true rfl⟩ ⟨Nat.le_of_ble_eq_true rfl, Nat.le_of_ble_eq_true rfl⟩ rfl (rest := []) (As := [.int bq, .int i_, .int 0]) rfl (Nat.le_of_ble_eq_true rfl) [0, 3, 4, 5, 6, 7, 8, 9, 10, 11, 12] [1, 2] rfl (by decide) (wr := [(told, ob 8 [.ref tn, .int tl]), (tn, aJ G 16 fn)]) rfl (by decide) (by decide) ?_
          rintro _ _ ⟨rz_5, f42_6, rfl, rfl⟩
          refine Z.at (pc' := 45) (st' := [.int rz_5]) (ws' := [(told, ob 8 [.ref tn, .int tl]), (tn, aJ G 16 fn), (x, ob 10 [.ref told, x_reader, .ref ring, .ref speeds, x_wheel, x_trials, x_span, x_search, x_kept, .ref crosses, .ref trueMasses, x_thought, x_up, x_low, x_fits, x_pulls]), (ring, ob 5 [.int hc, .ref rp, .ref rx, .ref ry, g_rr, .ref rh, g_rd, .int ph, .int po]), (rp, aI G 16 fp), (rx, aI G 16 fx), (ry, aI G 16 fy), (rh, aI G 16 fh), (speeds, ob 7 [.int sc, .ref sf, .ref so, sX0, sX1, sX2]), (sf, aI G 6 ff), (so, aI G 6 fo), (crosses, aI G 4 cr), (trueMasses, aI G 8 fm)]) (kc' := 0) (ks' := 0) rfl rfl rfl rfl rfl ?_
          refine z_run X bv_X10_hums_45_51 kv_X10_hums_45_51 (lv' := [(6, .int i_), (4, .long l_), (3, .int f_), (0, .ref x), (1, .int bq), (2, .int wq)]) (st' := [.int 1, .int i_, .int bq, .ref x, .long rz_5.toInt64]) rfl ?_
          refine z_callV X k_10_176 (cv_X10_feltTrulyF l G x (.ref told) x_reader ring speeds x_wheel x_trials x_span x_search x_kept crosses trueMasses x_thought x_up x_low x_fits x_pulls hc rp rx ry g_rr rh g_rd ph po fp fx fy fh sc sf so sX0 sX1 sX2 ff fo cr fm bq i_ 1 hci bi i_.toInt 1 hhc hbq rfl (show (1 : Int32).toInt = 1 from by decide) (by omega) (by omega) (by omega) (by omega)) dv_X10_hums_51 2 rfl rfl rfl ⟨Nat.le_of_ble_eq_true rfl, Nat.le_of_ble_eq_true rfl⟩ ⟨Nat.le_of_ble_eq_true rfl, Nat.le_of_ble_eq_true rfl⟩ rfl (rest := [.long rz_5.toInt64]) (As := [.int bq, .int i_, .int 1]) rfl (Nat.le_of_ble_eq_true rfl) [2, 3, 4, 5, 6, 7, 8, 9, 10, 11, 12] [0, 1] rfl (by decide) (wr := [(told, ob 8 [.ref tn, .int tl]), (tn, aJ G 16 fn)]) rfl (by decide) (by decide) ?_
          rintro _ _ ⟨rz_7, f51_8, rfl, rfl⟩
          refine Z.at (pc' := 54) (st' := [.int rz_7, .long rz_5.toInt64]) (ws' := [(told, ob 8 [.ref tn, .int tl]), (tn, aJ G 16 fn), (x, ob 10 [.ref told, x_reader, .ref ring, .ref speeds, x_wheel, x_trials, x_span, x_search, x_kept, .ref crosses, .ref trueMasses, x_thought, x_up, x_low, x_fits, x_pulls]), (ring, ob 5 [.int hc, .ref rp, .ref rx, .ref ry, g_rr, .ref rh, g_rd, .int ph, .int po]), (rp, aI G 16 fp), (rx, aI G 16 fx), (ry, aI G 16 fy), (rh, aI G 16 fh), (speeds, ob 7 [.int sc, .ref sf, .ref so, sX0, sX1, sX2]), (sf, aI G 6 ff), (so, aI G 6 fo), (crosses, aI G 4 cr), (trueMasses, aI G 8 fm)]) (kc' := 0) (ks' := 0) rfl rfl rfl rfl rfl ?_
          refine z_run X bv_X10_hums_54_55 kv_X10_hums_54_55 (lv' := [(6, .int i_), (4, .long l_), (3, .int f_), (0, .ref x), (1, .int bq), (2, .int wq)]) (st' := [.long rz_7.toInt64, .long rz_5.toInt64]) rfl ?_
          refine z_callS X k_10_187 (cv_X10_sizeOfF l G rz_5.toInt64 rz_7.toInt64) dv_X10_hums_55 ⟨Nat.le_of_ble_eq_true rfl, Nat.le_of_ble_eq_true rfl⟩ ⟨Nat.le_of_ble_eq_true rfl, Nat.le_of_ble_eq_true rfl⟩ rfl (rest := []) (As := [.long rz_5.toInt64, .long rz_7.toInt64]) rfl (Nat.le_of_ble_eq_true rfl) [] [0, 1, 2, 3, 4, 5, 6, 7, 8, 9, 10, 11, 12] rfl (by decide) (wr := [(told, ob 8 [.ref tn, .int tl]), (tn, aJ G 16 fn), (x, ob 10 [.ref told, x_reader, .ref ring, .ref speeds, x_wheel, x_trials, x_span, x_search, x_kept, .ref crosses, .ref trueMasses, x_thought, x_up, x_low, x_fits, x_pulls]), (ring, ob 5 [.int hc, .ref rp, .ref rx, .ref ry, g_rr, .ref rh, g_rd, .int ph, .int po]), (rp, aI G 16 fp), (rx, aI G 16 fx), (ry, aI G 16 fy), (rh, aI G 16 fh), (speeds, ob 7 [.int sc, .ref sf, .ref so, sX0, sX1, sX2]), (sf, aI G 6 ff), (so, aI G 6 fo), (crosses, aI G 4 cr), (trueMasses, aI G 8 fm)]) rfl (by decide) (by decide) ?_
          rintro _ _ ⟨rz_9, f55_10, rfl, rfl⟩
          refine Z.at (pc' := 58) (st' := [.long rz_9]) (ws' := [(told, ob 8 [.ref tn, .int tl]), (tn, aJ G 16 fn), (x, ob 10 [.ref told, x_reader, .ref ring, .ref speeds, x_wheel, x_trials, x_span, x_search, x_kept, .ref crosses, .ref trueMasses, x_thought, x_up, x_low, x_fits, x_pulls]), (ring, ob 5 [.int hc, .ref rp, .ref rx, .ref ry, g_rr, .ref rh, g_rd, .int ph, .int po]), (rp, aI G 16 fp), (rx, aI G 16 fx), (ry, aI G 16 fy), (rh, aI G 16 fh), (speeds, ob 7 [.int sc, .ref sf, .ref so, sX0, sX1, sX2]), (sf, aI G 6 ff), (so, aI G 6 fo), (crosses, aI G 4 cr), (trueMasses, aI G 8 fm)]) (kc' := 0) (ks' := 0) rfl rfl rfl rfl rfl ?_
          refine z_run X bv_X10_hums_58_61 kv_X10_hums_58_61 (lv' := [(7, .long rz_9), (6, .int i_), (4, .long l_), (3, .int f_), (0, .ref x), (1, .int bq), (2, .int wq)]) (st' := [.int f_]) rfl ?_
          refine zi_lt X dv_X10_hums_61 (tgt := 87) (by decide) (a := f_.toInt) rfl (fun c61_11 => ?_) (fun c61_11 => ?_)
          ·
            refine z_run X bv_X10_hums_87_97 kv_X10_hums_87_97 (lv' := [(6, .int (i_ + 1)), (4, .long rz_9), (3, .int i_), (7, .long rz_9), (0, .ref x), (1, .int bq), (2, .int wq)]) (st' := []) rfl ?_
            refine z_goto X dv_X10_hums_97 (tgt := 25) (by decide) ?_
            refine Z.sub (lv' := [(6, .int (i_ + 1)), (4, .long rz_9), (3, .int i_), (0, .ref x), (1, .int bq), (2, .int wq)]) [0, 1, 2, 4, 5, 6] rfl [2, 0, 1, 3, 4, 5, 6, 7, 8, 9, 10, 11, 12] (ws' := [(x, ob 10 [.ref told, x_reader, .ref ring, .ref speeds, x_wheel, x_trials, x_span, x_search, x_kept, .ref crosses, .ref trueMasses, x_thought, x_up, x_low, x_fits, x_pulls]), (told, ob 8 [.ref tn, .int tl]), (tn, aJ G 16 fn), (ring, ob 5 [.int hc, .ref rp, .ref rx, .ref ry, g_rr, .ref rh, g_rd, .int ph, .int po]), (rp, aI G 16 fp), (rx, aI G 16 fx), (ry, aI G 16 fy), (rh, aI G 16 fh), (speeds, ob 7 [.int sc, .ref sf, .ref so, sX0, sX1, sX2]), (sf, aI G 6 ff), (so, aI G 6 fo), (crosses, aI G 4 cr), (trueMasses, aI G 8 fm)]) rfl (by decide) ?_
            exact ih25 ((i_ + 1), i_, rz_9) ⟨(by dsimp only; have e : (i_ + 1).toInt = i_.toInt + 1 := tI_add rfl (show (1 : Int32).toInt = 1 from by decide) (by omega); omega), (by dsimp only; have e : (i_ + 1).toInt = i_.toInt + 1 := tI_add rfl (show (1 : Int32).toInt = 1 from by decide) (by omega); rw [e, show (i_.toInt + 1).toNat = i_.toInt.toNat + 1 by omega]; exact (hb_.new (by omega) (show rz_9.toInt = _ from by rw [f55_10, f42_6, f51_8]; rfl) (by omega)))⟩ (by dsimp only; have e : (i_ + 1).toInt = i_.toInt + 1 := tI_add rfl (show (1 : Int32).toInt = 1 from by decide) (by omega); omega)
          ·
            refine z_run X bv_X10_hums_64_65 kv_X10_hums_64_65 (lv' := [(7, .long rz_9), (6, .int i_), (4, .long l_), (3, .int f_), (0, .ref x), (1, .int bq), (2, .int wq)]) (st' := [.int wq]) rfl ?_
            refine zi_ne X dv_X10_hums_65 (tgt := 79) (by decide) (a := wi) hwq (fun c65_12 => ?_) (fun c65_12 => ?_)
            ·
              refine z_run X bv_X10_hums_79_83 kv_X10_hums_79_83 (lv' := [(7, .long rz_9), (6, .int i_), (4, .long l_), (3, .int f_), (0, .ref x), (1, .int bq), (2, .int wq)]) (st' := [.long l_, .long rz_9]) rfl ?_
              refine zl_ge X dv_X10_hums_83 dv_X10_hums_84 (tgt := 94) (by decide) (a := rz_9.toInt) (b := l_.toInt) rfl rfl (fun c83_13 => ?_) (fun c83_13 => ?_)
              ·
                refine z_run X bv_X10_hums_94_97 kv_X10_hums_94_97 (lv' := [(6, .int (i_ + 1)), (7, .long rz_9), (4, .long l_), (3, .int f_), (0, .ref x), (1, .int bq), (2, .int wq)]) (st' := []) rfl ?_
                refine z_goto X dv_X10_hums_97 (tgt := 25) (by decide) ?_
                refine Z.sub (lv' := [(6, .int (i_ + 1)), (4, .long l_), (3, .int f_), (0, .ref x), (1, .int bq), (2, .int wq)]) [0, 2, 3, 4, 5, 6] rfl [2, 0, 1, 3, 4, 5, 6, 7, 8, 9, 10, 11, 12] (ws' := [(x, ob 10 [.ref told, x_reader, .ref ring, .ref speeds, x_wheel, x_trials, x_span, x_search, x_kept, .ref crosses, .ref trueMasses, x_thought, x_up, x_low, x_fits, x_pulls]), (told, ob 8 [.ref tn, .int tl]), (tn, aJ G 16 fn), (ring, ob 5 [.int hc, .ref rp, .ref rx, .ref ry, g_rr, .ref rh, g_rd, .int ph, .int po]), (rp, aI G 16 fp), (rx, aI G 16 fx), (ry, aI G 16 fy), (rh, aI G 16 fh), (speeds, ob 7 [.int sc, .ref sf, .ref so, sX0, sX1, sX2]), (sf, aI G 6 ff), (so, aI G 6 fo), (crosses, aI G 4 cr), (trueMasses, aI G 8 fm)]) rfl (by decide) ?_
                exact ih25 ((i_ + 1), f_, l_) ⟨(by dsimp only; have e : (i_ + 1).toInt = i_.toInt + 1 := tI_add rfl (show (1 : Int32).toInt = 1 from by decide) (by omega); omega), (by dsimp only; have e : (i_ + 1).toInt = i_.toInt + 1 := tI_add rfl (show (1 : Int32).toInt = 1 from by decide) (by omega); rw [e, show (i_.toInt + 1).toNat = i_.toInt.toNat + 1 by omega]; exact (hb_.old (by decide) (by omega) (by omega) (show rz_9.toInt = _ from by rw [f55_10, f42_6, f51_8]; rfl)))⟩ (by dsimp only; have e : (i_ + 1).toInt = i_.toInt + 1 := tI_add rfl (show (1 : Int32).toInt = 1 from by decide) (by omega); omega)
              ·
                refine z_run X bv_X10_hums_87_97 kv_X10_hums_87_97 (lv' := [(6, .int (i_ + 1)), (4, .long rz_9), (3, .int i_), (7, .long rz_9), (0, .ref x), (1, .int bq), (2, .int wq)]) (st' := []) rfl ?_
                refine z_goto X dv_X10_hums_97 (tgt := 25) (by decide) ?_
                refine Z.sub (lv' := [(6, .int (i_ + 1)), (4, .long rz_9), (3, .int i_), (0, .ref x), (1, .int bq), (2, .int wq)]) [0, 1, 2, 4, 5, 6] rfl [2, 0, 1, 3, 4, 5, 6, 7, 8, 9, 10, 11, 12] (ws' := [(x, ob 10 [.ref told, x_reader, .ref ring, .ref speeds, x_wheel, x_trials, x_span, x_search, x_kept, .ref crosses, .ref trueMasses, x_thought, x_up, x_low, x_fits, x_pulls]), (told, ob 8 [.ref tn, .int tl]), (tn, aJ G 16 fn), (ring, ob 5 [.int hc, .ref rp, .ref rx, .ref ry, g_rr, .ref rh, g_rd, .int ph, .int po]), (rp, aI G 16 fp), (rx, aI G 16 fx), (ry, aI G 16 fy), (rh, aI G 16 fh), (speeds, ob 7 [.int sc, .ref sf, .ref so, sX0, sX1, sX2]), (sf, aI G 6 ff), (so, aI G 6 fo), (crosses, aI G 4 cr), (trueMasses, aI G 8 fm)]) rfl (by decide) ?_
                exact ih25 ((i_ + 1), i_, rz_9) ⟨(by dsimp only; have e : (i_ + 1).toInt = i_.toInt + 1 := tI_add rfl (show (1 : Int32).toInt = 1 from by decide) (by omega); omega), (by dsimp only; have e : (i_ + 1).toInt = i_.toInt + 1 := tI_add rfl (show (1 : Int32).toInt = 1 from by decide) (by omega); rw [e, show (i_.toInt + 1).toNat = i_.toInt.toNat + 1 by omega]; exact (hb_.new (by omega) (show rz_9.toInt = _ from by rw [f55_10, f42_6, f51_8]; rfl) (by omega)))⟩ (by dsimp only; have e : (i_ + 1).toInt = i_.toInt + 1 := tI_add rfl (show (1 : Int32).toInt = 1 from by decide) (by omega); omega)
            ·
              refine z_run X bv_X10_hums_68_72 kv_X10_hums_68_72 (lv' := [(7, .long rz_9), (6, .int i_), (4, .long l_), (3, .int f_), (0, .ref x), (1, .int bq), (2, .int wq)]) (st' := [.long l_, .long rz_9]) rfl ?_
              refine zl_le X dv_X10_hums_72 dv_X10_hums_73 (tgt := 94) (by decide) (a := rz_9.toInt) (b := l_.toInt) rfl rfl (fun c72_14 => ?_) (fun c72_14 => ?_)
              ·
                refine z_run X bv_X10_hums_94_97 kv_X10_hums_94_97 (lv' := [(6, .int (i_ + 1)), (7, .long rz_9), (4, .long l_), (3, .int f_), (0, .ref x), (1, .int bq), (2, .int wq)]) (st' := []) rfl ?_
                refine z_goto X dv_X10_hums_97 (tgt := 25) (by decide) ?_
                refine Z.sub (lv' := [(6, .int (i_ + 1)), (4, .long l_), (3, .int f_), (0, .ref x), (1, .int bq), (2, .int wq)]) [0, 2, 3, 4, 5, 6] rfl [2, 0, 1, 3, 4, 5, 6, 7, 8, 9, 10, 11, 12] (ws' := [(x, ob 10 [.ref told, x_reader, .ref ring, .ref speeds, x_wheel, x_trials, x_span, x_search, x_kept, .ref crosses, .ref trueMasses, x_thought, x_up, x_low, x_fits, x_pulls]), (told, ob 8 [.ref tn, .int tl]), (tn, aJ G 16 fn), (ring, ob 5 [.int hc, .ref rp, .ref rx, .ref ry, g_rr, .ref rh, g_rd, .int ph, .int po]), (rp, aI G 16 fp), (rx, aI G 16 fx), (ry, aI G 16 fy), (rh, aI G 16 fh), (speeds, ob 7 [.int sc, .ref sf, .ref so, sX0, sX1, sX2]), (sf, aI G 6 ff), (so, aI G 6 fo), (crosses, aI G 4 cr), (trueMasses, aI G 8 fm)]) rfl (by decide) ?_
                exact ih25 ((i_ + 1), f_, l_) ⟨(by dsimp only; have e : (i_ + 1).toInt = i_.toInt + 1 := tI_add rfl (show (1 : Int32).toInt = 1 from by decide) (by omega); omega), (by dsimp only; have e : (i_ + 1).toInt = i_.toInt + 1 := tI_add rfl (show (1 : Int32).toInt = 1 from by decide) (by omega); rw [e, show (i_.toInt + 1).toNat = i_.toInt.toNat + 1 by omega]; exact (hb_.old (by decide) (by omega) (by omega) (show rz_9.toInt = _ from by rw [f55_10, f42_6, f51_8]; rfl)))⟩ (by dsimp only; have e : (i_ + 1).toInt = i_.toInt + 1 := tI_add rfl (show (1 : Int32).toInt = 1 from by decide) (by omega); omega)
              ·
                refine z_goto X dv_X10_hums_76 (tgt := 87) (by decide) ?_
                refine z_run X bv_X10_hums_87_97 kv_X10_hums_87_97 (lv' := [(6, .int (i_ + 1)), (4, .long rz_9), (3, .int i_), (7, .long rz_9), (0, .ref x), (1, .int bq), (2, .int wq)]) (st' := []) rfl ?_
                refine z_goto X dv_X10_hums_97 (tgt := 25) (by decide) ?_
                refine Z.sub (lv' := [(6, .int (i_ + 1)), (4, .long rz_9), (3, .int i_), (0, .ref x), (1, .int bq), (2, .int wq)]) [0, 1, 2, 4, 5, 6] rfl [2, 0, 1, 3, 4, 5, 6, 7, 8, 9, 10, 11, 12] (ws' := [(x, ob 10 [.ref told, x_reader, .ref ring, .ref speeds, x_wheel, x_trials, x_span, x_search, x_kept, .ref crosses, .ref trueMasses, x_thought, x_up, x_low, x_fits, x_pulls]), (told, ob 8 [.ref tn, .int tl]), (tn, aJ G 16 fn), (ring, ob 5 [.int hc, .ref rp, .ref rx, .ref ry, g_rr, .ref rh, g_rd, .int ph, .int po]), (rp, aI G 16 fp), (rx, aI G 16 fx), (ry, aI G 16 fy), (rh, aI G 16 fh), (speeds, ob 7 [.int sc, .ref sf, .ref so, sX0, sX1, sX2]), (sf, aI G 6 ff), (so, aI G 6 fo), (crosses, aI G 4 cr), (trueMasses, aI G 8 fm)]) rfl (by decide) ?_
                exact ih25 ((i_ + 1), i_, rz_9) ⟨(by dsimp only; have e : (i_ + 1).toInt = i_.toInt + 1 := tI_add rfl (show (1 : Int32).toInt = 1 from by decide) (by omega); omega), (by dsimp only; have e : (i_ + 1).toInt = i_.toInt + 1 := tI_add rfl (show (1 : Int32).toInt = 1 from by decide) (by omega); rw [e, show (i_.toInt + 1).toNat = i_.toInt.toNat + 1 by omega]; exact (hb_.new (by omega) (show rz_9.toInt = _ from by rw [f55_10, f42_6, f51_8]; rfl) (by omega)))⟩ (by dsimp only; have e : (i_ + 1).toInt = i_.toInt + 1 := tI_add rfl (show (1 : Int32).toInt = 1 from by decide) (by omega); omega)
      · exact ⟨(by dsimp only; have e0 : (0 : Int32).toInt = 0 := (by decide); omega), (by dsimp only; have e0 : (0 : Int32).toInt = 0 := (by decide); rw [e0]; exact Or.inl ⟨(show (-1 : Int) < 0 by decide), by decide⟩)⟩
    ·
      refine z_run X bv_X10_hums_14_15 kv_X10_hums_14_15 (lv' := [(0, .ref x), (1, .int bq), (2, .int wq)]) (st' := [.int (-1)]) rfl ?_
      exact z_iret X rfl dv_X10_hums_15 (Nat.le_of_ble_eq_true rfl) (Nat.le_of_ble_eq_true rfl) ⟨((-1) : Int32), ((show (-1 : Int32).toInt = -1 from by decide).trans (mHums_no (by omega)).symm), rfl⟩

theorem dv_X8_placeOfGreatest_6 : decode cX8_placeOfGreatest 6 = .ok (.getfield 15, 3) := by decide +kernel
theorem dv_X8_placeOfGreatest_9 : decode cX8_placeOfGreatest 9 = .ok (.if_icmp .ge 27, 3) := by decide +kernel
theorem dv_X8_placeOfGreatest_37 : decode cX8_placeOfGreatest 37 = .ok (.ireturn, 1) := by decide +kernel
theorem dv_X8_placeOfGreatest_13 : decode cX8_placeOfGreatest 13 = .ok (.getfield 9, 3) := by decide +kernel
theorem dv_X8_placeOfGreatest_17 : decode cX8_placeOfGreatest 17 = .ok (.laload, 1) := by decide +kernel
theorem dv_X8_placeOfGreatest_19 : decode cX8_placeOfGreatest 19 = .ok (.getfield 9, 3) := by decide +kernel
theorem dv_X8_placeOfGreatest_23 : decode cX8_placeOfGreatest 23 = .ok (.laload, 1) := by decide +kernel
theorem dv_X8_placeOfGreatest_24 : decode cX8_placeOfGreatest 24 = .ok (.lcmp, 1) := by decide +kernel
theorem dv_X8_placeOfGreatest_25 : decode cX8_placeOfGreatest 25 = .ok (.ifCond .le 5, 3) := by decide +kernel
theorem dv_X8_placeOfGreatest_33 : decode cX8_placeOfGreatest 33 = .ok (.goto (-29), 3) := by decide +kernel
abbrev bv_X8_placeOfGreatest_0_4 : ZB := [(.iconst 0, .int 0), (.istore_n 1, .null), (.iconst 1, .int 1), (.istore_n 2, .null)]
theorem kv_X8_placeOfGreatest_0_4 : zchk cX8_placeOfGreatest bv_X8_placeOfGreatest_0_4 0 = true ∧ zpc bv_X8_placeOfGreatest_0_4 0 = 4 := ⟨by decide +kernel, rfl⟩
abbrev bv_X8_placeOfGreatest_4_6 : ZB := [(.iload_n 2, .null), (.aload_n 0, .null)]
theorem kv_X8_placeOfGreatest_4_6 : zchk cX8_placeOfGreatest bv_X8_placeOfGreatest_4_6 4 = true ∧ zpc bv_X8_placeOfGreatest_4_6 4 = 6 := ⟨by decide +kernel, rfl⟩
abbrev bv_X8_placeOfGreatest_36_37 : ZB := [(.iload_n 1, .null)]
theorem kv_X8_placeOfGreatest_36_37 : zchk cX8_placeOfGreatest bv_X8_placeOfGreatest_36_37 36 = true ∧ zpc bv_X8_placeOfGreatest_36_37 36 = 37 := ⟨by decide +kernel, rfl⟩
abbrev bv_X8_placeOfGreatest_12_13 : ZB := [(.aload_n 0, .null)]
theorem kv_X8_placeOfGreatest_12_13 : zchk cX8_placeOfGreatest bv_X8_placeOfGreatest_12_13 12 = true ∧ zpc bv_X8_placeOfGreatest_12_13 12 = 13 := ⟨by decide +kernel, rfl⟩
abbrev bv_X8_placeOfGreatest_16_17 : ZB := [(.iload_n 2, .null)]
theorem kv_X8_placeOfGreatest_16_17 : zchk cX8_placeOfGreatest bv_X8_placeOfGreatest_16_17 16 = true ∧ zpc bv_X8_placeOfGreatest_16_17 16 = 17 := ⟨by decide +kernel, rfl⟩
abbrev bv_X8_placeOfGreatest_18_19 : ZB := [(.aload_n 0, .null)]
theorem kv_X8_placeOfGreatest_18_19 : zchk cX8_placeOfGreatest bv_X8_placeOfGreatest_18_19 18 = true ∧ zpc bv_X8_placeOfGreatest_18_19 18 = 19 := ⟨by decide +kernel, rfl⟩
abbrev bv_X8_placeOfGreatest_22_23 : ZB := [(.iload_n 1, .null)]
theorem kv_X8_placeOfGreatest_22_23 : zchk cX8_placeOfGreatest bv_X8_placeOfGreatest_22_23 22 = true ∧ zpc bv_X8_placeOfGreatest_22_23 22 = 23 := ⟨by decide +kernel, rfl⟩
abbrev bv_X8_placeOfGreatest_30_33 : ZB := [(.iinc 2 1, .int 1)]
theorem kv_X8_placeOfGreatest_30_33 : zchk cX8_placeOfGreatest bv_X8_placeOfGreatest_30_33 30 = true ∧ zpc bv_X8_placeOfGreatest_30_33 30 = 33 := ⟨by decide +kernel, rfl⟩
abbrev bv_X8_placeOfGreatest_28_33 : ZB := [(.iload_n 2, .null), (.istore_n 1, .null), (.iinc 2 1, .int 1)]
theorem kv_X8_placeOfGreatest_28_33 : zchk cX8_placeOfGreatest bv_X8_placeOfGreatest_28_33 28 = true ∧ zpc bv_X8_placeOfGreatest_28_33 28 = 33 := ⟨by decide +kernel, rfl⟩
set_option maxHeartbeats 4000000 in
set_option maxRecDepth 100000 in
theorem cv_X8_placeOfGreatestF (l : Launch) (G : KG) (told : Nat) (tn : Nat) (tl : Int32) (fn : Nat → Int64) (tli : Int) (htl : tl.toInt = tli) (ht4 : 1 ≤ tli ∧ tli ≤ 16) : Ct l G yX8_placeOfGreatest cX8_placeOfGreatest 3 (some .int) { frames := 0, cells := 0, slots := 0, locals := 0 } [.ref told] [(told, ob 8 [.ref tn, .int tl]), (tn, aJ G 16 fn)] (fun r w1 => ∃ (rz : Int32), (rz.toInt = (gp fn tli.toNat : Int)) ∧ r = some (.int rz) ∧ w1 = [(told, ob 8 [.ref tn, .int tl]), (tn, aJ G 16 fn)]) := by
  refine ct_of [(0, .ref told)] (by decide) (Nat.le_of_ble_eq_true rfl) rfl ?_
  intro p0 e0 s0 m0 args0 below0 meth0 c0 A X
  refine z_run X bv_X8_placeOfGreatest_0_4 kv_X8_placeOfGreatest_0_4 (lv' := [(2, .int 1), (1, .int 0), (0, .ref told)]) (st' := []) rfl ?_
  refine zloop (σ := Int32 × Int32) (fun z => [(2, .int z.1), (1, .int z.2), (0, .ref told)]) (fun z => []) (fun z => [(told, ob 8 [.ref tn, .int tl]), (tn, aJ G 16 fn)]) (fun z => (1 ≤ z.1.toInt ∧ z.1.toInt ≤ tli) ∧ (0 ≤ z.2.toInt ∧ z.2.toInt < z.1.toInt) ∧ (z.2.toInt.toNat = gp fn z.1.toInt.toNat)) (fun z => (tli - z.1.toInt).toNat) (1, 0) ?_ ?_
  ·
    rintro ⟨i_, f_⟩ ⟨hi, hf_, hg_⟩ ih4
    dsimp only at *
    refine z_run X bv_X8_placeOfGreatest_4_6 kv_X8_placeOfGreatest_4_6 (lv' := [(2, .int i_), (1, .int f_), (0, .ref told)]) (st' := [.ref told, .int i_]) rfl ?_
    refine z_get X fl_8_15 dv_X8_placeOfGreatest_6 0 rfl (v := .int tl) rfl ?_
    refine zc_ge X dv_X8_placeOfGreatest_9 (tgt := 36) (by decide) (a := i_.toInt) (b := tli) rfl htl (fun c9_1 => ?_) (fun c9_1 => ?_)
    ·
      refine z_run X bv_X8_placeOfGreatest_36_37 kv_X8_placeOfGreatest_36_37 (lv' := [(2, .int i_), (1, .int f_), (0, .ref told)]) (st' := [.int f_]) rfl ?_
      exact z_iret X rfl dv_X8_placeOfGreatest_37 (Nat.le_of_ble_eq_true rfl) (Nat.le_of_ble_eq_true rfl) ⟨f_, (by rw [show tli.toNat = i_.toInt.toNat by omega, ← hg_]; omega), rfl, rfl⟩
    ·
      refine z_run X bv_X8_placeOfGreatest_12_13 kv_X8_placeOfGreatest_12_13 (lv' := [(2, .int i_), (1, .int f_), (0, .ref told)]) (st' := [.ref told]) rfl ?_
      refine z_get X fl_8_9 dv_X8_placeOfGreatest_13 0 rfl (v := .ref tn) rfl ?_
      refine z_run X bv_X8_placeOfGreatest_16_17 kv_X8_placeOfGreatest_16_17 (lv' := [(2, .int i_), (1, .int f_), (0, .ref told)]) (st' := [.int i_, .ref tn]) rfl ?_
      refine z_lald X dv_X8_placeOfGreatest_17 1 rfl (vin rfl (by omega) (by omega)) (v := (fn i_.toNatClampNeg)) rfl ?_
      refine z_run X bv_X8_placeOfGreatest_18_19 kv_X8_placeOfGreatest_18_19 (lv' := [(2, .int i_), (1, .int f_), (0, .ref told)]) (st' := [.ref told, .long (fn i_.toNatClampNeg)]) rfl ?_
      refine z_get X fl_8_9 dv_X8_placeOfGreatest_19 0 rfl (v := .ref tn) rfl ?_
      refine z_run X bv_X8_placeOfGreatest_22_23 kv_X8_placeOfGreatest_22_23 (lv' := [(2, .int i_), (1, .int f_), (0, .ref told)]) (st' := [.int f_, .ref tn, .long (fn i_.toNatClampNeg)]) rfl ?_
      refine z_lald X dv_X8_placeOfGreatest_23 1 rfl (vin rfl (by omega) (by omega)) (v := (fn f_.toNatClampNeg)) rfl ?_
      refine zl_le X dv_X8_placeOfGreatest_24 dv_X8_placeOfGreatest_25 (tgt := 30) (by decide) (a := (fn i_.toNatClampNeg).toInt) (b := (fn f_.toNatClampNeg).toInt) rfl rfl (fun c24_2 => ?_) (fun c24_2 => ?_)
      ·
        refine z_run X bv_X8_placeOfGreatest_30_33 kv_X8_placeOfGreatest_30_33 (lv' := [(2, .int (i_ + 1)), (1, .int f_), (0, .ref told)]) (st' := []) rfl ?_
        refine z_goto X dv_X8_placeOfGreatest_33 (tgt := 4) (by decide) ?_
        exact ih4 ((i_ + 1), f_) ⟨(by dsimp only; have e : (i_ + 1).toInt = i_.toInt + 1 := tI_add rfl (show (1 : Int32).toInt = 1 from by decide) (by omega); omega), (by dsimp only; have e : (i_ + 1).toInt = i_.toInt + 1 := tI_add rfl (show (1 : Int32).toInt = 1 from by decide) (by omega); omega), (by dsimp only; have e : (i_ + 1).toInt = i_.toInt + 1 := tI_add rfl (show (1 : Int32).toInt = 1 from by decide) (by omega); rw [e, show (i_.toInt + 1).toNat = i_.toInt.toNat + 1 by omega]; exact hg_.trans ((gp_no (f := fn) (show ¬ (fn (gp fn i_.toInt.toNat)).toInt < (fn i_.toInt.toNat).toInt from by rw [← hg_]; show ¬ (fn f_.toNatClampNeg).toInt < (fn i_.toNatClampNeg).toInt; omega)).symm))⟩ (by dsimp only; have e : (i_ + 1).toInt = i_.toInt + 1 := tI_add rfl (show (1 : Int32).toInt = 1 from by decide) (by omega); omega)
      ·
        refine z_run X bv_X8_placeOfGreatest_28_33 kv_X8_placeOfGreatest_28_33 (lv' := [(2, .int (i_ + 1)), (1, .int i_), (0, .ref told)]) (st' := []) rfl ?_
        refine z_goto X dv_X8_placeOfGreatest_33 (tgt := 4) (by decide) ?_
        exact ih4 ((i_ + 1), i_) ⟨(by dsimp only; have e : (i_ + 1).toInt = i_.toInt + 1 := tI_add rfl (show (1 : Int32).toInt = 1 from by decide) (by omega); omega), (by dsimp only; have e : (i_ + 1).toInt = i_.toInt + 1 := tI_add rfl (show (1 : Int32).toInt = 1 from by decide) (by omega); omega), (by dsimp only; have e : (i_ + 1).toInt = i_.toInt + 1 := tI_add rfl (show (1 : Int32).toInt = 1 from by decide) (by omega); rw [e, show (i_.toInt + 1).toNat = i_.toInt.toNat + 1 by omega]; exact ((gp_yes (f := fn) (show (fn (gp fn i_.toInt.toNat)).toInt < (fn i_.toInt.toNat).toInt from by rw [← hg_]; show (fn f_.toNatClampNeg).toInt < (fn i_.toNatClampNeg).toInt; omega)).symm))⟩ (by dsimp only; have e : (i_ + 1).toInt = i_.toInt + 1 := tI_add rfl (show (1 : Int32).toInt = 1 from by decide) (by omega); omega)
  · exact ⟨(by dsimp only; have e1 : (1 : Int32).toInt = 1 := (by decide); omega), (by dsimp only; decide), (by dsimp only; exact gp_1.symm)⟩

theorem dv_X10_part_1 : decode cX10_part 1 = .ok (.getfield 33, 3) := by decide +kernel
theorem dv_X10_part_5 : decode cX10_part 5 = .ok (.invokevirtual 173, 3) := by decide +kernel
theorem dv_X10_part_8 : decode cX10_part 8 = .ok (.ifCond .ne 5, 3) := by decide +kernel
theorem dv_X10_part_14 : decode cX10_part 14 = .ok (.getfield 12, 3) := by decide +kernel
theorem dv_X10_part_17 : decode cX10_part 17 = .ok (.invokevirtual 180, 3) := by decide +kernel
theorem dv_X10_part_24 : decode cX10_part 24 = .ok (.if_icmp .ge 81, 3) := by decide +kernel
theorem dv_X10_part_28 : decode cX10_part 28 = .ok (.getfield 33, 3) := by decide +kernel
theorem dv_X10_part_31 : decode cX10_part 31 = .ok (.getfield 195, 3) := by decide +kernel
theorem dv_X10_part_35 : decode cX10_part 35 = .ok (.iaload, 1) := by decide +kernel
theorem dv_X10_part_37 : decode cX10_part 37 = .ok (.getfield 71, 3) := by decide +kernel
theorem dv_X10_part_41 : decode cX10_part 41 = .ok (.iaload, 1) := by decide +kernel
theorem dv_X10_part_46 : decode cX10_part 46 = .ok (.getfield 12, 3) := by decide +kernel
theorem dv_X10_part_51 : decode cX10_part 51 = .ok (.getfield 75, 3) := by decide +kernel
theorem dv_X10_part_57 : decode cX10_part 57 = .ok (.iaload, 1) := by decide +kernel
theorem dv_X10_part_59 : decode cX10_part 59 = .ok (.getfield 26, 3) := by decide +kernel
theorem dv_X10_part_64 : decode cX10_part 64 = .ok (.invokevirtual 192, 3) := by decide +kernel
theorem dv_X10_part_72 : decode cX10_part 72 = .ok (.getfield 75, 3) := by decide +kernel
theorem dv_X10_part_80 : decode cX10_part 80 = .ok (.iaload, 1) := by decide +kernel
theorem dv_X10_part_82 : decode cX10_part 82 = .ok (.getfield 26, 3) := by decide +kernel
theorem dv_X10_part_87 : decode cX10_part 87 = .ok (.invokevirtual 192, 3) := by decide +kernel
theorem dv_X10_part_93 : decode cX10_part 93 = .ok (.invokestatic 187, 3) := by decide +kernel
theorem dv_X10_part_96 : decode cX10_part 96 = .ok (.invokevirtual 183, 3) := by decide +kernel
theorem dv_X10_part_102 : decode cX10_part 102 = .ok (.goto (-80), 3) := by decide +kernel
theorem dv_X10_part_106 : decode cX10_part 106 = .ok (.getfield 33, 3) := by decide +kernel
theorem dv_X10_part_109 : decode cX10_part 109 = .ok (.getfield 202, 3) := by decide +kernel
theorem dv_X10_part_113 : decode cX10_part 113 = .ok (.iaload, 1) := by decide +kernel
theorem dv_X10_part_117 : decode cX10_part 117 = .ok (.getfield 12, 3) := by decide +kernel
theorem dv_X10_part_122 : decode cX10_part 122 = .ok (.getfield 75, 3) := by decide +kernel
theorem dv_X10_part_126 : decode cX10_part 126 = .ok (.iaload, 1) := by decide +kernel
theorem dv_X10_part_131 : decode cX10_part 131 = .ok (.getfield 75, 3) := by decide +kernel
theorem dv_X10_part_135 : decode cX10_part 135 = .ok (.iaload, 1) := by decide +kernel
theorem dv_X10_part_138 : decode cX10_part 138 = .ok (.invokestatic 187, 3) := by decide +kernel
theorem dv_X10_part_141 : decode cX10_part 141 = .ok (.invokevirtual 183, 3) := by decide +kernel
theorem dv_X10_part_145 : decode cX10_part 145 = .ok (.getfield 12, 3) := by decide +kernel
theorem dv_X10_part_149 : decode cX10_part 149 = .ok (.getfield 75, 3) := by decide +kernel
theorem dv_X10_part_154 : decode cX10_part 154 = .ok (.iaload, 1) := by decide +kernel
theorem dv_X10_part_157 : decode cX10_part 157 = .ok (.getfield 75, 3) := by decide +kernel
theorem dv_X10_part_162 : decode cX10_part 162 = .ok (.iaload, 1) := by decide +kernel
theorem dv_X10_part_164 : decode cX10_part 164 = .ok (.invokestatic 187, 3) := by decide +kernel
theorem dv_X10_part_167 : decode cX10_part 167 = .ok (.invokevirtual 183, 3) := by decide +kernel
theorem dv_X10_part_171 : decode cX10_part 171 = .ok (.getfield 12, 3) := by decide +kernel
theorem dv_X10_part_174 : decode cX10_part 174 = .ok (.invokevirtual 449, 3) := by decide +kernel
theorem dv_X10_part_177 : decode cX10_part 177 = .ok (.ireturn, 1) := by decide +kernel
theorem dv_X10_part_12 : decode cX10_part 12 = .ok (.ireturn, 1) := by decide +kernel
abbrev bv_X10_part_0_1 : ZB := [(.aload_n 0, .null)]
theorem kv_X10_part_0_1 : zchk cX10_part bv_X10_part_0_1 0 = true ∧ zpc bv_X10_part_0_1 0 = 1 := ⟨by decide +kernel, rfl⟩
abbrev bv_X10_part_4_5 : ZB := [(.iload_n 1, .null)]
theorem kv_X10_part_4_5 : zchk cX10_part bv_X10_part_4_5 4 = true ∧ zpc bv_X10_part_4_5 4 = 5 := ⟨by decide +kernel, rfl⟩
abbrev bv_X10_part_13_14 : ZB := [(.aload_n 0, .null)]
theorem kv_X10_part_13_14 : zchk cX10_part bv_X10_part_13_14 13 = true ∧ zpc bv_X10_part_13_14 13 = 14 := ⟨by decide +kernel, rfl⟩
abbrev bv_X10_part_20_24 : ZB := [(.iconst 0, .int 0), (.istore_n 2, .null), (.iload_n 2, .null), (.iconst 2, .int 2)]
theorem kv_X10_part_20_24 : zchk cX10_part bv_X10_part_20_24 20 = true ∧ zpc bv_X10_part_20_24 20 = 24 := ⟨by decide +kernel, rfl⟩
abbrev bv_X10_part_27_28 : ZB := [(.aload_n 0, .null)]
theorem kv_X10_part_27_28 : zchk cX10_part bv_X10_part_27_28 27 = true ∧ zpc bv_X10_part_27_28 27 = 28 := ⟨by decide +kernel, rfl⟩
abbrev bv_X10_part_34_35 : ZB := [(.iload_n 1, .null)]
theorem kv_X10_part_34_35 : zchk cX10_part bv_X10_part_34_35 34 = true ∧ zpc bv_X10_part_34_35 34 = 35 := ⟨by decide +kernel, rfl⟩
abbrev bv_X10_part_36_37 : ZB := [(.aload_n 0, .null)]
theorem kv_X10_part_36_37 : zchk cX10_part bv_X10_part_36_37 36 = true ∧ zpc bv_X10_part_36_37 36 = 37 := ⟨by decide +kernel, rfl⟩
abbrev bv_X10_part_40_41 : ZB := [(.iload_n 2, .null)]
theorem kv_X10_part_40_41 : zchk cX10_part bv_X10_part_40_41 40 = true ∧ zpc bv_X10_part_40_41 40 = 41 := ⟨by decide +kernel, rfl⟩
abbrev bv_X10_part_42_46 : ZB := [(.imul, .null), (.i2l, .null), (.lstore_n 3, .null), (.aload_n 0, .null)]
theorem kv_X10_part_42_46 : zchk cX10_part bv_X10_part_42_46 42 = true ∧ zpc bv_X10_part_42_46 42 = 46 := ⟨by decide +kernel, rfl⟩
abbrev bv_X10_part_49_51 : ZB := [(.lload_n 3, .null), (.aload_n 0, .null)]
theorem kv_X10_part_49_51 : zchk cX10_part bv_X10_part_49_51 49 = true ∧ zpc bv_X10_part_49_51 49 = 51 := ⟨by decide +kernel, rfl⟩
abbrev bv_X10_part_54_57 : ZB := [(.iconst 2, .int 2), (.iload_n 2, .null), (.imul, .null)]
theorem kv_X10_part_54_57 : zchk cX10_part bv_X10_part_54_57 54 = true ∧ zpc bv_X10_part_54_57 54 = 57 := ⟨by decide +kernel, rfl⟩
abbrev bv_X10_part_58_59 : ZB := [(.aload_n 0, .null)]
theorem kv_X10_part_58_59 : zchk cX10_part bv_X10_part_58_59 58 = true ∧ zpc bv_X10_part_58_59 58 = 59 := ⟨by decide +kernel, rfl⟩
abbrev bv_X10_part_62_64 : ZB := [(.iload_n 2, .null), (.iconst 0, .int 0)]
theorem kv_X10_part_62_64 : zchk cX10_part bv_X10_part_62_64 62 = true ∧ zpc bv_X10_part_62_64 62 = 64 := ⟨by decide +kernel, rfl⟩
abbrev bv_X10_part_67_72 : ZB := [(.iadd, .null), (.i2l, .null), (.lmul, .null), (.lload_n 3, .null), (.aload_n 0, .null)]
theorem kv_X10_part_67_72 : zchk cX10_part bv_X10_part_67_72 67 = true ∧ zpc bv_X10_part_67_72 67 = 72 := ⟨by decide +kernel, rfl⟩
abbrev bv_X10_part_75_80 : ZB := [(.iconst 2, .int 2), (.iload_n 2, .null), (.imul, .null), (.iconst 1, .int 1), (.iadd, .null)]
theorem kv_X10_part_75_80 : zchk cX10_part bv_X10_part_75_80 75 = true ∧ zpc bv_X10_part_75_80 75 = 80 := ⟨by decide +kernel, rfl⟩
abbrev bv_X10_part_81_82 : ZB := [(.aload_n 0, .null)]
theorem kv_X10_part_81_82 : zchk cX10_part bv_X10_part_81_82 81 = true ∧ zpc bv_X10_part_81_82 81 = 82 := ⟨by decide +kernel, rfl⟩
abbrev bv_X10_part_85_87 : ZB := [(.iload_n 2, .null), (.iconst 1, .int 1)]
theorem kv_X10_part_85_87 : zchk cX10_part bv_X10_part_85_87 85 = true ∧ zpc bv_X10_part_85_87 85 = 87 := ⟨by decide +kernel, rfl⟩
abbrev bv_X10_part_90_93 : ZB := [(.iadd, .null), (.i2l, .null), (.lmul, .null)]
theorem kv_X10_part_90_93 : zchk cX10_part bv_X10_part_90_93 90 = true ∧ zpc bv_X10_part_90_93 90 = 93 := ⟨by decide +kernel, rfl⟩
abbrev bv_X10_part_99_102 : ZB := [(.iinc 2 1, .int 1)]
theorem kv_X10_part_99_102 : zchk cX10_part bv_X10_part_99_102 99 = true ∧ zpc bv_X10_part_99_102 99 = 102 := ⟨by decide +kernel, rfl⟩
abbrev bv_X10_part_22_24 : ZB := [(.iload_n 2, .null), (.iconst 2, .int 2)]
theorem kv_X10_part_22_24 : zchk cX10_part bv_X10_part_22_24 22 = true ∧ zpc bv_X10_part_22_24 22 = 24 := ⟨by decide +kernel, rfl⟩
abbrev bv_X10_part_105_106 : ZB := [(.aload_n 0, .null)]
theorem kv_X10_part_105_106 : zchk cX10_part bv_X10_part_105_106 105 = true ∧ zpc bv_X10_part_105_106 105 = 106 := ⟨by decide +kernel, rfl⟩
abbrev bv_X10_part_112_113 : ZB := [(.iload_n 1, .null)]
theorem kv_X10_part_112_113 : zchk cX10_part bv_X10_part_112_113 112 = true ∧ zpc bv_X10_part_112_113 112 = 113 := ⟨by decide +kernel, rfl⟩
abbrev bv_X10_part_114_117 : ZB := [(.i2l, .null), (.lstore_n 2, .null), (.aload_n 0, .null)]
theorem kv_X10_part_114_117 : zchk cX10_part bv_X10_part_114_117 114 = true ∧ zpc bv_X10_part_114_117 114 = 117 := ⟨by decide +kernel, rfl⟩
abbrev bv_X10_part_120_122 : ZB := [(.lload_n 2, .null), (.aload_n 0, .null)]
theorem kv_X10_part_120_122 : zchk cX10_part bv_X10_part_120_122 120 = true ∧ zpc bv_X10_part_120_122 120 = 122 := ⟨by decide +kernel, rfl⟩
abbrev bv_X10_part_125_126 : ZB := [(.iconst 4, .int 4)]
theorem kv_X10_part_125_126 : zchk cX10_part bv_X10_part_125_126 125 = true ∧ zpc bv_X10_part_125_126 125 = 126 := ⟨by decide +kernel, rfl⟩
abbrev bv_X10_part_127_131 : ZB := [(.i2l, .null), (.lmul, .null), (.lload_n 2, .null), (.aload_n 0, .null)]
theorem kv_X10_part_127_131 : zchk cX10_part bv_X10_part_127_131 127 = true ∧ zpc bv_X10_part_127_131 127 = 131 := ⟨by decide +kernel, rfl⟩
abbrev bv_X10_part_134_135 : ZB := [(.iconst 5, .int 5)]
theorem kv_X10_part_134_135 : zchk cX10_part bv_X10_part_134_135 134 = true ∧ zpc bv_X10_part_134_135 134 = 135 := ⟨by decide +kernel, rfl⟩
abbrev bv_X10_part_136_138 : ZB := [(.i2l, .null), (.lmul, .null)]
theorem kv_X10_part_136_138 : zchk cX10_part bv_X10_part_136_138 136 = true ∧ zpc bv_X10_part_136_138 136 = 138 := ⟨by decide +kernel, rfl⟩
abbrev bv_X10_part_144_145 : ZB := [(.aload_n 0, .null)]
theorem kv_X10_part_144_145 : zchk cX10_part bv_X10_part_144_145 144 = true ∧ zpc bv_X10_part_144_145 144 = 145 := ⟨by decide +kernel, rfl⟩
abbrev bv_X10_part_148_149 : ZB := [(.aload_n 0, .null)]
theorem kv_X10_part_148_149 : zchk cX10_part bv_X10_part_148_149 148 = true ∧ zpc bv_X10_part_148_149 148 = 149 := ⟨by decide +kernel, rfl⟩
abbrev bv_X10_part_152_154 : ZB := [(.bipush 6, .int 6)]
theorem kv_X10_part_152_154 : zchk cX10_part bv_X10_part_152_154 152 = true ∧ zpc bv_X10_part_152_154 152 = 154 := ⟨by decide +kernel, rfl⟩
abbrev bv_X10_part_155_157 : ZB := [(.i2l, .null), (.aload_n 0, .null)]
theorem kv_X10_part_155_157 : zchk cX10_part bv_X10_part_155_157 155 = true ∧ zpc bv_X10_part_155_157 155 = 157 := ⟨by decide +kernel, rfl⟩
abbrev bv_X10_part_160_162 : ZB := [(.bipush 7, .int 7)]
theorem kv_X10_part_160_162 : zchk cX10_part bv_X10_part_160_162 160 = true ∧ zpc bv_X10_part_160_162 160 = 162 := ⟨by decide +kernel, rfl⟩
abbrev bv_X10_part_163_164 : ZB := [(.i2l, .null)]
theorem kv_X10_part_163_164 : zchk cX10_part bv_X10_part_163_164 163 = true ∧ zpc bv_X10_part_163_164 163 = 164 := ⟨by decide +kernel, rfl⟩
abbrev bv_X10_part_170_171 : ZB := [(.aload_n 0, .null)]
theorem kv_X10_part_170_171 : zchk cX10_part bv_X10_part_170_171 170 = true ∧ zpc bv_X10_part_170_171 170 = 171 := ⟨by decide +kernel, rfl⟩
abbrev bv_X10_part_11_12 : ZB := [(.iconst (-1), .int (-1))]
theorem kv_X10_part_11_12 : zchk cX10_part bv_X10_part_11_12 11 = true ∧ zpc bv_X10_part_11_12 11 = 12 := ⟨by decide +kernel, rfl⟩
set_option maxHeartbeats 4000000 in
set_option maxRecDepth 100000 in
theorem cv_X10_partF (l : Launch) (G : KG) (x : Nat) (told : Nat) (x_reader : Value) (ring : Nat) (speeds : Nat) (x_wheel : Value) (x_trials : Value) (x_span : Value) (x_search : Value) (x_kept : Value) (crosses : Nat) (trueMasses : Nat) (x_thought : Value) (x_up : Value) (x_low : Value) (x_fits : Value) (x_pulls : Value) (tn : Nat) (tl : Int32) (fn : Nat → Int64) (hc : Int32) (rp : Nat) (rx : Nat) (ry : Nat) (g_rr : Value) (rh : Nat) (g_rd : Value) (ph : Int32) (po : Int32) (fp : Nat → Int32) (fx : Nat → Int32) (fy : Nat → Int32) (fh : Nat → Int32) (sc : Int32) (sf : Nat) (so : Nat) (sX0 : Value) (sX1 : Value) (sX2 : Value) (ff : Nat → Int32) (fo : Nat → Int32) (cr : Nat → Int32) (fm : Nat → Int32) (sq : Int32) (hci : Int) (sci : Int) (si : Int) (hhc : hc.toInt = hci) (hsc : sc.toInt = sci) (hsq : sq.toInt = si) (hc0 : 0 ≤ hci ∧ hci ≤ 16) (hs6 : 0 ≤ sci ∧ sci ≤ 6) : Ct l G yX10_part cX10_part 5 (some .int) { frames := 2, cells := 0, slots := 0, locals := 48 } [.ref x, .int sq] [(x, ob 10 [.ref told, x_reader, .ref ring, .ref speeds, x_wheel, x_trials, x_span, x_search, x_kept, .ref crosses, .ref trueMasses, x_thought, x_up, x_low, x_fits, x_pulls]), (told, ob 8 [.ref tn, .int tl]), (tn, aJ G 16 fn), (ring, ob 5 [.int hc, .ref rp, .ref rx, .ref ry, g_rr, .ref rh, g_rd, .int ph, .int po]), (rp, aI G 16 fp), (rx, aI G 16 fx), (ry, aI G 16 fy), (rh, aI G 16 fh), (speeds, ob 7 [.int sc, .ref sf, .ref so, sX0, sX1, sX2]), (sf, aI G 6 ff), (so, aI G 6 fo), (crosses, aI G 4 cr), (trueMasses, aI G 8 fm)] (fun r _ => ∃ (rz : Int32), (rz.toInt = mPart si sci (gp (pX hci fp fh fx fy ph po cr fm ff fo sq.toNatClampNeg) 4)) ∧ r = some (.int rz)) := by
  refine ct_of [(0, .ref x), (1, .int sq)] (by decide) (Nat.le_of_ble_eq_true rfl) rfl ?_
  intro p0 e0 s0 m0 args0 below0 meth0 c0 A X
  refine z_run X bv_X10_part_0_1 kv_X10_part_0_1 (lv' := [(0, .ref x), (1, .int sq)]) (st' := [.ref x]) rfl ?_
  refine z_get X fl_10_33 dv_X10_part_1 0 rfl (v := .ref speeds) rfl ?_
  refine z_run X bv_X10_part_4_5 kv_X10_part_4_5 (lv' := [(0, .ref x), (1, .int sq)]) (st' := [.int sq, .ref speeds]) rfl ?_
  refine z_callV X k_10_173 (cv_X7_isSpeedF l G speeds sc sf so sX0 sX1 sX2 sq sci si hsc hsq) dv_X10_part_5 8 rfl rfl rfl ⟨Nat.le_of_ble_eq_true rfl, Nat.le_of_ble_eq_true rfl⟩ ⟨Nat.le_of_ble_eq_true rfl, Nat.le_of_ble_eq_true rfl⟩ rfl (rest := []) (As := [.int sq]) rfl (Nat.le_of_ble_eq_true rfl) [8] [0, 1, 2, 3, 4, 5, 6, 7, 9, 10, 11, 12] rfl (by decide) (wr := [(x, ob 10 [.ref told, x_reader, .ref ring, .ref speeds, x_wheel, x_trials, x_span, x_search, x_kept, .ref crosses, .ref trueMasses, x_thought, x_up, x_low, x_fits, x_pulls]), (told, ob 8 [.ref tn, .int tl]), (tn, aJ G 16 fn), (ring, ob 5 [.int hc, .ref rp, .ref rx, .ref ry, g_rr, .ref rh, g_rd, .int ph, .int po]), (rp, aI G 16 fp), (rx, aI G 16 fx), (ry, aI G 16 fy), (rh, aI G 16 fh), (sf, aI G 6 ff), (so, aI G 6 fo), (crosses, aI G 4 cr), (trueMasses, aI G 8 fm)]) rfl (by decide) (by decide) ?_
  rintro _ _ ⟨rfl, rfl⟩
  refine Z.at (pc' := 8) (st' := [.int (zb (decide (0 ≤ si ∧ si < sci)))]) (ws' := [(x, ob 10 [.ref told, x_reader, .ref ring, .ref speeds, x_wheel, x_trials, x_span, x_search, x_kept, .ref crosses, .ref trueMasses, x_thought, x_up, x_low, x_fits, x_pulls]), (told, ob 8 [.ref tn, .int tl]), (tn, aJ G 16 fn), (ring, ob 5 [.int hc, .ref rp, .ref rx, .ref ry, g_rr, .ref rh, g_rd, .int ph, .int po]), (rp, aI G 16 fp), (rx, aI G 16 fx), (ry, aI G 16 fy), (rh, aI G 16 fh), (sf, aI G 6 ff), (so, aI G 6 fo), (crosses, aI G 4 cr), (trueMasses, aI G 8 fm), (speeds, ob 7 [.int sc, .ref sf, .ref so, sX0, sX1, sX2])]) (kc' := 0) (ks' := 0) rfl rfl rfl rfl rfl ?_
  refine zi_ne_zb X dv_X10_part_8 (tgt := 13) (by decide) (fun c8_1 => ?_) (fun c8_1 => ?_)
  ·
    refine z_run X bv_X10_part_13_14 kv_X10_part_13_14 (lv' := [(0, .ref x), (1, .int sq)]) (st' := [.ref x]) rfl ?_
    refine z_get X fl_10_12 dv_X10_part_14 0 rfl (v := .ref told) rfl ?_
    refine z_callV X k_10_180 (cv_X8_startF l G told tn tl fn) dv_X10_part_17 1 rfl rfl rfl ⟨Nat.le_of_ble_eq_true rfl, Nat.le_of_ble_eq_true rfl⟩ ⟨Nat.le_of_ble_eq_true rfl, Nat.le_of_ble_eq_true rfl⟩ rfl (rest := []) (As := []) rfl (Nat.le_of_ble_eq_true rfl) [1, 2] [0, 3, 4, 5, 6, 7, 8, 9, 10, 11, 12] rfl (by decide) (wr := [(x, ob 10 [.ref told, x_reader, .ref ring, .ref speeds, x_wheel, x_trials, x_span, x_search, x_kept, .ref crosses, .ref trueMasses, x_thought, x_up, x_low, x_fits, x_pulls]), (ring, ob 5 [.int hc, .ref rp, .ref rx, .ref ry, g_rr, .ref rh, g_rd, .int ph, .int po]), (rp, aI G 16 fp), (rx, aI G 16 fx), (ry, aI G 16 fy), (rh, aI G 16 fh), (sf, aI G 6 ff), (so, aI G 6 fo), (crosses, aI G 4 cr), (trueMasses, aI G 8 fm), (speeds, ob 7 [.int sc, .ref sf, .ref so, sX0, sX1, sX2])]) rfl (by decide) (by decide) ?_
    rintro _ _ ⟨rfl, rfl⟩
    refine Z.at (pc' := 20) (st' := []) (ws' := [(x, ob 10 [.ref told, x_reader, .ref ring, .ref speeds, x_wheel, x_trials, x_span, x_search, x_kept, .ref crosses, .ref trueMasses, x_thought, x_up, x_low, x_fits, x_pulls]), (ring, ob 5 [.int hc, .ref rp, .ref rx, .ref ry, g_rr, .ref rh, g_rd, .int ph, .int po]), (rp, aI G 16 fp), (rx, aI G 16 fx), (ry, aI G 16 fy), (rh, aI G 16 fh), (sf, aI G 6 ff), (so, aI G 6 fo), (crosses, aI G 4 cr), (trueMasses, aI G 8 fm), (speeds, ob 7 [.int sc, .ref sf, .ref so, sX0, sX1, sX2]), (told, ob 8 [.ref tn, .int 0]), (tn, aJ G 16 fn)]) (kc' := 0) (ks' := 0) rfl rfl rfl rfl rfl ?_
    refine z_run X bv_X10_part_20_24 kv_X10_part_20_24 (lv' := [(2, .int 0), (0, .ref x), (1, .int sq)]) (st' := [.int 2, .int 0]) rfl ?_
    refine zc_ge X dv_X10_part_24 (tgt := 105) (by decide) (a := 0) (b := 2) (show (0 : Int32).toInt = 0 from by decide) (show (2 : Int32).toInt = 2 from by decide) (fun c24_2 => absurd c24_2 (by decide)) (fun _ => ?_)
    refine z_run X bv_X10_part_27_28 kv_X10_part_27_28 (lv' := [(2, .int 0), (0, .ref x), (1, .int sq)]) (st' := [.ref x]) rfl ?_
    refine z_get X fl_10_33 dv_X10_part_28 0 rfl (v := .ref speeds) rfl ?_
    refine z_getN X fl_10_195 dv_X10_part_31 10 rfl (v := .ref sf) rfl ?_
    refine z_run X bv_X10_part_34_35 kv_X10_part_34_35 (lv' := [(2, .int 0), (0, .ref x), (1, .int sq)]) (st' := [.int sq, .ref sf]) rfl ?_
    refine z_iald X dv_X10_part_35 6 rfl (vin hsq (by omega) (by omega)) (v := (ff sq.toNatClampNeg)) rfl ?_
    refine z_run X bv_X10_part_36_37 kv_X10_part_36_37 (lv' := [(2, .int 0), (0, .ref x), (1, .int sq)]) (st' := [.ref x, .int (ff sq.toNatClampNeg)]) rfl ?_
    refine z_get X fl_10_71 dv_X10_part_37 0 rfl (v := .ref crosses) rfl ?_
    refine z_run X bv_X10_part_40_41 kv_X10_part_40_41 (lv' := [(2, .int 0), (0, .ref x), (1, .int sq)]) (st' := [.int 0, .ref crosses, .int (ff sq.toNatClampNeg)]) rfl ?_
    refine z_iald X dv_X10_part_41 8 rfl (show vp_in _ _ from by unfold vp_in; decide) (v := (cr (0 : Int32).toNatClampNeg)) rfl ?_
    refine z_run X bv_X10_part_42_46 kv_X10_part_42_46 (lv' := [(3, .long ((ff sq.toNatClampNeg) * (cr (0 : Int32).toNatClampNeg)).toInt64), (2, .int 0), (0, .ref x), (1, .int sq)]) (st' := [.ref x]) rfl ?_
    refine z_get X fl_10_12 dv_X10_part_46 0 rfl (v := .ref told) rfl ?_
    refine z_run X bv_X10_part_49_51 kv_X10_part_49_51 (lv' := [(3, .long ((ff sq.toNatClampNeg) * (cr (0 : Int32).toNatClampNeg)).toInt64), (2, .int 0), (0, .ref x), (1, .int sq)]) (st' := [.ref x, .long ((ff sq.toNatClampNeg) * (cr (0 : Int32).toNatClampNeg)).toInt64, .ref told]) rfl ?_
    refine z_get X fl_10_75 dv_X10_part_51 0 rfl (v := .ref trueMasses) rfl ?_
    refine z_run X bv_X10_part_54_57 kv_X10_part_54_57 (lv' := [(3, .long ((ff sq.toNatClampNeg) * (cr (0 : Int32).toNatClampNeg)).toInt64), (2, .int 0), (0, .ref x), (1, .int sq)]) (st' := [.int 0, .ref trueMasses, .long ((ff sq.toNatClampNeg) * (cr (0 : Int32).toNatClampNeg)).toInt64, .ref told]) rfl ?_
    refine z_iald X dv_X10_part_57 9 rfl (show vp_in _ _ from by unfold vp_in; decide) (v := (fm (0 : Int32).toNatClampNeg)) rfl ?_
    refine z_run X bv_X10_part_58_59 kv_X10_part_58_59 (lv' := [(3, .long ((ff sq.toNatClampNeg) * (cr (0 : Int32).toNatClampNeg)).toInt64), (2, .int 0), (0, .ref x), (1, .int sq)]) (st' := [.ref x, .int (fm (0 : Int32).toNatClampNeg), .long ((ff sq.toNatClampNeg) * (cr (0 : Int32).toNatClampNeg)).toInt64, .ref told]) rfl ?_
    refine z_get X fl_10_26 dv_X10_part_59 0 rfl (v := .ref ring) rfl ?_
    refine z_run X bv_X10_part_62_64 kv_X10_part_62_64 (lv' := [(3, .long ((ff sq.toNatClampNeg) * (cr (0 : Int32).toNatClampNeg)).toInt64), (2, .int 0), (0, .ref x), (1, .int sq)]) (st' := [.int 0, .int 0, .ref ring, .int (fm (0 : Int32).toNatClampNeg), .long ((ff sq.toNatClampNeg) * (cr (0 : Int32).toNatClampNeg)).toInt64, .ref told]) rfl ?_
    refine z_callV X k_10_192 (ce_X5_leadWithPound l G ring hc rp rx ry g_rr rh g_rd ph po fp fx fy fh 0 0 hci 0 0 ph.toInt hhc (show (0 : Int32).toInt = 0 from by decide) (show (0 : Int32).toInt = 0 from by decide) rfl (by omega)) dv_X10_part_64 1 rfl rfl rfl ⟨Nat.le_of_ble_eq_true rfl, Nat.le_of_ble_eq_true rfl⟩ ⟨Nat.le_of_ble_eq_true rfl, Nat.le_of_ble_eq_true rfl⟩ rfl (rest := [.int (fm (0 : Int32).toNatClampNeg), .long ((ff sq.toNatClampNeg) * (cr (0 : Int32).toNatClampNeg)).toInt64, .ref told]) (As := [.int 0, .int 0]) rfl (Nat.le_of_ble_eq_true rfl) [1, 2, 3, 4, 5] [0, 6, 7, 8, 9, 10, 11, 12] rfl (by decide) (wr := [(x, ob 10 [.ref told, x_reader, .ref ring, .ref speeds, x_wheel, x_trials, x_span, x_search, x_kept, .ref crosses, .ref trueMasses, x_thought, x_up, x_low, x_fits, x_pulls]), (sf, aI G 6 ff), (so, aI G 6 fo), (crosses, aI G 4 cr), (trueMasses, aI G 8 fm), (speeds, ob 7 [.int sc, .ref sf, .ref so, sX0, sX1, sX2]), (told, ob 8 [.ref tn, .int 0]), (tn, aJ G 16 fn)]) rfl (by decide) (by decide) ?_
    rintro _ _ ⟨rz_3, f64_4, rfl, rfl⟩
    refine Z.at (pc' := 67) (st' := [.int rz_3, .int (fm (0 : Int32).toNatClampNeg), .long ((ff sq.toNatClampNeg) * (cr (0 : Int32).toNatClampNeg)).toInt64, .ref told]) (ws' := [(x, ob 10 [.ref told, x_reader, .ref ring, .ref speeds, x_wheel, x_trials, x_span, x_search, x_kept, .ref crosses, .ref trueMasses, x_thought, x_up, x_low, x_fits, x_pulls]), (sf, aI G 6 ff), (so, aI G 6 fo), (crosses, aI G 4 cr), (trueMasses, aI G 8 fm), (speeds, ob 7 [.int sc, .ref sf, .ref so, sX0, sX1, sX2]), (told, ob 8 [.ref tn, .int 0]), (tn, aJ G 16 fn), (ring, ob 5 [.int hc, .ref rp, .ref rx, .ref ry, g_rr, .ref rh, g_rd, .int ph, .int po]), (rp, aI G 16 fp), (rx, aI G 16 fx), (ry, aI G 16 fy), (rh, aI G 16 fh)]) (kc' := 0) (ks' := 0) rfl rfl rfl rfl rfl ?_
    refine z_run X bv_X10_part_67_72 kv_X10_part_67_72 (lv' := [(3, .long ((ff sq.toNatClampNeg) * (cr (0 : Int32).toNatClampNeg)).toInt64), (2, .int 0), (0, .ref x), (1, .int sq)]) (st' := [.ref x, .long ((ff sq.toNatClampNeg) * (cr (0 : Int32).toNatClampNeg)).toInt64, .long (((ff sq.toNatClampNeg) * (cr (0 : Int32).toNatClampNeg)).toInt64 * ((fm (0 : Int32).toNatClampNeg) + rz_3).toInt64), .ref told]) rfl ?_
    refine z_get X fl_10_75 dv_X10_part_72 0 rfl (v := .ref trueMasses) rfl ?_
    refine z_run X bv_X10_part_75_80 kv_X10_part_75_80 (lv' := [(3, .long ((ff sq.toNatClampNeg) * (cr (0 : Int32).toNatClampNeg)).toInt64), (2, .int 0), (0, .ref x), (1, .int sq)]) (st' := [.int 1, .ref trueMasses, .long ((ff sq.toNatClampNeg) * (cr (0 : Int32).toNatClampNeg)).toInt64, .long (((ff sq.toNatClampNeg) * (cr (0 : Int32).toNatClampNeg)).toInt64 * ((fm (0 : Int32).toNatClampNeg) + rz_3).toInt64), .ref told]) rfl ?_
    refine z_iald X dv_X10_part_80 4 rfl (show vp_in _ _ from by unfold vp_in; decide) (v := (fm (1 : Int32).toNatClampNeg)) rfl ?_
    refine z_run X bv_X10_part_81_82 kv_X10_part_81_82 (lv' := [(3, .long ((ff sq.toNatClampNeg) * (cr (0 : Int32).toNatClampNeg)).toInt64), (2, .int 0), (0, .ref x), (1, .int sq)]) (st' := [.ref x, .int (fm (1 : Int32).toNatClampNeg), .long ((ff sq.toNatClampNeg) * (cr (0 : Int32).toNatClampNeg)).toInt64, .long (((ff sq.toNatClampNeg) * (cr (0 : Int32).toNatClampNeg)).toInt64 * ((fm (0 : Int32).toNatClampNeg) + rz_3).toInt64), .ref told]) rfl ?_
    refine z_get X fl_10_26 dv_X10_part_82 0 rfl (v := .ref ring) rfl ?_
    refine z_run X bv_X10_part_85_87 kv_X10_part_85_87 (lv' := [(3, .long ((ff sq.toNatClampNeg) * (cr (0 : Int32).toNatClampNeg)).toInt64), (2, .int 0), (0, .ref x), (1, .int sq)]) (st' := [.int 1, .int 0, .ref ring, .int (fm (1 : Int32).toNatClampNeg), .long ((ff sq.toNatClampNeg) * (cr (0 : Int32).toNatClampNeg)).toInt64, .long (((ff sq.toNatClampNeg) * (cr (0 : Int32).toNatClampNeg)).toInt64 * ((fm (0 : Int32).toNatClampNeg) + rz_3).toInt64), .ref told]) rfl ?_
    refine z_callV X k_10_192 (ce_X5_leadWithPound l G ring hc rp rx ry g_rr rh g_rd ph po fp fx fy fh 0 1 hci 0 1 ph.toInt hhc (show (0 : Int32).toInt = 0 from by decide) (show (1 : Int32).toInt = 1 from by decide) rfl (by omega)) dv_X10_part_87 8 rfl rfl rfl ⟨Nat.le_of_ble_eq_true rfl, Nat.le_of_ble_eq_true rfl⟩ ⟨Nat.le_of_ble_eq_true rfl, Nat.le_of_ble_eq_true rfl⟩ rfl (rest := [.int (fm (1 : Int32).toNatClampNeg), .long ((ff sq.toNatClampNeg) * (cr (0 : Int32).toNatClampNeg)).toInt64, .long (((ff sq.toNatClampNeg) * (cr (0 : Int32).toNatClampNeg)).toInt64 * ((fm (0 : Int32).toNatClampNeg) + rz_3).toInt64), .ref told]) (As := [.int 0, .int 1]) rfl (Nat.le_of_ble_eq_true rfl) [8, 9, 10, 11, 12] [0, 1, 2, 3, 4, 5, 6, 7] rfl (by decide) (wr := [(x, ob 10 [.ref told, x_reader, .ref ring, .ref speeds, x_wheel, x_trials, x_span, x_search, x_kept, .ref crosses, .ref trueMasses, x_thought, x_up, x_low, x_fits, x_pulls]), (sf, aI G 6 ff), (so, aI G 6 fo), (crosses, aI G 4 cr), (trueMasses, aI G 8 fm), (speeds, ob 7 [.int sc, .ref sf, .ref so, sX0, sX1, sX2]), (told, ob 8 [.ref tn, .int 0]), (tn, aJ G 16 fn)]) rfl (by decide) (by decide) ?_
    rintro _ _ ⟨rz_5, f87_6, rfl, rfl⟩
    refine Z.at (pc' := 90) (st' := [.int rz_5, .int (fm (1 : Int32).toNatClampNeg), .long ((ff sq.toNatClampNeg) * (cr (0 : Int32).toNatClampNeg)).toInt64, .long (((ff sq.toNatClampNeg) * (cr (0 : Int32).toNatClampNeg)).toInt64 * ((fm (0 : Int32).toNatClampNeg) + rz_3).toInt64), .ref told]) (ws' := [(x, ob 10 [.ref told, x_reader, .ref ring, .ref speeds, x_wheel, x_trials, x_span, x_search, x_kept, .ref crosses, .ref trueMasses, x_thought, x_up, x_low, x_fits, x_pulls]), (sf, aI G 6 ff), (so, aI G 6 fo), (crosses, aI G 4 cr), (trueMasses, aI G 8 fm), (speeds, ob 7 [.int sc, .ref sf, .ref so, sX0, sX1, sX2]), (told, ob 8 [.ref tn, .int 0]), (tn, aJ G 16 fn), (ring, ob 5 [.int hc, .ref rp, .ref rx, .ref ry, g_rr, .ref rh, g_rd, .int ph, .int po]), (rp, aI G 16 fp), (rx, aI G 16 fx), (ry, aI G 16 fy), (rh, aI G 16 fh)]) (kc' := 0) (ks' := 0) rfl rfl rfl rfl rfl ?_
    refine z_run X bv_X10_part_90_93 kv_X10_part_90_93 (lv' := [(3, .long ((ff sq.toNatClampNeg) * (cr (0 : Int32).toNatClampNeg)).toInt64), (2, .int 0), (0, .ref x), (1, .int sq)]) (st' := [.long (((ff sq.toNatClampNeg) * (cr (0 : Int32).toNatClampNeg)).toInt64 * ((fm (1 : Int32).toNatClampNeg) + rz_5).toInt64), .long (((ff sq.toNatClampNeg) * (cr (0 : Int32).toNatClampNeg)).toInt64 * ((fm (0 : Int32).toNatClampNeg) + rz_3).toInt64), .ref told]) rfl ?_
    refine z_callS X k_10_187 (cv_X10_sizeOfF l G (((ff sq.toNatClampNeg) * (cr (0 : Int32).toNatClampNeg)).toInt64 * ((fm (0 : Int32).toNatClampNeg) + rz_3).toInt64) (((ff sq.toNatClampNeg) * (cr (0 : Int32).toNatClampNeg)).toInt64 * ((fm (1 : Int32).toNatClampNeg) + rz_5).toInt64)) dv_X10_part_93 ⟨Nat.le_of_ble_eq_true rfl, Nat.le_of_ble_eq_true rfl⟩ ⟨Nat.le_of_ble_eq_true rfl, Nat.le_of_ble_eq_true rfl⟩ rfl (rest := [.ref told]) (As := [.long (((ff sq.toNatClampNeg) * (cr (0 : Int32).toNatClampNeg)).toInt64 * ((fm (0 : Int32).toNatClampNeg) + rz_3).toInt64), .long (((ff sq.toNatClampNeg) * (cr (0 : Int32).toNatClampNeg)).toInt64 * ((fm (1 : Int32).toNatClampNeg) + rz_5).toInt64)]) rfl (Nat.le_of_ble_eq_true rfl) [] [0, 1, 2, 3, 4, 5, 6, 7, 8, 9, 10, 11, 12] rfl (by decide) (wr := [(x, ob 10 [.ref told, x_reader, .ref ring, .ref speeds, x_wheel, x_trials, x_span, x_search, x_kept, .ref crosses, .ref trueMasses, x_thought, x_up, x_low, x_fits, x_pulls]), (sf, aI G 6 ff), (so, aI G 6 fo), (crosses, aI G 4 cr), (trueMasses, aI G 8 fm), (speeds, ob 7 [.int sc, .ref sf, .ref so, sX0, sX1, sX2]), (told, ob 8 [.ref tn, .int 0]), (tn, aJ G 16 fn), (ring, ob 5 [.int hc, .ref rp, .ref rx, .ref ry, g_rr, .ref rh, g_rd, .int ph, .int po]), (rp, aI G 16 fp), (rx, aI G 16 fx), (ry, aI G 16 fy), (rh, aI G 16 fh)]) rfl (by decide) (by decide) ?_
    rintro _ _ ⟨rz_7, f93_8, rfl, rfl⟩
    refine Z.at (pc' := 96) (st' := [.long rz_7, .ref told]) (ws' := [(x, ob 10 [.ref told, x_reader, .ref ring, .ref speeds, x_wheel, x_trials, x_span, x_search, x_kept, .ref crosses, .ref trueMasses, x_thought, x_up, x_low, x_fits, x_pulls]), (sf, aI G 6 ff), (so, aI G 6 fo), (crosses, aI G 4 cr), (trueMasses, aI G 8 fm), (speeds, ob 7 [.int sc, .ref sf, .ref so, sX0, sX1, sX2]), (told, ob 8 [.ref tn, .int 0]), (tn, aJ G 16 fn), (ring, ob 5 [.int hc, .ref rp, .ref rx, .ref ry, g_rr, .ref rh, g_rd, .int ph, .int po]), (rp, aI G 16 fp), (rx, aI G 16 fx), (ry, aI G 16 fy), (rh, aI G 16 fh)]) (kc' := 0) (ks' := 0) rfl rfl rfl rfl rfl ?_
    refine z_callV X k_10_183 (cv_X8_addF l G told tn 0 fn rz_7 0 (show (0 : Int32).toInt = 0 from by decide) (by omega)) dv_X10_part_96 6 rfl rfl rfl ⟨Nat.le_of_ble_eq_true rfl, Nat.le_of_ble_eq_true rfl⟩ ⟨Nat.le_of_ble_eq_true rfl, Nat.le_of_ble_eq_true rfl⟩ rfl (rest := []) (As := [.long rz_7]) rfl (Nat.le_of_ble_eq_true rfl) [6, 7] [0, 1, 2, 3, 4, 5, 8, 9, 10, 11, 12] rfl (by decide) (wr := [(x, ob 10 [.ref told, x_reader, .ref ring, .ref speeds, x_wheel, x_trials, x_span, x_search, x_kept, .ref crosses, .ref trueMasses, x_thought, x_up, x_low, x_fits, x_pulls]), (sf, aI G 6 ff), (so, aI G 6 fo), (crosses, aI G 4 cr), (trueMasses, aI G 8 fm), (speeds, ob 7 [.int sc, .ref sf, .ref so, sX0, sX1, sX2]), (ring, ob 5 [.int hc, .ref rp, .ref rx, .ref ry, g_rr, .ref rh, g_rd, .int ph, .int po]), (rp, aI G 16 fp), (rx, aI G 16 fx), (ry, aI G 16 fy), (rh, aI G 16 fh)]) rfl (by decide) (by decide) ?_
    rintro _ _ ⟨rfl, rfl⟩
    refine Z.at (pc' := 99) (st' := []) (ws' := [(x, ob 10 [.ref told, x_reader, .ref ring, .ref speeds, x_wheel, x_trials, x_span, x_search, x_kept, .ref crosses, .ref trueMasses, x_thought, x_up, x_low, x_fits, x_pulls]), (sf, aI G 6 ff), (so, aI G 6 fo), (crosses, aI G 4 cr), (trueMasses, aI G 8 fm), (speeds, ob 7 [.int sc, .ref sf, .ref so, sX0, sX1, sX2]), (ring, ob 5 [.int hc, .ref rp, .ref rx, .ref ry, g_rr, .ref rh, g_rd, .int ph, .int po]), (rp, aI G 16 fp), (rx, aI G 16 fx), (ry, aI G 16 fy), (rh, aI G 16 fh), (told, ob 8 [.ref tn, .int (0 + 1)]), (tn, aJ G 16 (vp_updL fn (0 : Int32).toNatClampNeg rz_7))]) (kc' := 0) (ks' := 0) rfl rfl rfl rfl rfl ?_
    refine z_run X bv_X10_part_99_102 kv_X10_part_99_102 (lv' := [(2, .int 1), (3, .long ((ff sq.toNatClampNeg) * (cr (0 : Int32).toNatClampNeg)).toInt64), (0, .ref x), (1, .int sq)]) (st' := []) rfl ?_
    refine z_goto X dv_X10_part_102 (tgt := 22) (by decide) ?_
    refine z_run X bv_X10_part_22_24 kv_X10_part_22_24 (lv' := [(2, .int 1), (3, .long ((ff sq.toNatClampNeg) * (cr (0 : Int32).toNatClampNeg)).toInt64), (0, .ref x), (1, .int sq)]) (st' := [.int 2, .int 1]) rfl ?_
    refine zc_ge X dv_X10_part_24 (tgt := 105) (by decide) (a := 1) (b := 2) (show (1 : Int32).toInt = 1 from by decide) (show (2 : Int32).toInt = 2 from by decide) (fun c24_9 => absurd c24_9 (by decide)) (fun _ => ?_)
    refine z_run X bv_X10_part_27_28 kv_X10_part_27_28 (lv' := [(2, .int 1), (3, .long ((ff sq.toNatClampNeg) * (cr (0 : Int32).toNatClampNeg)).toInt64), (0, .ref x), (1, .int sq)]) (st' := [.ref x]) rfl ?_
    refine z_get X fl_10_33 dv_X10_part_28 0 rfl (v := .ref speeds) rfl ?_
    refine z_getN X fl_10_195 dv_X10_part_31 5 rfl (v := .ref sf) rfl ?_
    refine z_run X bv_X10_part_34_35 kv_X10_part_34_35 (lv' := [(2, .int 1), (3, .long ((ff sq.toNatClampNeg) * (cr (0 : Int32).toNatClampNeg)).toInt64), (0, .ref x), (1, .int sq)]) (st' := [.int sq, .ref sf]) rfl ?_
    refine z_iald X dv_X10_part_35 1 rfl (vin hsq (by omega) (by omega)) (v := (ff sq.toNatClampNeg)) rfl ?_
    refine z_run X bv_X10_part_36_37 kv_X10_part_36_37 (lv' := [(2, .int 1), (3, .long ((ff sq.toNatClampNeg) * (cr (0 : Int32).toNatClampNeg)).toInt64), (0, .ref x), (1, .int sq)]) (st' := [.ref x, .int (ff sq.toNatClampNeg)]) rfl ?_
    refine z_get X fl_10_71 dv_X10_part_37 0 rfl (v := .ref crosses) rfl ?_
    refine z_run X bv_X10_part_40_41 kv_X10_part_40_41 (lv' := [(2, .int 1), (3, .long ((ff sq.toNatClampNeg) * (cr (0 : Int32).toNatClampNeg)).toInt64), (0, .ref x), (1, .int sq)]) (st' := [.int 1, .ref crosses, .int (ff sq.toNatClampNeg)]) rfl ?_
    refine z_iald X dv_X10_part_41 3 rfl (show vp_in _ _ from by unfold vp_in; decide) (v := (cr (1 : Int32).toNatClampNeg)) rfl ?_
    refine z_run X bv_X10_part_42_46 kv_X10_part_42_46 (lv' := [(3, .long ((ff sq.toNatClampNeg) * (cr (1 : Int32).toNatClampNeg)).toInt64), (2, .int 1), (0, .ref x), (1, .int sq)]) (st' := [.ref x]) rfl ?_
    refine z_get X fl_10_12 dv_X10_part_46 0 rfl (v := .ref told) rfl ?_
    refine z_run X bv_X10_part_49_51 kv_X10_part_49_51 (lv' := [(3, .long ((ff sq.toNatClampNeg) * (cr (1 : Int32).toNatClampNeg)).toInt64), (2, .int 1), (0, .ref x), (1, .int sq)]) (st' := [.ref x, .long ((ff sq.toNatClampNeg) * (cr (1 : Int32).toNatClampNeg)).toInt64, .ref told]) rfl ?_
    refine z_get X fl_10_75 dv_X10_part_51 0 rfl (v := .ref trueMasses) rfl ?_
    refine z_run X bv_X10_part_54_57 kv_X10_part_54_57 (lv' := [(3, .long ((ff sq.toNatClampNeg) * (cr (1 : Int32).toNatClampNeg)).toInt64), (2, .int 1), (0, .ref x), (1, .int sq)]) (st' := [.int 2, .ref trueMasses, .long ((ff sq.toNatClampNeg) * (cr (1 : Int32).toNatClampNeg)).toInt64, .ref told]) rfl ?_
    refine z_iald X dv_X10_part_57 4 rfl (show vp_in _ _ from by unfold vp_in; decide) (v := (fm (2 : Int32).toNatClampNeg)) rfl ?_
    refine z_run X bv_X10_part_58_59 kv_X10_part_58_59 (lv' := [(3, .long ((ff sq.toNatClampNeg) * (cr (1 : Int32).toNatClampNeg)).toInt64), (2, .int 1), (0, .ref x), (1, .int sq)]) (st' := [.ref x, .int (fm (2 : Int32).toNatClampNeg), .long ((ff sq.toNatClampNeg) * (cr (1 : Int32).toNatClampNeg)).toInt64, .ref told]) rfl ?_
    refine z_get X fl_10_26 dv_X10_part_59 0 rfl (v := .ref ring) rfl ?_
    refine z_run X bv_X10_part_62_64 kv_X10_part_62_64 (lv' := [(3, .long ((ff sq.toNatClampNeg) * (cr (1 : Int32).toNatClampNeg)).toInt64), (2, .int 1), (0, .ref x), (1, .int sq)]) (st' := [.int 0, .int 1, .ref ring, .int (fm (2 : Int32).toNatClampNeg), .long ((ff sq.toNatClampNeg) * (cr (1 : Int32).toNatClampNeg)).toInt64, .ref told]) rfl ?_
    refine z_callV X k_10_192 (ce_X5_leadWithPound l G ring hc rp rx ry g_rr rh g_rd ph po fp fx fy fh 1 0 hci 1 0 ph.toInt hhc (show (1 : Int32).toInt = 1 from by decide) (show (0 : Int32).toInt = 0 from by decide) rfl (by omega)) dv_X10_part_64 6 rfl rfl rfl ⟨Nat.le_of_ble_eq_true rfl, Nat.le_of_ble_eq_true rfl⟩ ⟨Nat.le_of_ble_eq_true rfl, Nat.le_of_ble_eq_true rfl⟩ rfl (rest := [.int (fm (2 : Int32).toNatClampNeg), .long ((ff sq.toNatClampNeg) * (cr (1 : Int32).toNatClampNeg)).toInt64, .ref told]) (As := [.int 1, .int 0]) rfl (Nat.le_of_ble_eq_true rfl) [6, 7, 8, 9, 10] [0, 1, 2, 3, 4, 5, 11, 12] rfl (by decide) (wr := [(x, ob 10 [.ref told, x_reader, .ref ring, .ref speeds, x_wheel, x_trials, x_span, x_search, x_kept, .ref crosses, .ref trueMasses, x_thought, x_up, x_low, x_fits, x_pulls]), (sf, aI G 6 ff), (so, aI G 6 fo), (crosses, aI G 4 cr), (trueMasses, aI G 8 fm), (speeds, ob 7 [.int sc, .ref sf, .ref so, sX0, sX1, sX2]), (told, ob 8 [.ref tn, .int (0 + 1)]), (tn, aJ G 16 (vp_updL fn (0 : Int32).toNatClampNeg rz_7))]) rfl (by decide) (by decide) ?_
    rintro _ _ ⟨rz_10, f64_11, rfl, rfl⟩
    refine Z.at (pc' := 67) (st' := [.int rz_10, .int (fm (2 : Int32).toNatClampNeg), .long ((ff sq.toNatClampNeg) * (cr (1 : Int32).toNatClampNeg)).toInt64, .ref told]) (ws' := [(x, ob 10 [.ref told, x_reader, .ref ring, .ref speeds, x_wheel, x_trials, x_span, x_search, x_kept, .ref crosses, .ref trueMasses, x_thought, x_up, x_low, x_fits, x_pulls]), (sf, aI G 6 ff), (so, aI G 6 fo), (crosses, aI G 4 cr), (trueMasses, aI G 8 fm), (speeds, ob 7 [.int sc, .ref sf, .ref so, sX0, sX1, sX2]), (told, ob 8 [.ref tn, .int (0 + 1)]), (tn, aJ G 16 (vp_updL fn (0 : Int32).toNatClampNeg rz_7)), (ring, ob 5 [.int hc, .ref rp, .ref rx, .ref ry, g_rr, .ref rh, g_rd, .int ph, .int po]), (rp, aI G 16 fp), (rx, aI G 16 fx), (ry, aI G 16 fy), (rh, aI G 16 fh)]) (kc' := 0) (ks' := 0) rfl rfl rfl rfl rfl ?_
    refine z_run X bv_X10_part_67_72 kv_X10_part_67_72 (lv' := [(3, .long ((ff sq.toNatClampNeg) * (cr (1 : Int32).toNatClampNeg)).toInt64), (2, .int 1), (0, .ref x), (1, .int sq)]) (st' := [.ref x, .long ((ff sq.toNatClampNeg) * (cr (1 : Int32).toNatClampNeg)).toInt64, .long (((ff sq.toNatClampNeg) * (cr (1 : Int32).toNatClampNeg)).toInt64 * ((fm (2 : Int32).toNatClampNeg) + rz_10).toInt64), .ref told]) rfl ?_
    refine z_get X fl_10_75 dv_X10_part_72 0 rfl (v := .ref trueMasses) rfl ?_
    refine z_run X bv_X10_part_75_80 kv_X10_part_75_80 (lv' := [(3, .long ((ff sq.toNatClampNeg) * (cr (1 : Int32).toNatClampNeg)).toInt64), (2, .int 1), (0, .ref x), (1, .int sq)]) (st' := [.int 3, .ref trueMasses, .long ((ff sq.toNatClampNeg) * (cr (1 : Int32).toNatClampNeg)).toInt64, .long (((ff sq.toNatClampNeg) * (cr (1 : Int32).toNatClampNeg)).toInt64 * ((fm (2 : Int32).toNatClampNeg) + rz_10).toInt64), .ref told]) rfl ?_
    refine z_iald X dv_X10_part_80 4 rfl (show vp_in _ _ from by unfold vp_in; decide) (v := (fm (3 : Int32).toNatClampNeg)) rfl ?_
    refine z_run X bv_X10_part_81_82 kv_X10_part_81_82 (lv' := [(3, .long ((ff sq.toNatClampNeg) * (cr (1 : Int32).toNatClampNeg)).toInt64), (2, .int 1), (0, .ref x), (1, .int sq)]) (st' := [.ref x, .int (fm (3 : Int32).toNatClampNeg), .long ((ff sq.toNatClampNeg) * (cr (1 : Int32).toNatClampNeg)).toInt64, .long (((ff sq.toNatClampNeg) * (cr (1 : Int32).toNatClampNeg)).toInt64 * ((fm (2 : Int32).toNatClampNeg) + rz_10).toInt64), .ref told]) rfl ?_
    refine z_get X fl_10_26 dv_X10_part_82 0 rfl (v := .ref ring) rfl ?_
    refine z_run X bv_X10_part_85_87 kv_X10_part_85_87 (lv' := [(3, .long ((ff sq.toNatClampNeg) * (cr (1 : Int32).toNatClampNeg)).toInt64), (2, .int 1), (0, .ref x), (1, .int sq)]) (st' := [.int 1, .int 1, .ref ring, .int (fm (3 : Int32).toNatClampNeg), .long ((ff sq.toNatClampNeg) * (cr (1 : Int32).toNatClampNeg)).toInt64, .long (((ff sq.toNatClampNeg) * (cr (1 : Int32).toNatClampNeg)).toInt64 * ((fm (2 : Int32).toNatClampNeg) + rz_10).toInt64), .ref told]) rfl ?_
    refine z_callV X k_10_192 (ce_X5_leadWithPound l G ring hc rp rx ry g_rr rh g_rd ph po fp fx fy fh 1 1 hci 1 1 ph.toInt hhc (show (1 : Int32).toInt = 1 from by decide) (show (1 : Int32).toInt = 1 from by decide) rfl (by omega)) dv_X10_part_87 8 rfl rfl rfl ⟨Nat.le_of_ble_eq_true rfl, Nat.le_of_ble_eq_true rfl⟩ ⟨Nat.le_of_ble_eq_true rfl, Nat.le_of_ble_eq_true rfl⟩ rfl (rest := [.int (fm (3 : Int32).toNatClampNeg), .long ((ff sq.toNatClampNeg) * (cr (1 : Int32).toNatClampNeg)).toInt64, .long (((ff sq.toNatClampNeg) * (cr (1 : Int32).toNatClampNeg)).toInt64 * ((fm (2 : Int32).toNatClampNeg) + rz_10).toInt64), .ref told]) (As := [.int 1, .int 1]) rfl (Nat.le_of_ble_eq_true rfl) [8, 9, 10, 11, 12] [0, 1, 2, 3, 4, 5, 6, 7] rfl (by decide) (wr := [(x, ob 10 [.ref told, x_reader, .ref ring, .ref speeds, x_wheel, x_trials, x_span, x_search, x_kept, .ref crosses, .ref trueMasses, x_thought, x_up, x_low, x_fits, x_pulls]), (sf, aI G 6 ff), (so, aI G 6 fo), (crosses, aI G 4 cr), (trueMasses, aI G 8 fm), (speeds, ob 7 [.int sc, .ref sf, .ref so, sX0, sX1, sX2]), (told, ob 8 [.ref tn, .int (0 + 1)]), (tn, aJ G 16 (vp_updL fn (0 : Int32).toNatClampNeg rz_7))]) rfl (by decide) (by decide) ?_
    rintro _ _ ⟨rz_12, f87_13, rfl, rfl⟩
    refine Z.at (pc' := 90) (st' := [.int rz_12, .int (fm (3 : Int32).toNatClampNeg), .long ((ff sq.toNatClampNeg) * (cr (1 : Int32).toNatClampNeg)).toInt64, .long (((ff sq.toNatClampNeg) * (cr (1 : Int32).toNatClampNeg)).toInt64 * ((fm (2 : Int32).toNatClampNeg) + rz_10).toInt64), .ref told]) (ws' := [(x, ob 10 [.ref told, x_reader, .ref ring, .ref speeds, x_wheel, x_trials, x_span, x_search, x_kept, .ref crosses, .ref trueMasses, x_thought, x_up, x_low, x_fits, x_pulls]), (sf, aI G 6 ff), (so, aI G 6 fo), (crosses, aI G 4 cr), (trueMasses, aI G 8 fm), (speeds, ob 7 [.int sc, .ref sf, .ref so, sX0, sX1, sX2]), (told, ob 8 [.ref tn, .int (0 + 1)]), (tn, aJ G 16 (vp_updL fn (0 : Int32).toNatClampNeg rz_7)), (ring, ob 5 [.int hc, .ref rp, .ref rx, .ref ry, g_rr, .ref rh, g_rd, .int ph, .int po]), (rp, aI G 16 fp), (rx, aI G 16 fx), (ry, aI G 16 fy), (rh, aI G 16 fh)]) (kc' := 0) (ks' := 0) rfl rfl rfl rfl rfl ?_
    refine z_run X bv_X10_part_90_93 kv_X10_part_90_93 (lv' := [(3, .long ((ff sq.toNatClampNeg) * (cr (1 : Int32).toNatClampNeg)).toInt64), (2, .int 1), (0, .ref x), (1, .int sq)]) (st' := [.long (((ff sq.toNatClampNeg) * (cr (1 : Int32).toNatClampNeg)).toInt64 * ((fm (3 : Int32).toNatClampNeg) + rz_12).toInt64), .long (((ff sq.toNatClampNeg) * (cr (1 : Int32).toNatClampNeg)).toInt64 * ((fm (2 : Int32).toNatClampNeg) + rz_10).toInt64), .ref told]) rfl ?_
    refine z_callS X k_10_187 (cv_X10_sizeOfF l G (((ff sq.toNatClampNeg) * (cr (1 : Int32).toNatClampNeg)).toInt64 * ((fm (2 : Int32).toNatClampNeg) + rz_10).toInt64) (((ff sq.toNatClampNeg) * (cr (1 : Int32).toNatClampNeg)).toInt64 * ((fm (3 : Int32).toNatClampNeg) + rz_12).toInt64)) dv_X10_part_93 ⟨Nat.le_of_ble_eq_true rfl, Nat.le_of_ble_eq_true rfl⟩ ⟨Nat.le_of_ble_eq_true rfl, Nat.le_of_ble_eq_true rfl⟩ rfl (rest := [.ref told]) (As := [.long (((ff sq.toNatClampNeg) * (cr (1 : Int32).toNatClampNeg)).toInt64 * ((fm (2 : Int32).toNatClampNeg) + rz_10).toInt64), .long (((ff sq.toNatClampNeg) * (cr (1 : Int32).toNatClampNeg)).toInt64 * ((fm (3 : Int32).toNatClampNeg) + rz_12).toInt64)]) rfl (Nat.le_of_ble_eq_true rfl) [] [0, 1, 2, 3, 4, 5, 6, 7, 8, 9, 10, 11, 12] rfl (by decide) (wr := [(x, ob 10 [.ref told, x_reader, .ref ring, .ref speeds, x_wheel, x_trials, x_span, x_search, x_kept, .ref crosses, .ref trueMasses, x_thought, x_up, x_low, x_fits, x_pulls]), (sf, aI G 6 ff), (so, aI G 6 fo), (crosses, aI G 4 cr), (trueMasses, aI G 8 fm), (speeds, ob 7 [.int sc, .ref sf, .ref so, sX0, sX1, sX2]), (told, ob 8 [.ref tn, .int (0 + 1)]), (tn, aJ G 16 (vp_updL fn (0 : Int32).toNatClampNeg rz_7)), (ring, ob 5 [.int hc, .ref rp, .ref rx, .ref ry, g_rr, .ref rh, g_rd, .int ph, .int po]), (rp, aI G 16 fp), (rx, aI G 16 fx), (ry, aI G 16 fy), (rh, aI G 16 fh)]) rfl (by decide) (by decide) ?_
    rintro _ _ ⟨rz_14, f93_15, rfl, rfl⟩
    refine Z.at (pc' := 96) (st' := [.long rz_14, .ref told]) (ws' := [(x, ob 10 [.ref told, x_reader, .ref ring, .ref speeds, x_wheel, x_trials, x_span, x_search, x_kept, .ref crosses, .ref trueMasses, x_thought, x_up, x_low, x_fits, x_pulls]), (sf, aI G 6 ff), (so, aI G 6 fo), (crosses, aI G 4 cr), (trueMasses, aI G 8 fm), (speeds, ob 7 [.int sc, .ref sf, .ref so, sX0, sX1, sX2]), (told, ob 8 [.ref tn, .int (0 + 1)]), (tn, aJ G 16 (vp_updL fn (0 : Int32).toNatClampNeg rz_7)), (ring, ob 5 [.int hc, .ref rp, .ref rx, .ref ry, g_rr, .ref rh, g_rd, .int ph, .int po]), (rp, aI G 16 fp), (rx, aI G 16 fx), (ry, aI G 16 fy), (rh, aI G 16 fh)]) (kc' := 0) (ks' := 0) rfl rfl rfl rfl rfl ?_
    refine z_callV X k_10_183 (cv_X8_addF l G told tn (0 + 1) (vp_updL fn (0 : Int32).toNatClampNeg rz_7) rz_14 ((0 + 1)) (tI_add (show (0 : Int32).toInt = 0 from by decide) (show (1 : Int32).toInt = 1 from by decide) (by omega)) (by omega)) dv_X10_part_96 6 rfl rfl rfl ⟨Nat.le_of_ble_eq_true rfl, Nat.le_of_ble_eq_true rfl⟩ ⟨Nat.le_of_ble_eq_true rfl, Nat.le_of_ble_eq_true rfl⟩ rfl (rest := []) (As := [.long rz_14]) rfl (Nat.le_of_ble_eq_true rfl) [6, 7] [0, 1, 2, 3, 4, 5, 8, 9, 10, 11, 12] rfl (by decide) (wr := [(x, ob 10 [.ref told, x_reader, .ref ring, .ref speeds, x_wheel, x_trials, x_span, x_search, x_kept, .ref crosses, .ref trueMasses, x_thought, x_up, x_low, x_fits, x_pulls]), (sf, aI G 6 ff), (so, aI G 6 fo), (crosses, aI G 4 cr), (trueMasses, aI G 8 fm), (speeds, ob 7 [.int sc, .ref sf, .ref so, sX0, sX1, sX2]), (ring, ob 5 [.int hc, .ref rp, .ref rx, .ref ry, g_rr, .ref rh, g_rd, .int ph, .int po]), (rp, aI G 16 fp), (rx, aI G 16 fx), (ry, aI G 16 fy), (rh, aI G 16 fh)]) rfl (by decide) (by decide) ?_
    rintro _ _ ⟨rfl, rfl⟩
    refine Z.at (pc' := 99) (st' := []) (ws' := [(x, ob 10 [.ref told, x_reader, .ref ring, .ref speeds, x_wheel, x_trials, x_span, x_search, x_kept, .ref crosses, .ref trueMasses, x_thought, x_up, x_low, x_fits, x_pulls]), (sf, aI G 6 ff), (so, aI G 6 fo), (crosses, aI G 4 cr), (trueMasses, aI G 8 fm), (speeds, ob 7 [.int sc, .ref sf, .ref so, sX0, sX1, sX2]), (ring, ob 5 [.int hc, .ref rp, .ref rx, .ref ry, g_rr, .ref rh, g_rd, .int ph, .int po]), (rp, aI G 16 fp), (rx, aI G 16 fx), (ry, aI G 16 fy), (rh, aI G 16 fh), (told, ob 8 [.ref tn, .int ((0 + 1) + 1)]), (tn, aJ G 16 (vp_updL (vp_updL fn (0 : Int32).toNatClampNeg rz_7) ((0 : Int32) + 1).toNatClampNeg rz_14))]) (kc' := 0) (ks' := 0) rfl rfl rfl rfl rfl ?_
    refine z_run X bv_X10_part_99_102 kv_X10_part_99_102 (lv' := [(2, .int 2), (3, .long ((ff sq.toNatClampNeg) * (cr (1 : Int32).toNatClampNeg)).toInt64), (0, .ref x), (1, .int sq)]) (st' := []) rfl ?_
    refine z_goto X dv_X10_part_102 (tgt := 22) (by decide) ?_
    refine z_run X bv_X10_part_22_24 kv_X10_part_22_24 (lv' := [(2, .int 2), (3, .long ((ff sq.toNatClampNeg) * (cr (1 : Int32).toNatClampNeg)).toInt64), (0, .ref x), (1, .int sq)]) (st' := [.int 2, .int 2]) rfl ?_
    refine zc_ge X dv_X10_part_24 (tgt := 105) (by decide) (a := 2) (b := 2) (show (2 : Int32).toInt = 2 from by decide) (show (2 : Int32).toInt = 2 from by decide) (fun _ => ?_) (fun c24_16 => absurd c24_16 (by decide))
    refine z_run X bv_X10_part_105_106 kv_X10_part_105_106 (lv' := [(2, .int 2), (3, .long ((ff sq.toNatClampNeg) * (cr (1 : Int32).toNatClampNeg)).toInt64), (0, .ref x), (1, .int sq)]) (st' := [.ref x]) rfl ?_
    refine z_get X fl_10_33 dv_X10_part_106 0 rfl (v := .ref speeds) rfl ?_
    refine z_getN X fl_10_202 dv_X10_part_109 5 rfl (v := .ref so) rfl ?_
    refine z_run X bv_X10_part_112_113 kv_X10_part_112_113 (lv' := [(2, .int 2), (3, .long ((ff sq.toNatClampNeg) * (cr (1 : Int32).toNatClampNeg)).toInt64), (0, .ref x), (1, .int sq)]) (st' := [.int sq, .ref so]) rfl ?_
    refine z_iald X dv_X10_part_113 2 rfl (vin hsq (by omega) (by omega)) (v := (fo sq.toNatClampNeg)) rfl ?_
    refine z_run X bv_X10_part_114_117 kv_X10_part_114_117 (lv' := [(2, .long (fo sq.toNatClampNeg).toInt64), (0, .ref x), (1, .int sq)]) (st' := [.ref x]) rfl ?_
    refine z_get X fl_10_12 dv_X10_part_117 0 rfl (v := .ref told) rfl ?_
    refine z_run X bv_X10_part_120_122 kv_X10_part_120_122 (lv' := [(2, .long (fo sq.toNatClampNeg).toInt64), (0, .ref x), (1, .int sq)]) (st' := [.ref x, .long (fo sq.toNatClampNeg).toInt64, .ref told]) rfl ?_
    refine z_get X fl_10_75 dv_X10_part_122 0 rfl (v := .ref trueMasses) rfl ?_
    refine z_run X bv_X10_part_125_126 kv_X10_part_125_126 (lv' := [(2, .long (fo sq.toNatClampNeg).toInt64), (0, .ref x), (1, .int sq)]) (st' := [.int 4, .ref trueMasses, .long (fo sq.toNatClampNeg).toInt64, .ref told]) rfl ?_
    refine z_iald X dv_X10_part_126 4 rfl (show vp_in _ _ from by unfold vp_in; decide) (v := (fm (4 : Int32).toNatClampNeg)) rfl ?_
    refine z_run X bv_X10_part_127_131 kv_X10_part_127_131 (lv' := [(2, .long (fo sq.toNatClampNeg).toInt64), (0, .ref x), (1, .int sq)]) (st' := [.ref x, .long (fo sq.toNatClampNeg).toInt64, .long ((fo sq.toNatClampNeg).toInt64 * (fm (4 : Int32).toNatClampNeg).toInt64), .ref told]) rfl ?_
    refine z_get X fl_10_75 dv_X10_part_131 0 rfl (v := .ref trueMasses) rfl ?_
    refine z_run X bv_X10_part_134_135 kv_X10_part_134_135 (lv' := [(2, .long (fo sq.toNatClampNeg).toInt64), (0, .ref x), (1, .int sq)]) (st' := [.int 5, .ref trueMasses, .long (fo sq.toNatClampNeg).toInt64, .long ((fo sq.toNatClampNeg).toInt64 * (fm (4 : Int32).toNatClampNeg).toInt64), .ref told]) rfl ?_
    refine z_iald X dv_X10_part_135 4 rfl (show vp_in _ _ from by unfold vp_in; decide) (v := (fm (5 : Int32).toNatClampNeg)) rfl ?_
    refine z_run X bv_X10_part_136_138 kv_X10_part_136_138 (lv' := [(2, .long (fo sq.toNatClampNeg).toInt64), (0, .ref x), (1, .int sq)]) (st' := [.long ((fo sq.toNatClampNeg).toInt64 * (fm (5 : Int32).toNatClampNeg).toInt64), .long ((fo sq.toNatClampNeg).toInt64 * (fm (4 : Int32).toNatClampNeg).toInt64), .ref told]) rfl ?_
    refine z_callS X k_10_187 (cv_X10_sizeOfF l G ((fo sq.toNatClampNeg).toInt64 * (fm (4 : Int32).toNatClampNeg).toInt64) ((fo sq.toNatClampNeg).toInt64 * (fm (5 : Int32).toNatClampNeg).toInt64)) dv_X10_part_138 ⟨Nat.le_of_ble_eq_true rfl, Nat.le_of_ble_eq_true rfl⟩ ⟨Nat.le_of_ble_eq_true rfl, Nat.le_of_ble_eq_true rfl⟩ rfl (rest := [.ref told]) (As := [.long ((fo sq.toNatClampNeg).toInt64 * (fm (4 : Int32).toNatClampNeg).toInt64), .long ((fo sq.toNatClampNeg).toInt64 * (fm (5 : Int32).toNatClampNeg).toInt64)]) rfl (Nat.le_of_ble_eq_true rfl) [] [0, 1, 2, 3, 4, 5, 6, 7, 8, 9, 10, 11, 12] rfl (by decide) (wr := [(x, ob 10 [.ref told, x_reader, .ref ring, .ref speeds, x_wheel, x_trials, x_span, x_search, x_kept, .ref crosses, .ref trueMasses, x_thought, x_up, x_low, x_fits, x_pulls]), (sf, aI G 6 ff), (so, aI G 6 fo), (crosses, aI G 4 cr), (trueMasses, aI G 8 fm), (speeds, ob 7 [.int sc, .ref sf, .ref so, sX0, sX1, sX2]), (ring, ob 5 [.int hc, .ref rp, .ref rx, .ref ry, g_rr, .ref rh, g_rd, .int ph, .int po]), (rp, aI G 16 fp), (rx, aI G 16 fx), (ry, aI G 16 fy), (rh, aI G 16 fh), (told, ob 8 [.ref tn, .int ((0 + 1) + 1)]), (tn, aJ G 16 (vp_updL (vp_updL fn (0 : Int32).toNatClampNeg rz_7) ((0 : Int32) + 1).toNatClampNeg rz_14))]) rfl (by decide) (by decide) ?_
    rintro _ _ ⟨rz_17, f138_18, rfl, rfl⟩
    refine Z.at (pc' := 141) (st' := [.long rz_17, .ref told]) (ws' := [(x, ob 10 [.ref told, x_reader, .ref ring, .ref speeds, x_wheel, x_trials, x_span, x_search, x_kept, .ref crosses, .ref trueMasses, x_thought, x_up, x_low, x_fits, x_pulls]), (sf, aI G 6 ff), (so, aI G 6 fo), (crosses, aI G 4 cr), (trueMasses, aI G 8 fm), (speeds, ob 7 [.int sc, .ref sf, .ref so, sX0, sX1, sX2]), (ring, ob 5 [.int hc, .ref rp, .ref rx, .ref ry, g_rr, .ref rh, g_rd, .int ph, .int po]), (rp, aI G 16 fp), (rx, aI G 16 fx), (ry, aI G 16 fy), (rh, aI G 16 fh), (told, ob 8 [.ref tn, .int ((0 + 1) + 1)]), (tn, aJ G 16 (vp_updL (vp_updL fn (0 : Int32).toNatClampNeg rz_7) ((0 : Int32) + 1).toNatClampNeg rz_14))]) (kc' := 0) (ks' := 0) rfl rfl rfl rfl rfl ?_
    refine z_callV X k_10_183 (cv_X8_addF l G told tn ((0 + 1) + 1) (vp_updL (vp_updL fn (0 : Int32).toNatClampNeg rz_7) ((0 : Int32) + 1).toNatClampNeg rz_14) rz_17 ((((0 + 1)) + 1)) (tI_add (tI_add (show (0 : Int32).toInt = 0 from by decide) (show (1 : Int32).toInt = 1 from by decide) (by omega)) (show (1 : Int32).toInt = 1 from by decide) (by omega)) (by omega)) dv_X10_part_141 11 rfl rfl rfl ⟨Nat.le_of_ble_eq_true rfl, Nat.le_of_ble_eq_true rfl⟩ ⟨Nat.le_of_ble_eq_true rfl, Nat.le_of_ble_eq_true rfl⟩ rfl (rest := []) (As := [.long rz_17]) rfl (Nat.le_of_ble_eq_true rfl) [11, 12] [0, 1, 2, 3, 4, 5, 6, 7, 8, 9, 10] rfl (by decide) (wr := [(x, ob 10 [.ref told, x_reader, .ref ring, .ref speeds, x_wheel, x_trials, x_span, x_search, x_kept, .ref crosses, .ref trueMasses, x_thought, x_up, x_low, x_fits, x_pulls]), (sf, aI G 6 ff), (so, aI G 6 fo), (crosses, aI G 4 cr), (trueMasses, aI G 8 fm), (speeds, ob 7 [.int sc, .ref sf, .ref so, sX0, sX1, sX2]), (ring, ob 5 [.int hc, .ref rp, .ref rx, .ref ry, g_rr, .ref rh, g_rd, .int ph, .int po]), (rp, aI G 16 fp), (rx, aI G 16 fx), (ry, aI G 16 fy), (rh, aI G 16 fh)]) rfl (by decide) (by decide) ?_
    rintro _ _ ⟨rfl, rfl⟩
    refine Z.at (pc' := 144) (st' := []) (ws' := [(x, ob 10 [.ref told, x_reader, .ref ring, .ref speeds, x_wheel, x_trials, x_span, x_search, x_kept, .ref crosses, .ref trueMasses, x_thought, x_up, x_low, x_fits, x_pulls]), (sf, aI G 6 ff), (so, aI G 6 fo), (crosses, aI G 4 cr), (trueMasses, aI G 8 fm), (speeds, ob 7 [.int sc, .ref sf, .ref so, sX0, sX1, sX2]), (ring, ob 5 [.int hc, .ref rp, .ref rx, .ref ry, g_rr, .ref rh, g_rd, .int ph, .int po]), (rp, aI G 16 fp), (rx, aI G 16 fx), (ry, aI G 16 fy), (rh, aI G 16 fh), (told, ob 8 [.ref tn, .int (((0 + 1) + 1) + 1)]), (tn, aJ G 16 (vp_updL (vp_updL (vp_updL fn (0 : Int32).toNatClampNeg rz_7) ((0 : Int32) + 1).toNatClampNeg rz_14) (((0 : Int32) + 1) + 1).toNatClampNeg rz_17))]) (kc' := 0) (ks' := 0) rfl rfl rfl rfl rfl ?_
    refine z_run X bv_X10_part_144_145 kv_X10_part_144_145 (lv' := [(2, .long (fo sq.toNatClampNeg).toInt64), (0, .ref x), (1, .int sq)]) (st' := [.ref x]) rfl ?_
    refine z_get X fl_10_12 dv_X10_part_145 0 rfl (v := .ref told) rfl ?_
    refine z_run X bv_X10_part_148_149 kv_X10_part_148_149 (lv' := [(2, .long (fo sq.toNatClampNeg).toInt64), (0, .ref x), (1, .int sq)]) (st' := [.ref x, .ref told]) rfl ?_
    refine z_get X fl_10_75 dv_X10_part_149 0 rfl (v := .ref trueMasses) rfl ?_
    refine z_run X bv_X10_part_152_154 kv_X10_part_152_154 (lv' := [(2, .long (fo sq.toNatClampNeg).toInt64), (0, .ref x), (1, .int sq)]) (st' := [.int 6, .ref trueMasses, .ref told]) rfl ?_
    refine z_iald X dv_X10_part_154 4 rfl (show vp_in _ _ from by unfold vp_in; decide) (v := (fm (6 : Int32).toNatClampNeg)) rfl ?_
    refine z_run X bv_X10_part_155_157 kv_X10_part_155_157 (lv' := [(2, .long (fo sq.toNatClampNeg).toInt64), (0, .ref x), (1, .int sq)]) (st' := [.ref x, .long (fm (6 : Int32).toNatClampNeg).toInt64, .ref told]) rfl ?_
    refine z_get X fl_10_75 dv_X10_part_157 0 rfl (v := .ref trueMasses) rfl ?_
    refine z_run X bv_X10_part_160_162 kv_X10_part_160_162 (lv' := [(2, .long (fo sq.toNatClampNeg).toInt64), (0, .ref x), (1, .int sq)]) (st' := [.int 7, .ref trueMasses, .long (fm (6 : Int32).toNatClampNeg).toInt64, .ref told]) rfl ?_
    refine z_iald X dv_X10_part_162 4 rfl (show vp_in _ _ from by unfold vp_in; decide) (v := (fm (7 : Int32).toNatClampNeg)) rfl ?_
    refine z_run X bv_X10_part_163_164 kv_X10_part_163_164 (lv' := [(2, .long (fo sq.toNatClampNeg).toInt64), (0, .ref x), (1, .int sq)]) (st' := [.long (fm (7 : Int32).toNatClampNeg).toInt64, .long (fm (6 : Int32).toNatClampNeg).toInt64, .ref told]) rfl ?_
    refine z_callS X k_10_187 (cv_X10_sizeOfF l G (fm (6 : Int32).toNatClampNeg).toInt64 (fm (7 : Int32).toNatClampNeg).toInt64) dv_X10_part_164 ⟨Nat.le_of_ble_eq_true rfl, Nat.le_of_ble_eq_true rfl⟩ ⟨Nat.le_of_ble_eq_true rfl, Nat.le_of_ble_eq_true rfl⟩ rfl (rest := [.ref told]) (As := [.long (fm (6 : Int32).toNatClampNeg).toInt64, .long (fm (7 : Int32).toNatClampNeg).toInt64]) rfl (Nat.le_of_ble_eq_true rfl) [] [0, 1, 2, 3, 4, 5, 6, 7, 8, 9, 10, 11, 12] rfl (by decide) (wr := [(x, ob 10 [.ref told, x_reader, .ref ring, .ref speeds, x_wheel, x_trials, x_span, x_search, x_kept, .ref crosses, .ref trueMasses, x_thought, x_up, x_low, x_fits, x_pulls]), (sf, aI G 6 ff), (so, aI G 6 fo), (crosses, aI G 4 cr), (trueMasses, aI G 8 fm), (speeds, ob 7 [.int sc, .ref sf, .ref so, sX0, sX1, sX2]), (ring, ob 5 [.int hc, .ref rp, .ref rx, .ref ry, g_rr, .ref rh, g_rd, .int ph, .int po]), (rp, aI G 16 fp), (rx, aI G 16 fx), (ry, aI G 16 fy), (rh, aI G 16 fh), (told, ob 8 [.ref tn, .int (((0 + 1) + 1) + 1)]), (tn, aJ G 16 (vp_updL (vp_updL (vp_updL fn (0 : Int32).toNatClampNeg rz_7) ((0 : Int32) + 1).toNatClampNeg rz_14) (((0 : Int32) + 1) + 1).toNatClampNeg rz_17))]) rfl (by decide) (by decide) ?_
    rintro _ _ ⟨rz_19, f164_20, rfl, rfl⟩
    refine Z.at (pc' := 167) (st' := [.long rz_19, .ref told]) (ws' := [(x, ob 10 [.ref told, x_reader, .ref ring, .ref speeds, x_wheel, x_trials, x_span, x_search, x_kept, .ref crosses, .ref trueMasses, x_thought, x_up, x_low, x_fits, x_pulls]), (sf, aI G 6 ff), (so, aI G 6 fo), (crosses, aI G 4 cr), (trueMasses, aI G 8 fm), (speeds, ob 7 [.int sc, .ref sf, .ref so, sX0, sX1, sX2]), (ring, ob 5 [.int hc, .ref rp, .ref rx, .ref ry, g_rr, .ref rh, g_rd, .int ph, .int po]), (rp, aI G 16 fp), (rx, aI G 16 fx), (ry, aI G 16 fy), (rh, aI G 16 fh), (told, ob 8 [.ref tn, .int (((0 + 1) + 1) + 1)]), (tn, aJ G 16 (vp_updL (vp_updL (vp_updL fn (0 : Int32).toNatClampNeg rz_7) ((0 : Int32) + 1).toNatClampNeg rz_14) (((0 : Int32) + 1) + 1).toNatClampNeg rz_17))]) (kc' := 0) (ks' := 0) rfl rfl rfl rfl rfl ?_
    refine z_callV X k_10_183 (cv_X8_addF l G told tn (((0 + 1) + 1) + 1) (vp_updL (vp_updL (vp_updL fn (0 : Int32).toNatClampNeg rz_7) ((0 : Int32) + 1).toNatClampNeg rz_14) (((0 : Int32) + 1) + 1).toNatClampNeg rz_17) rz_19 ((((((0 + 1)) + 1)) + 1)) (tI_add (tI_add (tI_add (show (0 : Int32).toInt = 0 from by decide) (show (1 : Int32).toInt = 1 from by decide) (by omega)) (show (1 : Int32).toInt = 1 from by decide) (by omega)) (show (1 : Int32).toInt = 1 from by decide) (by omega)) (by omega)) dv_X10_part_167 11 rfl rfl rfl ⟨Nat.le_of_ble_eq_true rfl, Nat.le_of_ble_eq_true rfl⟩ ⟨Nat.le_of_ble_eq_true rfl, Nat.le_of_ble_eq_true rfl⟩ rfl (rest := []) (As := [.long rz_19]) rfl (Nat.le_of_ble_eq_true rfl) [11, 12] [0, 1, 2, 3, 4, 5, 6, 7, 8, 9, 10] rfl (by decide) (wr := [(x, ob 10 [.ref told, x_reader, .ref ring, .ref speeds, x_wheel, x_trials, x_span, x_search, x_kept, .ref crosses, .ref trueMasses, x_thought, x_up, x_low, x_fits, x_pulls]), (sf, aI G 6 ff), (so, aI G 6 fo), (crosses, aI G 4 cr), (trueMasses, aI G 8 fm), (speeds, ob 7 [.int sc, .ref sf, .ref so, sX0, sX1, sX2]), (ring, ob 5 [.int hc, .ref rp, .ref rx, .ref ry, g_rr, .ref rh, g_rd, .int ph, .int po]), (rp, aI G 16 fp), (rx, aI G 16 fx), (ry, aI G 16 fy), (rh, aI G 16 fh)]) rfl (by decide) (by decide) ?_
    rintro _ _ ⟨rfl, rfl⟩
    refine Z.at (pc' := 170) (st' := []) (ws' := [(x, ob 10 [.ref told, x_reader, .ref ring, .ref speeds, x_wheel, x_trials, x_span, x_search, x_kept, .ref crosses, .ref trueMasses, x_thought, x_up, x_low, x_fits, x_pulls]), (sf, aI G 6 ff), (so, aI G 6 fo), (crosses, aI G 4 cr), (trueMasses, aI G 8 fm), (speeds, ob 7 [.int sc, .ref sf, .ref so, sX0, sX1, sX2]), (ring, ob 5 [.int hc, .ref rp, .ref rx, .ref ry, g_rr, .ref rh, g_rd, .int ph, .int po]), (rp, aI G 16 fp), (rx, aI G 16 fx), (ry, aI G 16 fy), (rh, aI G 16 fh), (told, ob 8 [.ref tn, .int ((((0 + 1) + 1) + 1) + 1)]), (tn, aJ G 16 (vp_updL (vp_updL (vp_updL (vp_updL fn (0 : Int32).toNatClampNeg rz_7) ((0 : Int32) + 1).toNatClampNeg rz_14) (((0 : Int32) + 1) + 1).toNatClampNeg rz_17) ((((0 : Int32) + 1) + 1) + 1).toNatClampNeg rz_19))]) (kc' := 0) (ks' := 0) rfl rfl rfl rfl rfl ?_
    refine z_run X bv_X10_part_170_171 kv_X10_part_170_171 (lv' := [(2, .long (fo sq.toNatClampNeg).toInt64), (0, .ref x), (1, .int sq)]) (st' := [.ref x]) rfl ?_
    refine z_get X fl_10_12 dv_X10_part_171 0 rfl (v := .ref told) rfl ?_
    refine z_callV X k_10_449 (cv_X8_placeOfGreatestF l G told tn ((((0 + 1) + 1) + 1) + 1) (vp_updL (vp_updL (vp_updL (vp_updL fn (0 : Int32).toNatClampNeg rz_7) ((0 : Int32) + 1).toNatClampNeg rz_14) (((0 : Int32) + 1) + 1).toNatClampNeg rz_17) ((((0 : Int32) + 1) + 1) + 1).toNatClampNeg rz_19) ((((((((0 + 1)) + 1)) + 1)) + 1)) (tI_add (tI_add (tI_add (tI_add (show (0 : Int32).toInt = 0 from by decide) (show (1 : Int32).toInt = 1 from by decide) (by omega)) (show (1 : Int32).toInt = 1 from by decide) (by omega)) (show (1 : Int32).toInt = 1 from by decide) (by omega)) (show (1 : Int32).toInt = 1 from by decide) (by omega)) (by omega)) dv_X10_part_174 11 rfl rfl rfl ⟨Nat.le_of_ble_eq_true rfl, Nat.le_of_ble_eq_true rfl⟩ ⟨Nat.le_of_ble_eq_true rfl, Nat.le_of_ble_eq_true rfl⟩ rfl (rest := []) (As := []) rfl (Nat.le_of_ble_eq_true rfl) [11, 12] [0, 1, 2, 3, 4, 5, 6, 7, 8, 9, 10] rfl (by decide) (wr := [(x, ob 10 [.ref told, x_reader, .ref ring, .ref speeds, x_wheel, x_trials, x_span, x_search, x_kept, .ref crosses, .ref trueMasses, x_thought, x_up, x_low, x_fits, x_pulls]), (sf, aI G 6 ff), (so, aI G 6 fo), (crosses, aI G 4 cr), (trueMasses, aI G 8 fm), (speeds, ob 7 [.int sc, .ref sf, .ref so, sX0, sX1, sX2]), (ring, ob 5 [.int hc, .ref rp, .ref rx, .ref ry, g_rr, .ref rh, g_rd, .int ph, .int po]), (rp, aI G 16 fp), (rx, aI G 16 fx), (ry, aI G 16 fy), (rh, aI G 16 fh)]) rfl (by decide) (by decide) ?_
    rintro _ _ ⟨rz_21, f174_22, rfl, rfl⟩
    refine Z.at (pc' := 177) (st' := [.int rz_21]) (ws' := [(x, ob 10 [.ref told, x_reader, .ref ring, .ref speeds, x_wheel, x_trials, x_span, x_search, x_kept, .ref crosses, .ref trueMasses, x_thought, x_up, x_low, x_fits, x_pulls]), (sf, aI G 6 ff), (so, aI G 6 fo), (crosses, aI G 4 cr), (trueMasses, aI G 8 fm), (speeds, ob 7 [.int sc, .ref sf, .ref so, sX0, sX1, sX2]), (ring, ob 5 [.int hc, .ref rp, .ref rx, .ref ry, g_rr, .ref rh, g_rd, .int ph, .int po]), (rp, aI G 16 fp), (rx, aI G 16 fx), (ry, aI G 16 fy), (rh, aI G 16 fh), (told, ob 8 [.ref tn, .int ((((0 + 1) + 1) + 1) + 1)]), (tn, aJ G 16 (vp_updL (vp_updL (vp_updL (vp_updL fn (0 : Int32).toNatClampNeg rz_7) ((0 : Int32) + 1).toNatClampNeg rz_14) (((0 : Int32) + 1) + 1).toNatClampNeg rz_17) ((((0 : Int32) + 1) + 1) + 1).toNatClampNeg rz_19))]) (kc' := 0) (ks' := 0) rfl rfl rfl rfl rfl ?_
    exact z_iret X rfl dv_X10_part_177 (Nat.le_of_ble_eq_true rfl) (Nat.le_of_ble_eq_true rfl) ⟨rz_21, (by rw [f174_22, mPart_yes (by omega)]; exact congrArg (fun z : Nat => (z : Int)) (gp_congr4 (show ∀ j : Nat, j < 4 → ((vp_updL (vp_updL (vp_updL (vp_updL fn (0 : Int32).toNatClampNeg rz_7) ((0 : Int32) + 1).toNatClampNeg rz_14) (((0 : Int32) + 1) + 1).toNatClampNeg rz_17) ((((0 : Int32) + 1) + 1) + 1).toNatClampNeg rz_19)) j = pX hci fp fh fx fy ph po cr fm ff fo sq.toNatClampNeg j from by intro j hj; rcases (by omega : j = 0 ∨ j = 1 ∨ j = 2 ∨ j = 3) with rfl | rfl | rfl | rfl; (show rz_7 = _; rw [f93_8, f64_4, f87_6]; rfl); (show rz_14 = _; rw [f93_15, f64_11, f87_13]; rfl); (show rz_17 = _; rw [f138_18]; rfl); (show rz_19 = _; rw [f164_20]; rfl)))), rfl⟩
  ·
    refine z_run X bv_X10_part_11_12 kv_X10_part_11_12 (lv' := [(0, .ref x), (1, .int sq)]) (st' := [.int (-1)]) rfl ?_
    exact z_iret X rfl dv_X10_part_12 (Nat.le_of_ble_eq_true rfl) (Nat.le_of_ble_eq_true rfl) ⟨((-1) : Int32), ((show (-1 : Int32).toInt = -1 from by decide).trans (mPart_no (by omega)).symm), rfl⟩

