/-! both, floor, whose: what they answer -/
section ZLM
variable {p : Program} {l : Launch} {e : Env} {R : Room} {s : State} {m : MethodId} {args : Array Value} {below : List Frame} {meth : Method} {c : Code} {nL : Nat} {G : KG} {A : Nat → Prop} {Q : State → Prop} {cc : ByteArray} {own : String} {ret : Option FieldType} {nm : String}
variable {pc : Nat} {rest : List Value} {ws : va_W} {kc ks : Nat}
theorem z_labs (X : ZC p s m args meth c cc nL own G A ret nm) {lv : List (Nat × Value)} {x : Int64} {idx : Nat} (h1 : Cond.methodLink own idx Lib.MathLoose.abs_long.x ∈ BIG) (h2 : Cond.static Lib.MathLoose.abs_long.x ∈ BIG) (h3 : Cond.initialized "java/lang/Math" ∈ BIG) (h4 : Cond.code Lib.MathLoose.abs_long.x Lib.MathLoose.abs_long.code 2 (some .long) ∈ BIG) (hR : 1 ≤ R.frames ∧ (rest.map fun v => v.category).sum + 13 ≤ R.locals) (hf : kc ≤ R.cells ∧ ks ≤ R.slots) (hdg : decode cc pc = .ok (.invokestatic idx, 3)) {v : Int64} (hv : (if 0 < x then x else -x) = v) (kz : Z p l e R s m args below meth c nL G A Q (pc + 3) lv (.long v :: rest) ws kc ks) : Z p l e R s m args below meth c nL G A Q pc lv (.long x :: rest) ws kc ks := by
  subst hv
  exact fun H locs ls hP hD hS hl => va_mabs_long X.1 X.2.1 (X.2.2.1.trans hl.1.symm) X.2.2.2.1 (X.2.2.2.2.1 _ h1) (X.2.2.2.2.1 _ h2) (X.2.2.2.2.1 _ h3) (X.2.2.2.2.1 _ h4) hR.1 hR.2 hf.1 hf.2 hdg (kz H locs ls hP hD hS hl)
theorem z_callSW {idx mx n : Nat} {y : MethodName} {cy : ByteArray} {rt : Option FieldType} {rm : Room} {As st : List Value} {post : Option Value → va_W → Prop} {w0 wr : va_W} {lv : List (Nat × Value)} (X : ZC p s m args meth c cc nL own G A ret nm) (K : LkS own idx y cy mx rt n) (hM : Ct l G y cy mx rt rm As w0 post) (hdg : decode cc pc = .ok (.invokestatic idx, 3)) (hR : rm.frames + 1 ≤ R.frames ∧ 12 + (mx + 11) + rm.locals ≤ R.locals) (hf : kc + rm.cells ≤ R.cells ∧ ks + rm.slots ≤ R.slots) (hn : As.length = n) (hst : st = As.reverse ++ rest) (hcat : (rest.map fun v => v.category).sum ≤ 12) (isC isR : List Nat) (hC : isC.map (fun i => ws[i]?) = w0.map some) (hnC : va_nd isC = true) (hRw : isR.map (fun i => ws[i]?) = wr.map some) (hnR : va_nd isR = true) (hdis : (isR.all fun i => decide (i ∉ isC)) = true)
    (kk : ∀ (r : Option Value) (w1 : va_W), post r w1 → Z p l e R s m args below meth c nL G A Q (pc + 3) lv (r.toList ++ rest) (wr ++ w1) (kc + rm.cells) (ks + rm.slots)) : Z p l e R s m args below meth c nL G A Q pc lv st ws kc ks := by
  obtain ⟨k1, k2, k3, k5, k7, k8, k9⟩ := K
  subst hst
  intro H locs ls hP hD hS hl
  have hts := X.2.2.2.2.1
  exact z_cont (wide_runS (As := As) (rest := rest) ⟨X.1, X.2.1, X.2.2.1, X.2.2.2.1, hts⟩ (hM H.size) ⟨callB_of n hts (goodIn_wsOf k5) rfl rfl rfl (hts _ k3) (hts _ k1) ⟨k7, k8, k9⟩ ⟨hR.1, by omega⟩, hts _ k2⟩ hR.2 ⟨Pcx.blind, pre_v (locs := locs) X hP hD isC hC hnC _⟩ rfl hn hl.1 rfl (lv_room12 hcat) hdg hf) X.2.2.2.2.2.2.1 hP hD hS hl isC isR hC hRw hnR hdis kk
end ZLM
theorem ne_of {d : Int64} (h : d.toInt ≠ 0) : ¬ d = 0 := fun q => h (by rw [q]; rfl)
theorem cF_X11_common (l : Launch) (G : KG) (xq yq : Int64) (yi : Int) (hyq : yq.toInt = yi) (hy0 : yi ≠ 0) : Ct l G yX11_common cX11_common 10 (some .long) { frames := 0, cells := 0, slots := 0, locals := 0 } [.long xq, .long yq] [] (fun r w1 => ∃ (rz : Int64), (rz.toInt ≠ 0) ∧ r = some (.long rz) ∧ w1 = []) := by
  refine ct_of [(0, .long xq), (2, .long yq)] (by decide) (Nat.le_of_ble_eq_true rfl) rfl ?_
  intro p0 e0 s0 m0 args0 below0 meth0 c0 A X
  exact cm_body (R := { frames := 0, cells := 0, slots := 0, locals := 0 }) (by rw [hyq]; exact hy0) X (fun g hg => ⟨g, hg, rfl, rfl⟩)
theorem ptd {x : Int64} (h : 0 ≤ x.toInt) : (x / 200000).toInt = x.toInt / 200000 ∧ (x - x / 200000 * 200000).toInt = x.toInt % 200000 ∧ x.toInt ≤ 9223372036854775807 := by
  have u := i64_hi x
  unfold lMax at u
  have e2 : (200000 : Int64).toInt = 200000 := by decide
  have e1 : (x / 200000).toInt = x.toInt / 200000 := by
    rw [Int64.toInt_div, e2, Int.tdiv_eq_ediv_of_nonneg h]
    exact b64 (by omega) (by omega)
  refine ⟨e1, ?_, u⟩
  rw [lrem_t, e2, Int.tmod_eq_emod_of_nonneg h]
theorem do_X8_start_2 : decode cX8_start 2 = .ok (.putfield 15, 3) := by decide +kernel
theorem do_X8_start_5 : decode cX8_start 5 = .ok (.return_, 1) := by decide +kernel
abbrev bo_X8_start_0_2 : ZB := [(.aload_n 0, .null), (.iconst 0, .int 0)]
theorem ko_X8_start_0_2 : zchk cX8_start bo_X8_start_0_2 0 = true ∧ zpc bo_X8_start_0_2 0 = 2 := ⟨by decide +kernel, rfl⟩
set_option maxHeartbeats 4000000 in
set_option maxRecDepth 100000 in
theorem co_X8_start (l : Launch) (G : KG) (told : Nat) (tn : Nat) (tl : Int32) (fn : Nat → Int64) : Ct l G yX8_start cX8_start 1 none { frames := 0, cells := 0, slots := 0, locals := 0 } [.ref told] [(told, ob 8 [.ref tn, .int tl]), (tn, aJ G 16 fn)] (fun r w1 => r = none ∧ w1 = [(told, ob 8 [.ref tn, .int 0]), (tn, aJ G 16 fn)]) := by
  refine ct_of [(0, .ref told)] (by decide) (Nat.le_of_ble_eq_true rfl) rfl ?_
  intro p0 e0 s0 m0 args0 below0 meth0 c0 A X
  refine z_run X bo_X8_start_0_2 ko_X8_start_0_2 (lv' := [(0, .ref told)]) (st' := [.int 0, .ref told]) rfl ?_
  refine z_put X fl_8_15 do_X8_start_2 0 rfl (ty := .int) (T := TX8) (N := 2) rfl (Or.inl rfl) (by decide +kernel) rfl (by rfl) (Nat.le_of_ble_eq_true rfl) (ws' := [(told, ob 8 [.ref tn, .int 0]), (tn, aJ G 16 fn)]) rfl ?_
  exact z_vret X rfl do_X8_start_5 (Nat.le_of_ble_eq_true rfl) (Nat.le_of_ble_eq_true rfl) ⟨rfl, rfl⟩

theorem do_X8_add_1 : decode cX8_add 1 = .ok (.getfield 15, 3) := by decide +kernel
theorem do_X8_add_5 : decode cX8_add 5 = .ok (.getfield 9, 3) := by decide +kernel
theorem do_X8_add_8 : decode cX8_add 8 = .ok (.arraylength, 1) := by decide +kernel
theorem do_X8_add_9 : decode cX8_add 9 = .ok (.if_icmp .ge 23, 3) := by decide +kernel
theorem do_X8_add_32 : decode cX8_add 32 = .ok (.return_, 1) := by decide +kernel
theorem do_X8_add_13 : decode cX8_add 13 = .ok (.getfield 9, 3) := by decide +kernel
theorem do_X8_add_17 : decode cX8_add 17 = .ok (.getfield 15, 3) := by decide +kernel
theorem do_X8_add_21 : decode cX8_add 21 = .ok (.lastore, 1) := by decide +kernel
theorem do_X8_add_24 : decode cX8_add 24 = .ok (.getfield 15, 3) := by decide +kernel
theorem do_X8_add_29 : decode cX8_add 29 = .ok (.putfield 15, 3) := by decide +kernel
abbrev bo_X8_add_0_1 : ZB := [(.aload_n 0, .null)]
theorem ko_X8_add_0_1 : zchk cX8_add bo_X8_add_0_1 0 = true ∧ zpc bo_X8_add_0_1 0 = 1 := ⟨by decide +kernel, rfl⟩
abbrev bo_X8_add_4_5 : ZB := [(.aload_n 0, .null)]
theorem ko_X8_add_4_5 : zchk cX8_add bo_X8_add_4_5 4 = true ∧ zpc bo_X8_add_4_5 4 = 5 := ⟨by decide +kernel, rfl⟩
abbrev bo_X8_add_12_13 : ZB := [(.aload_n 0, .null)]
theorem ko_X8_add_12_13 : zchk cX8_add bo_X8_add_12_13 12 = true ∧ zpc bo_X8_add_12_13 12 = 13 := ⟨by decide +kernel, rfl⟩
abbrev bo_X8_add_16_17 : ZB := [(.aload_n 0, .null)]
theorem ko_X8_add_16_17 : zchk cX8_add bo_X8_add_16_17 16 = true ∧ zpc bo_X8_add_16_17 16 = 17 := ⟨by decide +kernel, rfl⟩
abbrev bo_X8_add_20_21 : ZB := [(.lload_n 1, .null)]
theorem ko_X8_add_20_21 : zchk cX8_add bo_X8_add_20_21 20 = true ∧ zpc bo_X8_add_20_21 20 = 21 := ⟨by decide +kernel, rfl⟩
abbrev bo_X8_add_22_24 : ZB := [(.aload_n 0, .null), (.dup, .null)]
theorem ko_X8_add_22_24 : zchk cX8_add bo_X8_add_22_24 22 = true ∧ zpc bo_X8_add_22_24 22 = 24 := ⟨by decide +kernel, rfl⟩
abbrev bo_X8_add_27_29 : ZB := [(.iconst 1, .int 1), (.iadd, .null)]
theorem ko_X8_add_27_29 : zchk cX8_add bo_X8_add_27_29 27 = true ∧ zpc bo_X8_add_27_29 27 = 29 := ⟨by decide +kernel, rfl⟩
set_option maxHeartbeats 4000000 in
set_option maxRecDepth 100000 in
theorem co_X8_add (l : Launch) (G : KG) (told : Nat) (tn : Nat) (tl : Int32) (fn : Nat → Int64) (v : Int64) (tli : Int) (htl : tl.toInt = tli) (ht16 : 0 ≤ tli ∧ tli ≤ 16) : Ct l G yX8_add cX8_add 3 none { frames := 0, cells := 0, slots := 0, locals := 0 } [.ref told, .long v] [(told, ob 8 [.ref tn, .int tl]), (tn, aJ G 16 fn)] (fun r w1 => ∃ (tl2 : Int32), ∃ (fn2 : Nat → Int64), (0 ≤ tl2.toInt ∧ tl2.toInt ≤ 16) ∧ r = none ∧ w1 = [(told, ob 8 [.ref tn, .int tl2]), (tn, aJ G 16 fn2)]) := by
  refine ct_of [(0, .ref told), (1, .long v)] (by decide) (Nat.le_of_ble_eq_true rfl) rfl ?_
  intro p0 e0 s0 m0 args0 below0 meth0 c0 A X
  refine z_run X bo_X8_add_0_1 ko_X8_add_0_1 (lv' := [(0, .ref told), (1, .long v)]) (st' := [.ref told]) rfl ?_
  refine z_get X fl_8_15 do_X8_add_1 0 rfl (v := .int tl) rfl ?_
  refine z_run X bo_X8_add_4_5 ko_X8_add_4_5 (lv' := [(0, .ref told), (1, .long v)]) (st' := [.ref told, .int tl]) rfl ?_
  refine z_get X fl_8_9 do_X8_add_5 0 rfl (v := .ref tn) rfl ?_
  refine z_alen X do_X8_add_8 1 1 rfl rfl (v := 16) rfl ?_
  refine zc_ge X do_X8_add_9 (tgt := 32) (by decide) (a := tli) (b := 16) htl (show (16 : Int32).toInt = 16 from by decide) (fun c9_1 => ?_) (fun c9_1 => ?_)
  ·
    exact z_vret X rfl do_X8_add_32 (Nat.le_of_ble_eq_true rfl) (Nat.le_of_ble_eq_true rfl) ⟨tl, fn, (by have e : (tl : Int32).toInt = tli := htl; omega), rfl, rfl⟩
  ·
    refine z_run X bo_X8_add_12_13 ko_X8_add_12_13 (lv' := [(0, .ref told), (1, .long v)]) (st' := [.ref told]) rfl ?_
    refine z_get X fl_8_9 do_X8_add_13 0 rfl (v := .ref tn) rfl ?_
    refine z_run X bo_X8_add_16_17 ko_X8_add_16_17 (lv' := [(0, .ref told), (1, .long v)]) (st' := [.ref told, .ref tn]) rfl ?_
    refine z_get X fl_8_15 do_X8_add_17 0 rfl (v := .int tl) rfl ?_
    refine z_run X bo_X8_add_20_21 ko_X8_add_20_21 (lv' := [(0, .ref told), (1, .long v)]) (st' := [.long v, .int tl, .ref tn]) rfl ?_
    refine z_last X do_X8_add_21 1 rfl (vin htl (by omega) (by omega)) (ws' := [(told, ob 8 [.ref tn, .int tl]), (tn, aJ G 16 (vp_updL fn tl.toNatClampNeg v))]) rfl ?_
    refine z_run X bo_X8_add_22_24 ko_X8_add_22_24 (lv' := [(0, .ref told), (1, .long v)]) (st' := [.ref told, .ref told]) rfl ?_
    refine z_get X fl_8_15 do_X8_add_24 0 rfl (v := .int tl) rfl ?_
    refine z_run X bo_X8_add_27_29 ko_X8_add_27_29 (lv' := [(0, .ref told), (1, .long v)]) (st' := [.int (tl + 1), .ref told]) rfl ?_
    refine z_put X fl_8_15 do_X8_add_29 0 rfl (ty := .int) (T := TX8) (N := 2) rfl (Or.inl rfl) (by decide +kernel) rfl (by rfl) (Nat.le_of_ble_eq_true rfl) (ws' := [(told, ob 8 [.ref tn, .int (tl + 1)]), (tn, aJ G 16 (vp_updL fn tl.toNatClampNeg v))]) rfl ?_
    exact z_vret X rfl do_X8_add_32 (Nat.le_of_ble_eq_true rfl) (Nat.le_of_ble_eq_true rfl) ⟨(tl + 1), (vp_updL fn tl.toNatClampNeg v), (by have e : ((tl + 1) : Int32).toInt = (tli + 1) := (tI_add htl (show (1 : Int32).toInt = 1 from by decide) (by omega)); omega), rfl, rfl⟩

theorem do_X8_greatestDivisor_14 : decode cX8_greatestDivisor 14 = .ok (.if_icmp .ge 31, 3) := by decide +kernel
theorem do_X8_greatestDivisor_47 : decode cX8_greatestDivisor 47 = .ok (.lreturn, 1) := by decide +kernel
theorem do_X8_greatestDivisor_20 : decode cX8_greatestDivisor 20 = .ok (.lcmp, 1) := by decide +kernel
theorem do_X8_greatestDivisor_21 : decode cX8_greatestDivisor 21 = .ok (.ifCond .eq 24, 3) := by decide +kernel
theorem do_X8_greatestDivisor_28 : decode cX8_greatestDivisor 28 = .ok (.lrem, 1) := by decide +kernel
theorem do_X8_greatestDivisor_42 : decode cX8_greatestDivisor 42 = .ok (.goto (-33), 3) := by decide +kernel
abbrev bo_X8_greatestDivisor_0_9 : ZB := [(.lload_n 0, .null), (.lstore 4, .null), (.lload_n 2, .null), (.lstore 6, .null), (.iconst 0, .int 0), (.istore 8, .null)]
theorem ko_X8_greatestDivisor_0_9 : zchk cX8_greatestDivisor bo_X8_greatestDivisor_0_9 0 = true ∧ zpc bo_X8_greatestDivisor_0_9 0 = 9 := ⟨by decide +kernel, rfl⟩
abbrev bo_X8_greatestDivisor_9_14 : ZB := [(.iload 8, .null), (.sipush 128, .int 128)]
theorem ko_X8_greatestDivisor_9_14 : zchk cX8_greatestDivisor bo_X8_greatestDivisor_9_14 9 = true ∧ zpc bo_X8_greatestDivisor_9_14 9 = 14 := ⟨by decide +kernel, rfl⟩
abbrev bo_X8_greatestDivisor_45_47 : ZB := [(.lload 4, .null)]
theorem ko_X8_greatestDivisor_45_47 : zchk cX8_greatestDivisor bo_X8_greatestDivisor_45_47 45 = true ∧ zpc bo_X8_greatestDivisor_45_47 45 = 47 := ⟨by decide +kernel, rfl⟩
abbrev bo_X8_greatestDivisor_17_20 : ZB := [(.lload 6, .null), (.lconst 0, .long 0)]
theorem ko_X8_greatestDivisor_17_20 : zchk cX8_greatestDivisor bo_X8_greatestDivisor_17_20 17 = true ∧ zpc bo_X8_greatestDivisor_17_20 17 = 20 := ⟨by decide +kernel, rfl⟩
abbrev bo_X8_greatestDivisor_24_28 : ZB := [(.lload 4, .null), (.lload 6, .null)]
theorem ko_X8_greatestDivisor_24_28 : zchk cX8_greatestDivisor bo_X8_greatestDivisor_24_28 24 = true ∧ zpc bo_X8_greatestDivisor_24_28 24 = 28 := ⟨by decide +kernel, rfl⟩
abbrev bo_X8_greatestDivisor_29_42 : ZB := [(.lstore 9, .null), (.lload 6, .null), (.lstore 4, .null), (.lload 9, .null), (.lstore 6, .null), (.iinc 8 1, .int 1)]
theorem ko_X8_greatestDivisor_29_42 : zchk cX8_greatestDivisor bo_X8_greatestDivisor_29_42 29 = true ∧ zpc bo_X8_greatestDivisor_29_42 29 = 42 := ⟨by decide +kernel, rfl⟩
set_option maxHeartbeats 4000000 in
set_option maxRecDepth 100000 in
theorem co_X8_greatestDivisor (l : Launch) (G : KG) (aq : Int64) (bq : Int64) : Ct l G yX8_greatestDivisor cX8_greatestDivisor 11 (some .long) { frames := 0, cells := 0, slots := 0, locals := 0 } [.long aq, .long bq] [] (fun r w1 => ∃ (rz : Int64), r = some (.long rz) ∧ w1 = []) := by
  refine ct_of [(0, .long aq), (2, .long bq)] (by decide) (Nat.le_of_ble_eq_true rfl) rfl ?_
  intro p0 e0 s0 m0 args0 below0 meth0 c0 A X
  refine z_run X bo_X8_greatestDivisor_0_9 ko_X8_greatestDivisor_0_9 (lv' := [(8, .int 0), (6, .long bq), (4, .long aq), (0, .long aq), (2, .long bq)]) (st' := []) rfl ?_
  refine zloop (σ := Int32 × Int64 × Int64) (fun z => [(8, .int z.1), (6, .long z.2.2), (4, .long z.2.1), (0, .long aq), (2, .long bq)]) (fun z => []) (fun z => []) (fun z => (0 ≤ z.1.toInt ∧ z.1.toInt ≤ 128)) (fun z => (128 - z.1.toInt).toNat) (0, aq, bq) ?_ ?_
  ·
    rintro ⟨i_, a_, b_⟩ hi ih9
    dsimp only at *
    refine z_run X bo_X8_greatestDivisor_9_14 ko_X8_greatestDivisor_9_14 (lv' := [(8, .int i_), (6, .long b_), (4, .long a_), (0, .long aq), (2, .long bq)]) (st' := [.int 128, .int i_]) rfl ?_
    refine zc_ge X do_X8_greatestDivisor_14 (tgt := 45) (by decide) (a := i_.toInt) (b := 128) rfl (show (128 : Int32).toInt = 128 from by decide) (fun c14_1 => ?_) (fun c14_1 => ?_)
    ·
      refine z_run X bo_X8_greatestDivisor_45_47 ko_X8_greatestDivisor_45_47 (lv' := [(8, .int i_), (6, .long b_), (4, .long a_), (0, .long aq), (2, .long bq)]) (st' := [.long a_]) rfl ?_
      exact z_lret X rfl do_X8_greatestDivisor_47 (Nat.le_of_ble_eq_true rfl) (Nat.le_of_ble_eq_true rfl) ⟨a_, rfl, rfl⟩
    ·
      refine z_run X bo_X8_greatestDivisor_17_20 ko_X8_greatestDivisor_17_20 (lv' := [(8, .int i_), (6, .long b_), (4, .long a_), (0, .long aq), (2, .long bq)]) (st' := [.long 0, .long b_]) rfl ?_
      refine zl_eq X do_X8_greatestDivisor_20 do_X8_greatestDivisor_21 (tgt := 45) (by decide) (a := b_.toInt) (b := 0) rfl (show (0 : Int64).toInt = 0 from by decide) (fun c20_2 => ?_) (fun c20_2 => ?_)
      ·
        refine z_run X bo_X8_greatestDivisor_45_47 ko_X8_greatestDivisor_45_47 (lv' := [(8, .int i_), (6, .long b_), (4, .long a_), (0, .long aq), (2, .long bq)]) (st' := [.long a_]) rfl ?_
        exact z_lret X rfl do_X8_greatestDivisor_47 (Nat.le_of_ble_eq_true rfl) (Nat.le_of_ble_eq_true rfl) ⟨a_, rfl, rfl⟩
      ·
        refine z_run X bo_X8_greatestDivisor_24_28 ko_X8_greatestDivisor_24_28 (lv' := [(8, .int i_), (6, .long b_), (4, .long a_), (0, .long aq), (2, .long bq)]) (st' := [.long b_, .long a_]) rfl ?_
        refine z_lrem X do_X8_greatestDivisor_28 (ne_of c20_2) ?_
        refine z_run X bo_X8_greatestDivisor_29_42 ko_X8_greatestDivisor_29_42 (lv' := [(8, .int (i_ + 1)), (6, .long (a_ - a_ / b_ * b_)), (4, .long b_), (9, .long (a_ - a_ / b_ * b_)), (0, .long aq), (2, .long bq)]) (st' := []) rfl ?_
        refine z_goto X do_X8_greatestDivisor_42 (tgt := 9) (by decide) ?_
        refine Z.sub (lv' := [(8, .int (i_ + 1)), (6, .long (a_ - a_ / b_ * b_)), (4, .long b_), (0, .long aq), (2, .long bq)]) [0, 1, 2, 4, 5] rfl [] (ws' := []) rfl (by decide) ?_
        exact ih9 ((i_ + 1), b_, (a_ - a_ / b_ * b_)) (by dsimp only; have e : (i_ + 1).toInt = i_.toInt + 1 := tI_add rfl (show (1 : Int32).toInt = 1 from by decide) (by omega); omega) (by dsimp only; have e : (i_ + 1).toInt = i_.toInt + 1 := tI_add rfl (show (1 : Int32).toInt = 1 from by decide) (by omega); omega)
  · exact (by dsimp only; have e0 : (0 : Int32).toInt = 0 := (by decide); omega)

theorem do_X8_addFraction_1 : decode cX8_addFraction 1 = .ok (.invokestatic 19, 3) := by decide +kernel
theorem do_X8_addFraction_5 : decode cX8_addFraction 5 = .ok (.invokestatic 19, 3) := by decide +kernel
theorem do_X8_addFraction_8 : decode cX8_addFraction 8 = .ok (.invokestatic 25, 3) := by decide +kernel
theorem do_X8_addFraction_16 : decode cX8_addFraction 16 = .ok (.lcmp, 1) := by decide +kernel
theorem do_X8_addFraction_17 : decode cX8_addFraction 17 = .ok (.ifCond .le 9, 3) := by decide +kernel
theorem do_X8_addFraction_26 : decode cX8_addFraction 26 = .ok (.return_, 1) := by decide +kernel
theorem do_X8_addFraction_22 : decode cX8_addFraction 22 = .ok (.lcmp, 1) := by decide +kernel
theorem do_X8_addFraction_23 : decode cX8_addFraction 23 = .ok (.ifCond .ne 4, 3) := by decide +kernel
theorem do_X8_addFraction_29 : decode cX8_addFraction 29 = .ok (.lcmp, 1) := by decide +kernel
theorem do_X8_addFraction_30 : decode cX8_addFraction 30 = .ok (.ifCond .ge 9, 3) := by decide +kernel
theorem do_X8_addFraction_47 : decode cX8_addFraction 47 = .ok (.ldiv, 1) := by decide +kernel
theorem do_X8_addFraction_48 : decode cX8_addFraction 48 = .ok (.invokevirtual 29, 3) := by decide +kernel
theorem do_X8_addFraction_55 : decode cX8_addFraction 55 = .ok (.ldiv, 1) := by decide +kernel
theorem do_X8_addFraction_56 : decode cX8_addFraction 56 = .ok (.invokevirtual 29, 3) := by decide +kernel
theorem do_X8_addFraction_59 : decode cX8_addFraction 59 = .ok (.return_, 1) := by decide +kernel
theorem do_X8_addFraction_36 : decode cX8_addFraction 36 = .ok (.goto 5, 3) := by decide +kernel
abbrev bo_X8_addFraction_0_1 : ZB := [(.lload_n 1, .null)]
theorem ko_X8_addFraction_0_1 : zchk cX8_addFraction bo_X8_addFraction_0_1 0 = true ∧ zpc bo_X8_addFraction_0_1 0 = 1 := ⟨by decide +kernel, rfl⟩
abbrev bo_X8_addFraction_4_5 : ZB := [(.lload_n 3, .null)]
theorem ko_X8_addFraction_4_5 : zchk cX8_addFraction bo_X8_addFraction_4_5 4 = true ∧ zpc bo_X8_addFraction_4_5 4 = 5 := ⟨by decide +kernel, rfl⟩
abbrev bo_X8_addFraction_11_16 : ZB := [(.lstore 5, .null), (.lload 5, .null), (.lconst 0, .long 0)]
theorem ko_X8_addFraction_11_16 : zchk cX8_addFraction bo_X8_addFraction_11_16 11 = true ∧ zpc bo_X8_addFraction_11_16 11 = 16 := ⟨by decide +kernel, rfl⟩
abbrev bo_X8_addFraction_20_22 : ZB := [(.lload_n 3, .null), (.lconst 0, .long 0)]
theorem ko_X8_addFraction_20_22 : zchk cX8_addFraction bo_X8_addFraction_20_22 20 = true ∧ zpc bo_X8_addFraction_20_22 20 = 22 := ⟨by decide +kernel, rfl⟩
abbrev bo_X8_addFraction_27_29 : ZB := [(.lload_n 3, .null), (.lconst 0, .long 0)]
theorem ko_X8_addFraction_27_29 : zchk cX8_addFraction bo_X8_addFraction_27_29 27 = true ∧ zpc bo_X8_addFraction_27_29 27 = 29 := ⟨by decide +kernel, rfl⟩
abbrev bo_X8_addFraction_39_47 : ZB := [(.lload 5, .null), (.lstore 7, .null), (.aload_n 0, .null), (.lload_n 1, .null), (.lload 7, .null)]
theorem ko_X8_addFraction_39_47 : zchk cX8_addFraction bo_X8_addFraction_39_47 39 = true ∧ zpc bo_X8_addFraction_39_47 39 = 47 := ⟨by decide +kernel, rfl⟩
abbrev bo_X8_addFraction_51_55 : ZB := [(.aload_n 0, .null), (.lload_n 3, .null), (.lload 7, .null)]
theorem ko_X8_addFraction_51_55 : zchk cX8_addFraction bo_X8_addFraction_51_55 51 = true ∧ zpc bo_X8_addFraction_51_55 51 = 55 := ⟨by decide +kernel, rfl⟩
abbrev bo_X8_addFraction_33_36 : ZB := [(.lload 5, .null), (.lneg, .null)]
theorem ko_X8_addFraction_33_36 : zchk cX8_addFraction bo_X8_addFraction_33_36 33 = true ∧ zpc bo_X8_addFraction_33_36 33 = 36 := ⟨by decide +kernel, rfl⟩
abbrev bo_X8_addFraction_41_47 : ZB := [(.lstore 7, .null), (.aload_n 0, .null), (.lload_n 1, .null), (.lload 7, .null)]
theorem ko_X8_addFraction_41_47 : zchk cX8_addFraction bo_X8_addFraction_41_47 41 = true ∧ zpc bo_X8_addFraction_41_47 41 = 47 := ⟨by decide +kernel, rfl⟩
set_option maxHeartbeats 4000000 in
set_option maxRecDepth 100000 in
theorem co_X8_addFraction (l : Launch) (G : KG) (told : Nat) (tn : Nat) (tl : Int32) (fn : Nat → Int64) (uq : Int64) (wq : Int64) (tli : Int) (htl : tl.toInt = tli) (ht16 : 0 ≤ tli ∧ tli ≤ 16) : Ct l G yX8_addFraction cX8_addFraction 9 none { frames := 1, cells := 0, slots := 0, locals := 30 } [.ref told, .long uq, .long wq] [(told, ob 8 [.ref tn, .int tl]), (tn, aJ G 16 fn)] (fun r w1 => ∃ (tl2 : Int32), ∃ (fn2 : Nat → Int64), (0 ≤ tl2.toInt ∧ tl2.toInt ≤ 16) ∧ r = none ∧ w1 = [(told, ob 8 [.ref tn, .int tl2]), (tn, aJ G 16 fn2)]) := by
  refine ct_of [(0, .ref told), (1, .long uq), (3, .long wq)] (by decide) (Nat.le_of_ble_eq_true rfl) rfl ?_
  intro p0 e0 s0 m0 args0 below0 meth0 c0 A X
  refine z_run X bo_X8_addFraction_0_1 ko_X8_addFraction_0_1 (lv' := [(0, .ref told), (1, .long uq), (3, .long wq)]) (st' := [.long uq]) rfl ?_
  refine z_labs X k_8_19.1 k_8_19.2.1 k_8_19.2.2.1 k_8_19.2.2.2.1 ⟨Nat.le_of_ble_eq_true rfl, Nat.le_of_ble_eq_true rfl⟩ ⟨Nat.le_of_ble_eq_true rfl, Nat.le_of_ble_eq_true rfl⟩ do_X8_addFraction_1 (v := (if 0 < uq then uq else -uq)) rfl ?_
  refine z_run X bo_X8_addFraction_4_5 ko_X8_addFraction_4_5 (lv' := [(0, .ref told), (1, .long uq), (3, .long wq)]) (st' := [.long wq, .long (if 0 < uq then uq else -uq)]) rfl ?_
  refine z_labs X k_8_19.1 k_8_19.2.1 k_8_19.2.2.1 k_8_19.2.2.2.1 ⟨Nat.le_of_ble_eq_true rfl, Nat.le_of_ble_eq_true rfl⟩ ⟨Nat.le_of_ble_eq_true rfl, Nat.le_of_ble_eq_true rfl⟩ do_X8_addFraction_5 (v := (if 0 < wq then wq else -wq)) rfl ?_
  refine z_callS X k_8_25 (co_X8_greatestDivisor l G (if 0 < uq then uq else -uq) (if 0 < wq then wq else -wq)) do_X8_addFraction_8 ⟨Nat.le_of_ble_eq_true rfl, Nat.le_of_ble_eq_true rfl⟩ ⟨Nat.le_of_ble_eq_true rfl, Nat.le_of_ble_eq_true rfl⟩ rfl (rest := []) (As := [.long (if 0 < uq then uq else -uq), .long (if 0 < wq then wq else -wq)]) rfl (Nat.le_of_ble_eq_true rfl) [] [0, 1] rfl (by decide) (wr := [(told, ob 8 [.ref tn, .int tl]), (tn, aJ G 16 fn)]) rfl (by decide) (by decide) ?_
  rintro _ _ ⟨rz_1, rfl, rfl⟩
  refine Z.at (pc' := 11) (st' := [.long rz_1]) (ws' := [(told, ob 8 [.ref tn, .int tl]), (tn, aJ G 16 fn)]) (kc' := 0) (ks' := 0) rfl rfl rfl rfl rfl ?_
  refine z_run X bo_X8_addFraction_11_16 ko_X8_addFraction_11_16 (lv' := [(5, .long rz_1), (0, .ref told), (1, .long uq), (3, .long wq)]) (st' := [.long 0, .long rz_1]) rfl ?_
  refine zl_le X do_X8_addFraction_16 do_X8_addFraction_17 (tgt := 26) (by decide) (a := rz_1.toInt) (b := 0) rfl (show (0 : Int64).toInt = 0 from by decide) (fun c16_2 => ?_) (fun c16_2 => ?_)
  ·
    exact z_vret X rfl do_X8_addFraction_26 (Nat.le_of_ble_eq_true rfl) (Nat.le_of_ble_eq_true rfl) ⟨tl, fn, (by have e : (tl : Int32).toInt = tli := htl; omega), rfl, rfl⟩
  ·
    refine z_run X bo_X8_addFraction_20_22 ko_X8_addFraction_20_22 (lv' := [(5, .long rz_1), (0, .ref told), (1, .long uq), (3, .long wq)]) (st' := [.long 0, .long wq]) rfl ?_
    refine zl_ne X do_X8_addFraction_22 do_X8_addFraction_23 (tgt := 27) (by decide) (a := wq.toInt) (b := 0) rfl (show (0 : Int64).toInt = 0 from by decide) (fun c22_3 => ?_) (fun c22_3 => ?_)
    ·
      refine z_run X bo_X8_addFraction_27_29 ko_X8_addFraction_27_29 (lv' := [(5, .long rz_1), (0, .ref told), (1, .long uq), (3, .long wq)]) (st' := [.long 0, .long wq]) rfl ?_
      refine zl_ge X do_X8_addFraction_29 do_X8_addFraction_30 (tgt := 39) (by decide) (a := wq.toInt) (b := 0) rfl (show (0 : Int64).toInt = 0 from by decide) (fun c29_4 => ?_) (fun c29_4 => ?_)
      ·
        refine z_run X bo_X8_addFraction_39_47 ko_X8_addFraction_39_47 (lv' := [(7, .long rz_1), (5, .long rz_1), (0, .ref told), (1, .long uq), (3, .long wq)]) (st' := [.long rz_1, .long uq, .ref told]) rfl ?_
        refine z_ldiv X do_X8_addFraction_47 (ne_of (d := rz_1) (by omega)) ?_
        refine z_callV X k_8_29 (co_X8_add l G told tn tl fn (uq / rz_1) tli htl (by omega)) do_X8_addFraction_48 0 rfl rfl rfl ⟨Nat.le_of_ble_eq_true rfl, Nat.le_of_ble_eq_true rfl⟩ ⟨Nat.le_of_ble_eq_true rfl, Nat.le_of_ble_eq_true rfl⟩ rfl (rest := []) (As := [.long (uq / rz_1)]) rfl (Nat.le_of_ble_eq_true rfl) [0, 1] [] rfl (by decide) (wr := []) rfl (by decide) (by decide) ?_
        rintro _ _ ⟨tl2_5, fn2_6, f48_7, rfl, rfl⟩
        refine Z.at (pc' := 51) (st' := []) (ws' := [(told, ob 8 [.ref tn, .int tl2_5]), (tn, aJ G 16 fn2_6)]) (kc' := 0) (ks' := 0) rfl rfl rfl rfl rfl ?_
        refine z_run X bo_X8_addFraction_51_55 ko_X8_addFraction_51_55 (lv' := [(7, .long rz_1), (5, .long rz_1), (0, .ref told), (1, .long uq), (3, .long wq)]) (st' := [.long rz_1, .long wq, .ref told]) rfl ?_
        refine z_ldiv X do_X8_addFraction_55 (ne_of (d := rz_1) (by omega)) ?_
        refine z_callV X k_8_29 (co_X8_add l G told tn tl2_5 fn2_6 (wq / rz_1) tl2_5.toInt rfl (by omega)) do_X8_addFraction_56 0 rfl rfl rfl ⟨Nat.le_of_ble_eq_true rfl, Nat.le_of_ble_eq_true rfl⟩ ⟨Nat.le_of_ble_eq_true rfl, Nat.le_of_ble_eq_true rfl⟩ rfl (rest := []) (As := [.long (wq / rz_1)]) rfl (Nat.le_of_ble_eq_true rfl) [0, 1] [] rfl (by decide) (wr := []) rfl (by decide) (by decide) ?_
        rintro _ _ ⟨tl2_8, fn2_9, f56_10, rfl, rfl⟩
        refine Z.at (pc' := 59) (st' := []) (ws' := [(told, ob 8 [.ref tn, .int tl2_8]), (tn, aJ G 16 fn2_9)]) (kc' := 0) (ks' := 0) rfl rfl rfl rfl rfl ?_
        exact z_vret X rfl do_X8_addFraction_59 (Nat.le_of_ble_eq_true rfl) (Nat.le_of_ble_eq_true rfl) ⟨tl2_8, fn2_9, (by have e : (tl2_8 : Int32).toInt = tl2_8.toInt := rfl; omega), rfl, rfl⟩
      ·
        refine z_run X bo_X8_addFraction_33_36 ko_X8_addFraction_33_36 (lv' := [(5, .long rz_1), (0, .ref told), (1, .long uq), (3, .long wq)]) (st' := [.long (-rz_1)]) rfl ?_
        refine z_goto X do_X8_addFraction_36 (tgt := 41) (by decide) ?_
        refine z_run X bo_X8_addFraction_41_47 ko_X8_addFraction_41_47 (lv' := [(7, .long (-rz_1)), (5, .long rz_1), (0, .ref told), (1, .long uq), (3, .long wq)]) (st' := [.long (-rz_1), .long uq, .ref told]) rfl ?_
        refine z_ldiv X do_X8_addFraction_47 (ne_of (neg_ne (x := rz_1) (by omega))) ?_
        refine z_callV X k_8_29 (co_X8_add l G told tn tl fn (uq / (-rz_1)) tli htl (by omega)) do_X8_addFraction_48 0 rfl rfl rfl ⟨Nat.le_of_ble_eq_true rfl, Nat.le_of_ble_eq_true rfl⟩ ⟨Nat.le_of_ble_eq_true rfl, Nat.le_of_ble_eq_true rfl⟩ rfl (rest := []) (As := [.long (uq / (-rz_1))]) rfl (Nat.le_of_ble_eq_true rfl) [0, 1] [] rfl (by decide) (wr := []) rfl (by decide) (by decide) ?_
        rintro _ _ ⟨tl2_11, fn2_12, f48_13, rfl, rfl⟩
        refine Z.at (pc' := 51) (st' := []) (ws' := [(told, ob 8 [.ref tn, .int tl2_11]), (tn, aJ G 16 fn2_12)]) (kc' := 0) (ks' := 0) rfl rfl rfl rfl rfl ?_
        refine z_run X bo_X8_addFraction_51_55 ko_X8_addFraction_51_55 (lv' := [(7, .long (-rz_1)), (5, .long rz_1), (0, .ref told), (1, .long uq), (3, .long wq)]) (st' := [.long (-rz_1), .long wq, .ref told]) rfl ?_
        refine z_ldiv X do_X8_addFraction_55 (ne_of (neg_ne (x := rz_1) (by omega))) ?_
        refine z_callV X k_8_29 (co_X8_add l G told tn tl2_11 fn2_12 (wq / (-rz_1)) tl2_11.toInt rfl (by omega)) do_X8_addFraction_56 0 rfl rfl rfl ⟨Nat.le_of_ble_eq_true rfl, Nat.le_of_ble_eq_true rfl⟩ ⟨Nat.le_of_ble_eq_true rfl, Nat.le_of_ble_eq_true rfl⟩ rfl (rest := []) (As := [.long (wq / (-rz_1))]) rfl (Nat.le_of_ble_eq_true rfl) [0, 1] [] rfl (by decide) (wr := []) rfl (by decide) (by decide) ?_
        rintro _ _ ⟨tl2_14, fn2_15, f56_16, rfl, rfl⟩
        refine Z.at (pc' := 59) (st' := []) (ws' := [(told, ob 8 [.ref tn, .int tl2_14]), (tn, aJ G 16 fn2_15)]) (kc' := 0) (ks' := 0) rfl rfl rfl rfl rfl ?_
        exact z_vret X rfl do_X8_addFraction_59 (Nat.le_of_ble_eq_true rfl) (Nat.le_of_ble_eq_true rfl) ⟨tl2_14, fn2_15, (by have e : (tl2_14 : Int32).toInt = tl2_14.toInt := rfl; omega), rfl, rfl⟩
    ·
      exact z_vret X rfl do_X8_addFraction_26 (Nat.le_of_ble_eq_true rfl) (Nat.le_of_ble_eq_true rfl) ⟨tl, fn, (by have e : (tl : Int32).toInt = tli := htl; omega), rfl, rfl⟩

