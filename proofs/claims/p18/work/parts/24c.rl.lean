section HL2
variable {l : Launch} {G : KG} {T : List TE} {cc : ByteArray} {nL : Nat} {ret : Option FieldType} {C : CE} {y : MethodName}
def spin (C : CE) (μ : Nat → Value) : List (Nat × Value) := (List.range C.1.length).map (fun j => (j, μ j)) ++ (List.range C.2.1.length).map (fun j => (100 + j, μ (100 + j)))
theorem spin1 {μ : Nat → Value} : ∀ j, j < C.1.length → (j, μ j) ∈ spin C μ := fun j hj => List.mem_append_left _ (List.mem_map.mpr ⟨j, List.mem_range.mpr hj, rfl⟩)
theorem spin2 {μ : Nat → Value} : ∀ j, j < C.2.1.length → (100 + j, μ (100 + j)) ∈ spin C μ := fun j hj => List.mem_append_right _ (List.mem_map.mpr ⟨j, List.mem_range.mpr hj, rfl⟩)
theorem spin3 {μ : Nat → Value} : ∀ q ∈ spin C μ, q.1 ∈ apids C := by
  intro q hq
  unfold apids
  rcases List.mem_append.mp hq with hq | hq
  · obtain ⟨j, hj, rfl⟩ := List.mem_map.mp hq
    exact List.mem_append_left _ hj
  · obtain ⟨j, hj, rfl⟩ := List.mem_map.mp hq
    exact List.mem_append_right _ (List.mem_map.mpr ⟨j, hj, rfl⟩)
/-- a contract, by hand from its start -/
theorem hand_of (hy : plainName y.cls = true) (c1 : C.1.length ≤ 50) (c2 : C.2.1.length ≤ 100) (c3 : aslots C.1 ≤ nL) (c4 : ∀ t ∈ C.1, t.1 ≤ 2)
    (body : ∀ (p : Program) (e : Env) (s : State) (m : MethodId) (args : Array Value) (below : List Frame) (meth : Method) (c : Code) (A : Nat → Prop), ZC p s m args meth c cc nL y.cls G A ret y.name → ∀ (ad : Nat → Nat) (w0 : va_W) (μ : Nat → Value) (lw : List (Nat × Value)), WT G ad T w0 → PRE ad C μ w0 → AG G ad T C.2.2.2.2.1 w0 (spin C μ) (ast0 C) μ lw [] w0 → Z p l e (rmOf C) s m args below meth c nL G A (MQ below (QQ G A (fun r w1 => POST G ad T C μ w0 r w1)) args s 0 0 A) 0 lw [] w0 0 0) : ACt l G T y cc nL ret C := by
  intro ad w0 μ hW hPre
  obtain ⟨r1, r2, r3⟩ := lv0_ok (μ := μ) (ad := ad) C.1 0 0 c4 (fun k t hk => by rw [Nat.zero_add]; exact hPre.1 k t hk)
  rw [List.range_eq_range']
  refine ct_of _ hy (by rw [r3]; exact c3) rfl ?_
  intro p e s m args below meth c A X
  refine body p e s m args below meth c A X ad w0 μ _ hW hPre ⟨r1, rfl, r2, fun q hq => ?_, fun q hq => ?_, hPre.2.2, ?_, hW, rfl, fun k j _ => rfl⟩
  · rcases List.mem_append.mp hq with hq | hq
    · obtain ⟨z, hz, rfl⟩ := List.mem_map.mp hq
      exact hPre.1 z.2 z.1 (zipIdx_mem hz)
    · obtain ⟨z, hz, rfl⟩ := List.mem_map.mp hq
      exact (hPre.2.1 z.2 z.1 (zipIdx_mem hz)).1
  · obtain ⟨z, hz, rfl⟩ := List.mem_map.mp hq
    exact (hPre.2.1 z.2 z.1 (zipIdx_mem hz)).2
  · intro q hq
    rcases List.mem_append.mp hq with hq | hq
    · obtain ⟨j, hj, rfl⟩ := List.mem_map.mp hq
      have := List.mem_range.mp hj
      exact ⟨by show j < 1000; omega, rfl⟩
    · obtain ⟨j, hj, rfl⟩ := List.mem_map.mp hq
      have := List.mem_range.mp hj
      exact ⟨by show 100 + j < 1000; omega, rfl⟩
theorem AG.rebase {ad : Nat → Nat} {mk mk2 : List (Nat × Nat)} {w0 wa ws : va_W} {pin : List (Nat × Value)} {σ : AS} {ν : Nat → Value} {lw : List (Nat × Value)} {sw : List Value} (h : AG G ad T mk2 wa pin σ ν lw sw ws) (hF : FRM mk w0 wa) (hc : cov mk mk2 = true) : AG G ad T mk w0 pin σ ν lw sw ws := ⟨h.1, h.2.1, h.2.2.1, h.2.2.2.1, h.2.2.2.2.1, h.2.2.2.2.2.1, h.2.2.2.2.2.2.1, h.2.2.2.2.2.2.2.1, frm_trans hF h.2.2.2.2.2.2.2.2 hc⟩
theorem AG.rew {ad : Nat → Nat} {mk mk2 : List (Nat × Nat)} {w0 ws : va_W} {pin : List (Nat × Value)} {lv : ALv} {st st2 : List Nat} {ev : AEv} {ca : ACa} {rl : ARl} {nx : Nat} {ν : Nat → Value} {lw : List (Nat × Value)} {sw : List Value} (h : AG G ad T mk w0 pin (lv, st, ev, ca, rl, nx) ν lw sw ws) : AG G ad T mk2 ws pin (lv, st2, ev, ca, rl, nx) ν lw (st2.map ν) ws := ⟨h.1, rfl, h.2.2.1, h.2.2.2.1, h.2.2.2.2.1, h.2.2.2.2.2.1, h.2.2.2.2.2.2.1, h.2.2.2.2.2.2.2.1, rfl, fun _ _ _ => rfl⟩
theorem AG.stk {ad : Nat → Nat} {mk : List (Nat × Nat)} {w0 ws : va_W} {pin : List (Nat × Value)} {lv : ALv} {st st2 : List Nat} {ev : AEv} {ca : ACa} {rl : ARl} {nx : Nat} {ν : Nat → Value} {lw : List (Nat × Value)} {sw : List Value} (h : AG G ad T mk w0 pin (lv, st, ev, ca, rl, nx) ν lw sw ws) : AG G ad T mk w0 pin (lv, st2, ev, ca, rl, nx) ν lw (st2.map ν) ws := ⟨h.1, rfl, h.2.2⟩
end HL2
theorem d_rl_67 : decode cX11_readsLine 67 = .ok (.iaload, 1) := by decide +kernel
theorem d_rl_68 : decode cX11_readsLine 68 = .ok (.ifCond .lt 12, 3) := by decide +kernel
theorem d_rl_187 : decode cX11_readsLine 187 = .ok (.putfield 63, 3) := by decide +kernel
theorem d_rl_269 : decode cX11_readsLine 269 = .ok (.iastore, 1) := by decide +kernel
theorem d_rl_278 : decode cX11_readsLine 278 = .ok (.iaload, 1) := by decide +kernel
theorem d_rl_279 : decode cX11_readsLine 279 = .ok (.ifCond .lt 12, 3) := by decide +kernel
theorem d_rl_326 : decode cX11_readsLine 326 = .ok (.putfield 88, 3) := by decide +kernel
theorem rl_67 {p : Program} {l : Launch} {e : Env} {s : State} {m : MethodId} {args : Array Value} {below : List Frame} {meth : Method} {c : Code} {G : KG} {A : Nat → Prop} (X : ZC p s m args meth c cX11_readsLine 1 RX11 G A (some .boolean) "readsLine") {ad : Nat → Nat} {w0 : va_W} {μ : Nat → Value} {ν : Nat → Value} {lw : List (Nat × Value)} {sw : List Value} {ws : va_W} {mk0 : List (Nat × Nat)} {wA : va_W} (hg0 : AG G ad TM0 mk0 wA (spin C_readsLine μ) se_rl1_67.2.1 ν lw sw ws) (hFA : FRM C_readsLine.2.2.2.2.1 w0 wA) (hcv : cov C_readsLine.2.2.2.2.1 mk0 = true)  : Z p l e (rmOf C_readsLine) s m args below meth c 1 G A (MQ below (QQ G A (fun r w1 => POST G ad TM0 C_readsLine μ w0 r w1)) args s 0 0 A) 67 lw sw ws 0 0 := by
  have hg : AG G ad TM0 C_readsLine.2.2.2.2.1 w0 (spin C_readsLine μ) se_rl1_67.2.1 ν lw sw ws := AG.rebase hg0 hFA hcv
  have h3 := hg.2.2
  have h2 : sw = [ν 100, ν 500] := hg.2.1
  obtain ⟨o, ho⟩ := h3.int (i := 100) rfl
  have hr := h3.ref (i := 500) rfl
  have hr : ν 500 = .ref (ad 2) := hr
  obtain ⟨f, w1, w2⟩ := WT.ints (k := 2) (n := 16) h3.2.2.2.2.2.1 rfl
  have hb := h3.2.1 (100, (0, 0, 15)) (by decide)
  obtain ⟨o', e', b1, b2⟩ := vty0 hb rfl
  have e' : ν 100 = .int o' := e'
  rw [ho] at e'
  cases e'
  have b1 : 0 ≤ o.toInt := b1
  have b2 : o.toInt ≤ 15 := b2
  rw [h2, ho, hr]
  have hvin : vp_in o 16 := by
    unfold vp_in
    rintro (h | h)
    · have := Int32.lt_iff_toInt_lt.mp h
      have e0 : (0 : Int32).toInt = 0 := rfl
      omega
    · have e0 : o.toNatClampNeg = o.toInt.toNat := rfl
      omega
  refine z_iald X d_rl_67 2 w1 hvin rfl ?_
  refine zi_lt X d_rl_68 (tgt := 80) (by decide) (a := (f o.toNatClampNeg).toInt) rfl (fun hlt => ?_) (fun hge => ?_)
  · exact aseg (fld := fld_11) (put := put_11) (cst := cst_11) (cstl := cstl_11) (hk := hk0) (tab := D_X11_readsLine) (C := sC_rl80) (PO := fun r w1 => POST G ad TM0 C_readsLine μ w0 r w1) (rk := 3) (pids := [0, 100, 101, 102]) D_X11_readsLine_ok X rfl rfl hok0 (Or.inr (Or.inr (Or.inr ⟨rfl, rfl⟩))) (Nat.le_refl 0) (Nat.le_refl 0) (spin1 (C := C_readsLine)) (spin2 (C := C_readsLine)) (fun r w1 h => h) fld_11_ok put_11_ok cst_11_ok cstl_11_ok (sl_rl80_ok l G) (Nat.le_refl 0) (Nat.le_refl 0) spin3 sg_rl80 (fun d hd => absurd hd List.not_mem_nil) ν lw [] ws (AG.stk (st2 := []) hg)
  · have hF0 := h3.2.2.2.2.2.2
    refine aseg (fld := fld_11) (put := put_11) (cst := cst_11) (cstl := cstl_11) (hk := hk0) (tab := D_X11_readsLine) (C := sC_rl71) (PO := fun r w1 => POST G ad TM0 C_readsLine μ w0 r w1) (rk := 3) (pids := [0, 100, 101, 102]) D_X11_readsLine_ok X rfl rfl hok0 (Or.inr (Or.inr (Or.inr ⟨rfl, rfl⟩))) (Nat.le_refl 0) (Nat.le_refl 0) (spin1 (C := C_readsLine)) (spin2 (C := C_readsLine)) (fun r w1 h => POST.mono (C := sC_rl71) (C' := C_readsLine) h rfl hF0 (by decide)) fld_11_ok put_11_ok cst_11_ok cstl_11_ok (sl_rl71_ok l G) (Nat.le_refl 0) (Nat.le_refl 0) spin3 sg_rl71 (fun d hd ν2 lw2 sw2 ws2 hg2 => ?_) ν lw [] ws (AG.rew (st2 := []) hg)
    rw [List.mem_singleton.mp hd] at hg2 ⊢
    have hF2 := hg2.2.2.2.2.2.2.2.2
    have hg3 : AG G ad TM0 C_readsLine.2.2.2.2.1 w0 (spin C_readsLine μ) se_rl71_187.2.1 ν2 lw2 sw2 ws2 := AG.rebase hg2 hF0 (by decide)
    have k3 := hg3.2.2
    have hp1 := (k3.2.2.2.2.1 (100, μ 100) (spin2 (C := C_readsLine) 0 (by decide))).2
    have hp0 := (h3.2.2.2.2.1 (100, μ 100) (spin2 (C := C_readsLine) 0 (by decide))).2
    have hp1 : ν2 100 = μ 100 := hp1
    have hp0 : ν 100 = μ 100 := hp0
    rw [← hp0, ho] at hp1
    obtain ⟨x, hx⟩ := k3.int (i := 500) rfl
    have hca := k3.2.2.1 (0, 3, 100) (by decide)
    have hca : fget ws2 0 3 = some (ν2 100) := hca
    rw [hp1] at hca
    have hxl : vI (ν2 500) ≤ vI (ν2 100) + 1 := k3.dl (a := 500) (b := 100) (c := 1) (by decide)
    rw [hx, hp1] at hxl
    have hxl : x.toInt ≤ o.toInt + 1 := hxl
    have hxt := k3.2.1 (500, (0, 1, 16)) (by decide)
    have hxt : vty ad (0, 1, 16) (ν2 500) := hxt
    obtain ⟨b, hb2⟩ := hF2.arr (k := 2) (by decide) w1
    have hba := WT.adr (T := TM0) (k := 2) k3.2.2.2.2.2.1 rfl hb2
    subst hba
    obtain ⟨fs, q1, q2, q3, q4⟩ := AG.put hg3 (r := 0) (x := 500) (j := 3) rfl rfl rfl (by decide) (fun fs hfs => by
      have hfo : fs[3]? = some (.int o) := by
        have : fget ws2 0 3 = fs[3]? := fget_of hfs
        rw [← this]; exact hca
      rw [hx]
      refine WT.inc (T := TM0) k3.2.2.2.2.2.1 (k := 0) (j := 3) (ka := 2) (n := 16) (f := f) rfl rfl hfs ?_ hfo hxl rfl hb2 (by decide) ?_ (by decide) b1
      · rw [hx] at hxt
        obtain ⟨x', e9, u1, u2⟩ := vty0 hxt rfl
        cases e9
        have u1 : 1 ≤ x.toInt := u1
        have u2 : x.toInt ≤ 16 := u2
        exact vty_i (by omega) (by omega)
      · exact hge)
    have q3 : sw2 = [ν2 500, .ref (ad 0)] := q3
    rw [q3]
    have hxt2 : vty ad (0, 0, 16) (ν2 500) := by
      rw [hx] at hxt ⊢
      obtain ⟨x', e9, u1, u2⟩ := vty0 hxt rfl
      cases e9
      have u1 : 1 ≤ x.toInt := u1
      exact vty_i (by omega) u2
    refine put_row X (put_11_ok (63, 11, 3, 0) (by decide)) (t := (0, 0, 16)) (by decide) d_rl_187 q1 q2 hxt2 ?_
    exact aseg (fld := fld_11) (put := put_11) (cst := cst_11) (cstl := cstl_11) (hk := hk0) (tab := D_X11_readsLine) (C := sC_rl190) (PO := fun r w1 => POST G ad TM0 C_readsLine μ w0 r w1) (rk := 3) (pids := [0, 100, 101, 102]) D_X11_readsLine_ok X rfl rfl hok0 (Or.inr (Or.inr (Or.inr ⟨rfl, rfl⟩))) (Nat.le_refl 0) (Nat.le_refl 0) (spin1 (C := C_readsLine)) (spin2 (C := C_readsLine)) (fun r w1 h => h) fld_11_ok put_11_ok cst_11_ok cstl_11_ok (sl_rl190_ok l G) (Nat.le_refl 0) (Nat.le_refl 0) spin3 sg_rl190 (fun d hd => absurd hd List.not_mem_nil) ν2 lw2 [] _ q4
theorem rl_278 {p : Program} {l : Launch} {e : Env} {s : State} {m : MethodId} {args : Array Value} {below : List Frame} {meth : Method} {c : Code} {G : KG} {A : Nat → Prop} (X : ZC p s m args meth c cX11_readsLine 1 RX11 G A (some .boolean) "readsLine") {ad : Nat → Nat} {w0 : va_W} {μ : Nat → Value} {ν : Nat → Value} {lw : List (Nat × Value)} {sw : List Value} {ws : va_W} {mk0 : List (Nat × Nat)} {wA : va_W} (hg0 : AG G ad TM0 mk0 wA (spin C_readsLine μ) se_rl270_278.2.1 ν lw sw ws) (hFA : FRM C_readsLine.2.2.2.2.1 w0 wA) (hcv : cov C_readsLine.2.2.2.2.1 mk0 = true) {f1 : Nat → Int32} (hKm : mkq mk0 8 0 = false) (hKw : wA[8]? = some (ad 8, aI G 6 f1)) (hK : ∀ o : Int32, μ 101 = .int o → (f1 o.toNatClampNeg).toInt = -1 ∨ 1 ≤ (f1 o.toNatClampNeg).toInt) : Z p l e (rmOf C_readsLine) s m args below meth c 1 G A (MQ below (QQ G A (fun r w1 => POST G ad TM0 C_readsLine μ w0 r w1)) args s 0 0 A) 278 lw sw ws 0 0 := by
  have hg : AG G ad TM0 C_readsLine.2.2.2.2.1 w0 (spin C_readsLine μ) se_rl270_278.2.1 ν lw sw ws := AG.rebase hg0 hFA hcv
  have h3 := hg.2.2
  have h2 : sw = [ν 101, ν 500] := hg.2.1
  obtain ⟨o, ho⟩ := h3.int (i := 101) rfl
  have hr := h3.ref (i := 500) rfl
  have hr : ν 500 = .ref (ad 8) := hr
  obtain ⟨f, w1, w2⟩ := WT.ints (k := 8) (n := 6) h3.2.2.2.2.2.1 rfl
  have hb := h3.2.1 (101, (0, 0, 5)) (by decide)
  obtain ⟨o', e', b1, b2⟩ := vty0 hb rfl
  have e' : ν 101 = .int o' := e'
  rw [ho] at e'
  cases e'
  have b1 : 0 ≤ o.toInt := b1
  have b2 : o.toInt ≤ 5 := b2
  rw [h2, ho, hr]
  have hvin : vp_in o 6 := by
    unfold vp_in
    rintro (h | h)
    · have := Int32.lt_iff_toInt_lt.mp h
      have e0 : (0 : Int32).toInt = 0 := rfl
      omega
    · have e0 : o.toNatClampNeg = o.toInt.toNat := rfl
      omega
  refine z_iald X d_rl_278 8 w1 hvin rfl ?_
  refine zi_lt X d_rl_279 (tgt := 291) (by decide) (a := (f o.toNatClampNeg).toInt) rfl (fun hlt => ?_) (fun hge => ?_)
  · exact aseg (fld := fld_11) (put := put_11) (cst := cst_11) (cstl := cstl_11) (hk := hk0) (tab := D_X11_readsLine) (C := sC_rl291) (PO := fun r w1 => POST G ad TM0 C_readsLine μ w0 r w1) (rk := 3) (pids := [0, 100, 101, 102]) D_X11_readsLine_ok X rfl rfl hok0 (Or.inr (Or.inr (Or.inr ⟨rfl, rfl⟩))) (Nat.le_refl 0) (Nat.le_refl 0) (spin1 (C := C_readsLine)) (spin2 (C := C_readsLine)) (fun r w1 h => h) fld_11_ok put_11_ok cst_11_ok cstl_11_ok (sl_rl291_ok l G) (Nat.le_refl 0) (Nat.le_refl 0) spin3 sg_rl291 (fun d hd => absurd hd List.not_mem_nil) ν lw [] ws (AG.stk (st2 := []) hg)
  · have hF0 := h3.2.2.2.2.2.2
    refine aseg (fld := fld_11) (put := put_11) (cst := cst_11) (cstl := cstl_11) (hk := hk0) (tab := D_X11_readsLine) (C := sC_rl282) (PO := fun r w1 => POST G ad TM0 C_readsLine μ w0 r w1) (rk := 3) (pids := [0, 100, 101, 102]) D_X11_readsLine_ok X rfl rfl hok0 (Or.inr (Or.inr (Or.inr ⟨rfl, rfl⟩))) (Nat.le_refl 0) (Nat.le_refl 0) (spin1 (C := C_readsLine)) (spin2 (C := C_readsLine)) (fun r w1 h => POST.mono (C := sC_rl282) (C' := C_readsLine) h rfl hF0 (by decide)) fld_11_ok put_11_ok cst_11_ok cstl_11_ok (sl_rl282_ok l G) (Nat.le_refl 0) (Nat.le_refl 0) spin3 sg_rl282 (fun d hd ν2 lw2 sw2 ws2 hg2 => ?_) ν lw [] ws (AG.rew (st2 := []) hg)
    rw [List.mem_singleton.mp hd] at hg2 ⊢
    have hF2 := hg2.2.2.2.2.2.2.2.2
    have hg3 : AG G ad TM0 C_readsLine.2.2.2.2.1 w0 (spin C_readsLine μ) se_rl282_326.2.1 ν2 lw2 sw2 ws2 := AG.rebase hg2 hF0 (by decide)
    have k3 := hg3.2.2
    have hp1 := (k3.2.2.2.2.1 (101, μ 101) (spin2 (C := C_readsLine) 1 (by decide))).2
    have hp0 := (h3.2.2.2.2.1 (101, μ 101) (spin2 (C := C_readsLine) 1 (by decide))).2
    have hp1 : ν2 101 = μ 101 := hp1
    have hp0 : ν 101 = μ 101 := hp0
    rw [← hp0, ho] at hp1
    obtain ⟨x, hx⟩ := k3.int (i := 500) rfl
    have hca := k3.2.2.1 (0, 10, 101) (by decide)
    have hca : fget ws2 0 10 = some (ν2 101) := hca
    rw [hp1] at hca
    have hxl : vI (ν2 500) ≤ vI (ν2 101) + 1 := k3.dl (a := 500) (b := 101) (c := 1) (by decide)
    rw [hx, hp1] at hxl
    have hxl : x.toInt ≤ o.toInt + 1 := hxl
    have hxt := k3.2.1 (500, (0, 1, 6)) (by decide)
    have hxt : vty ad (0, 1, 6) (ν2 500) := hxt
    obtain ⟨b, hb2⟩ := hF2.arr (k := 8) (by decide) w1
    have hba := WT.adr (T := TM0) (k := 8) k3.2.2.2.2.2.1 rfl hb2
    subst hba
    obtain ⟨fs, q1, q2, q3, q4⟩ := AG.put hg3 (r := 0) (x := 500) (j := 10) rfl rfl rfl (by decide) (fun fs hfs => by
      have hfo : fs[10]? = some (.int o) := by
        have : fget ws2 0 10 = fs[10]? := fget_of hfs
        rw [← this]; exact hca
      rw [hx]
      refine WT.inc (T := TM0) k3.2.2.2.2.2.1 (k := 0) (j := 10) (ka := 8) (n := 6) (f := f) rfl rfl hfs ?_ hfo hxl rfl hb2 (by decide) ?_ (by decide) b1
      · rw [hx] at hxt
        obtain ⟨x', e9, u1, u2⟩ := vty0 hxt rfl
        cases e9
        have u1 : 1 ≤ x.toInt := u1
        have u2 : x.toInt ≤ 6 := u2
        exact vty_i (by omega) (by omega)
      · have ef : f1 = f := by
          obtain ⟨b7, hb7⟩ := (hg0.2.2.2.2.2.2.2.2).arr (k := 8) hKm hKw
          rw [w1] at hb7
          exact (Sum.inl.inj (congrArg (fun z : ClassId × vp_A => z.2.2) (Sum.inl.inj (congrArg Prod.snd (Option.some.inj hb7))))).symm
        have hgo := hK o (by rw [← hp0, ho])
        rw [ef] at hgo
        have hge : 0 ≤ (f o.toNatClampNeg).toInt := hge
        show (1 : Int) ≤ (f o.toNatClampNeg).toInt
        omega)
    have q3 : sw2 = [ν2 500, .ref (ad 0)] := q3
    rw [q3]
    have hxt2 : vty ad (0, 0, 6) (ν2 500) := by
      rw [hx] at hxt ⊢
      obtain ⟨x', e9, u1, u2⟩ := vty0 hxt rfl
      cases e9
      have u1 : 1 ≤ x.toInt := u1
      exact vty_i (by omega) u2
    refine put_row X (put_11_ok (88, 11, 10, 0) (by decide)) (t := (0, 0, 6)) (by decide) d_rl_326 q1 q2 hxt2 ?_
    exact aseg (fld := fld_11) (put := put_11) (cst := cst_11) (cstl := cstl_11) (hk := hk0) (tab := D_X11_readsLine) (C := sC_rl329) (PO := fun r w1 => POST G ad TM0 C_readsLine μ w0 r w1) (rk := 3) (pids := [0, 100, 101, 102]) D_X11_readsLine_ok X rfl rfl hok0 (Or.inr (Or.inr (Or.inr ⟨rfl, rfl⟩))) (Nat.le_refl 0) (Nat.le_refl 0) (spin1 (C := C_readsLine)) (spin2 (C := C_readsLine)) (fun r w1 h => h) fld_11_ok put_11_ok cst_11_ok cstl_11_ok (sl_rl329_ok l G) (Nat.le_refl 0) (Nat.le_refl 0) spin3 sg_rl329 (fun d hd => absurd hd List.not_mem_nil) ν2 lw2 [] _ q4
theorem rl_269 {p : Program} {l : Launch} {e : Env} {s : State} {m : MethodId} {args : Array Value} {below : List Frame} {meth : Method} {c : Code} {G : KG} {A : Nat → Prop} (X : ZC p s m args meth c cX11_readsLine 1 RX11 G A (some .boolean) "readsLine") {ad : Nat → Nat} {w0 : va_W} {μ : Nat → Value} {ν : Nat → Value} {lw : List (Nat × Value)} {sw : List Value} {ws : va_W} (hg : AG G ad TM0 C_readsLine.2.2.2.2.1 w0 (spin C_readsLine μ) se_rl1_269.2.1 ν lw sw ws) : Z p l e (rmOf C_readsLine) s m args below meth c 1 G A (MQ below (QQ G A (fun r w1 => POST G ad TM0 C_readsLine μ w0 r w1)) args s 0 0 A) 269 lw sw ws 0 0 := by
  have h3 := hg.2.2
  have h2 : sw = [ν 500, ν 101, ν 501] := hg.2.1
  obtain ⟨o, ho⟩ := h3.int (i := 101) rfl
  have hr := h3.ref (i := 501) rfl
  have hr : ν 501 = .ref (ad 8) := hr
  obtain ⟨f, w1, w2⟩ := WT.ints (k := 8) (n := 6) h3.2.2.2.2.2.1 rfl
  have hb := h3.2.1 (101, (0, 0, 5)) (by decide)
  obtain ⟨o', e', b1, b2⟩ := vty0 hb rfl
  have e' : ν 101 = .int o' := e'
  rw [ho] at e'
  cases e'
  have b1 : 0 ≤ o.toInt := b1
  have b2 : o.toInt ≤ 5 := b2
  have hv := h3.2.1 (500, (0, -1, -1)) (by decide)
  obtain ⟨v, ev, v1, v2⟩ := vty0 hv rfl
  have ev : ν 500 = .int v := ev
  have v1 : -1 ≤ v.toInt := v1
  have v2 : v.toInt ≤ -1 := v2
  rw [h2, ho, hr, ev]
  have hvin : vp_in o 6 := by
    unfold vp_in
    rintro (h | h)
    · have := Int32.lt_iff_toInt_lt.mp h
      have e0 : (0 : Int32).toInt = 0 := rfl
      omega
    · have e0 : o.toNatClampNeg = o.toInt.toNat := rfl
      omega
  have hca := h3.2.2.1 (0, 10, 101) (by decide)
  have hca : fget ws 0 10 = some (ν 101) := hca
  rw [ho] at hca
  have g3 := h3.setA (k := 8) (te := .inr (0, 6, (43, -1, 9))) (y := (cyI G, 6, .inl (upd f o.toNatClampNeg v))) rfl w1 (Or.inl ⟨rfl, _, rfl, aint_upd w2 (by show (-1 : Int) ≤ _; omega) (by show _ ≤ (9 : Int); omega) (fun e => by cases e)⟩) (fun n' t' e' g2 f' c i g3 g4 g5 => by
    cases e'
    cases g3
    have g4 : fget ws 0 10 = some (.int c) := g4
    rw [hca] at g4
    cases g4
    refine Or.inl ⟨by decide, fun hi => ?_⟩
    unfold upd
    split
    · rename_i e0
      have e0 : i = o.toInt.toNat := e0
      omega
    · rcases h3.2.2.2.2.2.1.2.2 8 6 _ _ f o i rfl (by decide) w1 hca g5 with ⟨_, hp⟩ | ⟨hp, _⟩
      · exact hp hi
      · exact absurd hp (by decide)) (by decide)
  refine z_iast X d_rl_269 8 w1 hvin rfl ?_
  have g4 : AG G ad TM0 C_readsLine.2.2.2.2.1 w0 (spin C_readsLine μ) (se_rl1_269.2.1.1, [], se_rl1_269.2.1.2.2) ν lw [] (ws.set 8 (ad 8, aI G 6 (upd f o.toNatClampNeg v))) := ⟨hg.1, rfl, g3⟩
  have hF1 := g4.2.2.2.2.2.2.2.2
  have g5 : AG G ad TM0 sC_rl270.2.2.2.2.1 (ws.set 8 (ad 8, aI G 6 (upd f o.toNatClampNeg v))) (spin C_readsLine μ) (se_rl1_269.2.1.1, [], se_rl1_269.2.1.2.2) ν lw [] (ws.set 8 (ad 8, aI G 6 (upd f o.toNatClampNeg v))) := AG.rew (st2 := []) g4
  obtain ⟨ν', lw', q1, q2, -, -⟩ := aarr_ok (d := (270, ss_rl270, 0, [(0, 0)])) (pids := [0, 100, 101, 102]) (sr := none) g5 spin3 (by decide +kernel) (by decide)
  refine Z.mono q2 ?_
  refine aseg (fld := fld_11) (put := put_11) (cst := cst_11) (cstl := cstl_11) (hk := hk0) (tab := D_X11_readsLine) (C := sC_rl270) (PO := fun r w1 => POST G ad TM0 C_readsLine μ w0 r w1) (rk := 3) (pids := [0, 100, 101, 102]) D_X11_readsLine_ok X rfl rfl hok0 (Or.inr (Or.inr (Or.inr ⟨rfl, rfl⟩))) (Nat.le_refl 0) (Nat.le_refl 0) (spin1 (C := C_readsLine)) (spin2 (C := C_readsLine)) (fun r w1 h => POST.mono (C := sC_rl270) (C' := C_readsLine) h rfl hF1 (by decide)) fld_11_ok put_11_ok cst_11_ok cstl_11_ok (sl_rl270_ok l G) (Nat.le_refl 0) (Nat.le_refl 0) spin3 sg_rl270 (fun d hd ν2 lw2 sw2 ws2 hg2 => ?_) ν' lw' [] _ q1
  rw [List.mem_singleton.mp hd] at hg2 ⊢
  refine rl_278 X (f1 := upd f o.toNatClampNeg v) hg2 hF1 (by decide) (by decide) (set_same w1) (fun o2 ho2 => ?_)
  have hp0 := (h3.2.2.2.2.1 (101, μ 101) (spin2 (C := C_readsLine) 1 (by decide))).2
  have hp0 : ν 101 = μ 101 := hp0
  rw [← hp0, ho] at ho2
  cases ho2
  unfold upd
  rw [if_pos rfl]
  omega
theorem rl_269_1 {p : Program} {l : Launch} {e : Env} {s : State} {m : MethodId} {args : Array Value} {below : List Frame} {meth : Method} {c : Code} {G : KG} {A : Nat → Prop} (X : ZC p s m args meth c cX11_readsLine 1 RX11 G A (some .boolean) "readsLine") {ad : Nat → Nat} {w0 : va_W} {μ : Nat → Value} {ν : Nat → Value} {lw : List (Nat × Value)} {sw : List Value} {ws : va_W} (hg : AG G ad TM0 C_readsLine.2.2.2.2.1 w0 (spin C_readsLine μ) se_rl1_269_1.2.1 ν lw sw ws) : Z p l e (rmOf C_readsLine) s m args below meth c 1 G A (MQ below (QQ G A (fun r w1 => POST G ad TM0 C_readsLine μ w0 r w1)) args s 0 0 A) 269 lw sw ws 0 0 := by
  have h3 := hg.2.2
  have h2 : sw = [ν 500, ν 101, ν 501] := hg.2.1
  obtain ⟨o, ho⟩ := h3.int (i := 101) rfl
  have hr := h3.ref (i := 501) rfl
  have hr : ν 501 = .ref (ad 8) := hr
  obtain ⟨f, w1, w2⟩ := WT.ints (k := 8) (n := 6) h3.2.2.2.2.2.1 rfl
  have hb := h3.2.1 (101, (0, 0, 5)) (by decide)
  obtain ⟨o', e', b1, b2⟩ := vty0 hb rfl
  have e' : ν 101 = .int o' := e'
  rw [ho] at e'
  cases e'
  have b1 : 0 ≤ o.toInt := b1
  have b2 : o.toInt ≤ 5 := b2
  have hv := h3.2.1 (500, (0, 1, 9)) (by decide)
  obtain ⟨v, ev, v1, v2⟩ := vty0 hv rfl
  have ev : ν 500 = .int v := ev
  have v1 : 1 ≤ v.toInt := v1
  have v2 : v.toInt ≤ 9 := v2
  rw [h2, ho, hr, ev]
  have hvin : vp_in o 6 := by
    unfold vp_in
    rintro (h | h)
    · have := Int32.lt_iff_toInt_lt.mp h
      have e0 : (0 : Int32).toInt = 0 := rfl
      omega
    · have e0 : o.toNatClampNeg = o.toInt.toNat := rfl
      omega
  have hca := h3.2.2.1 (0, 10, 101) (by decide)
  have hca : fget ws 0 10 = some (ν 101) := hca
  rw [ho] at hca
  have g3 := h3.setA (k := 8) (te := .inr (0, 6, (43, -1, 9))) (y := (cyI G, 6, .inl (upd f o.toNatClampNeg v))) rfl w1 (Or.inl ⟨rfl, _, rfl, aint_upd w2 (by show (-1 : Int) ≤ _; omega) (by show _ ≤ (9 : Int); omega) (fun e => by cases e)⟩) (fun n' t' e' g2 f' c i g3 g4 g5 => by
    cases e'
    cases g3
    have g4 : fget ws 0 10 = some (.int c) := g4
    rw [hca] at g4
    cases g4
    refine Or.inl ⟨by decide, fun hi => ?_⟩
    unfold upd
    split
    · rename_i e0
      have e0 : i = o.toInt.toNat := e0
      omega
    · rcases h3.2.2.2.2.2.1.2.2 8 6 _ _ f o i rfl (by decide) w1 hca g5 with ⟨_, hp⟩ | ⟨hp, _⟩
      · exact hp hi
      · exact absurd hp (by decide)) (by decide)
  refine z_iast X d_rl_269 8 w1 hvin rfl ?_
  have g4 : AG G ad TM0 C_readsLine.2.2.2.2.1 w0 (spin C_readsLine μ) (se_rl1_269_1.2.1.1, [], se_rl1_269_1.2.1.2.2) ν lw [] (ws.set 8 (ad 8, aI G 6 (upd f o.toNatClampNeg v))) := ⟨hg.1, rfl, g3⟩
  have hF1 := g4.2.2.2.2.2.2.2.2
  have g5 : AG G ad TM0 sC_rl270.2.2.2.2.1 (ws.set 8 (ad 8, aI G 6 (upd f o.toNatClampNeg v))) (spin C_readsLine μ) (se_rl1_269_1.2.1.1, [], se_rl1_269_1.2.1.2.2) ν lw [] (ws.set 8 (ad 8, aI G 6 (upd f o.toNatClampNeg v))) := AG.rew (st2 := []) g4
  obtain ⟨ν', lw', q1, q2, -, -⟩ := aarr_ok (d := (270, ss_rl270, 0, [(0, 0)])) (pids := [0, 100, 101, 102]) (sr := none) g5 spin3 (by decide +kernel) (by decide)
  refine Z.mono q2 ?_
  refine aseg (fld := fld_11) (put := put_11) (cst := cst_11) (cstl := cstl_11) (hk := hk0) (tab := D_X11_readsLine) (C := sC_rl270) (PO := fun r w1 => POST G ad TM0 C_readsLine μ w0 r w1) (rk := 3) (pids := [0, 100, 101, 102]) D_X11_readsLine_ok X rfl rfl hok0 (Or.inr (Or.inr (Or.inr ⟨rfl, rfl⟩))) (Nat.le_refl 0) (Nat.le_refl 0) (spin1 (C := C_readsLine)) (spin2 (C := C_readsLine)) (fun r w1 h => POST.mono (C := sC_rl270) (C' := C_readsLine) h rfl hF1 (by decide)) fld_11_ok put_11_ok cst_11_ok cstl_11_ok (sl_rl270_ok l G) (Nat.le_refl 0) (Nat.le_refl 0) spin3 sg_rl270 (fun d hd ν2 lw2 sw2 ws2 hg2 => ?_) ν' lw' [] _ q1
  rw [List.mem_singleton.mp hd] at hg2 ⊢
  refine rl_278 X (f1 := upd f o.toNatClampNeg v) hg2 hF1 (by decide) (by decide) (set_same w1) (fun o2 ho2 => ?_)
  have hp0 := (h3.2.2.2.2.1 (101, μ 101) (spin2 (C := C_readsLine) 1 (by decide))).2
  have hp0 : ν 101 = μ 101 := hp0
  rw [← hp0, ho] at ho2
  cases ho2
  unfold upd
  rw [if_pos rfl]
  omega
theorem ac_readsLine (l : Launch) (G : KG) : ACt l G TM0 yX11_readsLine cX11_readsLine 1 (some .boolean) C_readsLine := by
  refine hand_of (by decide) (by decide) (by decide) (by decide) (by decide) ?_
  intro p e s m args below meth c A X ad w0 μ lw hW hPre hg
  refine aseg (fld := fld_11) (put := put_11) (cst := cst_11) (cstl := cstl_11) (hk := hk0) (tab := D_X11_readsLine) (C := sC_rl1) (PO := fun r w1 => POST G ad TM0 C_readsLine μ w0 r w1) (rk := 3) (pids := [0, 100, 101, 102]) D_X11_readsLine_ok X rfl rfl hok0 (Or.inr (Or.inr (Or.inr ⟨rfl, rfl⟩))) (Nat.le_refl 0) (Nat.le_refl 0) (spin1 (C := C_readsLine)) (spin2 (C := C_readsLine)) (fun r w1 h => h) fld_11_ok put_11_ok cst_11_ok cstl_11_ok (sl_rl1_ok l G) (Nat.le_refl 0) (Nat.le_refl 0) spin3 sg_rl1 (fun d hd ν2 lw2 sw2 ws2 hg2 => ?_) μ lw [] w0 hg
  rcases List.mem_cons.mp hd with e1 | hd
  · rw [e1] at hg2 ⊢
    exact rl_67 X hg2 (w0 := w0) ⟨rfl, fun _ _ _ => rfl⟩ (by decide)
  rcases List.mem_cons.mp hd with e1 | hd
  · rw [e1] at hg2 ⊢
    exact rl_269 X hg2
  · rw [List.mem_singleton.mp hd] at hg2 ⊢
    exact rl_269_1 X hg2
