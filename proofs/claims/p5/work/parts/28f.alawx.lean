section
/-! the law: its cases, the relation kept -/
section LWC
variable {p : Program} {l : Launch} {e : Env} {s : State} {m : MethodId} {below : List Frame} {meth : Method} {c : Code} {G : KG} {nm : String} {b L x y o : Nat} {xs : Nat → Int32} {i : Int32} {f : Nat → Int64} {wx wm : va_W} {kc ks : Nat}
theorem z_pop2 {args : Array Value} {R : Room} {nL : Nat} {A : Nat → Prop} {Q : State → Prop} {cc : ByteArray} {own : String} {rt : Option FieldType} {pc : Nat} {rest : List Value} {ws : va_W} {lv : List (Nat × Value)} {va : Value} (X : ZC p s m args meth c cc nL own G A rt nm) (hdg : decode cc pc = .ok (.pop2, 1)) (hva : va.category = 2) (kz : Z p l e R s m args below meth c nL G A Q (pc + 1) lv rest ws kc ks) : Z p l e R s m args below meth c nL G A Q pc lv (va :: rest) ws kc ks := fun H locs ls hP hD hS hl => lv_pop2_2 X.1 X.2.1 hdg hva (kz H locs ls hP hD hS hl)
abbrev lv5 (b x y o : Nat) (i : Int32) : List (Nat × Value) := [(0, .ref b), (1, .ref x), (2, .ref y), (3, .ref o), (4, .int i)]
theorem lc_0 (X : ZC p s m #[Value.ref b] meth c code 8 RL G (fun q : Nat => s.heap.size ≤ q) ret nm) (hX : va_X b L xs s s.heap) (hbl : b < s.heap.size) (hbA : ¬ s.heap.size ≤ b) (hi0 : 0 ≤ i.toInt) (hi1 : i.toInt + 10 ≤ (L : Int) ∧ L ≤ 5120) (hx : CWx G x wx) (hy : MWx G y wm) (hR : RelQ G wx wm) (hc : kc ≤ room_1.cells) (hs : ks ≤ room_1.slots) (hK : ∀ wx' wm', CWx G x wx' → wx'.length = wx.length → MWx G y wm' → RelQ G wx' wm' → Z p l e room_1 s m #[Value.ref b] below meth c 8 G (fun q : Nat => s.heap.size ≤ q) (lw_Z below #[Value.ref b] s) 2220 (lv5 b x y o i) [] (wx' ++ wm' ++ [(o, aJ G 1 f)]) kc ks) : Z p l e room_1 s m #[Value.ref b] below meth c 8 G (fun q : Nat => s.heap.size ≤ q) (lw_Z below #[Value.ref b] s) 248 (lv5 b x y o i) [] (wx ++ wm ++ [(o, aJ G 1 f)]) kc ks := by
  obtain ⟨n, h9, s9, c9, f9, g9, ⟨n0, n1⟩, rc9, e9, ⟨hn1, hn2⟩, ⟨a2, b2⟩, ⟨a3, b3⟩, ⟨a4, b4⟩, a5, b5⟩ := id hR.m
  refine z_aload_n X d_lw_248 rfl 1 rfl ?_
  refine z_aload_n X d_lw_249 rfl 0 rfl ?_
  refine z_iload X d_lw_250 4 rfl ?_
  refine z_iconst X d_lw_252 (v := 1) (by decide) ?_
  refine z_iadd X d_lw_253 ?_
  refine z_sld X hX hbl hbA (lw_in hi0 hi1 (k := 1) (by decide) (by decide)) d_lw_254 (v := xs (i + 1).toNatClampNeg) rfl ?_
  rcases (by omega : n.toInt ≤ 76 ∨ 77 ≤ n.toInt) with hq | hq
  · skip
    rw [List.append_assoc]
    refine cx_callG (rm := { frames := 1, cells := 0, slots := 0, locals := 22 }) (m0 := C_v_X10_sign_0.2.2.2.2.1) (Ψ := SgnE G 3 1 4 n f9 (xs (i + 1).toNatClampNeg)) (rest := []) (As := [.int (xs (i + 1).toNatClampNeg)]) X k_L_23 (fun ad w0 hW hag => ac_sgx l G hW ((fget_eq (hag 3 1 (by decide))).trans hn1) ((hag 4 0 (by decide)).trans a5) ⟨n0, hq⟩) ⟨rfl, rfl⟩ (by decide) (fun r w1 wc hl h => h.app ⟨by omega, by omega⟩) hx d_lw_255 ⟨by decide, by decide⟩ ⟨hc, hs⟩ rfl rfl (by decide) rfl (fun r wx' hz hx' hl' hfx => ?_)
    rw [← List.append_assoc]
    obtain ⟨v, rfl⟩ := hz.ret
    refine z_pop X d_lw_258 rfl ?_
    refine z_aload_n X d_lw_259 rfl 2 rfl ?_
    refine z_aload_n X d_lw_260 rfl 0 rfl ?_
    refine z_iload X d_lw_261 4 rfl ?_
    refine z_iconst X d_lw_263 (v := 1) (by decide) ?_
    refine z_iadd X d_lw_264 ?_
    refine z_sld X hX hbl hbA (lw_in hi0 hi1 (k := 1) (by decide) (by decide)) d_lw_265 (v := xs (i + 1).toNatClampNeg) rfl ?_
    refine mx_callG (rm := { frames := 0, cells := 0, slots := 0, locals := 0 }) (m0 := C_v_X11_sign_0.2.2.2.2.1) (Ψ := SgnE G 0 19 14 n g9 (xs (i + 1).toNatClampNeg)) (wa := wx') (rest := []) (As := [.int (xs (i + 1).toNatClampNeg)]) X k_L_27 (fun ad hW => ac_sgm l G hW hn2 b5 ⟨n0, hq⟩) ⟨rfl, rfl⟩ hy d_lw_266 ⟨by decide, by decide⟩ ⟨hc, hs⟩ rfl rfl (Nat.le_of_ble_eq_true rfl) rfl (fun r wm' hz2 hy' hfm => ?_)
    obtain ⟨v2, rfl⟩ := hz2.ret
    obtain ⟨ev0, hM'⟩ := RelM.sgn hR.m hfx hfm (by decide) ⟨n0, hq⟩ e9 hz hz2
    have hR' : RelQ G wx' wm' := RelQ.of (hM') (hR.a.keep hfx hfm (by decide)) (hR.d.keep hfx hfm (by decide)) (hR.c.keep hfx hfm (by decide)) (hR.x.keep hfx hfm (by decide)) (hR.b.keep hfx hfm (by decide)) (hR.h.keep hfx hfm (by decide)) (hR.t.keep hfx hfm (by decide)) (hR.k.keep hfx hfm (by decide))
    have ev : v.toInt = v2.toInt := congrArg Int32.toInt ev0
    refine z_pop X d_lw_269 rfl ?_
    refine z_goto X d_lw_270 (tgt := 2220) (by decide) ?_
    exact hK wx' wm' hx' hl' hy' hR'
  · skip
    rw [List.append_assoc]
    refine cx_callP (rest := []) (As := [.int (xs (i + 1).toNatClampNeg)]) (μ := muF x [.int (xs (i + 1).toNatClampNeg)] [.int n]) X k_L_23 (ac_v_X10_sign_1 l G) (by decide) hx (fun ad w0 he hag => pre_F (C := C_v_X10_sign_1) (ts := [tI0]) (As := [.int (xs (i + 1).toNatClampNeg)]) (t0 := (0, 77, 80)) rfl rfl (Nat.le_of_ble_eq_true rfl) ⟨fun _ => vty_i0 _, trivial⟩ (fun _ => vty_i (by omega) (by omega)) (fun q hq => by cases hq) ad w0 he ((hag 3 1 (by decide)).trans hn1)) rfl d_lw_255 ⟨by decide, by decide⟩ ⟨hc, hs⟩ rfl rfl (by decide) rfl (fun ad r wx' hz hx' hl' => ?_)
    rw [← List.append_assoc]
    have hfx := pz_fx hz
    obtain ⟨v, ν, rfl, v0, v1, e50, eA, eF, hF, hL⟩ := pz_a hz rfl rfl rfl
    refine z_pop X d_lw_258 rfl ?_
    refine z_aload_n X d_lw_259 rfl 2 rfl ?_
    refine z_aload_n X d_lw_260 rfl 0 rfl ?_
    refine z_iload X d_lw_261 4 rfl ?_
    refine z_iconst X d_lw_263 (v := 1) (by decide) ?_
    refine z_iadd X d_lw_264 ?_
    refine z_sld X hX hbl hbA (lw_in hi0 hi1 (k := 1) (by decide) (by decide)) d_lw_265 (v := xs (i + 1).toNatClampNeg) rfl ?_
    refine mx_callP (wa := wx') (rest := []) (As := [.int (xs (i + 1).toNatClampNeg)]) (μ := muF y [.int (xs (i + 1).toNatClampNeg)] [.int n]) X k_L_27 (ac_v_X11_sign_1 l G) hy (fun ad he => pre_F (C := C_v_X11_sign_1) (ts := [tI0]) (As := [.int (xs (i + 1).toNatClampNeg)]) (t0 := (0, 77, 80)) rfl rfl (Nat.le_of_ble_eq_true rfl) ⟨fun _ => vty_i0 _, trivial⟩ (fun _ => vty_i (by omega) (by omega)) (fun q hq => by cases hq) ad wm he hn2) rfl d_lw_266 ⟨by decide, by decide⟩ ⟨hc, hs⟩ rfl rfl (Nat.le_of_ble_eq_true rfl) rfl (fun ad2 r wm' hz2 hy' => ?_)
    have hfm := pz_fx hz2
    obtain ⟨v2, ν2, rfl, w0, w1, f50, fA, fF, hF2, hL2⟩ := pz_a hz2 rfl rfl rfl
    have m0 : ν 100 = .int n := eF 100 (by decide) (by decide)
    have m2 : ν2 100 = .int n := fF 100 (by decide) (by decide)
    have v0 : -1 ≤ v.toInt := v0
    have v1 : v.toInt ≤ -1 := v1
    have w0 : -1 ≤ v2.toInt := w0
    have w1 : v2.toInt ≤ -1 := w1
    have ev : v.toInt = v2.toInt := by omega
    have hR' : RelQ G wx' wm' := RelQ.of (hR.m.keep hfx hfm (by decide)) (hR.a.keep hfx hfm (by decide)) (hR.d.keep hfx hfm (by decide)) (hR.c.keep hfx hfm (by decide)) (hR.x.keep hfx hfm (by decide)) (hR.b.keep hfx hfm (by decide)) (hR.h.keep hfx hfm (by decide)) (hR.t.keep hfx hfm (by decide)) (hR.k.keep hfx hfm (by decide))
    refine z_pop X d_lw_269 rfl ?_
    refine z_goto X d_lw_270 (tgt := 2220) (by decide) ?_
    exact hK wx' wm' hx' hl' hy' hR'
theorem lc_1 (X : ZC p s m #[Value.ref b] meth c code 8 RL G (fun q : Nat => s.heap.size ≤ q) ret nm) (hX : va_X b L xs s s.heap) (hbl : b < s.heap.size) (hbA : ¬ s.heap.size ≤ b) (hi0 : 0 ≤ i.toInt) (hi1 : i.toInt + 10 ≤ (L : Int) ∧ L ≤ 5120) (hx : CWx G x wx) (hy : MWx G y wm) (hR : RelQ G wx wm) (hc : kc ≤ room_1.cells) (hs : ks ≤ room_1.slots) (hK : ∀ wx' wm', CWx G x wx' → wx'.length = wx.length → MWx G y wm' → RelQ G wx' wm' → Z p l e room_1 s m #[Value.ref b] below meth c 8 G (fun q : Nat => s.heap.size ≤ q) (lw_Z below #[Value.ref b] s) 2220 (lv5 b x y o i) [] (wx' ++ wm' ++ [(o, aJ G 1 f)]) kc ks) : Z p l e room_1 s m #[Value.ref b] below meth c 8 G (fun q : Nat => s.heap.size ≤ q) (lw_Z below #[Value.ref b] s) 273 (lv5 b x y o i) [] (wx ++ wm ++ [(o, aJ G 1 f)]) kc ks := by
  obtain ⟨n, h9, s9, c9, f9, g9, ⟨n0, n1⟩, rc9, e9, ⟨hn1, hn2⟩, ⟨a2, b2⟩, ⟨a3, b3⟩, ⟨a4, b4⟩, a5, b5⟩ := id hR.m
  refine z_aload_n X d_lw_273 rfl 1 rfl ?_
  refine z_aload_n X d_lw_274 rfl 0 rfl ?_
  refine z_iload X d_lw_275 4 rfl ?_
  refine z_iconst X d_lw_277 (v := 1) (by decide) ?_
  refine z_iadd X d_lw_278 ?_
  refine z_sld X hX hbl hbA (lw_in hi0 hi1 (k := 1) (by decide) (by decide)) d_lw_279 (v := xs (i + 1).toNatClampNeg) rfl ?_
  rcases (by omega : (xs (i + 1).toNatClampNeg).toInt ≤ -1 ∨ (0 ≤ (xs (i + 1).toNatClampNeg).toInt ∧ (xs (i + 1).toNatClampNeg).toInt ≤ n.toInt) ∨ n.toInt + 1 ≤ (xs (i + 1).toNatClampNeg).toInt) with hq | hq | hq
  · skip
    rw [List.append_assoc]
    refine cx_callP (rest := []) (As := [.int (xs (i + 1).toNatClampNeg)]) (μ := muF x [.int (xs (i + 1).toNatClampNeg)] [.int n]) X k_L_28 (ac_v_X10_end_0 l G) (by decide) hx (fun ad w0 he hag => pre_F (C := C_v_X10_end_0) (ts := [(0, -2147483648, -1)]) (As := [.int (xs (i + 1).toNatClampNeg)]) (t0 := (0, 0, 80)) rfl rfl (Nat.le_of_ble_eq_true rfl) ⟨fun _ => vty_i (i32_lo _) (by omega), trivial⟩ (fun _ => vty_i (by omega) (by omega)) (fun q hq => by cases hq) ad w0 he ((hag 3 1 (by decide)).trans hn1)) rfl d_lw_280 ⟨by decide, by decide⟩ ⟨hc, hs⟩ rfl rfl (by decide) rfl (fun ad r wx' hz hx' hl' => ?_)
    rw [← List.append_assoc]
    have hfx := pz_fx hz
    obtain ⟨v, ν, rfl, v0, v1, e50, eA, eF, hF, hL⟩ := pz_a hz rfl rfl rfl
    refine z_pop X d_lw_283 rfl ?_
    refine z_aload_n X d_lw_284 rfl 2 rfl ?_
    refine z_aload_n X d_lw_285 rfl 0 rfl ?_
    refine z_iload X d_lw_286 4 rfl ?_
    refine z_iconst X d_lw_288 (v := 1) (by decide) ?_
    refine z_iadd X d_lw_289 ?_
    refine z_sld X hX hbl hbA (lw_in hi0 hi1 (k := 1) (by decide) (by decide)) d_lw_290 (v := xs (i + 1).toNatClampNeg) rfl ?_
    refine mx_callP (wa := wx') (rest := []) (As := [.int (xs (i + 1).toNatClampNeg)]) (μ := muF y [.int (xs (i + 1).toNatClampNeg)] [.int n]) X k_L_32 (ac_v_X11_end_0 l G) hy (fun ad he => pre_F (C := C_v_X11_end_0) (ts := [(0, -2147483648, -1)]) (As := [.int (xs (i + 1).toNatClampNeg)]) (t0 := (0, 0, 80)) rfl rfl (Nat.le_of_ble_eq_true rfl) ⟨fun _ => vty_i (i32_lo _) (by omega), trivial⟩ (fun _ => vty_i (by omega) (by omega)) (fun q hq => by cases hq) ad wm he hn2) rfl d_lw_291 ⟨by decide, by decide⟩ ⟨hc, hs⟩ rfl rfl (Nat.le_of_ble_eq_true rfl) rfl (fun ad2 r wm' hz2 hy' => ?_)
    have hfm := pz_fx hz2
    obtain ⟨v2, ν2, rfl, w0, w1, f50, fA, fF, hF2, hL2⟩ := pz_a hz2 rfl rfl rfl
    have m0 : ν 100 = .int n := eF 100 (by decide) (by decide)
    have m2 : ν2 100 = .int n := fF 100 (by decide) (by decide)
    have v0 : 0 ≤ v.toInt := v0
    have v1 : v.toInt ≤ 0 := v1
    have w0 : 0 ≤ v2.toInt := w0
    have w1 : v2.toInt ≤ 0 := w1
    have ev : v.toInt = v2.toInt := by omega
    have hR' : RelQ G wx' wm' := RelQ.of (hR.m.keep hfx hfm (by decide)) (hR.a.keep hfx hfm (by decide)) (hR.d.keep hfx hfm (by decide)) (hR.c.keep hfx hfm (by decide)) (hR.x.keep hfx hfm (by decide)) (hR.b.keep hfx hfm (by decide)) (hR.h.keep hfx hfm (by decide)) (hR.t.keep hfx hfm (by decide)) (hR.k.keep hfx hfm (by decide))
    refine z_pop X d_lw_294 rfl ?_
    refine z_goto X d_lw_295 (tgt := 2220) (by decide) ?_
    exact hK wx' wm' hx' hl' hy' hR'
  · skip
    rw [List.append_assoc]
    refine cx_callP (rest := []) (As := [.int (xs (i + 1).toNatClampNeg)]) (μ := muF x [.int (xs (i + 1).toNatClampNeg)] [.int n]) X k_L_28 (ac_v_X10_end_1 l G) (by decide) hx (fun ad w0 he hag => pre_F (C := C_v_X10_end_1) (ts := [(0, 0, 80)]) (As := [.int (xs (i + 1).toNatClampNeg)]) (t0 := (0, 0, 80)) rfl rfl (Nat.le_of_ble_eq_true rfl) ⟨fun _ => vty_i (by omega) (by omega), trivial⟩ (fun _ => vty_i (by omega) (by omega)) (fun q hq => by rw [List.mem_singleton.mp hq]; show (xs (i + 1).toNatClampNeg).toInt ≤ n.toInt + 0; omega) ad w0 he ((hag 3 1 (by decide)).trans hn1)) rfl d_lw_280 ⟨by decide, by decide⟩ ⟨hc, hs⟩ rfl rfl (by decide) rfl (fun ad r wx' hz hx' hl' => ?_)
    rw [← List.append_assoc]
    have hfx := pz_fx hz
    obtain ⟨v, ν, rfl, v0, v1, e50, eA, eF, hF, hL⟩ := pz_a hz rfl rfl rfl
    refine z_pop X d_lw_283 rfl ?_
    refine z_aload_n X d_lw_284 rfl 2 rfl ?_
    refine z_aload_n X d_lw_285 rfl 0 rfl ?_
    refine z_iload X d_lw_286 4 rfl ?_
    refine z_iconst X d_lw_288 (v := 1) (by decide) ?_
    refine z_iadd X d_lw_289 ?_
    refine z_sld X hX hbl hbA (lw_in hi0 hi1 (k := 1) (by decide) (by decide)) d_lw_290 (v := xs (i + 1).toNatClampNeg) rfl ?_
    refine mx_callP (wa := wx') (rest := []) (As := [.int (xs (i + 1).toNatClampNeg)]) (μ := muF y [.int (xs (i + 1).toNatClampNeg)] [.int n]) X k_L_32 (ac_v_X11_end_1 l G) hy (fun ad he => pre_F (C := C_v_X11_end_1) (ts := [(0, 0, 80)]) (As := [.int (xs (i + 1).toNatClampNeg)]) (t0 := (0, 0, 80)) rfl rfl (Nat.le_of_ble_eq_true rfl) ⟨fun _ => vty_i (by omega) (by omega), trivial⟩ (fun _ => vty_i (by omega) (by omega)) (fun q hq => by rw [List.mem_singleton.mp hq]; show (xs (i + 1).toNatClampNeg).toInt ≤ n.toInt + 0; omega) ad wm he hn2) rfl d_lw_291 ⟨by decide, by decide⟩ ⟨hc, hs⟩ rfl rfl (Nat.le_of_ble_eq_true rfl) rfl (fun ad2 r wm' hz2 hy' => ?_)
    have hfm := pz_fx hz2
    obtain ⟨v2, ν2, rfl, w0, w1, f50, fA, fF, hF2, hL2⟩ := pz_a hz2 rfl rfl rfl
    have m0 : ν 100 = .int n := eF 100 (by decide) (by decide)
    have m2 : ν2 100 = .int n := fF 100 (by decide) (by decide)
    have v0 : 1 ≤ v.toInt := v0
    have v1 : v.toInt ≤ 1 := v1
    have w0 : 1 ≤ v2.toInt := w0
    have w1 : v2.toInt ≤ 1 := w1
    have ev : v.toInt = v2.toInt := by omega
    have f1 := hF 0 _ rfl
    have g1 := hF2 1 _ rfl
    obtain ⟨q1, en1, l1, u1⟩ := vty0 f1.1 rfl
    obtain ⟨q2, en2, l2, u2⟩ := vty0 g1.1 rfl
    have l1 : 0 ≤ q1.toInt := Int.le_trans (by decide) l1
    have u1 : q1.toInt ≤ 80 := u1
    have k0 : ν 1 = .int (xs (i + 1).toNatClampNeg) := eA 1 (by decide)
    have c0 : q1.toInt ≤ (xs (i + 1).toNatClampNeg).toInt + 0 := by
      have h := hL (200, 1, 0) (by decide)
      have h : vI (ν 200) ≤ vI (ν 1) + 0 := h
      rw [show ν 200 = .int q1 from en1, k0] at h
      exact h
    have d0 : (xs (i + 1).toNatClampNeg).toInt ≤ q1.toInt + 0 := by
      have h := hL (1, 200, 0) (by decide)
      have h : vI (ν 1) ≤ vI (ν 200) + 0 := h
      rw [show ν 200 = .int q1 from en1, k0] at h
      exact h
    have k1 : ν2 1 = .int (xs (i + 1).toNatClampNeg) := fA 1 (by decide)
    have c1 : q2.toInt ≤ (xs (i + 1).toNatClampNeg).toInt + 0 := by
      have h := hL2 (201, 1, 0) (by decide)
      have h : vI (ν2 201) ≤ vI (ν2 1) + 0 := h
      rw [show ν2 201 = .int q2 from en2, k1] at h
      exact h
    have d1 : (xs (i + 1).toNatClampNeg).toInt ≤ q2.toInt + 0 := by
      have h := hL2 (1, 201, 0) (by decide)
      have h : vI (ν2 1) ≤ vI (ν2 201) + 0 := h
      rw [show ν2 201 = .int q2 from en2, k1] at h
      exact h
    have e12 : q2 = q1 := Int32.toInt_inj.mp (by omega)
    have hR' : RelQ G wx' wm' := RelQ.of (hR.m.len hfx hfm (by decide) l1 u1 (by rw [← en1]; exact f1.2) (by rw [← e12, ← en2]; exact g1.2)) (hR.a.keep hfx hfm (by decide)) (hR.d.keep hfx hfm (by decide)) (hR.c.keep hfx hfm (by decide)) (hR.x.keep hfx hfm (by decide)) (hR.b.keep hfx hfm (by decide)) (hR.h.keep hfx hfm (by decide)) (hR.t.keep hfx hfm (by decide)) (hR.k.keep hfx hfm (by decide))
    refine z_pop X d_lw_294 rfl ?_
    refine z_goto X d_lw_295 (tgt := 2220) (by decide) ?_
    exact hK wx' wm' hx' hl' hy' hR'
  · skip
    rw [List.append_assoc]
    refine cx_callP (rest := []) (As := [.int (xs (i + 1).toNatClampNeg)]) (μ := muF x [.int (xs (i + 1).toNatClampNeg)] [.int n]) X k_L_28 (ac_v_X10_end_2 l G) (by decide) hx (fun ad w0 he hag => pre_F (C := C_v_X10_end_2) (ts := [(0, 0, 2147483647)]) (As := [.int (xs (i + 1).toNatClampNeg)]) (t0 := (0, 0, 80)) rfl rfl (Nat.le_of_ble_eq_true rfl) ⟨fun _ => vty_i (by omega) (i32_hi _), trivial⟩ (fun _ => vty_i (by omega) (by omega)) (fun q hq => by rw [List.mem_singleton.mp hq]; show n.toInt ≤ (xs (i + 1).toNatClampNeg).toInt + -1; omega) ad w0 he ((hag 3 1 (by decide)).trans hn1)) rfl d_lw_280 ⟨by decide, by decide⟩ ⟨hc, hs⟩ rfl rfl (by decide) rfl (fun ad r wx' hz hx' hl' => ?_)
    rw [← List.append_assoc]
    have hfx := pz_fx hz
    obtain ⟨v, ν, rfl, v0, v1, e50, eA, eF, hF, hL⟩ := pz_a hz rfl rfl rfl
    refine z_pop X d_lw_283 rfl ?_
    refine z_aload_n X d_lw_284 rfl 2 rfl ?_
    refine z_aload_n X d_lw_285 rfl 0 rfl ?_
    refine z_iload X d_lw_286 4 rfl ?_
    refine z_iconst X d_lw_288 (v := 1) (by decide) ?_
    refine z_iadd X d_lw_289 ?_
    refine z_sld X hX hbl hbA (lw_in hi0 hi1 (k := 1) (by decide) (by decide)) d_lw_290 (v := xs (i + 1).toNatClampNeg) rfl ?_
    refine mx_callP (wa := wx') (rest := []) (As := [.int (xs (i + 1).toNatClampNeg)]) (μ := muF y [.int (xs (i + 1).toNatClampNeg)] [.int n]) X k_L_32 (ac_v_X11_end_2 l G) hy (fun ad he => pre_F (C := C_v_X11_end_2) (ts := [(0, 0, 2147483647)]) (As := [.int (xs (i + 1).toNatClampNeg)]) (t0 := (0, 0, 80)) rfl rfl (Nat.le_of_ble_eq_true rfl) ⟨fun _ => vty_i (by omega) (i32_hi _), trivial⟩ (fun _ => vty_i (by omega) (by omega)) (fun q hq => by rw [List.mem_singleton.mp hq]; show n.toInt ≤ (xs (i + 1).toNatClampNeg).toInt + -1; omega) ad wm he hn2) rfl d_lw_291 ⟨by decide, by decide⟩ ⟨hc, hs⟩ rfl rfl (Nat.le_of_ble_eq_true rfl) rfl (fun ad2 r wm' hz2 hy' => ?_)
    have hfm := pz_fx hz2
    obtain ⟨v2, ν2, rfl, w0, w1, f50, fA, fF, hF2, hL2⟩ := pz_a hz2 rfl rfl rfl
    have m0 : ν 100 = .int n := eF 100 (by decide) (by decide)
    have m2 : ν2 100 = .int n := fF 100 (by decide) (by decide)
    have v0 : 0 ≤ v.toInt := v0
    have v1 : v.toInt ≤ 0 := v1
    have w0 : 0 ≤ v2.toInt := w0
    have w1 : v2.toInt ≤ 0 := w1
    have ev : v.toInt = v2.toInt := by omega
    have hR' : RelQ G wx' wm' := RelQ.of (hR.m.keep hfx hfm (by decide)) (hR.a.keep hfx hfm (by decide)) (hR.d.keep hfx hfm (by decide)) (hR.c.keep hfx hfm (by decide)) (hR.x.keep hfx hfm (by decide)) (hR.b.keep hfx hfm (by decide)) (hR.h.keep hfx hfm (by decide)) (hR.t.keep hfx hfm (by decide)) (hR.k.keep hfx hfm (by decide))
    refine z_pop X d_lw_294 rfl ?_
    refine z_goto X d_lw_295 (tgt := 2220) (by decide) ?_
    exact hK wx' wm' hx' hl' hy' hR'
theorem lc_2 (X : ZC p s m #[Value.ref b] meth c code 8 RL G (fun q : Nat => s.heap.size ≤ q) ret nm) (hX : va_X b L xs s s.heap) (hbl : b < s.heap.size) (hbA : ¬ s.heap.size ≤ b) (hi0 : 0 ≤ i.toInt) (hi1 : i.toInt + 10 ≤ (L : Int) ∧ L ≤ 5120) (hx : CWx G x wx) (hy : MWx G y wm) (hR : RelQ G wx wm) (hc : kc ≤ room_1.cells) (hs : ks ≤ room_1.slots) (hK : ∀ wx' wm', CWx G x wx' → wx'.length = wx.length → MWx G y wm' → RelQ G wx' wm' → Z p l e room_1 s m #[Value.ref b] below meth c 8 G (fun q : Nat => s.heap.size ≤ q) (lw_Z below #[Value.ref b] s) 2220 (lv5 b x y o i) [] (wx' ++ wm' ++ [(o, aJ G 1 f)]) kc ks) : Z p l e room_1 s m #[Value.ref b] below meth c 8 G (fun q : Nat => s.heap.size ≤ q) (lw_Z below #[Value.ref b] s) 298 (lv5 b x y o i) [] (wx ++ wm ++ [(o, aJ G 1 f)]) kc ks := by
  obtain ⟨n, h9, s9, c9, f9, g9, ⟨n0, n1⟩, rc9, e9, ⟨hn1, hn2⟩, ⟨a2, b2⟩, ⟨a3, b3⟩, ⟨a4, b4⟩, a5, b5⟩ := id hR.m
  refine z_aload_n X d_lw_298 rfl 1 rfl ?_
  obtain ⟨ha0, sa0, ca0, ⟨eh1, es1, ec1⟩, ⟨pq, pg, pa, pb, pe⟩, ⟨rq, rg, ra, rb, re⟩, ⟨fq, fg, fa, fb, fe⟩, ⟨oq, og, oa, ob1, oe⟩, ⟨wq, wg, wa1, wb1, we⟩⟩ := id hR.a
  obtain rfl := some_int (a2.symm.trans eh1)
  obtain rfl := some_int (a3.symm.trans es1)
  obtain rfl := some_int (a4.symm.trans ec1)
  obtain ⟨hd0, eh2, ⟨dq, dg, da, db, de⟩, -⟩ := id hR.d
  obtain ⟨hd1, eh3, ⟨xq, xg, xa, xb, xe⟩, ⟨yq, yg, ya, yb, ye⟩⟩ := id hR.x
  obtain rfl := some_int (a2.symm.trans eh3)
  obtain ⟨hd2, hq, hg, hr, x1, x2, x3, x4, -⟩ := id hR.h
  obtain rfl := arrinj (ra.symm.trans x4)
  rw [List.append_assoc]
  refine cx_callG (rm := { frames := 6, cells := 0, slots := 0, locals := 132 }) (m0 := C_t_X10_mill_0.2.2.2.2.1) (Ψ := (fun r w1 => MilE 3 1 5 0 12 0 18 0 n f9 h9 s9 c9 r w1 ∧ MilA G 5 0 12 0 18 0 6 9 13 14 19 f9 (if 60 < n then 60 else n) h9 s9 c9 pq rq fq oq wq w1 ∧ MilX G 5 0 7 8 f9 (if 60 < n then 60 else n) h9 s9 c9 xq yq w1)) (rest := []) (As := []) X k_L_33 (fun ad w0 hW hag => ac_mi3x l G hW ((fget_eq (hag 3 1 (by decide))).trans hn1) ((fget_eq (hag 5 0 (by decide))).trans a2) ((fget_eq (hag 12 0 (by decide))).trans a3) ((fget_eq (hag 18 0 (by decide))).trans a4) ((hag 4 0 (by decide)).trans a5) ((hag 6 0 (by decide)).trans pa) ((hag 9 0 (by decide)).trans ra) ((hag 13 0 (by decide)).trans fa) ((hag 14 0 (by decide)).trans oa) ((hag 19 0 (by decide)).trans wa1) ((hag 7 0 (by decide)).trans xa) ((hag 8 0 (by decide)).trans ya)) ⟨rfl, rfl⟩ (by decide) (fun r w1 wc hl h => ⟨h.1.app ⟨by omega, by omega, by omega, by omega⟩, h.2.1.app ⟨⟨by omega, by omega, by omega⟩, by omega, by omega, by omega, by omega, by omega⟩, h.2.2.app ⟨by omega, by omega, by omega⟩⟩) hx d_lw_299 ⟨by decide, by decide⟩ ⟨hc, hs⟩ rfl rfl (by decide) rfl (fun r wx' hz hx' hl' hfx => ?_)
  rw [← List.append_assoc]
  obtain ⟨v, rfl⟩ := hz.1.ret
  refine z_pop X d_lw_302 rfl ?_
  refine z_aload_n X d_lw_303 rfl 2 rfl ?_
  refine mx_callG (rm := { frames := 5, cells := 0, slots := 0, locals := 110 }) (m0 := C_mill1.2.2.2.2.1) (Ψ := (fun r w1 => MilE 0 19 0 3 0 10 0 16 n g9 h9 s9 c9 r w1 ∧ MilA G 0 3 0 10 0 16 2 5 8 9 13 g9 (if 60 < n then 60 else n) h9 s9 c9 pg rg fg og wg w1 ∧ MilX G 0 3 3 4 g9 (if 60 < n then 60 else n) h9 s9 c9 xg yg w1 ∧ MilD G 0 3 7 g9 (if 60 < n then 60 else n) h9 s9 c9 dg w1 ∧ MilD G 0 3 6 g9 (if 60 < n then 60 else n) h9 s9 c9 hg w1)) (wa := wx') (rest := []) (As := []) X k_L_37 (fun ad hW => ac_mi3m l G hW hn2 b2 b3 b4 b5 pb rb fb ob1 wb1 xb yb db x3) ⟨rfl, rfl⟩ hy d_lw_304 ⟨by decide, by decide⟩ ⟨hc, hs⟩ rfl rfl (Nat.le_of_ble_eq_true rfl) rfl (fun r wm' hz2 hy' hfm => ?_)
  obtain ⟨v2, rfl⟩ := hz2.1.ret
  obtain ⟨ev0, hM'⟩ := RelM.mil hfx hfm (by decide) e9 a5 b5 hz.1 hz2.1
  obtain ⟨u9, -, -, ⟨ux, -, -⟩, -, ur, -⟩ := id hz.2.1
  have hr0 : ∀ q : Nat → Int32, cget wx' 9 0 = some (.inr (cyI G, 16, .inl q)) → ∀ j : Nat, j < 16 → 0 ≤ (q j).toInt := fun q e j hj => cwx_room hx' e j hj
  have hA' : RelAr G wx' wm' := RelAr.mil hM' (lim60 n) e9 hz.2.1 hz2.2.1 ⟨pe, re, fe, oe, we⟩
  have hD' : RelD G wx' wm' := RelD.mil hM' hR.d hfx (by decide) a2 db hz2.2.2.2.1 (fun h2 e => hz.1.ge e)
  have hX' : RelXY G wx' wm' := RelXY.mil hM' (lim60 n) e9 hz.2.2 hz2.2.2.1 ⟨xe, ye⟩
  have hB' : RelB G wx' wm' := RelB.mil hR.b ⟨a2, a3, a4⟩ ⟨rc9.1.1, rc9.2.1.1, rc9.2.2.1⟩ hz.1 hz.2.1 hz.2.2 ⟨xa, ya, fa, oa, wa1⟩
  have hH' : RelH G wx' wm' := RelH.mil hM' hR.h hfx (by decide) a2 x3 ra hz2.2.2.2.2 ur hr0 (fun h2 e => hz.1.ge e)
  have hK' : RelKh G wx' wm' := RelKh.mil hR.k hfx hfm (by decide) a2 ux ra ur hr0 (hz.1.ge ux)
  have hR' : RelQ G wx' wm' := RelQ.of (hM') (hA') (hD') (hR.c.keep hfx hfm (by decide)) (hX') (hB') (hH') (hR.t.keep hfx hfm (by decide)) (hK')
  have ev : v.toInt = v2.toInt := congrArg Int32.toInt ev0
  refine z_pop X d_lw_307 rfl ?_
  refine z_goto X d_lw_308 (tgt := 2220) (by decide) ?_
  exact hK wx' wm' hx' hl' hy' hR'
theorem lc_3 (X : ZC p s m #[Value.ref b] meth c code 8 RL G (fun q : Nat => s.heap.size ≤ q) ret nm) (hX : va_X b L xs s s.heap) (hbl : b < s.heap.size) (hbA : ¬ s.heap.size ≤ b) (hi0 : 0 ≤ i.toInt) (hi1 : i.toInt + 10 ≤ (L : Int) ∧ L ≤ 5120) (hx : CWx G x wx) (hy : MWx G y wm) (hR : RelQ G wx wm) (hE : EXs (fun q : Nat => s.heap.size ≤ q) s s.heap) (hst : l.stackTraces = false) (hc : kc + 1 ≤ room_1.cells) (hs : ks + 6 ≤ room_1.slots) (hK : ∀ wx' wm' f', CWx G x wx' → wx'.length = wx.length → MWx G y wm' → RelQ G wx' wm' → Z p l e room_1 s m #[Value.ref b] below meth c 8 G (fun q : Nat => s.heap.size ≤ q) (lw_Z below #[Value.ref b] s) 2220 (lv5 b x y o i) [] (wx' ++ wm' ++ [(o, aJ G 1 f')]) (kc + 1) (ks + 6)) : Z p l e room_1 s m #[Value.ref b] below meth c 8 G (fun q : Nat => s.heap.size ≤ q) (lw_Z below #[Value.ref b] s) 311 (lv5 b x y o i) [] (wx ++ wm ++ [(o, aJ G 1 f)]) kc ks := by
  obtain ⟨n, h9, s9, c9, f9, g9, ⟨n0, n1⟩, rc9, e9, ⟨hn1, hn2⟩, ⟨a2, b2⟩, ⟨a3, b3⟩, ⟨a4, b4⟩, a5, b5⟩ := id hR.m
  obtain ⟨hh9, hq, hg, hr, x1, x2, x3, x4, x5, x6, x7⟩ := id hR.h
  obtain rfl := some_int (a2.symm.trans x1)
  obtain ⟨ha0, sa0, ca0, ⟨eh1, es1, ec1⟩, ⟨pq, pg, pa, pb, pe⟩, ⟨rq, rg, ra, rb, re⟩, ⟨fq, fg, fa, fb, fe⟩, ⟨oq, og, oa, ob1, oe⟩, ⟨wq, wg, wa1, wb1, we⟩⟩ := id hR.a
  obtain rfl := some_int (a2.symm.trans eh1)
  obtain rfl := some_int (a3.symm.trans es1)
  obtain rfl := some_int (a4.symm.trans ec1)
  obtain ⟨hd1, eh3, ⟨xq, xg, xa, xb, xe⟩, ⟨yq, yg, ya, yb, ye⟩⟩ := id hR.x
  obtain rfl := some_int (a2.symm.trans eh3)
  obtain rfl := arrinj (ra.symm.trans x4)
  obtain ⟨hd0, eh2, ⟨dq, dg, da, db, de⟩, -⟩ := id hR.d
  obtain rfl := some_int (a2.symm.trans eh2)
  refine z_aload_n X d_lw_311 rfl 1 rfl ?_
  refine z_aload_n X d_lw_312 rfl 0 rfl ?_
  refine z_iload X d_lw_313 4 rfl ?_
  refine z_iconst X d_lw_315 (v := 1) (by decide) ?_
  refine z_iadd X d_lw_316 ?_
  refine z_sld X hX hbl hbA (lw_in hi0 hi1 (k := 1) (by decide) (by decide)) d_lw_317 (v := xs (i + 1).toNatClampNeg) rfl ?_
  refine z_aload_n X d_lw_318 rfl 0 rfl ?_
  refine z_iload X d_lw_319 4 rfl ?_
  refine z_iconst X d_lw_321 (v := 2) (by decide) ?_
  refine z_iadd X d_lw_322 ?_
  refine z_sld X hX hbl hbA (lw_in hi0 hi1 (k := 2) (by decide) (by decide)) d_lw_323 (v := xs (i + 2).toNatClampNeg) rfl ?_
  refine z_aload_n X d_lw_324 rfl 3 rfl ?_
  refine sx_callG (Φ := (fun v f => (okHo h9.toInt (xs (i + 1).toNatClampNeg).toInt (xs (i + 2).toNatClampNeg).toInt ∧ v = 0 ∧ f 0 = (vHo pq xq yq rq hq dq (xs (i + 2).toNatClampNeg).toInt (xs (i + 1).toNatClampNeg).toNatClampNeg).toInt64) ∨ (¬ okHo h9.toInt (xs (i + 1).toNatClampNeg).toInt (xs (i + 2).toNatClampNeg).toInt ∧ v = 1))) (x := x) (oa := o) (rm := { frames := 7, cells := 1, slots := 6, locals := 104 }) (rest := []) (As := [.ref (x), .int (xs (i + 1).toNatClampNeg), .int (xs (i + 2).toNatClampNeg), .ref (o)]) X k_L_38 hE (fun ad w0 h1 h2 h3 hag => by rw [← h3]; exact cl_holeE l hst G h1 h2 _ _ ((fget_eq (hag 5 0 (by decide))).trans a2) ((hag 6 0 (by decide)).trans pa) ((hag 7 0 (by decide)).trans xa) ((hag 8 0 (by decide)).trans ya) ((hag 9 0 (by decide)).trans ra) ((hag 10 0 (by decide)).trans x2) ((hag 11 0 (by decide)).trans da) o f) hx d_lw_325 ⟨by decide, by decide⟩ ⟨hc, hs⟩ rfl rfl (by decide) rfl (fun v wx' f' hx' hl' hfx hΦ => ?_)
  refine z_istore X d_lw_328 (by decide) (lv' := [(5, .int (v)), (0, .ref (b)), (1, .ref (x)), (2, .ref (y)), (3, .ref (o)), (4, .int (i))]) rfl ?_
  refine z_aload_n X d_lw_330 rfl 3 rfl ?_
  refine z_aload_n X d_lw_331 rfl 1 rfl ?_
  refine z_iload X d_lw_332 5 rfl ?_
  refine z_iconst X d_lw_334 (v := 1) (by decide) ?_
  refine z_iadd X d_lw_335 ?_
  refine z_sld X hX hbl hbA (lw_in hi0 hi1 (k := 1) (by decide) (by decide)) d_lw_336 (v := xs (i + 1).toNatClampNeg) rfl ?_
  refine z_aload_n X d_lw_337 rfl 1 rfl ?_
  refine z_iload X d_lw_338 5 rfl ?_
  refine z_iconst X d_lw_340 (v := 2) (by decide) ?_
  refine z_iadd X d_lw_341 ?_
  refine z_sld X hX hbl hbA (lw_in hi0 hi1 (k := 2) (by decide) (by decide)) d_lw_342 (v := xs (i + 2).toNatClampNeg) rfl ?_
  refine mx_callG (rm := { frames := 2, cells := 0, slots := 0, locals := 46 }) (m0 := C_X11_hole_0.2.2.2.2.1) (Ψ := (fun r w1 => r = some (.int (mHo pg xg yg rg hg dg h9.toInt (xs (i + 1).toNatClampNeg).toInt (xs (i + 2).toNatClampNeg).toInt (xs (i + 1).toNatClampNeg).toNatClampNeg)) ∧ fget w1 0 0 = some (.int (tHo h9.toInt (xs (i + 1).toNatClampNeg).toInt (xs (i + 2).toNatClampNeg).toInt)))) (wa := wx') (rest := []) (As := [.int (xs (i + 1).toNatClampNeg), .int (xs (i + 2).toNatClampNeg)]) X k_L_43 (fun ad hW => ac_hom l G hW b2 pb xb yb rb x3 db) ⟨rfl, rfl⟩ hy d_lw_343 ⟨by decide, by decide⟩ ⟨hc, hs⟩ rfl rfl (Nat.le_of_ble_eq_true rfl) rfl (fun r wm' hz2 hy' hfm => ?_)
  obtain ⟨rfl, ht1_⟩ := hz2
  have hR1 : RelQ G wx' wm' := RelQ.of (hR.m.keep hfx hfm (by decide)) (hR.a.keep hfx hfm (by decide)) (hR.d.keep hfx hfm (by decide)) (hR.c.keep hfx hfm (by decide)) (hR.x.keep hfx hfm (by decide)) (hR.b.keep hfx hfm (by decide)) (hR.h.keep hfx hfm (by decide)) (hR.t.keep hfx hfm (by decide)) (hR.k.keep hfx hfm (by decide))
  refine z_istore X d_lw_346 (by decide) (lv' := [(6, .int (mHo pg xg yg rg hg dg h9.toInt (xs (i + 1).toNatClampNeg).toInt (xs (i + 2).toNatClampNeg).toInt (xs (i + 1).toNatClampNeg).toNatClampNeg)), (5, .int (v)), (0, .ref (b)), (1, .ref (x)), (2, .ref (y)), (3, .ref (o)), (4, .int (i))]) rfl ?_
  refine z_aload_n X d_lw_348 rfl 4 rfl ?_
  refine mx_callG (rm := { frames := 0, cells := 0, slots := 0, locals := 0 }) (m0 := []) (Ψ := (fun r _ => r = some (.int (tHo h9.toInt (xs (i + 1).toNatClampNeg).toInt (xs (i + 2).toNatClampNeg).toInt)))) (wa := wx') (rest := []) (As := []) X k_L_44 (fun ad hW => ac_thm l G hW ht1_) ⟨rfl, rfl⟩ hy' d_lw_349 ⟨by decide, by decide⟩ ⟨hc, hs⟩ rfl rfl (Nat.le_of_ble_eq_true rfl) rfl (fun r wm2 hz3 hy2 hfm2 => ?_)
  obtain rfl := hz3
  have hR2 : RelQ G wx' wm2 := RelQ.of (hR1.m.keep (FX.refl (M := [])) hfm2 (by decide)) (hR1.a.keep (FX.refl (M := [])) hfm2 (by decide)) (hR1.d.keep (FX.refl (M := [])) hfm2 (by decide)) (hR1.c.keep (FX.refl (M := [])) hfm2 (by decide)) (hR1.x.keep (FX.refl (M := [])) hfm2 (by decide)) (hR1.b.keep (FX.refl (M := [])) hfm2 (by decide)) (hR1.h.keep (FX.refl (M := [])) hfm2 (by decide)) (hR1.t.keep (FX.refl (M := [])) hfm2 (by decide)) (hR1.k.keep (FX.refl (M := [])) hfm2 (by decide))
  have hth : tHo h9.toInt (xs (i + 1).toNatClampNeg).toInt (xs (i + 2).toNatClampNeg).toInt = v := by rcases hΦ with ⟨z, e9, -⟩ | ⟨z, e9⟩; (rw [e9]; exact tHo_y z); (rw [e9]; exact tHo_n z)
  have ev : (tHo h9.toInt (xs (i + 1).toNatClampNeg).toInt (xs (i + 2).toNatClampNeg).toInt).toInt = v.toInt := congrArg Int32.toInt hth
  refine z_iload X d_lw_352 1 rfl ?_
  refine zc_eq X d_lw_354 (tgt := 359) (by decide) (a := (tHo h9.toInt (xs (i + 1).toNatClampNeg).toInt (xs (i + 2).toNatClampNeg).toInt).toInt) (b := v.toInt) rfl rfl (fun _ => ?_) (fun h => absurd ev h)
  refine z_iload X d_lw_359 1 rfl ?_
  refine zi_ne X d_lw_361 (tgt := 376) (by decide) (a := v.toInt) rfl (fun _ => ?_) (fun heq => ?_)
  · skip
    refine z_goto X d_lw_376 (tgt := 2220) (by decide) ?_
    exact Z.mono (fun q hq => by simp only [List.mem_cons, List.not_mem_nil, or_false] at hq ⊢; rcases hq with h | h | h | h | h <;> simp [h]) (hK wx' wm2 f' hx' hl' hy2 hR2)
  have hok : okHo h9.toInt (xs (i + 1).toNatClampNeg).toInt (xs (i + 2).toNatClampNeg).toInt := by rcases hΦ with ⟨z, -⟩ | ⟨z, e9⟩; (exact z); (exfalso; rw [e9] at heq; exact absurd heq (by decide))
  have hf0 : f' 0 = (vHo pq xq yq rq hq dq (xs (i + 2).toNatClampNeg).toInt (xs (i + 1).toNatClampNeg).toNatClampNeg).toInt64 := by rcases hΦ with ⟨-, -, e9⟩ | ⟨z, -⟩; (exact e9); (exact absurd hok z)
  have ev2 : (f' (0 : Int32).toNatClampNeg).toInt = ((mHo pg xg yg rg hg dg h9.toInt (xs (i + 1).toNatClampNeg).toInt (xs (i + 2).toNatClampNeg).toInt (xs (i + 1).toNatClampNeg).toNatClampNeg).toInt64).toInt := congrArg Int64.toInt (show f' 0 = _ from hf0.trans (congrArg Int32.toInt64 ((vHo_same hok.1 (fun j hj => pe j (by omega) hj) (fun j hj => xe j (by omega) hj) (fun j hj => ye j (by omega) hj) (fun j hj => re j (by omega) hj) (fun j hj => x5 j (by omega) hj) (fun j hj => de j (by omega) hj)).trans (mHo_y hok).symm)))
  refine z_aload_n X d_lw_364 rfl 5 rfl ?_
  refine z_iconst X d_lw_365 (v := 0) (by decide) ?_
  refine z_lald X d_lw_366 (wx' ++ wm2).length (n := 1) (f := f') (by rw [List.getElem?_append_right (Nat.le_refl _), Nat.sub_self] <;> rfl) (show vp_in _ _ from by unfold vp_in; first | decide | decide +kernel) (v := f' (0 : Int32).toNatClampNeg) rfl ?_
  refine z_iload X d_lw_367 0 rfl ?_
  refine z_i2l X d_lw_369 rfl ?_
  refine zl_eq X d_lw_370 d_lw_371 (tgt := 376) (by decide) (a := (f' (0 : Int32).toNatClampNeg).toInt) (b := ((mHo pg xg yg rg hg dg h9.toInt (xs (i + 1).toNatClampNeg).toInt (xs (i + 2).toNatClampNeg).toInt (xs (i + 1).toNatClampNeg).toNatClampNeg).toInt64).toInt) rfl rfl (fun _ => ?_) (fun h => absurd ev2 h)
  refine z_goto X d_lw_376 (tgt := 2220) (by decide) ?_
  exact Z.mono (fun q hq => by simp only [List.mem_cons, List.not_mem_nil, or_false] at hq ⊢; rcases hq with h | h | h | h | h <;> simp [h]) (hK wx' wm2 f' hx' hl' hy2 hR2)
theorem lc_4 (X : ZC p s m #[Value.ref b] meth c code 8 RL G (fun q : Nat => s.heap.size ≤ q) ret nm) (hX : va_X b L xs s s.heap) (hbl : b < s.heap.size) (hbA : ¬ s.heap.size ≤ b) (hi0 : 0 ≤ i.toInt) (hi1 : i.toInt + 10 ≤ (L : Int) ∧ L ≤ 5120) (hx : CWx G x wx) (hy : MWx G y wm) (hR : RelQ G wx wm) (hc : kc ≤ room_1.cells) (hs : ks ≤ room_1.slots) (hK : ∀ wx' wm', CWx G x wx' → wx'.length = wx.length → MWx G y wm' → RelQ G wx' wm' → Z p l e room_1 s m #[Value.ref b] below meth c 8 G (fun q : Nat => s.heap.size ≤ q) (lw_Z below #[Value.ref b] s) 2220 (lv5 b x y o i) [] (wx' ++ wm' ++ [(o, aJ G 1 f)]) kc ks) : Z p l e room_1 s m #[Value.ref b] below meth c 8 G (fun q : Nat => s.heap.size ≤ q) (lw_Z below #[Value.ref b] s) 379 (lv5 b x y o i) [] (wx ++ wm ++ [(o, aJ G 1 f)]) kc ks := by
  obtain ⟨n, h9, s9, c9, f9, g9, ⟨n0, n1⟩, rc9, e9, ⟨hn1, hn2⟩, ⟨a2, b2⟩, ⟨a3, b3⟩, ⟨a4, b4⟩, a5, b5⟩ := id hR.m
  refine z_aload_n X d_lw_379 rfl 1 rfl ?_
  refine z_aload_n X d_lw_380 rfl 0 rfl ?_
  refine z_iload X d_lw_381 4 rfl ?_
  refine z_iconst X d_lw_383 (v := 1) (by decide) ?_
  refine z_iadd X d_lw_384 ?_
  refine z_sld X hX hbl hbA (lw_in hi0 hi1 (k := 1) (by decide) (by decide)) d_lw_385 (v := xs (i + 1).toNatClampNeg) rfl ?_
  refine z_aload_n X d_lw_386 rfl 0 rfl ?_
  refine z_iload X d_lw_387 4 rfl ?_
  refine z_iconst X d_lw_389 (v := 2) (by decide) ?_
  refine z_iadd X d_lw_390 ?_
  refine z_sld X hX hbl hbA (lw_in hi0 hi1 (k := 2) (by decide) (by decide)) d_lw_391 (v := xs (i + 2).toNatClampNeg) rfl ?_
  obtain ⟨hh9, hq, hg, hr, x1, x2, x3, x4, x5, x6, x7⟩ := id hR.h
  obtain rfl := some_int (a2.symm.trans x1)
  obtain ⟨ha0, sa0, ca0, ⟨eh1, es1, ec1⟩, ⟨pq, pg, pa, pb, pe⟩, ⟨rq, rg, ra, rb, re⟩, ⟨fq, fg, fa, fb, fe⟩, ⟨oq, og, oa, ob1, oe⟩, ⟨wq, wg, wa1, wb1, we⟩⟩ := id hR.a
  obtain rfl := some_int (a2.symm.trans eh1)
  obtain rfl := some_int (a3.symm.trans es1)
  obtain rfl := some_int (a4.symm.trans ec1)
  obtain rfl := arrinj (ra.symm.trans x4)
  obtain ⟨l1, l2, l3, l4⟩ := lead_E (h := h9) (q := hq) (g := hg) (r := rq) (rm := rg) (a := xs (i + 1).toNatClampNeg) (v := xs (i + 2).toNatClampNeg) rc9.1.2 x5 x6 x7 re
  rw [List.append_assoc]
  refine cx_callG (rm := { frames := 1, cells := 0, slots := 0, locals := 21 }) (m0 := C_X10_lead_0.2.2.2.2.1) (Ψ := (fun r w1 => r = some (.int (mLead h9.toInt rq hq (xs (i + 1).toNatClampNeg) (xs (i + 2).toNatClampNeg)).1) ∧ CQ G w1 10 16 (mLead h9.toInt rq hq (xs (i + 1).toNatClampNeg) (xs (i + 2).toNatClampNeg)).2)) (rest := []) (As := [.int (xs (i + 1).toNatClampNeg), .int (xs (i + 2).toNatClampNeg)]) X k_L_47 (fun ad w0 hW hag => ac_ldx l G hW ((fget_eq (hag 5 0 (by decide))).trans a2) ((hag 9 0 (by decide)).trans ra) ((hag 10 0 (by decide)).trans x2)) ⟨rfl, rfl⟩ (by decide) (fun r w1 wc hl h => ⟨h.1, h.2.app (by omega)⟩) hx d_lw_392 ⟨by decide, by decide⟩ ⟨hc, hs⟩ rfl rfl (by decide) rfl (fun r wx' hz hx' hl' hfx => ?_)
  rw [← List.append_assoc]
  obtain ⟨v, rfl⟩ := (⟨_, hz.1⟩ : ∃ v : Int32, r = some (Value.int v))
  refine z_pop X d_lw_395 rfl ?_
  refine z_aload_n X d_lw_396 rfl 2 rfl ?_
  refine z_aload_n X d_lw_397 rfl 0 rfl ?_
  refine z_iload X d_lw_398 4 rfl ?_
  refine z_iconst X d_lw_400 (v := 1) (by decide) ?_
  refine z_iadd X d_lw_401 ?_
  refine z_sld X hX hbl hbA (lw_in hi0 hi1 (k := 1) (by decide) (by decide)) d_lw_402 (v := xs (i + 1).toNatClampNeg) rfl ?_
  refine z_aload_n X d_lw_403 rfl 0 rfl ?_
  refine z_iload X d_lw_404 4 rfl ?_
  refine z_iconst X d_lw_406 (v := 2) (by decide) ?_
  refine z_iadd X d_lw_407 ?_
  refine z_sld X hX hbl hbA (lw_in hi0 hi1 (k := 2) (by decide) (by decide)) d_lw_408 (v := xs (i + 2).toNatClampNeg) rfl ?_
  refine mx_callG (rm := { frames := 2, cells := 0, slots := 0, locals := 46 }) (m0 := C_X11_lead_0.2.2.2.2.1) (Ψ := (fun r w1 => r = some (.int (mLead h9.toInt rg hg (xs (i + 1).toNatClampNeg) (xs (i + 2).toNatClampNeg)).1) ∧ CQ G w1 6 16 (mLead h9.toInt rg hg (xs (i + 1).toNatClampNeg) (xs (i + 2).toNatClampNeg)).2)) (wa := wx') (rest := []) (As := [.int (xs (i + 1).toNatClampNeg), .int (xs (i + 2).toNatClampNeg)]) X k_L_50 (fun ad hW => ac_ldm l G hW b2 rb x3) ⟨rfl, rfl⟩ hy d_lw_409 ⟨by decide, by decide⟩ ⟨hc, hs⟩ rfl rfl (Nat.le_of_ble_eq_true rfl) rfl (fun r wm' hz2 hy' hfm => ?_)
  obtain ⟨v2, rfl⟩ := (⟨_, hz2.1⟩ : ∃ v : Int32, r = some (Value.int v))
  obtain ⟨ev0, hM'⟩ := (⟨(some_int hz.1).trans (l1.trans (some_int hz2.1).symm), RelH.set hR.h hfx (by decide) a2 ra hz.2 hz2.2 l2 l3 l4⟩ : v = v2 ∧ RelH G wx' wm')
  have hR' : RelQ G wx' wm' := RelQ.of (hR.m.keep hfx hfm (by decide)) (hR.a.keep hfx hfm (by decide)) (hR.d.keep hfx hfm (by decide)) (hR.c.keep hfx hfm (by decide)) (hR.x.keep hfx hfm (by decide)) (hR.b.keep hfx hfm (by decide)) (hM') (hR.t.keep hfx hfm (by decide)) (hR.k.keep hfx hfm (by decide))
  have ev : v.toInt = v2.toInt := congrArg Int32.toInt ev0
  refine z_pop X d_lw_412 rfl ?_
  refine z_goto X d_lw_413 (tgt := 2220) (by decide) ?_
  exact hK wx' wm' hx' hl' hy' hR'
theorem lc_5 (X : ZC p s m #[Value.ref b] meth c code 8 RL G (fun q : Nat => s.heap.size ≤ q) ret nm) (hX : va_X b L xs s s.heap) (hbl : b < s.heap.size) (hbA : ¬ s.heap.size ≤ b) (hi0 : 0 ≤ i.toInt) (hi1 : i.toInt + 10 ≤ (L : Int) ∧ L ≤ 5120) (hx : CWx G x wx) (hy : MWx G y wm) (hR : RelQ G wx wm) (hc : kc ≤ room_1.cells) (hs : ks ≤ room_1.slots) (hK : ∀ wx' wm', CWx G x wx' → wx'.length = wx.length → MWx G y wm' → RelQ G wx' wm' → Z p l e room_1 s m #[Value.ref b] below meth c 8 G (fun q : Nat => s.heap.size ≤ q) (lw_Z below #[Value.ref b] s) 2220 (lv5 b x y o i) [] (wx' ++ wm' ++ [(o, aJ G 1 f)]) kc ks) : Z p l e room_1 s m #[Value.ref b] below meth c 8 G (fun q : Nat => s.heap.size ≤ q) (lw_Z below #[Value.ref b] s) 416 (lv5 b x y o i) [] (wx ++ wm ++ [(o, aJ G 1 f)]) kc ks := by
  obtain ⟨n, h9, s9, c9, f9, g9, ⟨n0, n1⟩, rc9, e9, ⟨hn1, hn2⟩, ⟨a2, b2⟩, ⟨a3, b3⟩, ⟨a4, b4⟩, a5, b5⟩ := id hR.m
  refine z_aload_n X d_lw_416 rfl 1 rfl ?_
  refine z_aload_n X d_lw_417 rfl 0 rfl ?_
  refine z_iload X d_lw_418 4 rfl ?_
  refine z_iconst X d_lw_420 (v := 1) (by decide) ?_
  refine z_iadd X d_lw_421 ?_
  refine z_sld X hX hbl hbA (lw_in hi0 hi1 (k := 1) (by decide) (by decide)) d_lw_422 (v := xs (i + 1).toNatClampNeg) rfl ?_
  refine z_aload_n X d_lw_423 rfl 0 rfl ?_
  refine z_iload X d_lw_424 4 rfl ?_
  refine z_iconst X d_lw_426 (v := 2) (by decide) ?_
  refine z_iadd X d_lw_427 ?_
  refine z_sld X hX hbl hbA (lw_in hi0 hi1 (k := 2) (by decide) (by decide)) d_lw_428 (v := xs (i + 2).toNatClampNeg) rfl ?_
  obtain ⟨hd0, eh2, ⟨dq, dg, da, db, de⟩, dq2, da2, dz⟩ := id hR.d
  obtain rfl := some_int (a2.symm.trans eh2)
  rw [List.append_assoc]
  refine cx_callG (rm := { frames := 1, cells := 0, slots := 0, locals := 21 }) (m0 := C_X10_deep_0.2.2.2.2.1) (Ψ := (fun r w1 => r = some (.int (mDeep h9.toInt dq (xs (i + 1).toNatClampNeg) (xs (i + 2).toNatClampNeg)).1) ∧ CQ G w1 11 16 (mDeep h9.toInt dq (xs (i + 1).toNatClampNeg) (xs (i + 2).toNatClampNeg)).2)) (rest := []) (As := [.int (xs (i + 1).toNatClampNeg), .int (xs (i + 2).toNatClampNeg)]) X k_L_51 (fun ad w0 hW hag => ac_dpx l G hW ((fget_eq (hag 5 0 (by decide))).trans a2) ((hag 11 0 (by decide)).trans da)) ⟨rfl, rfl⟩ (by decide) (fun r w1 wc hl h => ⟨h.1, h.2.app (by omega)⟩) hx d_lw_429 ⟨by decide, by decide⟩ ⟨hc, hs⟩ rfl rfl (by decide) rfl (fun r wx' hz hx' hl' hfx => ?_)
  rw [← List.append_assoc]
  obtain ⟨v, rfl⟩ := (⟨_, hz.1⟩ : ∃ v : Int32, r = some (Value.int v))
  refine z_pop X d_lw_432 rfl ?_
  refine z_aload_n X d_lw_433 rfl 2 rfl ?_
  refine z_aload_n X d_lw_434 rfl 0 rfl ?_
  refine z_iload X d_lw_435 4 rfl ?_
  refine z_iconst X d_lw_437 (v := 1) (by decide) ?_
  refine z_iadd X d_lw_438 ?_
  refine z_sld X hX hbl hbA (lw_in hi0 hi1 (k := 1) (by decide) (by decide)) d_lw_439 (v := xs (i + 1).toNatClampNeg) rfl ?_
  refine z_aload_n X d_lw_440 rfl 0 rfl ?_
  refine z_iload X d_lw_441 4 rfl ?_
  refine z_iconst X d_lw_443 (v := 2) (by decide) ?_
  refine z_iadd X d_lw_444 ?_
  refine z_sld X hX hbl hbA (lw_in hi0 hi1 (k := 2) (by decide) (by decide)) d_lw_445 (v := xs (i + 2).toNatClampNeg) rfl ?_
  refine mx_callG (rm := { frames := 2, cells := 0, slots := 0, locals := 46 }) (m0 := C_X11_deep_0.2.2.2.2.1) (Ψ := (fun r w1 => r = some (.int (mDeep h9.toInt dg (xs (i + 1).toNatClampNeg) (xs (i + 2).toNatClampNeg)).1) ∧ CQ G w1 7 16 (mDeep h9.toInt dg (xs (i + 1).toNatClampNeg) (xs (i + 2).toNatClampNeg)).2)) (wa := wx') (rest := []) (As := [.int (xs (i + 1).toNatClampNeg), .int (xs (i + 2).toNatClampNeg)]) X k_L_54 (fun ad hW => ac_dpm l G hW b2 db) ⟨rfl, rfl⟩ hy d_lw_446 ⟨by decide, by decide⟩ ⟨hc, hs⟩ rfl rfl (Nat.le_of_ble_eq_true rfl) rfl (fun r wm' hz2 hy' hfm => ?_)
  obtain ⟨v2, rfl⟩ := (⟨_, hz2.1⟩ : ∃ v : Int32, r = some (Value.int v))
  obtain ⟨ev0, hM'⟩ := RelD.deep hR.d hfx hfm (by decide) rc9.1.2 a2 da db hz hz2
  have hR' : RelQ G wx' wm' := RelQ.of (hR.m.keep hfx hfm (by decide)) (hR.a.keep hfx hfm (by decide)) (hM') (hR.c.keep hfx hfm (by decide)) (hR.x.keep hfx hfm (by decide)) (hR.b.keep hfx hfm (by decide)) (hR.h.keep hfx hfm (by decide)) (hR.t.keep hfx hfm (by decide)) (hR.k.keep hfx hfm (by decide))
  have ev : v.toInt = v2.toInt := congrArg Int32.toInt ev0
  refine z_pop X d_lw_449 rfl ?_
  refine z_goto X d_lw_450 (tgt := 2220) (by decide) ?_
  exact hK wx' wm' hx' hl' hy' hR'
theorem lc_6 (X : ZC p s m #[Value.ref b] meth c code 8 RL G (fun q : Nat => s.heap.size ≤ q) ret nm) (hX : va_X b L xs s s.heap) (hbl : b < s.heap.size) (hbA : ¬ s.heap.size ≤ b) (hi0 : 0 ≤ i.toInt) (hi1 : i.toInt + 10 ≤ (L : Int) ∧ L ≤ 5120) (hx : CWx G x wx) (hy : MWx G y wm) (hR : RelQ G wx wm) (hc : kc ≤ room_1.cells) (hs : ks ≤ room_1.slots) (hK : ∀ wx' wm', CWx G x wx' → wx'.length = wx.length → MWx G y wm' → RelQ G wx' wm' → Z p l e room_1 s m #[Value.ref b] below meth c 8 G (fun q : Nat => s.heap.size ≤ q) (lw_Z below #[Value.ref b] s) 2220 (lv5 b x y o i) [] (wx' ++ wm' ++ [(o, aJ G 1 f)]) kc ks) : Z p l e room_1 s m #[Value.ref b] below meth c 8 G (fun q : Nat => s.heap.size ≤ q) (lw_Z below #[Value.ref b] s) 453 (lv5 b x y o i) [] (wx ++ wm ++ [(o, aJ G 1 f)]) kc ks := by
  obtain ⟨n, h9, s9, c9, f9, g9, ⟨n0, n1⟩, rc9, e9, ⟨hn1, hn2⟩, ⟨a2, b2⟩, ⟨a3, b3⟩, ⟨a4, b4⟩, a5, b5⟩ := id hR.m
  refine z_aload_n X d_lw_453 rfl 1 rfl ?_
  refine z_aload_n X d_lw_454 rfl 0 rfl ?_
  refine z_iload X d_lw_455 4 rfl ?_
  refine z_iconst X d_lw_457 (v := 1) (by decide) ?_
  refine z_iadd X d_lw_458 ?_
  refine z_sld X hX hbl hbA (lw_in hi0 hi1 (k := 1) (by decide) (by decide)) d_lw_459 (v := xs (i + 1).toNatClampNeg) rfl ?_
  refine z_aload_n X d_lw_460 rfl 0 rfl ?_
  refine z_iload X d_lw_461 4 rfl ?_
  refine z_iconst X d_lw_463 (v := 2) (by decide) ?_
  refine z_iadd X d_lw_464 ?_
  refine z_sld X hX hbl hbA (lw_in hi0 hi1 (k := 2) (by decide) (by decide)) d_lw_465 (v := xs (i + 2).toNatClampNeg) rfl ?_
  refine z_aload_n X d_lw_466 rfl 0 rfl ?_
  refine z_iload X d_lw_467 4 rfl ?_
  refine z_iconst X d_lw_469 (v := 3) (by decide) ?_
  refine z_iadd X d_lw_470 ?_
  refine z_sld X hX hbl hbA (lw_in hi0 hi1 (k := 3) (by decide) (by decide)) d_lw_471 (v := xs (i + 3).toNatClampNeg) rfl ?_
  refine z_aload_n X d_lw_472 rfl 0 rfl ?_
  refine z_iload X d_lw_473 4 rfl ?_
  refine z_iconst X d_lw_475 (v := 4) (by decide) ?_
  refine z_iadd X d_lw_476 ?_
  refine z_sld X hX hbl hbA (lw_in hi0 hi1 (k := 4) (by decide) (by decide)) d_lw_477 (v := xs (i + 4).toNatClampNeg) rfl ?_
  obtain ⟨hh9, hq, hg, hr, x1, x2, x3, x4, x5, x6, x7⟩ := id hR.h
  obtain rfl := some_int (a2.symm.trans x1)
  obtain ⟨ha0, sa0, ca0, ⟨eh1, es1, ec1⟩, ⟨pq, pg, pa, pb, pe⟩, ⟨rq, rg, ra, rb, re⟩, ⟨fq, fg, fa, fb, fe⟩, ⟨oq, og, oa, ob1, oe⟩, ⟨wq, wg, wa1, wb1, we⟩⟩ := id hR.a
  obtain rfl := some_int (a2.symm.trans eh1)
  obtain rfl := some_int (a3.symm.trans es1)
  obtain rfl := some_int (a4.symm.trans ec1)
  obtain rfl := arrinj (ra.symm.trans x4)
  obtain ⟨l2, l3, l4⟩ := sheet_E (h := h9.toInt) (k := xs (i + 1).toNatClampNeg) (n := xs (i + 2).toNatClampNeg) (f := xs (i + 3).toNatClampNeg) (st := xs (i + 4).toNatClampNeg) (r := rq) (rm := rg) (q := hq) (g := hg) (cwx_room hx ra) re x5 x6 x7
  rw [List.append_assoc]
  refine cx_callG (rm := { frames := 1, cells := 0, slots := 0, locals := 22 }) (m0 := C_X10_sheet_0.2.2.2.2.1) (Ψ := (fun r w1 => r = some (.int (mSx h9.toInt (xs (i + 1).toNatClampNeg) (xs (i + 2).toNatClampNeg) (xs (i + 3).toNatClampNeg) (xs (i + 4).toNatClampNeg) rq)) ∧ CQ G w1 10 16 (nSx h9.toInt (xs (i + 1).toNatClampNeg) (xs (i + 2).toNatClampNeg) (xs (i + 3).toNatClampNeg) (xs (i + 4).toNatClampNeg) rq hq))) (rest := []) (As := [.int (xs (i + 1).toNatClampNeg), .int (xs (i + 2).toNatClampNeg), .int (xs (i + 3).toNatClampNeg), .int (xs (i + 4).toNatClampNeg)]) X k_L_55 (fun ad w0 hW hag => ac_shx l G hW ((fget_eq (hag 5 0 (by decide))).trans a2) ((hag 9 0 (by decide)).trans ra) ((hag 10 0 (by decide)).trans x2)) ⟨rfl, rfl⟩ (by decide) (fun r w1 wc hl h => ⟨h.1, h.2.app (by omega)⟩) hx d_lw_478 ⟨by decide, by decide⟩ ⟨hc, hs⟩ rfl rfl (by decide) rfl (fun r wx' hz hx' hl' hfx => ?_)
  rw [← List.append_assoc]
  obtain ⟨v, rfl⟩ := (⟨_, hz.1⟩ : ∃ v : Int32, r = some (Value.int v))
  refine z_pop X d_lw_481 rfl ?_
  refine z_aload_n X d_lw_482 rfl 2 rfl ?_
  refine z_aload_n X d_lw_483 rfl 0 rfl ?_
  refine z_iload X d_lw_484 4 rfl ?_
  refine z_iconst X d_lw_486 (v := 1) (by decide) ?_
  refine z_iadd X d_lw_487 ?_
  refine z_sld X hX hbl hbA (lw_in hi0 hi1 (k := 1) (by decide) (by decide)) d_lw_488 (v := xs (i + 1).toNatClampNeg) rfl ?_
  refine z_aload_n X d_lw_489 rfl 0 rfl ?_
  refine z_iload X d_lw_490 4 rfl ?_
  refine z_iconst X d_lw_492 (v := 2) (by decide) ?_
  refine z_iadd X d_lw_493 ?_
  refine z_sld X hX hbl hbA (lw_in hi0 hi1 (k := 2) (by decide) (by decide)) d_lw_494 (v := xs (i + 2).toNatClampNeg) rfl ?_
  refine z_aload_n X d_lw_495 rfl 0 rfl ?_
  refine z_iload X d_lw_496 4 rfl ?_
  refine z_iconst X d_lw_498 (v := 3) (by decide) ?_
  refine z_iadd X d_lw_499 ?_
  refine z_sld X hX hbl hbA (lw_in hi0 hi1 (k := 3) (by decide) (by decide)) d_lw_500 (v := xs (i + 3).toNatClampNeg) rfl ?_
  refine z_aload_n X d_lw_501 rfl 0 rfl ?_
  refine z_iload X d_lw_502 4 rfl ?_
  refine z_iconst X d_lw_504 (v := 4) (by decide) ?_
  refine z_iadd X d_lw_505 ?_
  refine z_sld X hX hbl hbA (lw_in hi0 hi1 (k := 4) (by decide) (by decide)) d_lw_506 (v := xs (i + 4).toNatClampNeg) rfl ?_
  refine mx_callG (rm := { frames := 1, cells := 0, slots := 0, locals := 25 }) (m0 := C_X11_sheet_0.2.2.2.2.1) (Ψ := (fun r w1 => r = some (.int (mSm h9.toInt (xs (i + 1).toNatClampNeg) (xs (i + 2).toNatClampNeg) (xs (i + 3).toNatClampNeg) (xs (i + 4).toNatClampNeg) rg)) ∧ CQ G w1 6 16 (nSm h9.toInt (xs (i + 1).toNatClampNeg) (xs (i + 2).toNatClampNeg) (xs (i + 3).toNatClampNeg) (xs (i + 4).toNatClampNeg) rg hg))) (wa := wx') (rest := []) (As := [.int (xs (i + 1).toNatClampNeg), .int (xs (i + 2).toNatClampNeg), .int (xs (i + 3).toNatClampNeg), .int (xs (i + 4).toNatClampNeg)]) X k_L_59 (fun ad hW => ac_shm l G hW b2 rb x3) ⟨rfl, rfl⟩ hy d_lw_507 ⟨by decide, by decide⟩ ⟨hc, hs⟩ rfl rfl (Nat.le_of_ble_eq_true rfl) rfl (fun r wm' hz2 hy' hfm => ?_)
  obtain ⟨v2, rfl⟩ := (⟨_, hz2.1⟩ : ∃ v : Int32, r = some (Value.int v))
  obtain ⟨ev0, hM'⟩ := (⟨(some_int hz.1).trans ((sh_same rc9.1.2 re (cwx_room hx ra)).trans (some_int hz2.1).symm), RelH.set hR.h hfx (by decide) a2 ra hz.2 hz2.2 l2 l3 l4⟩ : v = v2 ∧ RelH G wx' wm')
  have hR' : RelQ G wx' wm' := RelQ.of (hR.m.keep hfx hfm (by decide)) (hR.a.keep hfx hfm (by decide)) (hR.d.keep hfx hfm (by decide)) (hR.c.keep hfx hfm (by decide)) (hR.x.keep hfx hfm (by decide)) (hR.b.keep hfx hfm (by decide)) (hM') (hR.t.keep hfx hfm (by decide)) (hR.k.keep hfx hfm (by decide))
  have ev : v.toInt = v2.toInt := congrArg Int32.toInt ev0
  refine z_pop X d_lw_510 rfl ?_
  refine z_goto X d_lw_511 (tgt := 2220) (by decide) ?_
  exact hK wx' wm' hx' hl' hy' hR'
theorem lc_7 (X : ZC p s m #[Value.ref b] meth c code 8 RL G (fun q : Nat => s.heap.size ≤ q) ret nm) (hX : va_X b L xs s s.heap) (hbl : b < s.heap.size) (hbA : ¬ s.heap.size ≤ b) (hi0 : 0 ≤ i.toInt) (hi1 : i.toInt + 10 ≤ (L : Int) ∧ L ≤ 5120) (hx : CWx G x wx) (hy : MWx G y wm) (hR : RelQ G wx wm) (hc : kc ≤ room_1.cells) (hs : ks ≤ room_1.slots) (hK : ∀ wx' wm', CWx G x wx' → wx'.length = wx.length → MWx G y wm' → RelQ G wx' wm' → Z p l e room_1 s m #[Value.ref b] below meth c 8 G (fun q : Nat => s.heap.size ≤ q) (lw_Z below #[Value.ref b] s) 2220 (lv5 b x y o i) [] (wx' ++ wm' ++ [(o, aJ G 1 f)]) kc ks) : Z p l e room_1 s m #[Value.ref b] below meth c 8 G (fun q : Nat => s.heap.size ≤ q) (lw_Z below #[Value.ref b] s) 514 (lv5 b x y o i) [] (wx ++ wm ++ [(o, aJ G 1 f)]) kc ks := by
  obtain ⟨f9, g9, hf9, hg9, hfg⟩ := id hR.c
  refine z_aload_n X d_lw_514 rfl 1 rfl ?_
  refine z_aload_n X d_lw_515 rfl 0 rfl ?_
  refine z_iload X d_lw_516 4 rfl ?_
  refine z_iconst X d_lw_518 (v := 1) (by decide) ?_
  refine z_iadd X d_lw_519 ?_
  refine z_sld X hX hbl hbA (lw_in hi0 hi1 (k := 1) (by decide) (by decide)) d_lw_520 (v := xs (i + 1).toNatClampNeg) rfl ?_
  refine z_aload_n X d_lw_521 rfl 0 rfl ?_
  refine z_iload X d_lw_522 4 rfl ?_
  refine z_iconst X d_lw_524 (v := 2) (by decide) ?_
  refine z_iadd X d_lw_525 ?_
  refine z_sld X hX hbl hbA (lw_in hi0 hi1 (k := 2) (by decide) (by decide)) d_lw_526 (v := xs (i + 2).toNatClampNeg) rfl ?_
  refine z_aload_n X d_lw_527 rfl 0 rfl ?_
  refine z_iload X d_lw_528 4 rfl ?_
  refine z_iconst X d_lw_530 (v := 3) (by decide) ?_
  refine z_iadd X d_lw_531 ?_
  refine z_sld X hX hbl hbA (lw_in hi0 hi1 (k := 3) (by decide) (by decide)) d_lw_532 (v := xs (i + 3).toNatClampNeg) rfl ?_
  rcases (by omega : (xs (i + 1).toNatClampNeg).toInt ≤ -1 ∨ 2 ≤ (xs (i + 1).toNatClampNeg).toInt ∨ (0 ≤ (xs (i + 1).toNatClampNeg).toInt ∧ (xs (i + 1).toNatClampNeg).toInt ≤ 1 ∧ ((xs (i + 2).toNatClampNeg).toInt ≤ -1 ∨ 2 ≤ (xs (i + 2).toNatClampNeg).toInt ∨ (0 ≤ (xs (i + 2).toNatClampNeg).toInt ∧ (xs (i + 2).toNatClampNeg).toInt ≤ 1 ∧ ((xs (i + 3).toNatClampNeg).toInt ≤ -10 ∨ 10 ≤ (xs (i + 3).toNatClampNeg).toInt ∨ (-9 ≤ (xs (i + 3).toNatClampNeg).toInt ∧ (xs (i + 3).toNatClampNeg).toInt ≤ 9)))))) with l0 | g0 | ⟨a0, b0, (l1 | g1 | ⟨a1, b1, (l2 | g2 | ⟨a2, b2⟩)⟩)⟩
  · skip
    rw [List.append_assoc]
    refine cx_callP (rest := []) (As := [.int (xs (i + 1).toNatClampNeg), .int (xs (i + 2).toNatClampNeg), .int (xs (i + 3).toNatClampNeg)]) (μ := (fun k => ((Value.ref x :: [.int (xs (i + 1).toNatClampNeg), .int (xs (i + 2).toNatClampNeg), .int (xs (i + 3).toNatClampNeg)])[k]?).getD .null)) X k_L_60 (ac_x_X10_cross_1 l G) (by decide) hx (fun ad w0 he _ => pre_mu (C := C_x_X10_cross_1) (ts := [(0, -2147483648, -1), tI0, tI0]) (As := [.int (xs (i + 1).toNatClampNeg), .int (xs (i + 2).toNatClampNeg), .int (xs (i + 3).toNatClampNeg)]) rfl rfl rfl rfl ⟨fun _ => vty_i (i32_lo _) (by omega), fun _ => vty_i0 _, fun _ => vty_i0 _, trivial⟩ ad w0 he) rfl d_lw_533 ⟨by decide, by decide⟩ ⟨hc, hs⟩ rfl rfl (by decide) rfl (fun ad r wx' hz hx' hl' => ?_)
    rw [← List.append_assoc]
    have hfx := pz_fx hz
    obtain ⟨v, -, rfl, v0, v1, -⟩ := pz_a hz rfl rfl rfl
    refine z_pop X d_lw_536 rfl ?_
    refine z_aload_n X d_lw_537 rfl 2 rfl ?_
    refine z_aload_n X d_lw_538 rfl 0 rfl ?_
    refine z_iload X d_lw_539 4 rfl ?_
    refine z_iconst X d_lw_541 (v := 1) (by decide) ?_
    refine z_iadd X d_lw_542 ?_
    refine z_sld X hX hbl hbA (lw_in hi0 hi1 (k := 1) (by decide) (by decide)) d_lw_543 (v := xs (i + 1).toNatClampNeg) rfl ?_
    refine z_aload_n X d_lw_544 rfl 0 rfl ?_
    refine z_iload X d_lw_545 4 rfl ?_
    refine z_iconst X d_lw_547 (v := 2) (by decide) ?_
    refine z_iadd X d_lw_548 ?_
    refine z_sld X hX hbl hbA (lw_in hi0 hi1 (k := 2) (by decide) (by decide)) d_lw_549 (v := xs (i + 2).toNatClampNeg) rfl ?_
    refine z_aload_n X d_lw_550 rfl 0 rfl ?_
    refine z_iload X d_lw_551 4 rfl ?_
    refine z_iconst X d_lw_553 (v := 3) (by decide) ?_
    refine z_iadd X d_lw_554 ?_
    refine z_sld X hX hbl hbA (lw_in hi0 hi1 (k := 3) (by decide) (by decide)) d_lw_555 (v := xs (i + 3).toNatClampNeg) rfl ?_
    refine mx_callP (wa := wx') (rest := []) (As := [.int (xs (i + 1).toNatClampNeg), .int (xs (i + 2).toNatClampNeg), .int (xs (i + 3).toNatClampNeg)]) (μ := (fun k => ((Value.ref y :: [.int (xs (i + 1).toNatClampNeg), .int (xs (i + 2).toNatClampNeg), .int (xs (i + 3).toNatClampNeg)])[k]?).getD .null)) X k_L_64 (ac_x_X11_cross_1 l G) hy (fun ad he => pre_mu (C := C_x_X11_cross_1) (ts := [(0, -2147483648, -1), tI0, tI0]) (As := [.int (xs (i + 1).toNatClampNeg), .int (xs (i + 2).toNatClampNeg), .int (xs (i + 3).toNatClampNeg)]) rfl rfl rfl rfl ⟨fun _ => vty_i (i32_lo _) (by omega), fun _ => vty_i0 _, fun _ => vty_i0 _, trivial⟩ ad wm he) rfl d_lw_556 ⟨by decide, by decide⟩ ⟨hc, hs⟩ rfl rfl (Nat.le_of_ble_eq_true rfl) rfl (fun ad2 r wm' hz2 hy' => ?_)
    have hfm := pz_fx hz2
    obtain ⟨v2, -, rfl, w0, w1, -⟩ := pz_a hz2 rfl rfl rfl
    have v0 : -1 ≤ v.toInt := v0
    have v1 : v.toInt ≤ -1 := v1
    have w0 : -1 ≤ v2.toInt := w0
    have w1 : v2.toInt ≤ -1 := w1
    have ev : v.toInt = v2.toInt := by omega
    have hR' : RelQ G wx' wm' := RelQ.of (hR.m.keep hfx hfm (by decide)) (hR.a.keep hfx hfm (by decide)) (hR.d.keep hfx hfm (by decide)) (hR.c.keep hfx hfm (by decide)) (hR.x.keep hfx hfm (by decide)) (hR.b.keep hfx hfm (by decide)) (hR.h.keep hfx hfm (by decide)) (hR.t.keep hfx hfm (by decide)) (hR.k.keep hfx hfm (by decide))
    refine z_pop X d_lw_559 rfl ?_
    refine z_goto X d_lw_560 (tgt := 2220) (by decide) ?_
    exact hK wx' wm' hx' hl' hy' hR'
  · skip
    rw [List.append_assoc]
    refine cx_callP (rest := []) (As := [.int (xs (i + 1).toNatClampNeg), .int (xs (i + 2).toNatClampNeg), .int (xs (i + 3).toNatClampNeg)]) (μ := (fun k => ((Value.ref x :: [.int (xs (i + 1).toNatClampNeg), .int (xs (i + 2).toNatClampNeg), .int (xs (i + 3).toNatClampNeg)])[k]?).getD .null)) X k_L_60 (ac_x_X10_cross_2 l G) (by decide) hx (fun ad w0 he _ => pre_mu (C := C_x_X10_cross_2) (ts := [(0, 2, 2147483647), tI0, tI0]) (As := [.int (xs (i + 1).toNatClampNeg), .int (xs (i + 2).toNatClampNeg), .int (xs (i + 3).toNatClampNeg)]) rfl rfl rfl rfl ⟨fun _ => vty_i (by omega) (i32_hi _), fun _ => vty_i0 _, fun _ => vty_i0 _, trivial⟩ ad w0 he) rfl d_lw_533 ⟨by decide, by decide⟩ ⟨hc, hs⟩ rfl rfl (by decide) rfl (fun ad r wx' hz hx' hl' => ?_)
    rw [← List.append_assoc]
    have hfx := pz_fx hz
    obtain ⟨v, -, rfl, v0, v1, -⟩ := pz_a hz rfl rfl rfl
    refine z_pop X d_lw_536 rfl ?_
    refine z_aload_n X d_lw_537 rfl 2 rfl ?_
    refine z_aload_n X d_lw_538 rfl 0 rfl ?_
    refine z_iload X d_lw_539 4 rfl ?_
    refine z_iconst X d_lw_541 (v := 1) (by decide) ?_
    refine z_iadd X d_lw_542 ?_
    refine z_sld X hX hbl hbA (lw_in hi0 hi1 (k := 1) (by decide) (by decide)) d_lw_543 (v := xs (i + 1).toNatClampNeg) rfl ?_
    refine z_aload_n X d_lw_544 rfl 0 rfl ?_
    refine z_iload X d_lw_545 4 rfl ?_
    refine z_iconst X d_lw_547 (v := 2) (by decide) ?_
    refine z_iadd X d_lw_548 ?_
    refine z_sld X hX hbl hbA (lw_in hi0 hi1 (k := 2) (by decide) (by decide)) d_lw_549 (v := xs (i + 2).toNatClampNeg) rfl ?_
    refine z_aload_n X d_lw_550 rfl 0 rfl ?_
    refine z_iload X d_lw_551 4 rfl ?_
    refine z_iconst X d_lw_553 (v := 3) (by decide) ?_
    refine z_iadd X d_lw_554 ?_
    refine z_sld X hX hbl hbA (lw_in hi0 hi1 (k := 3) (by decide) (by decide)) d_lw_555 (v := xs (i + 3).toNatClampNeg) rfl ?_
    refine mx_callP (wa := wx') (rest := []) (As := [.int (xs (i + 1).toNatClampNeg), .int (xs (i + 2).toNatClampNeg), .int (xs (i + 3).toNatClampNeg)]) (μ := (fun k => ((Value.ref y :: [.int (xs (i + 1).toNatClampNeg), .int (xs (i + 2).toNatClampNeg), .int (xs (i + 3).toNatClampNeg)])[k]?).getD .null)) X k_L_64 (ac_x_X11_cross_2 l G) hy (fun ad he => pre_mu (C := C_x_X11_cross_2) (ts := [(0, 2, 2147483647), tI0, tI0]) (As := [.int (xs (i + 1).toNatClampNeg), .int (xs (i + 2).toNatClampNeg), .int (xs (i + 3).toNatClampNeg)]) rfl rfl rfl rfl ⟨fun _ => vty_i (by omega) (i32_hi _), fun _ => vty_i0 _, fun _ => vty_i0 _, trivial⟩ ad wm he) rfl d_lw_556 ⟨by decide, by decide⟩ ⟨hc, hs⟩ rfl rfl (Nat.le_of_ble_eq_true rfl) rfl (fun ad2 r wm' hz2 hy' => ?_)
    have hfm := pz_fx hz2
    obtain ⟨v2, -, rfl, w0, w1, -⟩ := pz_a hz2 rfl rfl rfl
    have v0 : -1 ≤ v.toInt := v0
    have v1 : v.toInt ≤ -1 := v1
    have w0 : -1 ≤ v2.toInt := w0
    have w1 : v2.toInt ≤ -1 := w1
    have ev : v.toInt = v2.toInt := by omega
    have hR' : RelQ G wx' wm' := RelQ.of (hR.m.keep hfx hfm (by decide)) (hR.a.keep hfx hfm (by decide)) (hR.d.keep hfx hfm (by decide)) (hR.c.keep hfx hfm (by decide)) (hR.x.keep hfx hfm (by decide)) (hR.b.keep hfx hfm (by decide)) (hR.h.keep hfx hfm (by decide)) (hR.t.keep hfx hfm (by decide)) (hR.k.keep hfx hfm (by decide))
    refine z_pop X d_lw_559 rfl ?_
    refine z_goto X d_lw_560 (tgt := 2220) (by decide) ?_
    exact hK wx' wm' hx' hl' hy' hR'
  · skip
    rw [List.append_assoc]
    refine cx_callP (rest := []) (As := [.int (xs (i + 1).toNatClampNeg), .int (xs (i + 2).toNatClampNeg), .int (xs (i + 3).toNatClampNeg)]) (μ := (fun k => ((Value.ref x :: [.int (xs (i + 1).toNatClampNeg), .int (xs (i + 2).toNatClampNeg), .int (xs (i + 3).toNatClampNeg)])[k]?).getD .null)) X k_L_60 (ac_x_X10_cross_3 l G) (by decide) hx (fun ad w0 he _ => pre_mu (C := C_x_X10_cross_3) (ts := [(0, 0, 1), (0, -2147483648, -1), tI0]) (As := [.int (xs (i + 1).toNatClampNeg), .int (xs (i + 2).toNatClampNeg), .int (xs (i + 3).toNatClampNeg)]) rfl rfl rfl rfl ⟨fun _ => vty_i (by omega) (by omega), fun _ => vty_i (i32_lo _) (by omega), fun _ => vty_i0 _, trivial⟩ ad w0 he) rfl d_lw_533 ⟨by decide, by decide⟩ ⟨hc, hs⟩ rfl rfl (by decide) rfl (fun ad r wx' hz hx' hl' => ?_)
    rw [← List.append_assoc]
    have hfx := pz_fx hz
    obtain ⟨v, -, rfl, v0, v1, -⟩ := pz_a hz rfl rfl rfl
    refine z_pop X d_lw_536 rfl ?_
    refine z_aload_n X d_lw_537 rfl 2 rfl ?_
    refine z_aload_n X d_lw_538 rfl 0 rfl ?_
    refine z_iload X d_lw_539 4 rfl ?_
    refine z_iconst X d_lw_541 (v := 1) (by decide) ?_
    refine z_iadd X d_lw_542 ?_
    refine z_sld X hX hbl hbA (lw_in hi0 hi1 (k := 1) (by decide) (by decide)) d_lw_543 (v := xs (i + 1).toNatClampNeg) rfl ?_
    refine z_aload_n X d_lw_544 rfl 0 rfl ?_
    refine z_iload X d_lw_545 4 rfl ?_
    refine z_iconst X d_lw_547 (v := 2) (by decide) ?_
    refine z_iadd X d_lw_548 ?_
    refine z_sld X hX hbl hbA (lw_in hi0 hi1 (k := 2) (by decide) (by decide)) d_lw_549 (v := xs (i + 2).toNatClampNeg) rfl ?_
    refine z_aload_n X d_lw_550 rfl 0 rfl ?_
    refine z_iload X d_lw_551 4 rfl ?_
    refine z_iconst X d_lw_553 (v := 3) (by decide) ?_
    refine z_iadd X d_lw_554 ?_
    refine z_sld X hX hbl hbA (lw_in hi0 hi1 (k := 3) (by decide) (by decide)) d_lw_555 (v := xs (i + 3).toNatClampNeg) rfl ?_
    refine mx_callP (wa := wx') (rest := []) (As := [.int (xs (i + 1).toNatClampNeg), .int (xs (i + 2).toNatClampNeg), .int (xs (i + 3).toNatClampNeg)]) (μ := (fun k => ((Value.ref y :: [.int (xs (i + 1).toNatClampNeg), .int (xs (i + 2).toNatClampNeg), .int (xs (i + 3).toNatClampNeg)])[k]?).getD .null)) X k_L_64 (ac_x_X11_cross_3 l G) hy (fun ad he => pre_mu (C := C_x_X11_cross_3) (ts := [(0, 0, 1), (0, -2147483648, -1), tI0]) (As := [.int (xs (i + 1).toNatClampNeg), .int (xs (i + 2).toNatClampNeg), .int (xs (i + 3).toNatClampNeg)]) rfl rfl rfl rfl ⟨fun _ => vty_i (by omega) (by omega), fun _ => vty_i (i32_lo _) (by omega), fun _ => vty_i0 _, trivial⟩ ad wm he) rfl d_lw_556 ⟨by decide, by decide⟩ ⟨hc, hs⟩ rfl rfl (Nat.le_of_ble_eq_true rfl) rfl (fun ad2 r wm' hz2 hy' => ?_)
    have hfm := pz_fx hz2
    obtain ⟨v2, -, rfl, w0, w1, -⟩ := pz_a hz2 rfl rfl rfl
    have v0 : -1 ≤ v.toInt := v0
    have v1 : v.toInt ≤ -1 := v1
    have w0 : -1 ≤ v2.toInt := w0
    have w1 : v2.toInt ≤ -1 := w1
    have ev : v.toInt = v2.toInt := by omega
    have hR' : RelQ G wx' wm' := RelQ.of (hR.m.keep hfx hfm (by decide)) (hR.a.keep hfx hfm (by decide)) (hR.d.keep hfx hfm (by decide)) (hR.c.keep hfx hfm (by decide)) (hR.x.keep hfx hfm (by decide)) (hR.b.keep hfx hfm (by decide)) (hR.h.keep hfx hfm (by decide)) (hR.t.keep hfx hfm (by decide)) (hR.k.keep hfx hfm (by decide))
    refine z_pop X d_lw_559 rfl ?_
    refine z_goto X d_lw_560 (tgt := 2220) (by decide) ?_
    exact hK wx' wm' hx' hl' hy' hR'
  · skip
    rw [List.append_assoc]
    refine cx_callP (rest := []) (As := [.int (xs (i + 1).toNatClampNeg), .int (xs (i + 2).toNatClampNeg), .int (xs (i + 3).toNatClampNeg)]) (μ := (fun k => ((Value.ref x :: [.int (xs (i + 1).toNatClampNeg), .int (xs (i + 2).toNatClampNeg), .int (xs (i + 3).toNatClampNeg)])[k]?).getD .null)) X k_L_60 (ac_x_X10_cross_4 l G) (by decide) hx (fun ad w0 he _ => pre_mu (C := C_x_X10_cross_4) (ts := [(0, 0, 1), (0, 2, 2147483647), tI0]) (As := [.int (xs (i + 1).toNatClampNeg), .int (xs (i + 2).toNatClampNeg), .int (xs (i + 3).toNatClampNeg)]) rfl rfl rfl rfl ⟨fun _ => vty_i (by omega) (by omega), fun _ => vty_i (by omega) (i32_hi _), fun _ => vty_i0 _, trivial⟩ ad w0 he) rfl d_lw_533 ⟨by decide, by decide⟩ ⟨hc, hs⟩ rfl rfl (by decide) rfl (fun ad r wx' hz hx' hl' => ?_)
    rw [← List.append_assoc]
    have hfx := pz_fx hz
    obtain ⟨v, -, rfl, v0, v1, -⟩ := pz_a hz rfl rfl rfl
    refine z_pop X d_lw_536 rfl ?_
    refine z_aload_n X d_lw_537 rfl 2 rfl ?_
    refine z_aload_n X d_lw_538 rfl 0 rfl ?_
    refine z_iload X d_lw_539 4 rfl ?_
    refine z_iconst X d_lw_541 (v := 1) (by decide) ?_
    refine z_iadd X d_lw_542 ?_
    refine z_sld X hX hbl hbA (lw_in hi0 hi1 (k := 1) (by decide) (by decide)) d_lw_543 (v := xs (i + 1).toNatClampNeg) rfl ?_
    refine z_aload_n X d_lw_544 rfl 0 rfl ?_
    refine z_iload X d_lw_545 4 rfl ?_
    refine z_iconst X d_lw_547 (v := 2) (by decide) ?_
    refine z_iadd X d_lw_548 ?_
    refine z_sld X hX hbl hbA (lw_in hi0 hi1 (k := 2) (by decide) (by decide)) d_lw_549 (v := xs (i + 2).toNatClampNeg) rfl ?_
    refine z_aload_n X d_lw_550 rfl 0 rfl ?_
    refine z_iload X d_lw_551 4 rfl ?_
    refine z_iconst X d_lw_553 (v := 3) (by decide) ?_
    refine z_iadd X d_lw_554 ?_
    refine z_sld X hX hbl hbA (lw_in hi0 hi1 (k := 3) (by decide) (by decide)) d_lw_555 (v := xs (i + 3).toNatClampNeg) rfl ?_
    refine mx_callP (wa := wx') (rest := []) (As := [.int (xs (i + 1).toNatClampNeg), .int (xs (i + 2).toNatClampNeg), .int (xs (i + 3).toNatClampNeg)]) (μ := (fun k => ((Value.ref y :: [.int (xs (i + 1).toNatClampNeg), .int (xs (i + 2).toNatClampNeg), .int (xs (i + 3).toNatClampNeg)])[k]?).getD .null)) X k_L_64 (ac_x_X11_cross_4 l G) hy (fun ad he => pre_mu (C := C_x_X11_cross_4) (ts := [(0, 0, 1), (0, 2, 2147483647), tI0]) (As := [.int (xs (i + 1).toNatClampNeg), .int (xs (i + 2).toNatClampNeg), .int (xs (i + 3).toNatClampNeg)]) rfl rfl rfl rfl ⟨fun _ => vty_i (by omega) (by omega), fun _ => vty_i (by omega) (i32_hi _), fun _ => vty_i0 _, trivial⟩ ad wm he) rfl d_lw_556 ⟨by decide, by decide⟩ ⟨hc, hs⟩ rfl rfl (Nat.le_of_ble_eq_true rfl) rfl (fun ad2 r wm' hz2 hy' => ?_)
    have hfm := pz_fx hz2
    obtain ⟨v2, -, rfl, w0, w1, -⟩ := pz_a hz2 rfl rfl rfl
    have v0 : -1 ≤ v.toInt := v0
    have v1 : v.toInt ≤ -1 := v1
    have w0 : -1 ≤ v2.toInt := w0
    have w1 : v2.toInt ≤ -1 := w1
    have ev : v.toInt = v2.toInt := by omega
    have hR' : RelQ G wx' wm' := RelQ.of (hR.m.keep hfx hfm (by decide)) (hR.a.keep hfx hfm (by decide)) (hR.d.keep hfx hfm (by decide)) (hR.c.keep hfx hfm (by decide)) (hR.x.keep hfx hfm (by decide)) (hR.b.keep hfx hfm (by decide)) (hR.h.keep hfx hfm (by decide)) (hR.t.keep hfx hfm (by decide)) (hR.k.keep hfx hfm (by decide))
    refine z_pop X d_lw_559 rfl ?_
    refine z_goto X d_lw_560 (tgt := 2220) (by decide) ?_
    exact hK wx' wm' hx' hl' hy' hR'
  · skip
    rw [List.append_assoc]
    refine cx_callP (rest := []) (As := [.int (xs (i + 1).toNatClampNeg), .int (xs (i + 2).toNatClampNeg), .int (xs (i + 3).toNatClampNeg)]) (μ := (fun k => ((Value.ref x :: [.int (xs (i + 1).toNatClampNeg), .int (xs (i + 2).toNatClampNeg), .int (xs (i + 3).toNatClampNeg)])[k]?).getD .null)) X k_L_60 (ac_x_X10_cross_5 l G) (by decide) hx (fun ad w0 he _ => pre_mu (C := C_x_X10_cross_5) (ts := [(0, 0, 1), (0, 0, 1), (0, -2147483648, -10)]) (As := [.int (xs (i + 1).toNatClampNeg), .int (xs (i + 2).toNatClampNeg), .int (xs (i + 3).toNatClampNeg)]) rfl rfl rfl rfl ⟨fun _ => vty_i (by omega) (by omega), fun _ => vty_i (by omega) (by omega), fun _ => vty_i (i32_lo _) (by omega), trivial⟩ ad w0 he) rfl d_lw_533 ⟨by decide, by decide⟩ ⟨hc, hs⟩ rfl rfl (by decide) rfl (fun ad r wx' hz hx' hl' => ?_)
    rw [← List.append_assoc]
    have hfx := pz_fx hz
    obtain ⟨v, -, rfl, v0, v1, -⟩ := pz_a hz rfl rfl rfl
    refine z_pop X d_lw_536 rfl ?_
    refine z_aload_n X d_lw_537 rfl 2 rfl ?_
    refine z_aload_n X d_lw_538 rfl 0 rfl ?_
    refine z_iload X d_lw_539 4 rfl ?_
    refine z_iconst X d_lw_541 (v := 1) (by decide) ?_
    refine z_iadd X d_lw_542 ?_
    refine z_sld X hX hbl hbA (lw_in hi0 hi1 (k := 1) (by decide) (by decide)) d_lw_543 (v := xs (i + 1).toNatClampNeg) rfl ?_
    refine z_aload_n X d_lw_544 rfl 0 rfl ?_
    refine z_iload X d_lw_545 4 rfl ?_
    refine z_iconst X d_lw_547 (v := 2) (by decide) ?_
    refine z_iadd X d_lw_548 ?_
    refine z_sld X hX hbl hbA (lw_in hi0 hi1 (k := 2) (by decide) (by decide)) d_lw_549 (v := xs (i + 2).toNatClampNeg) rfl ?_
    refine z_aload_n X d_lw_550 rfl 0 rfl ?_
    refine z_iload X d_lw_551 4 rfl ?_
    refine z_iconst X d_lw_553 (v := 3) (by decide) ?_
    refine z_iadd X d_lw_554 ?_
    refine z_sld X hX hbl hbA (lw_in hi0 hi1 (k := 3) (by decide) (by decide)) d_lw_555 (v := xs (i + 3).toNatClampNeg) rfl ?_
    refine mx_callP (wa := wx') (rest := []) (As := [.int (xs (i + 1).toNatClampNeg), .int (xs (i + 2).toNatClampNeg), .int (xs (i + 3).toNatClampNeg)]) (μ := (fun k => ((Value.ref y :: [.int (xs (i + 1).toNatClampNeg), .int (xs (i + 2).toNatClampNeg), .int (xs (i + 3).toNatClampNeg)])[k]?).getD .null)) X k_L_64 (ac_x_X11_cross_5 l G) hy (fun ad he => pre_mu (C := C_x_X11_cross_5) (ts := [(0, 0, 1), (0, 0, 1), (0, -2147483648, -10)]) (As := [.int (xs (i + 1).toNatClampNeg), .int (xs (i + 2).toNatClampNeg), .int (xs (i + 3).toNatClampNeg)]) rfl rfl rfl rfl ⟨fun _ => vty_i (by omega) (by omega), fun _ => vty_i (by omega) (by omega), fun _ => vty_i (i32_lo _) (by omega), trivial⟩ ad wm he) rfl d_lw_556 ⟨by decide, by decide⟩ ⟨hc, hs⟩ rfl rfl (Nat.le_of_ble_eq_true rfl) rfl (fun ad2 r wm' hz2 hy' => ?_)
    have hfm := pz_fx hz2
    obtain ⟨v2, -, rfl, w0, w1, -⟩ := pz_a hz2 rfl rfl rfl
    have v0 : -1 ≤ v.toInt := v0
    have v1 : v.toInt ≤ -1 := v1
    have w0 : -1 ≤ v2.toInt := w0
    have w1 : v2.toInt ≤ -1 := w1
    have ev : v.toInt = v2.toInt := by omega
    have hR' : RelQ G wx' wm' := RelQ.of (hR.m.keep hfx hfm (by decide)) (hR.a.keep hfx hfm (by decide)) (hR.d.keep hfx hfm (by decide)) (hR.c.keep hfx hfm (by decide)) (hR.x.keep hfx hfm (by decide)) (hR.b.keep hfx hfm (by decide)) (hR.h.keep hfx hfm (by decide)) (hR.t.keep hfx hfm (by decide)) (hR.k.keep hfx hfm (by decide))
    refine z_pop X d_lw_559 rfl ?_
    refine z_goto X d_lw_560 (tgt := 2220) (by decide) ?_
    exact hK wx' wm' hx' hl' hy' hR'
  · skip
    rw [List.append_assoc]
    refine cx_callP (rest := []) (As := [.int (xs (i + 1).toNatClampNeg), .int (xs (i + 2).toNatClampNeg), .int (xs (i + 3).toNatClampNeg)]) (μ := (fun k => ((Value.ref x :: [.int (xs (i + 1).toNatClampNeg), .int (xs (i + 2).toNatClampNeg), .int (xs (i + 3).toNatClampNeg)])[k]?).getD .null)) X k_L_60 (ac_x_X10_cross_6 l G) (by decide) hx (fun ad w0 he _ => pre_mu (C := C_x_X10_cross_6) (ts := [(0, 0, 1), (0, 0, 1), (0, 10, 2147483647)]) (As := [.int (xs (i + 1).toNatClampNeg), .int (xs (i + 2).toNatClampNeg), .int (xs (i + 3).toNatClampNeg)]) rfl rfl rfl rfl ⟨fun _ => vty_i (by omega) (by omega), fun _ => vty_i (by omega) (by omega), fun _ => vty_i (by omega) (i32_hi _), trivial⟩ ad w0 he) rfl d_lw_533 ⟨by decide, by decide⟩ ⟨hc, hs⟩ rfl rfl (by decide) rfl (fun ad r wx' hz hx' hl' => ?_)
    rw [← List.append_assoc]
    have hfx := pz_fx hz
    obtain ⟨v, -, rfl, v0, v1, -⟩ := pz_a hz rfl rfl rfl
    refine z_pop X d_lw_536 rfl ?_
    refine z_aload_n X d_lw_537 rfl 2 rfl ?_
    refine z_aload_n X d_lw_538 rfl 0 rfl ?_
    refine z_iload X d_lw_539 4 rfl ?_
    refine z_iconst X d_lw_541 (v := 1) (by decide) ?_
    refine z_iadd X d_lw_542 ?_
    refine z_sld X hX hbl hbA (lw_in hi0 hi1 (k := 1) (by decide) (by decide)) d_lw_543 (v := xs (i + 1).toNatClampNeg) rfl ?_
    refine z_aload_n X d_lw_544 rfl 0 rfl ?_
    refine z_iload X d_lw_545 4 rfl ?_
    refine z_iconst X d_lw_547 (v := 2) (by decide) ?_
    refine z_iadd X d_lw_548 ?_
    refine z_sld X hX hbl hbA (lw_in hi0 hi1 (k := 2) (by decide) (by decide)) d_lw_549 (v := xs (i + 2).toNatClampNeg) rfl ?_
    refine z_aload_n X d_lw_550 rfl 0 rfl ?_
    refine z_iload X d_lw_551 4 rfl ?_
    refine z_iconst X d_lw_553 (v := 3) (by decide) ?_
    refine z_iadd X d_lw_554 ?_
    refine z_sld X hX hbl hbA (lw_in hi0 hi1 (k := 3) (by decide) (by decide)) d_lw_555 (v := xs (i + 3).toNatClampNeg) rfl ?_
    refine mx_callP (wa := wx') (rest := []) (As := [.int (xs (i + 1).toNatClampNeg), .int (xs (i + 2).toNatClampNeg), .int (xs (i + 3).toNatClampNeg)]) (μ := (fun k => ((Value.ref y :: [.int (xs (i + 1).toNatClampNeg), .int (xs (i + 2).toNatClampNeg), .int (xs (i + 3).toNatClampNeg)])[k]?).getD .null)) X k_L_64 (ac_x_X11_cross_6 l G) hy (fun ad he => pre_mu (C := C_x_X11_cross_6) (ts := [(0, 0, 1), (0, 0, 1), (0, 10, 2147483647)]) (As := [.int (xs (i + 1).toNatClampNeg), .int (xs (i + 2).toNatClampNeg), .int (xs (i + 3).toNatClampNeg)]) rfl rfl rfl rfl ⟨fun _ => vty_i (by omega) (by omega), fun _ => vty_i (by omega) (by omega), fun _ => vty_i (by omega) (i32_hi _), trivial⟩ ad wm he) rfl d_lw_556 ⟨by decide, by decide⟩ ⟨hc, hs⟩ rfl rfl (Nat.le_of_ble_eq_true rfl) rfl (fun ad2 r wm' hz2 hy' => ?_)
    have hfm := pz_fx hz2
    obtain ⟨v2, -, rfl, w0, w1, -⟩ := pz_a hz2 rfl rfl rfl
    have v0 : -1 ≤ v.toInt := v0
    have v1 : v.toInt ≤ -1 := v1
    have w0 : -1 ≤ v2.toInt := w0
    have w1 : v2.toInt ≤ -1 := w1
    have ev : v.toInt = v2.toInt := by omega
    have hR' : RelQ G wx' wm' := RelQ.of (hR.m.keep hfx hfm (by decide)) (hR.a.keep hfx hfm (by decide)) (hR.d.keep hfx hfm (by decide)) (hR.c.keep hfx hfm (by decide)) (hR.x.keep hfx hfm (by decide)) (hR.b.keep hfx hfm (by decide)) (hR.h.keep hfx hfm (by decide)) (hR.t.keep hfx hfm (by decide)) (hR.k.keep hfx hfm (by decide))
    refine z_pop X d_lw_559 rfl ?_
    refine z_goto X d_lw_560 (tgt := 2220) (by decide) ?_
    exact hK wx' wm' hx' hl' hy' hR'
  · skip
    have hb : xs (i + 1).toNatClampNeg = 0 ∨ xs (i + 1).toNatClampNeg = 1 := (by omega : (xs (i + 1).toNatClampNeg).toInt = 0 ∨ (xs (i + 1).toNatClampNeg).toInt = 1).imp (fun h => Int32.toInt_inj.mp h) (fun h => Int32.toInt_inj.mp h)
    have hq : xs (i + 2).toNatClampNeg = 0 ∨ xs (i + 2).toNatClampNeg = 1 := (by omega : (xs (i + 2).toNatClampNeg).toInt = 0 ∨ (xs (i + 2).toNatClampNeg).toInt = 1).imp (fun h => Int32.toInt_inj.mp h) (fun h => Int32.toInt_inj.mp h)
    have hj : (2 * xs (i + 1).toNatClampNeg + xs (i + 2).toNatClampNeg).toNatClampNeg < 4 := by rcases hb with h | h <;> rcases hq with h2 | h2 <;> rw [h, h2] <;> decide
    rw [List.append_assoc]
    refine cx_callG (rm := rm_cxr) (m0 := [(103, 999)]) (Ψ := (fun r w1 => r = some (.int (f9 (2 * xs (i + 1).toNatClampNeg + xs (i + 2).toNatClampNeg).toNatClampNeg)) ∧ cget w1 103 0 = some (.inr (cyI G, 4, .inl (upd f9 (2 * xs (i + 1).toNatClampNeg + xs (i + 2).toNatClampNeg).toNatClampNeg (xs (i + 3).toNatClampNeg)))))) (rest := []) (As := [.int (xs (i + 1).toNatClampNeg), .int (xs (i + 2).toNatClampNeg), .int (xs (i + 3).toNatClampNeg)]) X k_L_60 (fun ad w0 hW hag => Ct.weak (ac_cxr l G (xs (i + 1).toNatClampNeg) (xs (i + 2).toNatClampNeg) (xs (i + 3).toNatClampNeg) hW ((hag 103 0 (by decide)).trans hf9) hb hq (by omega) (by omega)) (fun r w1 h => ⟨h.2.1, h.2.2.1, h.1, h.2.2.2⟩)) ⟨rfl, rfl⟩ (by decide) (fun r w1 wc hl h => ⟨h.1, by rw [← h.2]; unfold cget; rw [List.getElem?_append_left (by omega)]⟩) hx d_lw_533 ⟨by decide, by decide⟩ ⟨hc, hs⟩ rfl rfl (by decide) rfl (fun r wx' hz hx' hl' hfx => ?_)
    rw [← List.append_assoc]
    obtain ⟨rfl, hc1⟩ := hz
    refine z_pop X d_lw_536 rfl ?_
    refine z_aload_n X d_lw_537 rfl 2 rfl ?_
    refine z_aload_n X d_lw_538 rfl 0 rfl ?_
    refine z_iload X d_lw_539 4 rfl ?_
    refine z_iconst X d_lw_541 (v := 1) (by decide) ?_
    refine z_iadd X d_lw_542 ?_
    refine z_sld X hX hbl hbA (lw_in hi0 hi1 (k := 1) (by decide) (by decide)) d_lw_543 (v := xs (i + 1).toNatClampNeg) rfl ?_
    refine z_aload_n X d_lw_544 rfl 0 rfl ?_
    refine z_iload X d_lw_545 4 rfl ?_
    refine z_iconst X d_lw_547 (v := 2) (by decide) ?_
    refine z_iadd X d_lw_548 ?_
    refine z_sld X hX hbl hbA (lw_in hi0 hi1 (k := 2) (by decide) (by decide)) d_lw_549 (v := xs (i + 2).toNatClampNeg) rfl ?_
    refine z_aload_n X d_lw_550 rfl 0 rfl ?_
    refine z_iload X d_lw_551 4 rfl ?_
    refine z_iconst X d_lw_553 (v := 3) (by decide) ?_
    refine z_iadd X d_lw_554 ?_
    refine z_sld X hX hbl hbA (lw_in hi0 hi1 (k := 3) (by decide) (by decide)) d_lw_555 (v := xs (i + 3).toNatClampNeg) rfl ?_
    refine mx_callG (rm := rm_cmr) (m0 := [(15, 999), (0, 0)]) (Ψ := (fun r w1 => r = some (.int (g9 (2 * xs (i + 1).toNatClampNeg + xs (i + 2).toNatClampNeg).toNatClampNeg)) ∧ cget w1 15 0 = some (.inr (cyI G, 4, .inl (upd g9 (2 * xs (i + 1).toNatClampNeg + xs (i + 2).toNatClampNeg).toNatClampNeg (xs (i + 3).toNatClampNeg)))))) (wa := wx') (rest := []) (As := [.int (xs (i + 1).toNatClampNeg), .int (xs (i + 2).toNatClampNeg), .int (xs (i + 3).toNatClampNeg)]) X k_L_64 (fun ad hW => Ct.weak (ac_cmr l G (xs (i + 1).toNatClampNeg) (xs (i + 2).toNatClampNeg) (xs (i + 3).toNatClampNeg) hW hg9 hb hq (by omega) (by omega)) (fun r w1 h => ⟨h.2.1, h.2.2.1, h.1, h.2.2.2⟩)) ⟨rfl, rfl⟩ hy d_lw_556 ⟨by decide, by decide⟩ ⟨hc, hs⟩ rfl rfl (Nat.le_of_ble_eq_true rfl) rfl (fun r wm' hz hy' hfm => ?_)
    obtain ⟨rfl, hc2⟩ := hz
    have ev : (f9 (2 * xs (i + 1).toNatClampNeg + xs (i + 2).toNatClampNeg).toNatClampNeg).toInt = (g9 (2 * xs (i + 1).toNatClampNeg + xs (i + 2).toNatClampNeg).toNatClampNeg).toInt := congrArg Int32.toInt (hfg _ hj)
    have hC' : RelC G wx' wm' := ⟨_, _, hc1, hc2, fun k hk => by unfold upd; rw [hfg k hk]⟩
    have hR' : RelQ G wx' wm' := RelQ.of (hR.m.keep hfx hfm (by decide)) (hR.a.keep hfx hfm (by decide)) (hR.d.keep hfx hfm (by decide)) (hC') (hR.x.keep hfx hfm (by decide)) (hR.b.keep hfx hfm (by decide)) (hR.h.keep hfx hfm (by decide)) (hR.t.keep hfx hfm (by decide)) (hR.k.keep hfx hfm (by decide))
    refine z_pop X d_lw_559 rfl ?_
    refine z_goto X d_lw_560 (tgt := 2220) (by decide) ?_
    exact hK wx' wm' hx' hl' hy' hR'
theorem lc_8 (X : ZC p s m #[Value.ref b] meth c code 8 RL G (fun q : Nat => s.heap.size ≤ q) ret nm) (hX : va_X b L xs s s.heap) (hbl : b < s.heap.size) (hbA : ¬ s.heap.size ≤ b) (hi0 : 0 ≤ i.toInt) (hi1 : i.toInt + 10 ≤ (L : Int) ∧ L ≤ 5120) (hx : CWx G x wx) (hy : MWx G y wm) (hR : RelQ G wx wm) (hc : kc ≤ room_1.cells) (hs : ks ≤ room_1.slots) (hK : ∀ wx' wm', CWx G x wx' → wx'.length = wx.length → MWx G y wm' → RelQ G wx' wm' → Z p l e room_1 s m #[Value.ref b] below meth c 8 G (fun q : Nat => s.heap.size ≤ q) (lw_Z below #[Value.ref b] s) 2220 (lv5 b x y o i) [] (wx' ++ wm' ++ [(o, aJ G 1 f)]) kc ks) : Z p l e room_1 s m #[Value.ref b] below meth c 8 G (fun q : Nat => s.heap.size ≤ q) (lw_Z below #[Value.ref b] s) 563 (lv5 b x y o i) [] (wx ++ wm ++ [(o, aJ G 1 f)]) kc ks := by
  refine z_aload_n X d_lw_563 rfl 1 rfl ?_
  refine z_aload_n X d_lw_564 rfl 0 rfl ?_
  refine z_iload X d_lw_565 4 rfl ?_
  refine z_iconst X d_lw_567 (v := 1) (by decide) ?_
  refine z_iadd X d_lw_568 ?_
  refine z_sld X hX hbl hbA (lw_in hi0 hi1 (k := 1) (by decide) (by decide)) d_lw_569 (v := xs (i + 1).toNatClampNeg) rfl ?_
  refine z_aload_n X d_lw_570 rfl 0 rfl ?_
  refine z_iload X d_lw_571 4 rfl ?_
  refine z_iconst X d_lw_573 (v := 2) (by decide) ?_
  refine z_iadd X d_lw_574 ?_
  refine z_sld X hX hbl hbA (lw_in hi0 hi1 (k := 2) (by decide) (by decide)) d_lw_575 (v := xs (i + 2).toNatClampNeg) rfl ?_
  refine z_aload_n X d_lw_576 rfl 0 rfl ?_
  refine z_iload X d_lw_577 4 rfl ?_
  refine z_iconst X d_lw_579 (v := 3) (by decide) ?_
  refine z_iadd X d_lw_580 ?_
  refine z_sld X hX hbl hbA (lw_in hi0 hi1 (k := 3) (by decide) (by decide)) d_lw_581 (v := xs (i + 3).toNatClampNeg) rfl ?_
  rw [List.append_assoc]
  refine cx_callF (k := 0) (rest := []) (As := [.int (xs (i + 1).toNatClampNeg), .int (xs (i + 2).toNatClampNeg), .int (xs (i + 3).toNatClampNeg)]) (μ := (fun k => ((Value.ref x :: [.int (xs (i + 1).toNatClampNeg), .int (xs (i + 2).toNatClampNeg), .int (xs (i + 3).toNatClampNeg)])[k]?).getD .null)) X k_L_65 (ac_X10_truly_0 l G) (by decide) (by decide) (by decide) hx (fun ad w0 he => pre_mu (C := C_X10_truly_0) (ts := [tI0, tI0, tI0]) (As := [.int (xs (i + 1).toNatClampNeg), .int (xs (i + 2).toNatClampNeg), .int (xs (i + 3).toNatClampNeg)]) rfl rfl rfl rfl ⟨fun _ => vty_i0 _, fun _ => vty_i0 _, fun _ => vty_i0 _, trivial⟩ ad w0 he) rfl d_lw_582 ⟨by decide, by decide⟩ ⟨hc, hs⟩ rfl rfl (by decide) rfl (fun r wx' hr hx' hl' hfx => ?_)
  rw [← List.append_assoc]
  rcases hr with ⟨h, -⟩ | ⟨-, v, rfl⟩ | ⟨h, -⟩
  all_goals first | (exact absurd h (by decide)) | skip
  refine z_pop X d_lw_585 rfl ?_
  refine z_aload_n X d_lw_586 rfl 2 rfl ?_
  refine z_aload_n X d_lw_587 rfl 0 rfl ?_
  refine z_iload X d_lw_588 4 rfl ?_
  refine z_iconst X d_lw_590 (v := 1) (by decide) ?_
  refine z_iadd X d_lw_591 ?_
  refine z_sld X hX hbl hbA (lw_in hi0 hi1 (k := 1) (by decide) (by decide)) d_lw_592 (v := xs (i + 1).toNatClampNeg) rfl ?_
  refine z_aload_n X d_lw_593 rfl 0 rfl ?_
  refine z_iload X d_lw_594 4 rfl ?_
  refine z_iconst X d_lw_596 (v := 2) (by decide) ?_
  refine z_iadd X d_lw_597 ?_
  refine z_sld X hX hbl hbA (lw_in hi0 hi1 (k := 2) (by decide) (by decide)) d_lw_598 (v := xs (i + 2).toNatClampNeg) rfl ?_
  refine z_aload_n X d_lw_599 rfl 0 rfl ?_
  refine z_iload X d_lw_600 4 rfl ?_
  refine z_iconst X d_lw_602 (v := 3) (by decide) ?_
  refine z_iadd X d_lw_603 ?_
  refine z_sld X hX hbl hbA (lw_in hi0 hi1 (k := 3) (by decide) (by decide)) d_lw_604 (v := xs (i + 3).toNatClampNeg) rfl ?_
  refine mx_callF (k := 0) (wa := wx') (rest := []) (As := [.int (xs (i + 1).toNatClampNeg), .int (xs (i + 2).toNatClampNeg), .int (xs (i + 3).toNatClampNeg)]) (μ := (fun k => ((Value.ref y :: [.int (xs (i + 1).toNatClampNeg), .int (xs (i + 2).toNatClampNeg), .int (xs (i + 3).toNatClampNeg)])[k]?).getD .null)) X k_L_69 (ac_X11_truly_0 l G) (by decide) (by decide) hy (fun ad w0 he => pre_mu (C := C_X11_truly_0) (ts := [tI0, tI0, tI0]) (As := [.int (xs (i + 1).toNatClampNeg), .int (xs (i + 2).toNatClampNeg), .int (xs (i + 3).toNatClampNeg)]) rfl rfl rfl rfl ⟨fun _ => vty_i0 _, fun _ => vty_i0 _, fun _ => vty_i0 _, trivial⟩ ad w0 he) rfl d_lw_605 ⟨by decide, by decide⟩ ⟨hc, hs⟩ rfl rfl (Nat.le_of_ble_eq_true rfl) rfl (fun r wm' hr hy' hfm => ?_)
  rcases hr with ⟨h, -⟩ | ⟨-, v, rfl⟩ | ⟨h, -⟩
  all_goals first | (exact absurd h (by decide)) | skip
  refine z_pop X d_lw_608 rfl ?_
  refine z_goto X d_lw_609 (tgt := 2220) (by decide) ?_
  exact hK wx' wm' hx' hl' hy' (RelQ.of (hR.m.keep hfx hfm (by decide)) (hR.a.keep hfx hfm (by decide)) (hR.d.keep hfx hfm (by decide)) (hR.c.keep hfx hfm (by decide)) (hR.x.keep hfx hfm (by decide)) (hR.b.keep hfx hfm (by decide)) (hR.h.keep hfx hfm (by decide)) (hR.t.keep hfx hfm (by decide)) (hR.k.keep hfx hfm (by decide)))
theorem lc_9 (X : ZC p s m #[Value.ref b] meth c code 8 RL G (fun q : Nat => s.heap.size ≤ q) ret nm) (hX : va_X b L xs s s.heap) (hbl : b < s.heap.size) (hbA : ¬ s.heap.size ≤ b) (hi0 : 0 ≤ i.toInt) (hi1 : i.toInt + 10 ≤ (L : Int) ∧ L ≤ 5120) (hx : CWx G x wx) (hy : MWx G y wm) (hR : RelQ G wx wm) (hc : kc ≤ room_1.cells) (hs : ks ≤ room_1.slots) (hK : ∀ wx' wm', CWx G x wx' → wx'.length = wx.length → MWx G y wm' → RelQ G wx' wm' → Z p l e room_1 s m #[Value.ref b] below meth c 8 G (fun q : Nat => s.heap.size ≤ q) (lw_Z below #[Value.ref b] s) 2220 (lv5 b x y o i) [] (wx' ++ wm' ++ [(o, aJ G 1 f)]) kc ks) : Z p l e room_1 s m #[Value.ref b] below meth c 8 G (fun q : Nat => s.heap.size ≤ q) (lw_Z below #[Value.ref b] s) 612 (lv5 b x y o i) [] (wx ++ wm ++ [(o, aJ G 1 f)]) kc ks := by
  obtain ⟨n, h9, s9, c9, f9, g9, ⟨n0, n1⟩, rc9, e9, ⟨hn1, hn2⟩, ⟨a2, b2⟩, ⟨a3, b3⟩, ⟨a4, b4⟩, a5, b5⟩ := id hR.m
  refine z_aload_n X d_lw_612 rfl 1 rfl ?_
  refine z_aload_n X d_lw_613 rfl 0 rfl ?_
  refine z_iload X d_lw_614 4 rfl ?_
  refine z_iconst X d_lw_616 (v := 1) (by decide) ?_
  refine z_iadd X d_lw_617 ?_
  refine z_sld X hX hbl hbA (lw_in hi0 hi1 (k := 1) (by decide) (by decide)) d_lw_618 (v := xs (i + 1).toNatClampNeg) rfl ?_
  refine z_aload_n X d_lw_619 rfl 0 rfl ?_
  refine z_iload X d_lw_620 4 rfl ?_
  refine z_iconst X d_lw_622 (v := 2) (by decide) ?_
  refine z_iadd X d_lw_623 ?_
  refine z_sld X hX hbl hbA (lw_in hi0 hi1 (k := 2) (by decide) (by decide)) d_lw_624 (v := xs (i + 2).toNatClampNeg) rfl ?_
  refine z_aload_n X d_lw_625 rfl 0 rfl ?_
  refine z_iload X d_lw_626 4 rfl ?_
  refine z_iconst X d_lw_628 (v := 3) (by decide) ?_
  refine z_iadd X d_lw_629 ?_
  refine z_sld X hX hbl hbA (lw_in hi0 hi1 (k := 3) (by decide) (by decide)) d_lw_630 (v := xs (i + 3).toNatClampNeg) rfl ?_
  obtain ⟨tq, tX9, tY9, t1, t2, t3, t4, t5⟩ := id hR.t
  obtain ⟨l1, l2⟩ := think_E (a := xs (i + 1).toNatClampNeg) (b := xs (i + 2).toNatClampNeg) (c := xs (i + 3).toNatClampNeg) t4 t5
  rw [List.append_assoc]
  refine cx_callG (rm := { frames := 2, cells := 0, slots := 0, locals := 44 }) (m0 := C_X10_think_0.2.2.2.2.1) (Ψ := (fun r w1 => (∃ v : Int32, r = some (.int v)) ∧ CQ G w1 105 8 (mMass tq (xs (i + 1).toNatClampNeg) (xs (i + 2).toNatClampNeg) (xs (i + 3).toNatClampNeg)))) (rest := []) (As := [.int (xs (i + 1).toNatClampNeg), .int (xs (i + 2).toNatClampNeg), .int (xs (i + 3).toNatClampNeg)]) X k_L_70 (fun ad w0 hW hag => ac_tkx l G hW ((hag 105 0 (by decide)).trans t1)) ⟨rfl, rfl⟩ (by decide) (fun r w1 wc hl h => ⟨h.1, h.2.app (by omega)⟩) hx d_lw_631 ⟨by decide, by decide⟩ ⟨hc, hs⟩ rfl rfl (by decide) rfl (fun r wx' hz hx' hl' hfx => ?_)
  rw [← List.append_assoc]
  obtain ⟨v, rfl⟩ := hz.1
  refine z_pop X d_lw_634 rfl ?_
  refine z_aload_n X d_lw_635 rfl 2 rfl ?_
  refine z_aload_n X d_lw_636 rfl 0 rfl ?_
  refine z_iload X d_lw_637 4 rfl ?_
  refine z_iconst X d_lw_639 (v := 1) (by decide) ?_
  refine z_iadd X d_lw_640 ?_
  refine z_sld X hX hbl hbA (lw_in hi0 hi1 (k := 1) (by decide) (by decide)) d_lw_641 (v := xs (i + 1).toNatClampNeg) rfl ?_
  refine z_aload_n X d_lw_642 rfl 0 rfl ?_
  refine z_iload X d_lw_643 4 rfl ?_
  refine z_iconst X d_lw_645 (v := 2) (by decide) ?_
  refine z_iadd X d_lw_646 ?_
  refine z_sld X hX hbl hbA (lw_in hi0 hi1 (k := 2) (by decide) (by decide)) d_lw_647 (v := xs (i + 2).toNatClampNeg) rfl ?_
  refine z_aload_n X d_lw_648 rfl 0 rfl ?_
  refine z_iload X d_lw_649 4 rfl ?_
  refine z_iconst X d_lw_651 (v := 3) (by decide) ?_
  refine z_iadd X d_lw_652 ?_
  refine z_sld X hX hbl hbA (lw_in hi0 hi1 (k := 3) (by decide) (by decide)) d_lw_653 (v := xs (i + 3).toNatClampNeg) rfl ?_
  refine mx_callG (rm := { frames := 2, cells := 0, slots := 0, locals := 47 }) (m0 := C_X11_think_0.2.2.2.2.1) (Ψ := (fun r w1 => (∃ v : Int32, r = some (.int v)) ∧ CQ G w1 18 4 (mMx tX9 (xs (i + 1).toNatClampNeg) (xs (i + 2).toNatClampNeg) (xs (i + 3).toNatClampNeg)) ∧ CQ G w1 19 4 (mMy tY9 (xs (i + 1).toNatClampNeg) (xs (i + 2).toNatClampNeg) (xs (i + 3).toNatClampNeg)))) (wa := wx') (rest := []) (As := [.int (xs (i + 1).toNatClampNeg), .int (xs (i + 2).toNatClampNeg), .int (xs (i + 3).toNatClampNeg)]) X k_L_73 (fun ad hW => ac_tkm l G hW t2 t3) ⟨rfl, rfl⟩ hy d_lw_654 ⟨by decide, by decide⟩ ⟨hc, hs⟩ rfl rfl (Nat.le_of_ble_eq_true rfl) rfl (fun r wm' hz2 hy' hfm => ?_)
  obtain ⟨v2, rfl⟩ := hz2.1
  obtain ⟨ev0, hM'⟩ := (⟨trivial, RelTh.set hz.2 hz2.2.1 hz2.2.2 l1 l2⟩ : True ∧ RelTh G wx' wm')
  have hR' : RelQ G wx' wm' := RelQ.of (hR.m.keep hfx hfm (by decide)) (hR.a.keep hfx hfm (by decide)) (hR.d.keep hfx hfm (by decide)) (hR.c.keep hfx hfm (by decide)) (hR.x.keep hfx hfm (by decide)) (hR.b.keep hfx hfm (by decide)) (hR.h.keep hfx hfm (by decide)) (hM') (hR.k.keep hfx hfm (by decide))
  refine z_pop X d_lw_657 rfl ?_
  refine z_goto X d_lw_658 (tgt := 2220) (by decide) ?_
  exact hK wx' wm' hx' hl' hy' hR'
theorem lc_10 (X : ZC p s m #[Value.ref b] meth c code 8 RL G (fun q : Nat => s.heap.size ≤ q) ret nm) (hX : va_X b L xs s s.heap) (hbl : b < s.heap.size) (hbA : ¬ s.heap.size ≤ b) (hi0 : 0 ≤ i.toInt) (hi1 : i.toInt + 10 ≤ (L : Int) ∧ L ≤ 5120) (hx : CWx G x wx) (hy : MWx G y wm) (hR : RelQ G wx wm) (hc : kc ≤ room_1.cells) (hs : ks ≤ room_1.slots) (hK : ∀ wx' wm', CWx G x wx' → wx'.length = wx.length → MWx G y wm' → RelQ G wx' wm' → Z p l e room_1 s m #[Value.ref b] below meth c 8 G (fun q : Nat => s.heap.size ≤ q) (lw_Z below #[Value.ref b] s) 2220 (lv5 b x y o i) [] (wx' ++ wm' ++ [(o, aJ G 1 f)]) kc ks) : Z p l e room_1 s m #[Value.ref b] below meth c 8 G (fun q : Nat => s.heap.size ≤ q) (lw_Z below #[Value.ref b] s) 661 (lv5 b x y o i) [] (wx ++ wm ++ [(o, aJ G 1 f)]) kc ks := by
  refine z_aload_n X d_lw_661 rfl 1 rfl ?_
  refine z_aload_n X d_lw_662 rfl 0 rfl ?_
  refine z_iload X d_lw_663 4 rfl ?_
  refine z_iconst X d_lw_665 (v := 1) (by decide) ?_
  refine z_iadd X d_lw_666 ?_
  refine z_sld X hX hbl hbA (lw_in hi0 hi1 (k := 1) (by decide) (by decide)) d_lw_667 (v := xs (i + 1).toNatClampNeg) rfl ?_
  refine z_aload_n X d_lw_668 rfl 0 rfl ?_
  refine z_iload X d_lw_669 4 rfl ?_
  refine z_iconst X d_lw_671 (v := 2) (by decide) ?_
  refine z_iadd X d_lw_672 ?_
  refine z_sld X hX hbl hbA (lw_in hi0 hi1 (k := 2) (by decide) (by decide)) d_lw_673 (v := xs (i + 2).toNatClampNeg) rfl ?_
  rw [List.append_assoc]
  refine cx_callF (k := 0) (rest := []) (As := [.int (xs (i + 1).toNatClampNeg), .int (xs (i + 2).toNatClampNeg)]) (μ := (fun k => ((Value.ref x :: [.int (xs (i + 1).toNatClampNeg), .int (xs (i + 2).toNatClampNeg)])[k]?).getD .null)) X k_L_74 (ac_X10_pound_0 l G) (by decide) (by decide) (by decide) hx (fun ad w0 he => pre_mu (C := C_X10_pound_0) (ts := [tI0, tI0]) (As := [.int (xs (i + 1).toNatClampNeg), .int (xs (i + 2).toNatClampNeg)]) rfl rfl rfl rfl ⟨fun _ => vty_i0 _, fun _ => vty_i0 _, trivial⟩ ad w0 he) rfl d_lw_674 ⟨by decide, by decide⟩ ⟨hc, hs⟩ rfl rfl (by decide) rfl (fun r wx' hr hx' hl' hfx => ?_)
  rw [← List.append_assoc]
  rcases hr with ⟨h, -⟩ | ⟨-, v, rfl⟩ | ⟨h, -⟩
  all_goals first | (exact absurd h (by decide)) | skip
  refine z_pop X d_lw_677 rfl ?_
  refine z_aload_n X d_lw_678 rfl 2 rfl ?_
  refine z_aload_n X d_lw_679 rfl 0 rfl ?_
  refine z_iload X d_lw_680 4 rfl ?_
  refine z_iconst X d_lw_682 (v := 1) (by decide) ?_
  refine z_iadd X d_lw_683 ?_
  refine z_sld X hX hbl hbA (lw_in hi0 hi1 (k := 1) (by decide) (by decide)) d_lw_684 (v := xs (i + 1).toNatClampNeg) rfl ?_
  refine z_aload_n X d_lw_685 rfl 0 rfl ?_
  refine z_iload X d_lw_686 4 rfl ?_
  refine z_iconst X d_lw_688 (v := 2) (by decide) ?_
  refine z_iadd X d_lw_689 ?_
  refine z_sld X hX hbl hbA (lw_in hi0 hi1 (k := 2) (by decide) (by decide)) d_lw_690 (v := xs (i + 2).toNatClampNeg) rfl ?_
  refine mx_callF (k := 0) (wa := wx') (rest := []) (As := [.int (xs (i + 1).toNatClampNeg), .int (xs (i + 2).toNatClampNeg)]) (μ := (fun k => ((Value.ref y :: [.int (xs (i + 1).toNatClampNeg), .int (xs (i + 2).toNatClampNeg)])[k]?).getD .null)) X k_L_78 (ac_X11_pound_0 l G) (by decide) (by decide) hy (fun ad w0 he => pre_mu (C := C_X11_pound_0) (ts := [tI0, tI0]) (As := [.int (xs (i + 1).toNatClampNeg), .int (xs (i + 2).toNatClampNeg)]) rfl rfl rfl rfl ⟨fun _ => vty_i0 _, fun _ => vty_i0 _, trivial⟩ ad w0 he) rfl d_lw_691 ⟨by decide, by decide⟩ ⟨hc, hs⟩ rfl rfl (Nat.le_of_ble_eq_true rfl) rfl (fun r wm' hr hy' hfm => ?_)
  rcases hr with ⟨h, -⟩ | ⟨-, v, rfl⟩ | ⟨h, -⟩
  all_goals first | (exact absurd h (by decide)) | skip
  refine z_pop X d_lw_694 rfl ?_
  refine z_goto X d_lw_695 (tgt := 2220) (by decide) ?_
  exact hK wx' wm' hx' hl' hy' (RelQ.of (hR.m.keep hfx hfm (by decide)) (hR.a.keep hfx hfm (by decide)) (hR.d.keep hfx hfm (by decide)) (hR.c.keep hfx hfm (by decide)) (hR.x.keep hfx hfm (by decide)) (hR.b.keep hfx hfm (by decide)) (hR.h.keep hfx hfm (by decide)) (hR.t.keep hfx hfm (by decide)) (hR.k.keep hfx hfm (by decide)))
theorem lc_11 (X : ZC p s m #[Value.ref b] meth c code 8 RL G (fun q : Nat => s.heap.size ≤ q) ret nm) (hX : va_X b L xs s s.heap) (hbl : b < s.heap.size) (hbA : ¬ s.heap.size ≤ b) (hi0 : 0 ≤ i.toInt) (hi1 : i.toInt + 10 ≤ (L : Int) ∧ L ≤ 5120) (hx : CWx G x wx) (hy : MWx G y wm) (hR : RelQ G wx wm) (hc : kc ≤ room_1.cells) (hs : ks ≤ room_1.slots) (hK : ∀ wx' wm', CWx G x wx' → wx'.length = wx.length → MWx G y wm' → RelQ G wx' wm' → Z p l e room_1 s m #[Value.ref b] below meth c 8 G (fun q : Nat => s.heap.size ≤ q) (lw_Z below #[Value.ref b] s) 2220 (lv5 b x y o i) [] (wx' ++ wm' ++ [(o, aJ G 1 f)]) kc ks) : Z p l e room_1 s m #[Value.ref b] below meth c 8 G (fun q : Nat => s.heap.size ≤ q) (lw_Z below #[Value.ref b] s) 698 (lv5 b x y o i) [] (wx ++ wm ++ [(o, aJ G 1 f)]) kc ks := by
  refine z_aload_n X d_lw_698 rfl 1 rfl ?_
  refine z_aload_n X d_lw_699 rfl 0 rfl ?_
  refine z_iload X d_lw_700 4 rfl ?_
  refine z_iconst X d_lw_702 (v := 1) (by decide) ?_
  refine z_iadd X d_lw_703 ?_
  refine z_sld X hX hbl hbA (lw_in hi0 hi1 (k := 1) (by decide) (by decide)) d_lw_704 (v := xs (i + 1).toNatClampNeg) rfl ?_
  refine z_aload_n X d_lw_705 rfl 0 rfl ?_
  refine z_iload X d_lw_706 4 rfl ?_
  refine z_iconst X d_lw_708 (v := 2) (by decide) ?_
  refine z_iadd X d_lw_709 ?_
  refine z_sld X hX hbl hbA (lw_in hi0 hi1 (k := 2) (by decide) (by decide)) d_lw_710 (v := xs (i + 2).toNatClampNeg) rfl ?_
  rw [List.append_assoc]
  refine cx_callF (k := 0) (rest := []) (As := [.int (xs (i + 1).toNatClampNeg), .int (xs (i + 2).toNatClampNeg)]) (μ := (fun k => ((Value.ref x :: [.int (xs (i + 1).toNatClampNeg), .int (xs (i + 2).toNatClampNeg)])[k]?).getD .null)) X k_L_79 (ac_X10_feel_0 l G) (by decide) (by decide) (by decide) hx (fun ad w0 he => pre_mu (C := C_X10_feel_0) (ts := [tI0, tI0]) (As := [.int (xs (i + 1).toNatClampNeg), .int (xs (i + 2).toNatClampNeg)]) rfl rfl rfl rfl ⟨fun _ => vty_i0 _, fun _ => vty_i0 _, trivial⟩ ad w0 he) rfl d_lw_711 ⟨by decide, by decide⟩ ⟨hc, hs⟩ rfl rfl (by decide) rfl (fun r wx' hr hx' hl' hfx => ?_)
  rw [← List.append_assoc]
  rcases hr with ⟨h, -⟩ | ⟨-, v, rfl⟩ | ⟨h, -⟩
  all_goals first | (exact absurd h (by decide)) | skip
  refine z_pop X d_lw_714 rfl ?_
  refine z_aload_n X d_lw_715 rfl 2 rfl ?_
  refine z_aload_n X d_lw_716 rfl 0 rfl ?_
  refine z_iload X d_lw_717 4 rfl ?_
  refine z_iconst X d_lw_719 (v := 1) (by decide) ?_
  refine z_iadd X d_lw_720 ?_
  refine z_sld X hX hbl hbA (lw_in hi0 hi1 (k := 1) (by decide) (by decide)) d_lw_721 (v := xs (i + 1).toNatClampNeg) rfl ?_
  refine z_aload_n X d_lw_722 rfl 0 rfl ?_
  refine z_iload X d_lw_723 4 rfl ?_
  refine z_iconst X d_lw_725 (v := 2) (by decide) ?_
  refine z_iadd X d_lw_726 ?_
  refine z_sld X hX hbl hbA (lw_in hi0 hi1 (k := 2) (by decide) (by decide)) d_lw_727 (v := xs (i + 2).toNatClampNeg) rfl ?_
  refine mx_callF (k := 0) (wa := wx') (rest := []) (As := [.int (xs (i + 1).toNatClampNeg), .int (xs (i + 2).toNatClampNeg)]) (μ := (fun k => ((Value.ref y :: [.int (xs (i + 1).toNatClampNeg), .int (xs (i + 2).toNatClampNeg)])[k]?).getD .null)) X k_L_82 (ac_X11_feel_0 l G) (by decide) (by decide) hy (fun ad w0 he => pre_mu (C := C_X11_feel_0) (ts := [tI0, tI0]) (As := [.int (xs (i + 1).toNatClampNeg), .int (xs (i + 2).toNatClampNeg)]) rfl rfl rfl rfl ⟨fun _ => vty_i0 _, fun _ => vty_i0 _, trivial⟩ ad w0 he) rfl d_lw_728 ⟨by decide, by decide⟩ ⟨hc, hs⟩ rfl rfl (Nat.le_of_ble_eq_true rfl) rfl (fun r wm' hr hy' hfm => ?_)
  rcases hr with ⟨h, -⟩ | ⟨-, v, rfl⟩ | ⟨h, -⟩
  all_goals first | (exact absurd h (by decide)) | skip
  refine z_pop X d_lw_731 rfl ?_
  refine z_goto X d_lw_732 (tgt := 2220) (by decide) ?_
  exact hK wx' wm' hx' hl' hy' (RelQ.of (hR.m.keep hfx hfm (by decide)) (hR.a.keep hfx hfm (by decide)) (hR.d.keep hfx hfm (by decide)) (hR.c.keep hfx hfm (by decide)) (hR.x.keep hfx hfm (by decide)) (hR.b.keep hfx hfm (by decide)) (hR.h.keep hfx hfm (by decide)) (hR.t.keep hfx hfm (by decide)) (hR.k.keep hfx hfm (by decide)))
theorem lc_12 (X : ZC p s m #[Value.ref b] meth c code 8 RL G (fun q : Nat => s.heap.size ≤ q) ret nm) (hX : va_X b L xs s s.heap) (hbl : b < s.heap.size) (hbA : ¬ s.heap.size ≤ b) (hi0 : 0 ≤ i.toInt) (hi1 : i.toInt + 10 ≤ (L : Int) ∧ L ≤ 5120) (hx : CWx G x wx) (hy : MWx G y wm) (hR : RelQ G wx wm) (hc : kc ≤ room_1.cells) (hs : ks ≤ room_1.slots) (hK : ∀ wx' wm', CWx G x wx' → wx'.length = wx.length → MWx G y wm' → RelQ G wx' wm' → Z p l e room_1 s m #[Value.ref b] below meth c 8 G (fun q : Nat => s.heap.size ≤ q) (lw_Z below #[Value.ref b] s) 2220 (lv5 b x y o i) [] (wx' ++ wm' ++ [(o, aJ G 1 f)]) kc ks) : Z p l e room_1 s m #[Value.ref b] below meth c 8 G (fun q : Nat => s.heap.size ≤ q) (lw_Z below #[Value.ref b] s) 735 (lv5 b x y o i) [] (wx ++ wm ++ [(o, aJ G 1 f)]) kc ks := by
  refine z_aload_n X d_lw_735 rfl 1 rfl ?_
  refine z_aload_n X d_lw_736 rfl 0 rfl ?_
  refine z_iload X d_lw_737 4 rfl ?_
  refine z_iconst X d_lw_739 (v := 1) (by decide) ?_
  refine z_iadd X d_lw_740 ?_
  refine z_sld X hX hbl hbA (lw_in hi0 hi1 (k := 1) (by decide) (by decide)) d_lw_741 (v := xs (i + 1).toNatClampNeg) rfl ?_
  refine z_aload_n X d_lw_742 rfl 0 rfl ?_
  refine z_iload X d_lw_743 4 rfl ?_
  refine z_iconst X d_lw_745 (v := 2) (by decide) ?_
  refine z_iadd X d_lw_746 ?_
  refine z_sld X hX hbl hbA (lw_in hi0 hi1 (k := 2) (by decide) (by decide)) d_lw_747 (v := xs (i + 2).toNatClampNeg) rfl ?_
  rw [List.append_assoc]
  refine cx_callF (k := 0) (rest := []) (As := [.int (xs (i + 1).toNatClampNeg), .int (xs (i + 2).toNatClampNeg)]) (μ := (fun k => ((Value.ref x :: [.int (xs (i + 1).toNatClampNeg), .int (xs (i + 2).toNatClampNeg)])[k]?).getD .null)) X k_L_83 (ac_X10_hums_0 l G) (by decide) (by decide) (by decide) hx (fun ad w0 he => pre_mu (C := C_X10_hums_0) (ts := [tI0, tI0]) (As := [.int (xs (i + 1).toNatClampNeg), .int (xs (i + 2).toNatClampNeg)]) rfl rfl rfl rfl ⟨fun _ => vty_i0 _, fun _ => vty_i0 _, trivial⟩ ad w0 he) rfl d_lw_748 ⟨by decide, by decide⟩ ⟨hc, hs⟩ rfl rfl (by decide) rfl (fun r wx' hr hx' hl' hfx => ?_)
  rw [← List.append_assoc]
  rcases hr with ⟨h, -⟩ | ⟨-, v, rfl⟩ | ⟨h, -⟩
  all_goals first | (exact absurd h (by decide)) | skip
  refine z_pop X d_lw_751 rfl ?_
  refine z_aload_n X d_lw_752 rfl 2 rfl ?_
  refine z_aload_n X d_lw_753 rfl 0 rfl ?_
  refine z_iload X d_lw_754 4 rfl ?_
  refine z_iconst X d_lw_756 (v := 1) (by decide) ?_
  refine z_iadd X d_lw_757 ?_
  refine z_sld X hX hbl hbA (lw_in hi0 hi1 (k := 1) (by decide) (by decide)) d_lw_758 (v := xs (i + 1).toNatClampNeg) rfl ?_
  refine z_aload_n X d_lw_759 rfl 0 rfl ?_
  refine z_iload X d_lw_760 4 rfl ?_
  refine z_iconst X d_lw_762 (v := 2) (by decide) ?_
  refine z_iadd X d_lw_763 ?_
  refine z_sld X hX hbl hbA (lw_in hi0 hi1 (k := 2) (by decide) (by decide)) d_lw_764 (v := xs (i + 2).toNatClampNeg) rfl ?_
  refine mx_callF (k := 0) (wa := wx') (rest := []) (As := [.int (xs (i + 1).toNatClampNeg), .int (xs (i + 2).toNatClampNeg)]) (μ := (fun k => ((Value.ref y :: [.int (xs (i + 1).toNatClampNeg), .int (xs (i + 2).toNatClampNeg)])[k]?).getD .null)) X k_L_86 (ac_X11_hums_0 l G) (by decide) (by decide) hy (fun ad w0 he => pre_mu (C := C_X11_hums_0) (ts := [tI0, tI0]) (As := [.int (xs (i + 1).toNatClampNeg), .int (xs (i + 2).toNatClampNeg)]) rfl rfl rfl rfl ⟨fun _ => vty_i0 _, fun _ => vty_i0 _, trivial⟩ ad w0 he) rfl d_lw_765 ⟨by decide, by decide⟩ ⟨hc, hs⟩ rfl rfl (Nat.le_of_ble_eq_true rfl) rfl (fun r wm' hr hy' hfm => ?_)
  rcases hr with ⟨h, -⟩ | ⟨-, v, rfl⟩ | ⟨h, -⟩
  all_goals first | (exact absurd h (by decide)) | skip
  refine z_pop X d_lw_768 rfl ?_
  refine z_goto X d_lw_769 (tgt := 2220) (by decide) ?_
  exact hK wx' wm' hx' hl' hy' (RelQ.of (hR.m.keep hfx hfm (by decide)) (hR.a.keep hfx hfm (by decide)) (hR.d.keep hfx hfm (by decide)) (hR.c.keep hfx hfm (by decide)) (hR.x.keep hfx hfm (by decide)) (hR.b.keep hfx hfm (by decide)) (hR.h.keep hfx hfm (by decide)) (hR.t.keep hfx hfm (by decide)) (hR.k.keep hfx hfm (by decide)))
theorem lc_13 (X : ZC p s m #[Value.ref b] meth c code 8 RL G (fun q : Nat => s.heap.size ≤ q) ret nm) (hX : va_X b L xs s s.heap) (hbl : b < s.heap.size) (hbA : ¬ s.heap.size ≤ b) (hi0 : 0 ≤ i.toInt) (hi1 : i.toInt + 10 ≤ (L : Int) ∧ L ≤ 5120) (hx : CWx G x wx) (hy : MWx G y wm) (hR : RelQ G wx wm) (hc : kc ≤ room_1.cells) (hs : ks ≤ room_1.slots) (hK : ∀ wx' wm', CWx G x wx' → wx'.length = wx.length → MWx G y wm' → RelQ G wx' wm' → Z p l e room_1 s m #[Value.ref b] below meth c 8 G (fun q : Nat => s.heap.size ≤ q) (lw_Z below #[Value.ref b] s) 2220 (lv5 b x y o i) [] (wx' ++ wm' ++ [(o, aJ G 1 f)]) kc ks) : Z p l e room_1 s m #[Value.ref b] below meth c 8 G (fun q : Nat => s.heap.size ≤ q) (lw_Z below #[Value.ref b] s) 772 (lv5 b x y o i) [] (wx ++ wm ++ [(o, aJ G 1 f)]) kc ks := by
  refine z_aload_n X d_lw_772 rfl 1 rfl ?_
  refine z_aload_n X d_lw_773 rfl 0 rfl ?_
  refine z_iload X d_lw_774 4 rfl ?_
  refine z_iconst X d_lw_776 (v := 1) (by decide) ?_
  refine z_iadd X d_lw_777 ?_
  refine z_sld X hX hbl hbA (lw_in hi0 hi1 (k := 1) (by decide) (by decide)) d_lw_778 (v := xs (i + 1).toNatClampNeg) rfl ?_
  refine z_aload_n X d_lw_779 rfl 0 rfl ?_
  refine z_iload X d_lw_780 4 rfl ?_
  refine z_iconst X d_lw_782 (v := 2) (by decide) ?_
  refine z_iadd X d_lw_783 ?_
  refine z_sld X hX hbl hbA (lw_in hi0 hi1 (k := 2) (by decide) (by decide)) d_lw_784 (v := xs (i + 2).toNatClampNeg) rfl ?_
  refine z_aload_n X d_lw_785 rfl 0 rfl ?_
  refine z_iload X d_lw_786 4 rfl ?_
  refine z_iconst X d_lw_788 (v := 3) (by decide) ?_
  refine z_iadd X d_lw_789 ?_
  refine z_sld X hX hbl hbA (lw_in hi0 hi1 (k := 3) (by decide) (by decide)) d_lw_790 (v := xs (i + 3).toNatClampNeg) rfl ?_
  refine z_aload_n X d_lw_791 rfl 0 rfl ?_
  refine z_iload X d_lw_792 4 rfl ?_
  refine z_iconst X d_lw_794 (v := 4) (by decide) ?_
  refine z_iadd X d_lw_795 ?_
  refine z_sld X hX hbl hbA (lw_in hi0 hi1 (k := 4) (by decide) (by decide)) d_lw_796 (v := xs (i + 4).toNatClampNeg) rfl ?_
  rw [List.append_assoc]
  refine cx_callF (k := 0) (rest := []) (As := [.int (xs (i + 1).toNatClampNeg), .int (xs (i + 2).toNatClampNeg), .int (xs (i + 3).toNatClampNeg), .int (xs (i + 4).toNatClampNeg)]) (μ := (fun k => ((Value.ref x :: [.int (xs (i + 1).toNatClampNeg), .int (xs (i + 2).toNatClampNeg), .int (xs (i + 3).toNatClampNeg), .int (xs (i + 4).toNatClampNeg)])[k]?).getD .null)) X k_L_87 (ac_X10_whole_0 l G) (by decide) (by decide) (by decide) hx (fun ad w0 he => pre_mu (C := C_X10_whole_0) (ts := [tI0, tI0, tI0, tI0]) (As := [.int (xs (i + 1).toNatClampNeg), .int (xs (i + 2).toNatClampNeg), .int (xs (i + 3).toNatClampNeg), .int (xs (i + 4).toNatClampNeg)]) rfl rfl rfl rfl ⟨fun _ => vty_i0 _, fun _ => vty_i0 _, fun _ => vty_i0 _, fun _ => vty_i0 _, trivial⟩ ad w0 he) rfl d_lw_797 ⟨by decide, by decide⟩ ⟨hc, hs⟩ rfl rfl (by decide) rfl (fun r wx' hr hx' hl' hfx => ?_)
  rw [← List.append_assoc]
  rcases hr with ⟨h, -⟩ | ⟨-, v, rfl⟩ | ⟨h, -⟩
  all_goals first | (exact absurd h (by decide)) | skip
  refine z_pop X d_lw_800 rfl ?_
  refine z_aload_n X d_lw_801 rfl 2 rfl ?_
  refine z_aload_n X d_lw_802 rfl 0 rfl ?_
  refine z_iload X d_lw_803 4 rfl ?_
  refine z_iconst X d_lw_805 (v := 1) (by decide) ?_
  refine z_iadd X d_lw_806 ?_
  refine z_sld X hX hbl hbA (lw_in hi0 hi1 (k := 1) (by decide) (by decide)) d_lw_807 (v := xs (i + 1).toNatClampNeg) rfl ?_
  refine z_aload_n X d_lw_808 rfl 0 rfl ?_
  refine z_iload X d_lw_809 4 rfl ?_
  refine z_iconst X d_lw_811 (v := 2) (by decide) ?_
  refine z_iadd X d_lw_812 ?_
  refine z_sld X hX hbl hbA (lw_in hi0 hi1 (k := 2) (by decide) (by decide)) d_lw_813 (v := xs (i + 2).toNatClampNeg) rfl ?_
  refine z_aload_n X d_lw_814 rfl 0 rfl ?_
  refine z_iload X d_lw_815 4 rfl ?_
  refine z_iconst X d_lw_817 (v := 3) (by decide) ?_
  refine z_iadd X d_lw_818 ?_
  refine z_sld X hX hbl hbA (lw_in hi0 hi1 (k := 3) (by decide) (by decide)) d_lw_819 (v := xs (i + 3).toNatClampNeg) rfl ?_
  refine z_aload_n X d_lw_820 rfl 0 rfl ?_
  refine z_iload X d_lw_821 4 rfl ?_
  refine z_iconst X d_lw_823 (v := 4) (by decide) ?_
  refine z_iadd X d_lw_824 ?_
  refine z_sld X hX hbl hbA (lw_in hi0 hi1 (k := 4) (by decide) (by decide)) d_lw_825 (v := xs (i + 4).toNatClampNeg) rfl ?_
  refine mx_callF (k := 0) (wa := wx') (rest := []) (As := [.int (xs (i + 1).toNatClampNeg), .int (xs (i + 2).toNatClampNeg), .int (xs (i + 3).toNatClampNeg), .int (xs (i + 4).toNatClampNeg)]) (μ := (fun k => ((Value.ref y :: [.int (xs (i + 1).toNatClampNeg), .int (xs (i + 2).toNatClampNeg), .int (xs (i + 3).toNatClampNeg), .int (xs (i + 4).toNatClampNeg)])[k]?).getD .null)) X k_L_90 (ac_X11_whole_0 l G) (by decide) (by decide) hy (fun ad w0 he => pre_mu (C := C_X11_whole_0) (ts := [tI0, tI0, tI0, tI0]) (As := [.int (xs (i + 1).toNatClampNeg), .int (xs (i + 2).toNatClampNeg), .int (xs (i + 3).toNatClampNeg), .int (xs (i + 4).toNatClampNeg)]) rfl rfl rfl rfl ⟨fun _ => vty_i0 _, fun _ => vty_i0 _, fun _ => vty_i0 _, fun _ => vty_i0 _, trivial⟩ ad w0 he) rfl d_lw_826 ⟨by decide, by decide⟩ ⟨hc, hs⟩ rfl rfl (Nat.le_of_ble_eq_true rfl) rfl (fun r wm' hr hy' hfm => ?_)
  rcases hr with ⟨h, -⟩ | ⟨-, v, rfl⟩ | ⟨h, -⟩
  all_goals first | (exact absurd h (by decide)) | skip
  refine z_pop X d_lw_829 rfl ?_
  refine z_goto X d_lw_830 (tgt := 2220) (by decide) ?_
  exact hK wx' wm' hx' hl' hy' (RelQ.of (hR.m.keep hfx hfm (by decide)) (hR.a.keep hfx hfm (by decide)) (hR.d.keep hfx hfm (by decide)) (hR.c.keep hfx hfm (by decide)) (hR.x.keep hfx hfm (by decide)) (hR.b.keep hfx hfm (by decide)) (hR.h.keep hfx hfm (by decide)) (hR.t.keep hfx hfm (by decide)) (hR.k.keep hfx hfm (by decide)))
theorem lc_14 (X : ZC p s m #[Value.ref b] meth c code 8 RL G (fun q : Nat => s.heap.size ≤ q) ret nm) (hX : va_X b L xs s s.heap) (hbl : b < s.heap.size) (hbA : ¬ s.heap.size ≤ b) (hi0 : 0 ≤ i.toInt) (hi1 : i.toInt + 10 ≤ (L : Int) ∧ L ≤ 5120) (hx : CWx G x wx) (hy : MWx G y wm) (hR : RelQ G wx wm) (hc : kc ≤ room_1.cells) (hs : ks ≤ room_1.slots) (hK : ∀ wx' wm', CWx G x wx' → wx'.length = wx.length → MWx G y wm' → RelQ G wx' wm' → Z p l e room_1 s m #[Value.ref b] below meth c 8 G (fun q : Nat => s.heap.size ≤ q) (lw_Z below #[Value.ref b] s) 2220 (lv5 b x y o i) [] (wx' ++ wm' ++ [(o, aJ G 1 f)]) kc ks) : Z p l e room_1 s m #[Value.ref b] below meth c 8 G (fun q : Nat => s.heap.size ≤ q) (lw_Z below #[Value.ref b] s) 833 (lv5 b x y o i) [] (wx ++ wm ++ [(o, aJ G 1 f)]) kc ks := by
  refine z_aload_n X d_lw_833 rfl 1 rfl ?_
  refine z_aload_n X d_lw_834 rfl 0 rfl ?_
  refine z_iload X d_lw_835 4 rfl ?_
  refine z_iconst X d_lw_837 (v := 1) (by decide) ?_
  refine z_iadd X d_lw_838 ?_
  refine z_sld X hX hbl hbA (lw_in hi0 hi1 (k := 1) (by decide) (by decide)) d_lw_839 (v := xs (i + 1).toNatClampNeg) rfl ?_
  refine z_aload_n X d_lw_840 rfl 0 rfl ?_
  refine z_iload X d_lw_841 4 rfl ?_
  refine z_iconst X d_lw_843 (v := 2) (by decide) ?_
  refine z_iadd X d_lw_844 ?_
  refine z_sld X hX hbl hbA (lw_in hi0 hi1 (k := 2) (by decide) (by decide)) d_lw_845 (v := xs (i + 2).toNatClampNeg) rfl ?_
  refine z_aload_n X d_lw_846 rfl 0 rfl ?_
  refine z_iload X d_lw_847 4 rfl ?_
  refine z_iconst X d_lw_849 (v := 3) (by decide) ?_
  refine z_iadd X d_lw_850 ?_
  refine z_sld X hX hbl hbA (lw_in hi0 hi1 (k := 3) (by decide) (by decide)) d_lw_851 (v := xs (i + 3).toNatClampNeg) rfl ?_
  rw [List.append_assoc]
  refine cx_callF (k := 0) (rest := []) (As := [.int (xs (i + 1).toNatClampNeg), .int (xs (i + 2).toNatClampNeg), .int (xs (i + 3).toNatClampNeg)]) (μ := (fun k => ((Value.ref x :: [.int (xs (i + 1).toNatClampNeg), .int (xs (i + 2).toNatClampNeg), .int (xs (i + 3).toNatClampNeg)])[k]?).getD .null)) X k_L_91 (ac_X10_much_0 l G) (by decide) (by decide) (by decide) hx (fun ad w0 he => pre_mu (C := C_X10_much_0) (ts := [tI0, tI0, tI0]) (As := [.int (xs (i + 1).toNatClampNeg), .int (xs (i + 2).toNatClampNeg), .int (xs (i + 3).toNatClampNeg)]) rfl rfl rfl rfl ⟨fun _ => vty_i0 _, fun _ => vty_i0 _, fun _ => vty_i0 _, trivial⟩ ad w0 he) rfl d_lw_852 ⟨by decide, by decide⟩ ⟨hc, hs⟩ rfl rfl (by decide) rfl (fun r wx' hr hx' hl' hfx => ?_)
  rw [← List.append_assoc]
  rcases hr with ⟨h, -⟩ | ⟨-, v, rfl⟩ | ⟨h, -⟩
  all_goals first | (exact absurd h (by decide)) | skip
  refine z_pop X d_lw_855 rfl ?_
  refine z_aload_n X d_lw_856 rfl 2 rfl ?_
  refine z_aload_n X d_lw_857 rfl 0 rfl ?_
  refine z_iload X d_lw_858 4 rfl ?_
  refine z_iconst X d_lw_860 (v := 1) (by decide) ?_
  refine z_iadd X d_lw_861 ?_
  refine z_sld X hX hbl hbA (lw_in hi0 hi1 (k := 1) (by decide) (by decide)) d_lw_862 (v := xs (i + 1).toNatClampNeg) rfl ?_
  refine z_aload_n X d_lw_863 rfl 0 rfl ?_
  refine z_iload X d_lw_864 4 rfl ?_
  refine z_iconst X d_lw_866 (v := 2) (by decide) ?_
  refine z_iadd X d_lw_867 ?_
  refine z_sld X hX hbl hbA (lw_in hi0 hi1 (k := 2) (by decide) (by decide)) d_lw_868 (v := xs (i + 2).toNatClampNeg) rfl ?_
  refine z_aload_n X d_lw_869 rfl 0 rfl ?_
  refine z_iload X d_lw_870 4 rfl ?_
  refine z_iconst X d_lw_872 (v := 3) (by decide) ?_
  refine z_iadd X d_lw_873 ?_
  refine z_sld X hX hbl hbA (lw_in hi0 hi1 (k := 3) (by decide) (by decide)) d_lw_874 (v := xs (i + 3).toNatClampNeg) rfl ?_
  refine mx_callF (k := 0) (wa := wx') (rest := []) (As := [.int (xs (i + 1).toNatClampNeg), .int (xs (i + 2).toNatClampNeg), .int (xs (i + 3).toNatClampNeg)]) (μ := (fun k => ((Value.ref y :: [.int (xs (i + 1).toNatClampNeg), .int (xs (i + 2).toNatClampNeg), .int (xs (i + 3).toNatClampNeg)])[k]?).getD .null)) X k_L_94 (ac_X11_much_0 l G) (by decide) (by decide) hy (fun ad w0 he => pre_mu (C := C_X11_much_0) (ts := [tI0, tI0, tI0]) (As := [.int (xs (i + 1).toNatClampNeg), .int (xs (i + 2).toNatClampNeg), .int (xs (i + 3).toNatClampNeg)]) rfl rfl rfl rfl ⟨fun _ => vty_i0 _, fun _ => vty_i0 _, fun _ => vty_i0 _, trivial⟩ ad w0 he) rfl d_lw_875 ⟨by decide, by decide⟩ ⟨hc, hs⟩ rfl rfl (Nat.le_of_ble_eq_true rfl) rfl (fun r wm' hr hy' hfm => ?_)
  rcases hr with ⟨h, -⟩ | ⟨-, v, rfl⟩ | ⟨h, -⟩
  all_goals first | (exact absurd h (by decide)) | skip
  refine z_pop X d_lw_878 rfl ?_
  refine z_goto X d_lw_879 (tgt := 2220) (by decide) ?_
  exact hK wx' wm' hx' hl' hy' (RelQ.of (hR.m.keep hfx hfm (by decide)) (hR.a.keep hfx hfm (by decide)) (hR.d.keep hfx hfm (by decide)) (hR.c.keep hfx hfm (by decide)) (hR.x.keep hfx hfm (by decide)) (hR.b.keep hfx hfm (by decide)) (hR.h.keep hfx hfm (by decide)) (hR.t.keep hfx hfm (by decide)) (hR.k.keep hfx hfm (by decide)))
theorem lc_15 (X : ZC p s m #[Value.ref b] meth c code 8 RL G (fun q : Nat => s.heap.size ≤ q) ret nm) (hX : va_X b L xs s s.heap) (hbl : b < s.heap.size) (hbA : ¬ s.heap.size ≤ b) (hi0 : 0 ≤ i.toInt) (hi1 : i.toInt + 10 ≤ (L : Int) ∧ L ≤ 5120) (hx : CWx G x wx) (hy : MWx G y wm) (hR : RelQ G wx wm) (hc : kc ≤ room_1.cells) (hs : ks ≤ room_1.slots) (hK : ∀ wx' wm', CWx G x wx' → wx'.length = wx.length → MWx G y wm' → RelQ G wx' wm' → Z p l e room_1 s m #[Value.ref b] below meth c 8 G (fun q : Nat => s.heap.size ≤ q) (lw_Z below #[Value.ref b] s) 2220 (lv5 b x y o i) [] (wx' ++ wm' ++ [(o, aJ G 1 f)]) kc ks) : Z p l e room_1 s m #[Value.ref b] below meth c 8 G (fun q : Nat => s.heap.size ≤ q) (lw_Z below #[Value.ref b] s) 882 (lv5 b x y o i) [] (wx ++ wm ++ [(o, aJ G 1 f)]) kc ks := by
  refine z_aload_n X d_lw_882 rfl 1 rfl ?_
  rw [List.append_assoc]
  refine cx_callF (k := 0) (rest := []) (As := []) (μ := (fun k => ((Value.ref x :: [])[k]?).getD .null)) X k_L_95 (ac_X10_drop_0 l G) (by decide) (by decide) (by decide) hx (fun ad w0 he => pre_mu (C := C_X10_drop_0) (ts := []) (As := []) rfl rfl rfl rfl trivial ad w0 he) rfl d_lw_883 ⟨by decide, by decide⟩ ⟨hc, hs⟩ rfl rfl (by decide) rfl (fun r wx' hr hx' hl' hfx => ?_)
  rw [← List.append_assoc]
  rcases hr with ⟨h, -⟩ | ⟨-, v, rfl⟩ | ⟨h, -⟩
  all_goals first | (exact absurd h (by decide)) | skip
  refine z_pop X d_lw_886 rfl ?_
  refine z_aload_n X d_lw_887 rfl 2 rfl ?_
  refine mx_callF (k := 0) (wa := wx') (rest := []) (As := []) (μ := (fun k => ((Value.ref y :: [])[k]?).getD .null)) X k_L_98 (ac_X11_drop_0 l G) (by decide) (by decide) hy (fun ad w0 he => pre_mu (C := C_X11_drop_0) (ts := []) (As := []) rfl rfl rfl rfl trivial ad w0 he) rfl d_lw_888 ⟨by decide, by decide⟩ ⟨hc, hs⟩ rfl rfl (Nat.le_of_ble_eq_true rfl) rfl (fun r wm' hr hy' hfm => ?_)
  rcases hr with ⟨h, -⟩ | ⟨-, v, rfl⟩ | ⟨h, -⟩
  all_goals first | (exact absurd h (by decide)) | skip
  refine z_pop X d_lw_891 rfl ?_
  refine z_goto X d_lw_892 (tgt := 2220) (by decide) ?_
  exact hK wx' wm' hx' hl' hy' (RelQ.of (hR.m.keep hfx hfm (by decide)) (hR.a.keep hfx hfm (by decide)) (hR.d.keep hfx hfm (by decide)) (hR.c.keep hfx hfm (by decide)) (hR.x.keep hfx hfm (by decide)) (hR.b.keep hfx hfm (by decide)) (hR.h.keep hfx hfm (by decide)) (hR.t.keep hfx hfm (by decide)) (hR.k.keep hfx hfm (by decide)))
theorem lc_16 (X : ZC p s m #[Value.ref b] meth c code 8 RL G (fun q : Nat => s.heap.size ≤ q) ret nm) (hX : va_X b L xs s s.heap) (hbl : b < s.heap.size) (hbA : ¬ s.heap.size ≤ b) (hi0 : 0 ≤ i.toInt) (hi1 : i.toInt + 10 ≤ (L : Int) ∧ L ≤ 5120) (hx : CWx G x wx) (hy : MWx G y wm) (hR : RelQ G wx wm) (hc : kc ≤ room_1.cells) (hs : ks ≤ room_1.slots) (hK : ∀ wx' wm', CWx G x wx' → wx'.length = wx.length → MWx G y wm' → RelQ G wx' wm' → Z p l e room_1 s m #[Value.ref b] below meth c 8 G (fun q : Nat => s.heap.size ≤ q) (lw_Z below #[Value.ref b] s) 2220 (lv5 b x y o i) [] (wx' ++ wm' ++ [(o, aJ G 1 f)]) kc ks) : Z p l e room_1 s m #[Value.ref b] below meth c 8 G (fun q : Nat => s.heap.size ≤ q) (lw_Z below #[Value.ref b] s) 895 (lv5 b x y o i) [] (wx ++ wm ++ [(o, aJ G 1 f)]) kc ks := by
  refine z_aload_n X d_lw_895 rfl 1 rfl ?_
  rw [List.append_assoc]
  refine cx_callF (k := 0) (rest := []) (As := []) (μ := (fun k => ((Value.ref x :: [])[k]?).getD .null)) X k_L_99 (ac_X10_which_0 l G) (by decide) (by decide) (by decide) hx (fun ad w0 he => pre_mu (C := C_X10_which_0) (ts := []) (As := []) rfl rfl rfl rfl trivial ad w0 he) rfl d_lw_896 ⟨by decide, by decide⟩ ⟨hc, hs⟩ rfl rfl (by decide) rfl (fun r wx' hr hx' hl' hfx => ?_)
  rw [← List.append_assoc]
  rcases hr with ⟨h, -⟩ | ⟨-, v, rfl⟩ | ⟨h, -⟩
  all_goals first | (exact absurd h (by decide)) | skip
  refine z_pop X d_lw_899 rfl ?_
  refine z_aload_n X d_lw_900 rfl 2 rfl ?_
  refine mx_callF (k := 0) (wa := wx') (rest := []) (As := []) (μ := (fun k => ((Value.ref y :: [])[k]?).getD .null)) X k_L_102 (ac_X11_which_0 l G) (by decide) (by decide) hy (fun ad w0 he => pre_mu (C := C_X11_which_0) (ts := []) (As := []) rfl rfl rfl rfl trivial ad w0 he) rfl d_lw_901 ⟨by decide, by decide⟩ ⟨hc, hs⟩ rfl rfl (Nat.le_of_ble_eq_true rfl) rfl (fun r wm' hr hy' hfm => ?_)
  rcases hr with ⟨h, -⟩ | ⟨-, v, rfl⟩ | ⟨h, -⟩
  all_goals first | (exact absurd h (by decide)) | skip
  refine z_pop X d_lw_904 rfl ?_
  refine z_goto X d_lw_905 (tgt := 2220) (by decide) ?_
  exact hK wx' wm' hx' hl' hy' (RelQ.of (hR.m.keep hfx hfm (by decide)) (hR.a.keep hfx hfm (by decide)) (hR.d.keep hfx hfm (by decide)) (hR.c.keep hfx hfm (by decide)) (hR.x.keep hfx hfm (by decide)) (hR.b.keep hfx hfm (by decide)) (hR.h.keep hfx hfm (by decide)) (hR.t.keep hfx hfm (by decide)) (hR.k.keep hfx hfm (by decide)))
end LWC
end
section
/-! the law: its cases, the relation kept -/
section LWC
variable {p : Program} {l : Launch} {e : Env} {s : State} {m : MethodId} {below : List Frame} {meth : Method} {c : Code} {G : KG} {nm : String} {b L x y o : Nat} {xs : Nat → Int32} {i : Int32} {f : Nat → Int64} {wx wm : va_W} {kc ks : Nat}
theorem lc_17 (X : ZC p s m #[Value.ref b] meth c code 8 RL G (fun q : Nat => s.heap.size ≤ q) ret nm) (hX : va_X b L xs s s.heap) (hbl : b < s.heap.size) (hbA : ¬ s.heap.size ≤ b) (hi0 : 0 ≤ i.toInt) (hi1 : i.toInt + 10 ≤ (L : Int) ∧ L ≤ 5120) (hx : CWx G x wx) (hy : MWx G y wm) (hR : RelQ G wx wm) (hc : kc ≤ room_1.cells) (hs : ks ≤ room_1.slots) (hK : ∀ wx' wm', CWx G x wx' → wx'.length = wx.length → MWx G y wm' → RelQ G wx' wm' → Z p l e room_1 s m #[Value.ref b] below meth c 8 G (fun q : Nat => s.heap.size ≤ q) (lw_Z below #[Value.ref b] s) 2220 (lv5 b x y o i) [] (wx' ++ wm' ++ [(o, aJ G 1 f)]) kc ks) : Z p l e room_1 s m #[Value.ref b] below meth c 8 G (fun q : Nat => s.heap.size ≤ q) (lw_Z below #[Value.ref b] s) 908 (lv5 b x y o i) [] (wx ++ wm ++ [(o, aJ G 1 f)]) kc ks := by
  refine z_aload_n X d_lw_908 rfl 1 rfl ?_
  rw [List.append_assoc]
  refine cx_callF (k := 0) (rest := []) (As := []) (μ := (fun k => ((Value.ref x :: [])[k]?).getD .null)) X k_L_103 (ac_X10_ends_0 l G) (by decide) (by decide) (by decide) hx (fun ad w0 he => pre_mu (C := C_X10_ends_0) (ts := []) (As := []) rfl rfl rfl rfl trivial ad w0 he) rfl d_lw_909 ⟨by decide, by decide⟩ ⟨hc, hs⟩ rfl rfl (by decide) rfl (fun r wx' hr hx' hl' hfx => ?_)
  rw [← List.append_assoc]
  rcases hr with ⟨h, -⟩ | ⟨-, v, rfl⟩ | ⟨h, -⟩
  all_goals first | (exact absurd h (by decide)) | skip
  refine z_pop X d_lw_912 rfl ?_
  refine z_aload_n X d_lw_913 rfl 2 rfl ?_
  refine mx_callF (k := 0) (wa := wx') (rest := []) (As := []) (μ := (fun k => ((Value.ref y :: [])[k]?).getD .null)) X k_L_106 (ac_X11_ends_0 l G) (by decide) (by decide) hy (fun ad w0 he => pre_mu (C := C_X11_ends_0) (ts := []) (As := []) rfl rfl rfl rfl trivial ad w0 he) rfl d_lw_914 ⟨by decide, by decide⟩ ⟨hc, hs⟩ rfl rfl (Nat.le_of_ble_eq_true rfl) rfl (fun r wm' hr hy' hfm => ?_)
  rcases hr with ⟨h, -⟩ | ⟨-, v, rfl⟩ | ⟨h, -⟩
  all_goals first | (exact absurd h (by decide)) | skip
  refine z_pop X d_lw_917 rfl ?_
  refine z_goto X d_lw_918 (tgt := 2220) (by decide) ?_
  exact hK wx' wm' hx' hl' hy' (RelQ.of (hR.m.keep hfx hfm (by decide)) (hR.a.keep hfx hfm (by decide)) (hR.d.keep hfx hfm (by decide)) (hR.c.keep hfx hfm (by decide)) (hR.x.keep hfx hfm (by decide)) (hR.b.keep hfx hfm (by decide)) (hR.h.keep hfx hfm (by decide)) (hR.t.keep hfx hfm (by decide)) (hR.k.keep hfx hfm (by decide)))
theorem lc_18 (X : ZC p s m #[Value.ref b] meth c code 8 RL G (fun q : Nat => s.heap.size ≤ q) ret nm) (hX : va_X b L xs s s.heap) (hbl : b < s.heap.size) (hbA : ¬ s.heap.size ≤ b) (hi0 : 0 ≤ i.toInt) (hi1 : i.toInt + 10 ≤ (L : Int) ∧ L ≤ 5120) (hx : CWx G x wx) (hy : MWx G y wm) (hR : RelQ G wx wm) (hc : kc ≤ room_1.cells) (hs : ks ≤ room_1.slots) (hK : ∀ wx' wm', CWx G x wx' → wx'.length = wx.length → MWx G y wm' → RelQ G wx' wm' → Z p l e room_1 s m #[Value.ref b] below meth c 8 G (fun q : Nat => s.heap.size ≤ q) (lw_Z below #[Value.ref b] s) 2220 (lv5 b x y o i) [] (wx' ++ wm' ++ [(o, aJ G 1 f)]) kc ks) : Z p l e room_1 s m #[Value.ref b] below meth c 8 G (fun q : Nat => s.heap.size ≤ q) (lw_Z below #[Value.ref b] s) 921 (lv5 b x y o i) [] (wx ++ wm ++ [(o, aJ G 1 f)]) kc ks := by
  refine z_aload_n X d_lw_921 rfl 1 rfl ?_
  refine z_aload_n X d_lw_922 rfl 0 rfl ?_
  refine z_iload X d_lw_923 4 rfl ?_
  refine z_iconst X d_lw_925 (v := 1) (by decide) ?_
  refine z_iadd X d_lw_926 ?_
  refine z_sld X hX hbl hbA (lw_in hi0 hi1 (k := 1) (by decide) (by decide)) d_lw_927 (v := xs (i + 1).toNatClampNeg) rfl ?_
  refine z_aload_n X d_lw_928 rfl 0 rfl ?_
  refine z_iload X d_lw_929 4 rfl ?_
  refine z_iconst X d_lw_931 (v := 2) (by decide) ?_
  refine z_iadd X d_lw_932 ?_
  refine z_sld X hX hbl hbA (lw_in hi0 hi1 (k := 2) (by decide) (by decide)) d_lw_933 (v := xs (i + 2).toNatClampNeg) rfl ?_
  rw [List.append_assoc]
  refine cx_callF (k := 0) (rest := []) (As := [.int (xs (i + 1).toNatClampNeg), .int (xs (i + 2).toNatClampNeg)]) (μ := (fun k => ((Value.ref x :: [.int (xs (i + 1).toNatClampNeg), .int (xs (i + 2).toNatClampNeg)])[k]?).getD .null)) X k_L_107 (ac_X10_judge_0 l G) (by decide) (by decide) (by decide) hx (fun ad w0 he => pre_mu (C := C_X10_judge_0) (ts := [tI0, tI0]) (As := [.int (xs (i + 1).toNatClampNeg), .int (xs (i + 2).toNatClampNeg)]) rfl rfl rfl rfl ⟨fun _ => vty_i0 _, fun _ => vty_i0 _, trivial⟩ ad w0 he) rfl d_lw_934 ⟨by decide, by decide⟩ ⟨hc, hs⟩ rfl rfl (by decide) rfl (fun r wx' hr hx' hl' hfx => ?_)
  rw [← List.append_assoc]
  rcases hr with ⟨h, -⟩ | ⟨-, v, rfl⟩ | ⟨h, -⟩
  all_goals first | (exact absurd h (by decide)) | skip
  refine z_pop X d_lw_937 rfl ?_
  refine z_aload_n X d_lw_938 rfl 2 rfl ?_
  refine z_aload_n X d_lw_939 rfl 0 rfl ?_
  refine z_iload X d_lw_940 4 rfl ?_
  refine z_iconst X d_lw_942 (v := 1) (by decide) ?_
  refine z_iadd X d_lw_943 ?_
  refine z_sld X hX hbl hbA (lw_in hi0 hi1 (k := 1) (by decide) (by decide)) d_lw_944 (v := xs (i + 1).toNatClampNeg) rfl ?_
  refine z_aload_n X d_lw_945 rfl 0 rfl ?_
  refine z_iload X d_lw_946 4 rfl ?_
  refine z_iconst X d_lw_948 (v := 2) (by decide) ?_
  refine z_iadd X d_lw_949 ?_
  refine z_sld X hX hbl hbA (lw_in hi0 hi1 (k := 2) (by decide) (by decide)) d_lw_950 (v := xs (i + 2).toNatClampNeg) rfl ?_
  refine mx_callF (k := 0) (wa := wx') (rest := []) (As := [.int (xs (i + 1).toNatClampNeg), .int (xs (i + 2).toNatClampNeg)]) (μ := (fun k => ((Value.ref y :: [.int (xs (i + 1).toNatClampNeg), .int (xs (i + 2).toNatClampNeg)])[k]?).getD .null)) X k_L_110 (ac_X11_judge_0 l G) (by decide) (by decide) hy (fun ad w0 he => pre_mu (C := C_X11_judge_0) (ts := [tI0, tI0]) (As := [.int (xs (i + 1).toNatClampNeg), .int (xs (i + 2).toNatClampNeg)]) rfl rfl rfl rfl ⟨fun _ => vty_i0 _, fun _ => vty_i0 _, trivial⟩ ad w0 he) rfl d_lw_951 ⟨by decide, by decide⟩ ⟨hc, hs⟩ rfl rfl (Nat.le_of_ble_eq_true rfl) rfl (fun r wm' hr hy' hfm => ?_)
  rcases hr with ⟨h, -⟩ | ⟨-, v, rfl⟩ | ⟨h, -⟩
  all_goals first | (exact absurd h (by decide)) | skip
  refine z_pop X d_lw_954 rfl ?_
  refine z_goto X d_lw_955 (tgt := 2220) (by decide) ?_
  exact hK wx' wm' hx' hl' hy' (RelQ.of (hR.m.keep hfx hfm (by decide)) (hR.a.keep hfx hfm (by decide)) (hR.d.keep hfx hfm (by decide)) (hR.c.keep hfx hfm (by decide)) (hR.x.keep hfx hfm (by decide)) (hR.b.keep hfx hfm (by decide)) (hR.h.keep hfx hfm (by decide)) (hR.t.keep hfx hfm (by decide)) (hR.k.keep hfx hfm (by decide)))
theorem lc_19 (X : ZC p s m #[Value.ref b] meth c code 8 RL G (fun q : Nat => s.heap.size ≤ q) ret nm) (hX : va_X b L xs s s.heap) (hbl : b < s.heap.size) (hbA : ¬ s.heap.size ≤ b) (hi0 : 0 ≤ i.toInt) (hi1 : i.toInt + 10 ≤ (L : Int) ∧ L ≤ 5120) (hx : CWx G x wx) (hy : MWx G y wm) (hR : RelQ G wx wm) (hc : kc ≤ room_1.cells) (hs : ks ≤ room_1.slots) (hK : ∀ wx' wm', CWx G x wx' → wx'.length = wx.length → MWx G y wm' → RelQ G wx' wm' → Z p l e room_1 s m #[Value.ref b] below meth c 8 G (fun q : Nat => s.heap.size ≤ q) (lw_Z below #[Value.ref b] s) 2220 (lv5 b x y o i) [] (wx' ++ wm' ++ [(o, aJ G 1 f)]) kc ks) : Z p l e room_1 s m #[Value.ref b] below meth c 8 G (fun q : Nat => s.heap.size ≤ q) (lw_Z below #[Value.ref b] s) 958 (lv5 b x y o i) [] (wx ++ wm ++ [(o, aJ G 1 f)]) kc ks := by
  refine z_aload_n X d_lw_958 rfl 1 rfl ?_
  rw [List.append_assoc]
  refine cx_callF (k := 0) (rest := []) (As := []) (μ := (fun k => ((Value.ref x :: [])[k]?).getD .null)) X k_L_111 (ac_X10_bars_0 l G) (by decide) (by decide) (by decide) hx (fun ad w0 he => pre_mu (C := C_X10_bars_0) (ts := []) (As := []) rfl rfl rfl rfl trivial ad w0 he) rfl d_lw_959 ⟨by decide, by decide⟩ ⟨hc, hs⟩ rfl rfl (by decide) rfl (fun r wx' hr hx' hl' hfx => ?_)
  rw [← List.append_assoc]
  rcases hr with ⟨h, -⟩ | ⟨-, v, rfl⟩ | ⟨h, -⟩
  all_goals first | (exact absurd h (by decide)) | skip
  refine z_pop X d_lw_962 rfl ?_
  refine z_aload_n X d_lw_963 rfl 2 rfl ?_
  refine mx_callF (k := 0) (wa := wx') (rest := []) (As := []) (μ := (fun k => ((Value.ref y :: [])[k]?).getD .null)) X k_L_114 (ac_X11_bars_0 l G) (by decide) (by decide) hy (fun ad w0 he => pre_mu (C := C_X11_bars_0) (ts := []) (As := []) rfl rfl rfl rfl trivial ad w0 he) rfl d_lw_964 ⟨by decide, by decide⟩ ⟨hc, hs⟩ rfl rfl (Nat.le_of_ble_eq_true rfl) rfl (fun r wm' hr hy' hfm => ?_)
  rcases hr with ⟨h, -⟩ | ⟨-, v, rfl⟩ | ⟨h, -⟩
  all_goals first | (exact absurd h (by decide)) | skip
  refine z_pop X d_lw_967 rfl ?_
  refine z_goto X d_lw_968 (tgt := 2220) (by decide) ?_
  exact hK wx' wm' hx' hl' hy' (RelQ.of (hR.m.keep hfx hfm (by decide)) (hR.a.keep hfx hfm (by decide)) (hR.d.keep hfx hfm (by decide)) (hR.c.keep hfx hfm (by decide)) (hR.x.keep hfx hfm (by decide)) (hR.b.keep hfx hfm (by decide)) (hR.h.keep hfx hfm (by decide)) (hR.t.keep hfx hfm (by decide)) (hR.k.keep hfx hfm (by decide)))
theorem lc_20 (X : ZC p s m #[Value.ref b] meth c code 8 RL G (fun q : Nat => s.heap.size ≤ q) ret nm) (hX : va_X b L xs s s.heap) (hbl : b < s.heap.size) (hbA : ¬ s.heap.size ≤ b) (hi0 : 0 ≤ i.toInt) (hi1 : i.toInt + 10 ≤ (L : Int) ∧ L ≤ 5120) (hx : CWx G x wx) (hy : MWx G y wm) (hR : RelQ G wx wm) (hbud : wx.length = 109 → kc + 7 ≤ room_1.cells ∧ ks + 80434 ≤ room_1.slots) (hc : kc ≤ room_1.cells) (hs : ks ≤ room_1.slots) (hK : ∀ (k n : Nat) (wx' wm' : va_W), CWx G x wx' → ((k = 0 ∧ n = 0 ∧ wx'.length = wx.length) ∨ (k = 7 ∧ n = 80434 ∧ wx.length = 109 ∧ wx'.length = 116)) → MWx G y wm' → RelQ G wx' wm' → Z p l e room_1 s m #[Value.ref b] below meth c 8 G (fun q : Nat => s.heap.size ≤ q) (lw_Z below #[Value.ref b] s) 2220 (lv5 b x y o i) [] (wx' ++ wm' ++ [(o, aJ G 1 f)]) (kc + k) (ks + n)) : Z p l e room_1 s m #[Value.ref b] below meth c 8 G (fun q : Nat => s.heap.size ≤ q) (lw_Z below #[Value.ref b] s) 971 (lv5 b x y o i) [] (wx ++ wm ++ [(o, aJ G 1 f)]) kc ks := by
  refine z_aload_n X d_lw_971 rfl 1 rfl ?_
  refine z_aload_n X d_lw_972 rfl 0 rfl ?_
  refine z_iload X d_lw_973 4 rfl ?_
  refine z_iconst X d_lw_975 (v := 1) (by decide) ?_
  refine z_iadd X d_lw_976 ?_
  refine z_sld X hX hbl hbA (lw_in hi0 hi1 (k := 1) (by decide) (by decide)) d_lw_977 (v := xs (i + 1).toNatClampNeg) rfl ?_
  refine z_aload_n X d_lw_978 rfl 0 rfl ?_
  refine z_iload X d_lw_979 4 rfl ?_
  refine z_iconst X d_lw_981 (v := 2) (by decide) ?_
  refine z_iadd X d_lw_982 ?_
  refine z_sld X hX hbl hbA (lw_in hi0 hi1 (k := 2) (by decide) (by decide)) d_lw_983 (v := xs (i + 2).toNatClampNeg) rfl ?_
  rw [List.append_assoc]
  refine cx_growV (rN := rm_nx 7 80434) (rR := rm_nx 0 0) (rest := []) (As := [.int (xs (i + 1).toNatClampNeg), .int (xs (i + 2).toNatClampNeg)]) X k_L_115 (fun ad w0 h1 h2 h3 => ac_nxV l G (xs (i + 1).toNatClampNeg) (xs (i + 2).toNatClampNeg) h1 h2 h3) (fun ad w0 h1 h2 h3 => ac_nxR l G (xs (i + 1).toNatClampNeg) (xs (i + 2).toNatClampNeg) h1 h2 h3) hx d_lw_984 ⟨by decide, by decide⟩ ⟨by decide, by decide⟩ hbud ⟨hc, hs⟩ ⟨rfl, rfl⟩ rfl rfl (by decide) rfl (fun k n v wx' hx' hfx hcost => ?_)
  rw [← List.append_assoc]
  have hcs : kc + k ≤ room_1.cells ∧ ks + n ≤ room_1.slots := by
    rcases hcost with ⟨rfl, rfl, -⟩ | ⟨rfl, rfl, h, -⟩
    · exact ⟨hc, hs⟩
    · exact hbud h
  refine z_pop X d_lw_987 rfl ?_
  refine z_aload_n X d_lw_988 rfl 2 rfl ?_
  refine z_aload_n X d_lw_989 rfl 0 rfl ?_
  refine z_iload X d_lw_990 4 rfl ?_
  refine z_iconst X d_lw_992 (v := 1) (by decide) ?_
  refine z_iadd X d_lw_993 ?_
  refine z_sld X hX hbl hbA (lw_in hi0 hi1 (k := 1) (by decide) (by decide)) d_lw_994 (v := xs (i + 1).toNatClampNeg) rfl ?_
  refine z_aload_n X d_lw_995 rfl 0 rfl ?_
  refine z_iload X d_lw_996 4 rfl ?_
  refine z_iconst X d_lw_998 (v := 2) (by decide) ?_
  refine z_iadd X d_lw_999 ?_
  refine z_sld X hX hbl hbA (lw_in hi0 hi1 (k := 2) (by decide) (by decide)) d_lw_1000 (v := xs (i + 2).toNatClampNeg) rfl ?_
  refine mx_callF (k := 0) (wa := wx') (rest := []) (As := [.int (xs (i + 1).toNatClampNeg), .int (xs (i + 2).toNatClampNeg)]) (μ := (fun k => ((Value.ref y :: [.int (xs (i + 1).toNatClampNeg), .int (xs (i + 2).toNatClampNeg)])[k]?).getD .null)) X k_L_118 (ac_X11_next_0 l G) (by decide) (by decide) hy (fun ad w0 he => pre_mu (C := C_X11_next_0) (ts := [tI0, tI0]) (As := [.int (xs (i + 1).toNatClampNeg), .int (xs (i + 2).toNatClampNeg)]) rfl rfl rfl rfl ⟨fun _ => vty_i0 _, fun _ => vty_i0 _, trivial⟩ ad w0 he) rfl d_lw_1001 ⟨by decide, by decide⟩ hcs rfl rfl (Nat.le_of_ble_eq_true rfl) rfl (fun r wm' hr hy' hfm => ?_)
  rcases hr with ⟨h, -⟩ | ⟨-, v2, rfl⟩ | ⟨h, -⟩
  all_goals first | (exact absurd h (by decide)) | skip
  refine z_pop X d_lw_1004 rfl ?_
  refine z_goto X d_lw_1005 (tgt := 2220) (by decide) ?_
  exact hK k n wx' wm' hx' hcost hy' (RelQ.of (hR.m.keep hfx hfm (by decide)) (hR.a.keep hfx hfm (by decide)) (hR.d.keep hfx hfm (by decide)) (hR.c.keep hfx hfm (by decide)) (hR.x.keep hfx hfm (by decide)) (hR.b.keep hfx hfm (by decide)) (hR.h.keep hfx hfm (by decide)) (hR.t.keep hfx hfm (by decide)) (hR.k.keep hfx hfm (by decide)))
theorem lc_21 (X : ZC p s m #[Value.ref b] meth c code 8 RL G (fun q : Nat => s.heap.size ≤ q) ret nm) (hX : va_X b L xs s s.heap) (hbl : b < s.heap.size) (hbA : ¬ s.heap.size ≤ b) (hi0 : 0 ≤ i.toInt) (hi1 : i.toInt + 10 ≤ (L : Int) ∧ L ≤ 5120) (hx : CWx G x wx) (hy : MWx G y wm) (hR : RelQ G wx wm) (hbud : wx.length = 109 → kc + 7 ≤ room_1.cells ∧ ks + 80434 ≤ room_1.slots) (hc : kc ≤ room_1.cells) (hs : ks ≤ room_1.slots) (hK : ∀ (k n : Nat) (wx' wm' : va_W), CWx G x wx' → ((k = 0 ∧ n = 0 ∧ wx'.length = wx.length) ∨ (k = 7 ∧ n = 80434 ∧ wx.length = 109 ∧ wx'.length = 116)) → MWx G y wm' → RelQ G wx' wm' → Z p l e room_1 s m #[Value.ref b] below meth c 8 G (fun q : Nat => s.heap.size ≤ q) (lw_Z below #[Value.ref b] s) 2220 (lv5 b x y o i) [] (wx' ++ wm' ++ [(o, aJ G 1 f)]) (kc + k) (ks + n)) : Z p l e room_1 s m #[Value.ref b] below meth c 8 G (fun q : Nat => s.heap.size ≤ q) (lw_Z below #[Value.ref b] s) 1008 (lv5 b x y o i) [] (wx ++ wm ++ [(o, aJ G 1 f)]) kc ks := by
  refine z_aload_n X d_lw_1008 rfl 1 rfl ?_
  refine z_aload_n X d_lw_1009 rfl 0 rfl ?_
  refine z_iload X d_lw_1010 4 rfl ?_
  refine z_iconst X d_lw_1012 (v := 1) (by decide) ?_
  refine z_iadd X d_lw_1013 ?_
  refine z_sld X hX hbl hbA (lw_in hi0 hi1 (k := 1) (by decide) (by decide)) d_lw_1014 (v := xs (i + 1).toNatClampNeg) rfl ?_
  refine z_aload_n X d_lw_1015 rfl 0 rfl ?_
  refine z_iload X d_lw_1016 4 rfl ?_
  refine z_iconst X d_lw_1018 (v := 2) (by decide) ?_
  refine z_iadd X d_lw_1019 ?_
  refine z_sld X hX hbl hbA (lw_in hi0 hi1 (k := 2) (by decide) (by decide)) d_lw_1020 (v := xs (i + 2).toNatClampNeg) rfl ?_
  refine z_aload_n X d_lw_1021 rfl 0 rfl ?_
  refine z_iload X d_lw_1022 4 rfl ?_
  refine z_iconst X d_lw_1024 (v := 3) (by decide) ?_
  refine z_iadd X d_lw_1025 ?_
  refine z_sld X hX hbl hbA (lw_in hi0 hi1 (k := 3) (by decide) (by decide)) d_lw_1026 (v := xs (i + 3).toNatClampNeg) rfl ?_
  rw [List.append_assoc]
  refine cx_growV (rN := rm_en 7 80434) (rR := rm_en 0 0) (rest := []) (As := [.int (xs (i + 1).toNatClampNeg), .int (xs (i + 2).toNatClampNeg), .int (xs (i + 3).toNatClampNeg)]) X k_L_119 (fun ad w0 h1 h2 h3 => ac_enV l G (xs (i + 1).toNatClampNeg) (xs (i + 2).toNatClampNeg) (xs (i + 3).toNatClampNeg) h1 h2 h3) (fun ad w0 h1 h2 h3 => ac_enR l G (xs (i + 1).toNatClampNeg) (xs (i + 2).toNatClampNeg) (xs (i + 3).toNatClampNeg) h1 h2 h3) hx d_lw_1027 ⟨by decide, by decide⟩ ⟨by decide, by decide⟩ hbud ⟨hc, hs⟩ ⟨rfl, rfl⟩ rfl rfl (by decide) rfl (fun k n v wx' hx' hfx hcost => ?_)
  rw [← List.append_assoc]
  have hcs : kc + k ≤ room_1.cells ∧ ks + n ≤ room_1.slots := by
    rcases hcost with ⟨rfl, rfl, -⟩ | ⟨rfl, rfl, h, -⟩
    · exact ⟨hc, hs⟩
    · exact hbud h
  refine z_pop X d_lw_1030 rfl ?_
  refine z_aload_n X d_lw_1031 rfl 2 rfl ?_
  refine z_aload_n X d_lw_1032 rfl 0 rfl ?_
  refine z_iload X d_lw_1033 4 rfl ?_
  refine z_iconst X d_lw_1035 (v := 1) (by decide) ?_
  refine z_iadd X d_lw_1036 ?_
  refine z_sld X hX hbl hbA (lw_in hi0 hi1 (k := 1) (by decide) (by decide)) d_lw_1037 (v := xs (i + 1).toNatClampNeg) rfl ?_
  refine z_aload_n X d_lw_1038 rfl 0 rfl ?_
  refine z_iload X d_lw_1039 4 rfl ?_
  refine z_iconst X d_lw_1041 (v := 2) (by decide) ?_
  refine z_iadd X d_lw_1042 ?_
  refine z_sld X hX hbl hbA (lw_in hi0 hi1 (k := 2) (by decide) (by decide)) d_lw_1043 (v := xs (i + 2).toNatClampNeg) rfl ?_
  refine z_aload_n X d_lw_1044 rfl 0 rfl ?_
  refine z_iload X d_lw_1045 4 rfl ?_
  refine z_iconst X d_lw_1047 (v := 3) (by decide) ?_
  refine z_iadd X d_lw_1048 ?_
  refine z_sld X hX hbl hbA (lw_in hi0 hi1 (k := 3) (by decide) (by decide)) d_lw_1049 (v := xs (i + 3).toNatClampNeg) rfl ?_
  refine mx_callF (k := 0) (wa := wx') (rest := []) (As := [.int (xs (i + 1).toNatClampNeg), .int (xs (i + 2).toNatClampNeg), .int (xs (i + 3).toNatClampNeg)]) (μ := (fun k => ((Value.ref y :: [.int (xs (i + 1).toNatClampNeg), .int (xs (i + 2).toNatClampNeg), .int (xs (i + 3).toNatClampNeg)])[k]?).getD .null)) X k_L_122 (ac_X11_enough_0 l G) (by decide) (by decide) hy (fun ad w0 he => pre_mu (C := C_X11_enough_0) (ts := [tI0, tI0, tI0]) (As := [.int (xs (i + 1).toNatClampNeg), .int (xs (i + 2).toNatClampNeg), .int (xs (i + 3).toNatClampNeg)]) rfl rfl rfl rfl ⟨fun _ => vty_i0 _, fun _ => vty_i0 _, fun _ => vty_i0 _, trivial⟩ ad w0 he) rfl d_lw_1050 ⟨by decide, by decide⟩ hcs rfl rfl (Nat.le_of_ble_eq_true rfl) rfl (fun r wm' hr hy' hfm => ?_)
  rcases hr with ⟨h, -⟩ | ⟨-, v2, rfl⟩ | ⟨h, -⟩
  all_goals first | (exact absurd h (by decide)) | skip
  refine z_pop X d_lw_1053 rfl ?_
  refine z_goto X d_lw_1054 (tgt := 2220) (by decide) ?_
  exact hK k n wx' wm' hx' hcost hy' (RelQ.of (hR.m.keep hfx hfm (by decide)) (hR.a.keep hfx hfm (by decide)) (hR.d.keep hfx hfm (by decide)) (hR.c.keep hfx hfm (by decide)) (hR.x.keep hfx hfm (by decide)) (hR.b.keep hfx hfm (by decide)) (hR.h.keep hfx hfm (by decide)) (hR.t.keep hfx hfm (by decide)) (hR.k.keep hfx hfm (by decide)))
theorem lc_22 (X : ZC p s m #[Value.ref b] meth c code 8 RL G (fun q : Nat => s.heap.size ≤ q) ret nm) (hX : va_X b L xs s s.heap) (hbl : b < s.heap.size) (hbA : ¬ s.heap.size ≤ b) (hi0 : 0 ≤ i.toInt) (hi1 : i.toInt + 10 ≤ (L : Int) ∧ L ≤ 5120) (hx : CWx G x wx) (hy : MWx G y wm) (hR : RelQ G wx wm) (hc : kc ≤ room_1.cells) (hs : ks ≤ room_1.slots) (hK : ∀ wx' wm', CWx G x wx' → wx'.length = wx.length → MWx G y wm' → RelQ G wx' wm' → Z p l e room_1 s m #[Value.ref b] below meth c 8 G (fun q : Nat => s.heap.size ≤ q) (lw_Z below #[Value.ref b] s) 2220 (lv5 b x y o i) [] (wx' ++ wm' ++ [(o, aJ G 1 f)]) kc ks) : Z p l e room_1 s m #[Value.ref b] below meth c 8 G (fun q : Nat => s.heap.size ≤ q) (lw_Z below #[Value.ref b] s) 1057 (lv5 b x y o i) [] (wx ++ wm ++ [(o, aJ G 1 f)]) kc ks := by
  refine z_aload_n X d_lw_1057 rfl 1 rfl ?_
  refine z_aload_n X d_lw_1058 rfl 0 rfl ?_
  refine z_iload X d_lw_1059 4 rfl ?_
  refine z_iconst X d_lw_1061 (v := 1) (by decide) ?_
  refine z_iadd X d_lw_1062 ?_
  refine z_sld X hX hbl hbA (lw_in hi0 hi1 (k := 1) (by decide) (by decide)) d_lw_1063 (v := xs (i + 1).toNatClampNeg) rfl ?_
  refine z_aload_n X d_lw_1064 rfl 0 rfl ?_
  refine z_iload X d_lw_1065 4 rfl ?_
  refine z_iconst X d_lw_1067 (v := 2) (by decide) ?_
  refine z_iadd X d_lw_1068 ?_
  refine z_sld X hX hbl hbA (lw_in hi0 hi1 (k := 2) (by decide) (by decide)) d_lw_1069 (v := xs (i + 2).toNatClampNeg) rfl ?_
  refine z_aload_n X d_lw_1070 rfl 0 rfl ?_
  refine z_iload X d_lw_1071 4 rfl ?_
  refine z_iconst X d_lw_1073 (v := 3) (by decide) ?_
  refine z_iadd X d_lw_1074 ?_
  refine z_sld X hX hbl hbA (lw_in hi0 hi1 (k := 3) (by decide) (by decide)) d_lw_1075 (v := xs (i + 3).toNatClampNeg) rfl ?_
  rw [List.append_assoc]
  refine cx_callF (k := 0) (rest := []) (As := [.int (xs (i + 1).toNatClampNeg), .int (xs (i + 2).toNatClampNeg), .int (xs (i + 3).toNatClampNeg)]) (μ := (fun k => ((Value.ref x :: [.int (xs (i + 1).toNatClampNeg), .int (xs (i + 2).toNatClampNeg), .int (xs (i + 3).toNatClampNeg)])[k]?).getD .null)) X k_L_123 (ac_X10_man_0 l G) (by decide) (by decide) (by decide) hx (fun ad w0 he => pre_mu (C := C_X10_man_0) (ts := [tI0, tI0, tI0]) (As := [.int (xs (i + 1).toNatClampNeg), .int (xs (i + 2).toNatClampNeg), .int (xs (i + 3).toNatClampNeg)]) rfl rfl rfl rfl ⟨fun _ => vty_i0 _, fun _ => vty_i0 _, fun _ => vty_i0 _, trivial⟩ ad w0 he) rfl d_lw_1076 ⟨by decide, by decide⟩ ⟨hc, hs⟩ rfl rfl (by decide) rfl (fun r wx' hr hx' hl' hfx => ?_)
  rw [← List.append_assoc]
  rcases hr with ⟨h, -⟩ | ⟨-, v, rfl⟩ | ⟨h, -⟩
  all_goals first | (exact absurd h (by decide)) | skip
  refine z_pop X d_lw_1079 rfl ?_
  refine z_aload_n X d_lw_1080 rfl 2 rfl ?_
  refine z_aload_n X d_lw_1081 rfl 0 rfl ?_
  refine z_iload X d_lw_1082 4 rfl ?_
  refine z_iconst X d_lw_1084 (v := 1) (by decide) ?_
  refine z_iadd X d_lw_1085 ?_
  refine z_sld X hX hbl hbA (lw_in hi0 hi1 (k := 1) (by decide) (by decide)) d_lw_1086 (v := xs (i + 1).toNatClampNeg) rfl ?_
  refine z_aload_n X d_lw_1087 rfl 0 rfl ?_
  refine z_iload X d_lw_1088 4 rfl ?_
  refine z_iconst X d_lw_1090 (v := 2) (by decide) ?_
  refine z_iadd X d_lw_1091 ?_
  refine z_sld X hX hbl hbA (lw_in hi0 hi1 (k := 2) (by decide) (by decide)) d_lw_1092 (v := xs (i + 2).toNatClampNeg) rfl ?_
  refine z_aload_n X d_lw_1093 rfl 0 rfl ?_
  refine z_iload X d_lw_1094 4 rfl ?_
  refine z_iconst X d_lw_1096 (v := 3) (by decide) ?_
  refine z_iadd X d_lw_1097 ?_
  refine z_sld X hX hbl hbA (lw_in hi0 hi1 (k := 3) (by decide) (by decide)) d_lw_1098 (v := xs (i + 3).toNatClampNeg) rfl ?_
  refine mx_callF (k := 0) (wa := wx') (rest := []) (As := [.int (xs (i + 1).toNatClampNeg), .int (xs (i + 2).toNatClampNeg), .int (xs (i + 3).toNatClampNeg)]) (μ := (fun k => ((Value.ref y :: [.int (xs (i + 1).toNatClampNeg), .int (xs (i + 2).toNatClampNeg), .int (xs (i + 3).toNatClampNeg)])[k]?).getD .null)) X k_L_126 (ac_X11_man_0 l G) (by decide) (by decide) hy (fun ad w0 he => pre_mu (C := C_X11_man_0) (ts := [tI0, tI0, tI0]) (As := [.int (xs (i + 1).toNatClampNeg), .int (xs (i + 2).toNatClampNeg), .int (xs (i + 3).toNatClampNeg)]) rfl rfl rfl rfl ⟨fun _ => vty_i0 _, fun _ => vty_i0 _, fun _ => vty_i0 _, trivial⟩ ad w0 he) rfl d_lw_1099 ⟨by decide, by decide⟩ ⟨hc, hs⟩ rfl rfl (Nat.le_of_ble_eq_true rfl) rfl (fun r wm' hr hy' hfm => ?_)
  rcases hr with ⟨h, -⟩ | ⟨-, v, rfl⟩ | ⟨h, -⟩
  all_goals first | (exact absurd h (by decide)) | skip
  refine z_pop X d_lw_1102 rfl ?_
  refine z_goto X d_lw_1103 (tgt := 2220) (by decide) ?_
  exact hK wx' wm' hx' hl' hy' (RelQ.of (hR.m.keep hfx hfm (by decide)) (hR.a.keep hfx hfm (by decide)) (hR.d.keep hfx hfm (by decide)) (hR.c.keep hfx hfm (by decide)) (hR.x.keep hfx hfm (by decide)) (hR.b.keep hfx hfm (by decide)) (hR.h.keep hfx hfm (by decide)) (hR.t.keep hfx hfm (by decide)) (hR.k.keep hfx hfm (by decide)))
theorem lc_23 (X : ZC p s m #[Value.ref b] meth c code 8 RL G (fun q : Nat => s.heap.size ≤ q) ret nm) (hX : va_X b L xs s s.heap) (hbl : b < s.heap.size) (hbA : ¬ s.heap.size ≤ b) (hi0 : 0 ≤ i.toInt) (hi1 : i.toInt + 10 ≤ (L : Int) ∧ L ≤ 5120) (hx : CWx G x wx) (hy : MWx G y wm) (hR : RelQ G wx wm) (hc : kc ≤ room_1.cells) (hs : ks ≤ room_1.slots) (hK : ∀ wx' wm', CWx G x wx' → wx'.length = wx.length → MWx G y wm' → RelQ G wx' wm' → Z p l e room_1 s m #[Value.ref b] below meth c 8 G (fun q : Nat => s.heap.size ≤ q) (lw_Z below #[Value.ref b] s) 2220 (lv5 b x y o i) [] (wx' ++ wm' ++ [(o, aJ G 1 f)]) kc ks) : Z p l e room_1 s m #[Value.ref b] below meth c 8 G (fun q : Nat => s.heap.size ≤ q) (lw_Z below #[Value.ref b] s) 1106 (lv5 b x y o i) [] (wx ++ wm ++ [(o, aJ G 1 f)]) kc ks := by
  refine z_aload_n X d_lw_1106 rfl 1 rfl ?_
  refine z_aload_n X d_lw_1107 rfl 0 rfl ?_
  refine z_iload X d_lw_1108 4 rfl ?_
  refine z_iconst X d_lw_1110 (v := 1) (by decide) ?_
  refine z_iadd X d_lw_1111 ?_
  refine z_sld X hX hbl hbA (lw_in hi0 hi1 (k := 1) (by decide) (by decide)) d_lw_1112 (v := xs (i + 1).toNatClampNeg) rfl ?_
  refine z_aload_n X d_lw_1113 rfl 0 rfl ?_
  refine z_iload X d_lw_1114 4 rfl ?_
  refine z_iconst X d_lw_1116 (v := 2) (by decide) ?_
  refine z_iadd X d_lw_1117 ?_
  refine z_sld X hX hbl hbA (lw_in hi0 hi1 (k := 2) (by decide) (by decide)) d_lw_1118 (v := xs (i + 2).toNatClampNeg) rfl ?_
  rw [List.append_assoc]
  refine cx_callF (k := 0) (rest := []) (As := [.int (xs (i + 1).toNatClampNeg), .int (xs (i + 2).toNatClampNeg)]) (μ := (fun k => ((Value.ref x :: [.int (xs (i + 1).toNatClampNeg), .int (xs (i + 2).toNatClampNeg)])[k]?).getD .null)) X k_L_127 (ac_X10_tells_0 l G) (by decide) (by decide) (by decide) hx (fun ad w0 he => pre_mu (C := C_X10_tells_0) (ts := [tI0, tI0]) (As := [.int (xs (i + 1).toNatClampNeg), .int (xs (i + 2).toNatClampNeg)]) rfl rfl rfl rfl ⟨fun _ => vty_i0 _, fun _ => vty_i0 _, trivial⟩ ad w0 he) rfl d_lw_1119 ⟨by decide, by decide⟩ ⟨hc, hs⟩ rfl rfl (by decide) rfl (fun r wx' hr hx' hl' hfx => ?_)
  rw [← List.append_assoc]
  rcases hr with ⟨h, -⟩ | ⟨-, v, rfl⟩ | ⟨h, -⟩
  all_goals first | (exact absurd h (by decide)) | skip
  refine z_pop X d_lw_1122 rfl ?_
  refine z_aload_n X d_lw_1123 rfl 2 rfl ?_
  refine z_aload_n X d_lw_1124 rfl 0 rfl ?_
  refine z_iload X d_lw_1125 4 rfl ?_
  refine z_iconst X d_lw_1127 (v := 1) (by decide) ?_
  refine z_iadd X d_lw_1128 ?_
  refine z_sld X hX hbl hbA (lw_in hi0 hi1 (k := 1) (by decide) (by decide)) d_lw_1129 (v := xs (i + 1).toNatClampNeg) rfl ?_
  refine z_aload_n X d_lw_1130 rfl 0 rfl ?_
  refine z_iload X d_lw_1131 4 rfl ?_
  refine z_iconst X d_lw_1133 (v := 2) (by decide) ?_
  refine z_iadd X d_lw_1134 ?_
  refine z_sld X hX hbl hbA (lw_in hi0 hi1 (k := 2) (by decide) (by decide)) d_lw_1135 (v := xs (i + 2).toNatClampNeg) rfl ?_
  refine mx_callF (k := 0) (wa := wx') (rest := []) (As := [.int (xs (i + 1).toNatClampNeg), .int (xs (i + 2).toNatClampNeg)]) (μ := (fun k => ((Value.ref y :: [.int (xs (i + 1).toNatClampNeg), .int (xs (i + 2).toNatClampNeg)])[k]?).getD .null)) X k_L_130 (ac_X11_tells_0 l G) (by decide) (by decide) hy (fun ad w0 he => pre_mu (C := C_X11_tells_0) (ts := [tI0, tI0]) (As := [.int (xs (i + 1).toNatClampNeg), .int (xs (i + 2).toNatClampNeg)]) rfl rfl rfl rfl ⟨fun _ => vty_i0 _, fun _ => vty_i0 _, trivial⟩ ad w0 he) rfl d_lw_1136 ⟨by decide, by decide⟩ ⟨hc, hs⟩ rfl rfl (Nat.le_of_ble_eq_true rfl) rfl (fun r wm' hr hy' hfm => ?_)
  rcases hr with ⟨h, -⟩ | ⟨-, v, rfl⟩ | ⟨h, -⟩
  all_goals first | (exact absurd h (by decide)) | skip
  refine z_pop X d_lw_1139 rfl ?_
  refine z_goto X d_lw_1140 (tgt := 2220) (by decide) ?_
  exact hK wx' wm' hx' hl' hy' (RelQ.of (hR.m.keep hfx hfm (by decide)) (hR.a.keep hfx hfm (by decide)) (hR.d.keep hfx hfm (by decide)) (hR.c.keep hfx hfm (by decide)) (hR.x.keep hfx hfm (by decide)) (hR.b.keep hfx hfm (by decide)) (hR.h.keep hfx hfm (by decide)) (hR.t.keep hfx hfm (by decide)) (hR.k.keep hfx hfm (by decide)))
theorem lc_24 (X : ZC p s m #[Value.ref b] meth c code 8 RL G (fun q : Nat => s.heap.size ≤ q) ret nm) (hX : va_X b L xs s s.heap) (hbl : b < s.heap.size) (hbA : ¬ s.heap.size ≤ b) (hi0 : 0 ≤ i.toInt) (hi1 : i.toInt + 10 ≤ (L : Int) ∧ L ≤ 5120) (hx : CWx G x wx) (hy : MWx G y wm) (hR : RelQ G wx wm) (hc : kc ≤ room_1.cells) (hs : ks ≤ room_1.slots) (hK : ∀ wx' wm', CWx G x wx' → wx'.length = wx.length → MWx G y wm' → RelQ G wx' wm' → Z p l e room_1 s m #[Value.ref b] below meth c 8 G (fun q : Nat => s.heap.size ≤ q) (lw_Z below #[Value.ref b] s) 2220 (lv5 b x y o i) [] (wx' ++ wm' ++ [(o, aJ G 1 f)]) kc ks) : Z p l e room_1 s m #[Value.ref b] below meth c 8 G (fun q : Nat => s.heap.size ≤ q) (lw_Z below #[Value.ref b] s) 1143 (lv5 b x y o i) [] (wx ++ wm ++ [(o, aJ G 1 f)]) kc ks := by
  refine z_aload_n X d_lw_1143 rfl 1 rfl ?_
  refine z_aload_n X d_lw_1144 rfl 0 rfl ?_
  refine z_iload X d_lw_1145 4 rfl ?_
  refine z_iconst X d_lw_1147 (v := 1) (by decide) ?_
  refine z_iadd X d_lw_1148 ?_
  refine z_sld X hX hbl hbA (lw_in hi0 hi1 (k := 1) (by decide) (by decide)) d_lw_1149 (v := xs (i + 1).toNatClampNeg) rfl ?_
  refine z_aload_n X d_lw_1150 rfl 0 rfl ?_
  refine z_iload X d_lw_1151 4 rfl ?_
  refine z_iconst X d_lw_1153 (v := 2) (by decide) ?_
  refine z_iadd X d_lw_1154 ?_
  refine z_sld X hX hbl hbA (lw_in hi0 hi1 (k := 2) (by decide) (by decide)) d_lw_1155 (v := xs (i + 2).toNatClampNeg) rfl ?_
  refine z_aload_n X d_lw_1156 rfl 0 rfl ?_
  refine z_iload X d_lw_1157 4 rfl ?_
  refine z_iconst X d_lw_1159 (v := 3) (by decide) ?_
  refine z_iadd X d_lw_1160 ?_
  refine z_sld X hX hbl hbA (lw_in hi0 hi1 (k := 3) (by decide) (by decide)) d_lw_1161 (v := xs (i + 3).toNatClampNeg) rfl ?_
  refine z_aload_n X d_lw_1162 rfl 0 rfl ?_
  refine z_iload X d_lw_1163 4 rfl ?_
  refine z_iconst X d_lw_1165 (v := 4) (by decide) ?_
  refine z_iadd X d_lw_1166 ?_
  refine z_sld X hX hbl hbA (lw_in hi0 hi1 (k := 4) (by decide) (by decide)) d_lw_1167 (v := xs (i + 4).toNatClampNeg) rfl ?_
  rw [List.append_assoc]
  refine cx_callF (k := 0) (rest := []) (As := [.int (xs (i + 1).toNatClampNeg), .int (xs (i + 2).toNatClampNeg), .int (xs (i + 3).toNatClampNeg), .int (xs (i + 4).toNatClampNeg)]) (μ := (fun k => ((Value.ref x :: [.int (xs (i + 1).toNatClampNeg), .int (xs (i + 2).toNatClampNeg), .int (xs (i + 3).toNatClampNeg), .int (xs (i + 4).toNatClampNeg)])[k]?).getD .null)) X k_L_131 (ac_X10_men_0 l G) (by decide) (by decide) (by decide) hx (fun ad w0 he => pre_mu (C := C_X10_men_0) (ts := [tI0, tI0, tI0, tI0]) (As := [.int (xs (i + 1).toNatClampNeg), .int (xs (i + 2).toNatClampNeg), .int (xs (i + 3).toNatClampNeg), .int (xs (i + 4).toNatClampNeg)]) rfl rfl rfl rfl ⟨fun _ => vty_i0 _, fun _ => vty_i0 _, fun _ => vty_i0 _, fun _ => vty_i0 _, trivial⟩ ad w0 he) rfl d_lw_1168 ⟨by decide, by decide⟩ ⟨hc, hs⟩ rfl rfl (by decide) rfl (fun r wx' hr hx' hl' hfx => ?_)
  rw [← List.append_assoc]
  rcases hr with ⟨h, -⟩ | ⟨-, v, rfl⟩ | ⟨h, -⟩
  all_goals first | (exact absurd h (by decide)) | skip
  refine z_pop X d_lw_1171 rfl ?_
  refine z_aload_n X d_lw_1172 rfl 2 rfl ?_
  refine z_aload_n X d_lw_1173 rfl 0 rfl ?_
  refine z_iload X d_lw_1174 4 rfl ?_
  refine z_iconst X d_lw_1176 (v := 1) (by decide) ?_
  refine z_iadd X d_lw_1177 ?_
  refine z_sld X hX hbl hbA (lw_in hi0 hi1 (k := 1) (by decide) (by decide)) d_lw_1178 (v := xs (i + 1).toNatClampNeg) rfl ?_
  refine z_aload_n X d_lw_1179 rfl 0 rfl ?_
  refine z_iload X d_lw_1180 4 rfl ?_
  refine z_iconst X d_lw_1182 (v := 2) (by decide) ?_
  refine z_iadd X d_lw_1183 ?_
  refine z_sld X hX hbl hbA (lw_in hi0 hi1 (k := 2) (by decide) (by decide)) d_lw_1184 (v := xs (i + 2).toNatClampNeg) rfl ?_
  refine z_aload_n X d_lw_1185 rfl 0 rfl ?_
  refine z_iload X d_lw_1186 4 rfl ?_
  refine z_iconst X d_lw_1188 (v := 3) (by decide) ?_
  refine z_iadd X d_lw_1189 ?_
  refine z_sld X hX hbl hbA (lw_in hi0 hi1 (k := 3) (by decide) (by decide)) d_lw_1190 (v := xs (i + 3).toNatClampNeg) rfl ?_
  refine z_aload_n X d_lw_1191 rfl 0 rfl ?_
  refine z_iload X d_lw_1192 4 rfl ?_
  refine z_iconst X d_lw_1194 (v := 4) (by decide) ?_
  refine z_iadd X d_lw_1195 ?_
  refine z_sld X hX hbl hbA (lw_in hi0 hi1 (k := 4) (by decide) (by decide)) d_lw_1196 (v := xs (i + 4).toNatClampNeg) rfl ?_
  refine mx_callF (k := 0) (wa := wx') (rest := []) (As := [.int (xs (i + 1).toNatClampNeg), .int (xs (i + 2).toNatClampNeg), .int (xs (i + 3).toNatClampNeg), .int (xs (i + 4).toNatClampNeg)]) (μ := (fun k => ((Value.ref y :: [.int (xs (i + 1).toNatClampNeg), .int (xs (i + 2).toNatClampNeg), .int (xs (i + 3).toNatClampNeg), .int (xs (i + 4).toNatClampNeg)])[k]?).getD .null)) X k_L_134 (ac_X11_men_0 l G) (by decide) (by decide) hy (fun ad w0 he => pre_mu (C := C_X11_men_0) (ts := [tI0, tI0, tI0, tI0]) (As := [.int (xs (i + 1).toNatClampNeg), .int (xs (i + 2).toNatClampNeg), .int (xs (i + 3).toNatClampNeg), .int (xs (i + 4).toNatClampNeg)]) rfl rfl rfl rfl ⟨fun _ => vty_i0 _, fun _ => vty_i0 _, fun _ => vty_i0 _, fun _ => vty_i0 _, trivial⟩ ad w0 he) rfl d_lw_1197 ⟨by decide, by decide⟩ ⟨hc, hs⟩ rfl rfl (Nat.le_of_ble_eq_true rfl) rfl (fun r wm' hr hy' hfm => ?_)
  rcases hr with ⟨h, -⟩ | ⟨-, v, rfl⟩ | ⟨h, -⟩
  all_goals first | (exact absurd h (by decide)) | skip
  refine z_pop X d_lw_1200 rfl ?_
  refine z_goto X d_lw_1201 (tgt := 2220) (by decide) ?_
  exact hK wx' wm' hx' hl' hy' (RelQ.of (hR.m.keep hfx hfm (by decide)) (hR.a.keep hfx hfm (by decide)) (hR.d.keep hfx hfm (by decide)) (hR.c.keep hfx hfm (by decide)) (hR.x.keep hfx hfm (by decide)) (hR.b.keep hfx hfm (by decide)) (hR.h.keep hfx hfm (by decide)) (hR.t.keep hfx hfm (by decide)) (hR.k.keep hfx hfm (by decide)))
theorem lc_25 (X : ZC p s m #[Value.ref b] meth c code 8 RL G (fun q : Nat => s.heap.size ≤ q) ret nm) (hX : va_X b L xs s s.heap) (hbl : b < s.heap.size) (hbA : ¬ s.heap.size ≤ b) (hi0 : 0 ≤ i.toInt) (hi1 : i.toInt + 10 ≤ (L : Int) ∧ L ≤ 5120) (hx : CWx G x wx) (hy : MWx G y wm) (hR : RelQ G wx wm) (hc : kc ≤ room_1.cells) (hs : ks ≤ room_1.slots) (hK : ∀ wx' wm', CWx G x wx' → wx'.length = wx.length → MWx G y wm' → RelQ G wx' wm' → Z p l e room_1 s m #[Value.ref b] below meth c 8 G (fun q : Nat => s.heap.size ≤ q) (lw_Z below #[Value.ref b] s) 2220 (lv5 b x y o i) [] (wx' ++ wm' ++ [(o, aJ G 1 f)]) kc ks) : Z p l e room_1 s m #[Value.ref b] below meth c 8 G (fun q : Nat => s.heap.size ≤ q) (lw_Z below #[Value.ref b] s) 1204 (lv5 b x y o i) [] (wx ++ wm ++ [(o, aJ G 1 f)]) kc ks := by
  refine z_aload_n X d_lw_1204 rfl 1 rfl ?_
  refine z_aload_n X d_lw_1205 rfl 0 rfl ?_
  refine z_iload X d_lw_1206 4 rfl ?_
  refine z_iconst X d_lw_1208 (v := 1) (by decide) ?_
  refine z_iadd X d_lw_1209 ?_
  refine z_sld X hX hbl hbA (lw_in hi0 hi1 (k := 1) (by decide) (by decide)) d_lw_1210 (v := xs (i + 1).toNatClampNeg) rfl ?_
  rw [List.append_assoc]
  refine cx_callF (k := 1) (rest := []) (As := [.int (xs (i + 1).toNatClampNeg)]) (μ := (fun k => ((Value.ref x :: [.int (xs (i + 1).toNatClampNeg)])[k]?).getD .null)) X k_L_135 (ac_X10_rest_0 l G) (by decide) (by decide) (by decide) hx (fun ad w0 he => pre_mu (C := C_X10_rest_0) (ts := [tI0]) (As := [.int (xs (i + 1).toNatClampNeg)]) rfl rfl rfl rfl ⟨fun _ => vty_i0 _, trivial⟩ ad w0 he) rfl d_lw_1211 ⟨by decide, by decide⟩ ⟨hc, hs⟩ rfl rfl (by decide) rfl (fun r wx' hr hx' hl' hfx => ?_)
  rw [← List.append_assoc]
  rcases hr with ⟨h, -⟩ | ⟨h, -⟩ | ⟨-, v, rfl⟩
  all_goals first | (exact absurd h (by decide)) | skip
  refine z_pop2 X d_lw_1214 rfl ?_
  refine z_aload_n X d_lw_1215 rfl 2 rfl ?_
  refine z_aload_n X d_lw_1216 rfl 0 rfl ?_
  refine z_iload X d_lw_1217 4 rfl ?_
  refine z_iconst X d_lw_1219 (v := 1) (by decide) ?_
  refine z_iadd X d_lw_1220 ?_
  refine z_sld X hX hbl hbA (lw_in hi0 hi1 (k := 1) (by decide) (by decide)) d_lw_1221 (v := xs (i + 1).toNatClampNeg) rfl ?_
  refine mx_callF (k := 1) (wa := wx') (rest := []) (As := [.int (xs (i + 1).toNatClampNeg)]) (μ := (fun k => ((Value.ref y :: [.int (xs (i + 1).toNatClampNeg)])[k]?).getD .null)) X k_L_138 (ac_X11_rest_0 l G) (by decide) (by decide) hy (fun ad w0 he => pre_mu (C := C_X11_rest_0) (ts := [tI0]) (As := [.int (xs (i + 1).toNatClampNeg)]) rfl rfl rfl rfl ⟨fun _ => vty_i0 _, trivial⟩ ad w0 he) rfl d_lw_1222 ⟨by decide, by decide⟩ ⟨hc, hs⟩ rfl rfl (Nat.le_of_ble_eq_true rfl) rfl (fun r wm' hr hy' hfm => ?_)
  rcases hr with ⟨h, -⟩ | ⟨h, -⟩ | ⟨-, v, rfl⟩
  all_goals first | (exact absurd h (by decide)) | skip
  refine z_pop2 X d_lw_1225 rfl ?_
  refine z_goto X d_lw_1226 (tgt := 2220) (by decide) ?_
  exact hK wx' wm' hx' hl' hy' (RelQ.of (hR.m.keep hfx hfm (by decide)) (hR.a.keep hfx hfm (by decide)) (hR.d.keep hfx hfm (by decide)) (hR.c.keep hfx hfm (by decide)) (hR.x.keep hfx hfm (by decide)) (hR.b.keep hfx hfm (by decide)) (hR.h.keep hfx hfm (by decide)) (hR.t.keep hfx hfm (by decide)) (hR.k.keep hfx hfm (by decide)))
theorem lc_26 (X : ZC p s m #[Value.ref b] meth c code 8 RL G (fun q : Nat => s.heap.size ≤ q) ret nm) (hX : va_X b L xs s s.heap) (hbl : b < s.heap.size) (hbA : ¬ s.heap.size ≤ b) (hi0 : 0 ≤ i.toInt) (hi1 : i.toInt + 10 ≤ (L : Int) ∧ L ≤ 5120) (hx : CWx G x wx) (hy : MWx G y wm) (hR : RelQ G wx wm) (hc : kc ≤ room_1.cells) (hs : ks ≤ room_1.slots) (hK : ∀ wx' wm', CWx G x wx' → wx'.length = wx.length → MWx G y wm' → RelQ G wx' wm' → Z p l e room_1 s m #[Value.ref b] below meth c 8 G (fun q : Nat => s.heap.size ≤ q) (lw_Z below #[Value.ref b] s) 2220 (lv5 b x y o i) [] (wx' ++ wm' ++ [(o, aJ G 1 f)]) kc ks) : Z p l e room_1 s m #[Value.ref b] below meth c 8 G (fun q : Nat => s.heap.size ≤ q) (lw_Z below #[Value.ref b] s) 1229 (lv5 b x y o i) [] (wx ++ wm ++ [(o, aJ G 1 f)]) kc ks := by
  refine z_aload_n X d_lw_1229 rfl 1 rfl ?_
  refine z_aload_n X d_lw_1230 rfl 0 rfl ?_
  refine z_iload X d_lw_1231 4 rfl ?_
  refine z_iconst X d_lw_1233 (v := 1) (by decide) ?_
  refine z_iadd X d_lw_1234 ?_
  refine z_sld X hX hbl hbA (lw_in hi0 hi1 (k := 1) (by decide) (by decide)) d_lw_1235 (v := xs (i + 1).toNatClampNeg) rfl ?_
  refine z_aload_n X d_lw_1236 rfl 0 rfl ?_
  refine z_iload X d_lw_1237 4 rfl ?_
  refine z_iconst X d_lw_1239 (v := 2) (by decide) ?_
  refine z_iadd X d_lw_1240 ?_
  refine z_sld X hX hbl hbA (lw_in hi0 hi1 (k := 2) (by decide) (by decide)) d_lw_1241 (v := xs (i + 2).toNatClampNeg) rfl ?_
  rw [List.append_assoc]
  refine cx_callF (k := 1) (rest := []) (As := [.int (xs (i + 1).toNatClampNeg), .int (xs (i + 2).toNatClampNeg)]) (μ := (fun k => ((Value.ref x :: [.int (xs (i + 1).toNatClampNeg), .int (xs (i + 2).toNatClampNeg)])[k]?).getD .null)) X k_L_139 (ac_t_X10_best_0 l G) (by decide) (by decide) (by decide) hx (fun ad w0 he => pre_mu (C := C_t_X10_best_0) (ts := [tI0, tI0]) (As := [.int (xs (i + 1).toNatClampNeg), .int (xs (i + 2).toNatClampNeg)]) rfl rfl rfl rfl ⟨fun _ => vty_i0 _, fun _ => vty_i0 _, trivial⟩ ad w0 he) rfl d_lw_1242 ⟨by decide, by decide⟩ ⟨hc, hs⟩ rfl rfl (by decide) rfl (fun r wx' hr hx' hl' hfx => ?_)
  rw [← List.append_assoc]
  rcases hr with ⟨h, -⟩ | ⟨h, -⟩ | ⟨-, v, rfl⟩
  all_goals first | (exact absurd h (by decide)) | skip
  refine z_pop2 X d_lw_1245 rfl ?_
  refine z_aload_n X d_lw_1246 rfl 2 rfl ?_
  refine z_aload_n X d_lw_1247 rfl 0 rfl ?_
  refine z_iload X d_lw_1248 4 rfl ?_
  refine z_iconst X d_lw_1250 (v := 1) (by decide) ?_
  refine z_iadd X d_lw_1251 ?_
  refine z_sld X hX hbl hbA (lw_in hi0 hi1 (k := 1) (by decide) (by decide)) d_lw_1252 (v := xs (i + 1).toNatClampNeg) rfl ?_
  refine z_aload_n X d_lw_1253 rfl 0 rfl ?_
  refine z_iload X d_lw_1254 4 rfl ?_
  refine z_iconst X d_lw_1256 (v := 2) (by decide) ?_
  refine z_iadd X d_lw_1257 ?_
  refine z_sld X hX hbl hbA (lw_in hi0 hi1 (k := 2) (by decide) (by decide)) d_lw_1258 (v := xs (i + 2).toNatClampNeg) rfl ?_
  refine mx_callF (k := 1) (wa := wx') (rest := []) (As := [.int (xs (i + 1).toNatClampNeg), .int (xs (i + 2).toNatClampNeg)]) (μ := (fun k => ((Value.ref y :: [.int (xs (i + 1).toNatClampNeg), .int (xs (i + 2).toNatClampNeg)])[k]?).getD .null)) X k_L_143 (ac_X11_best_0 l G) (by decide) (by decide) hy (fun ad w0 he => pre_mu (C := C_X11_best_0) (ts := [tI0, tI0]) (As := [.int (xs (i + 1).toNatClampNeg), .int (xs (i + 2).toNatClampNeg)]) rfl rfl rfl rfl ⟨fun _ => vty_i0 _, fun _ => vty_i0 _, trivial⟩ ad w0 he) rfl d_lw_1259 ⟨by decide, by decide⟩ ⟨hc, hs⟩ rfl rfl (Nat.le_of_ble_eq_true rfl) rfl (fun r wm' hr hy' hfm => ?_)
  rcases hr with ⟨h, -⟩ | ⟨h, -⟩ | ⟨-, v, rfl⟩
  all_goals first | (exact absurd h (by decide)) | skip
  refine z_pop2 X d_lw_1262 rfl ?_
  refine z_goto X d_lw_1263 (tgt := 2220) (by decide) ?_
  exact hK wx' wm' hx' hl' hy' (RelQ.of (hR.m.keep hfx hfm (by decide)) (hR.a.keep hfx hfm (by decide)) (hR.d.keep hfx hfm (by decide)) (hR.c.keep hfx hfm (by decide)) (hR.x.keep hfx hfm (by decide)) (hR.b.keep hfx hfm (by decide)) (hR.h.keep hfx hfm (by decide)) (hR.t.keep hfx hfm (by decide)) (hR.k.keep hfx hfm (by decide)))
theorem lc_27 (X : ZC p s m #[Value.ref b] meth c code 8 RL G (fun q : Nat => s.heap.size ≤ q) ret nm) (hX : va_X b L xs s s.heap) (hbl : b < s.heap.size) (hbA : ¬ s.heap.size ≤ b) (hi0 : 0 ≤ i.toInt) (hi1 : i.toInt + 10 ≤ (L : Int) ∧ L ≤ 5120) (hx : CWx G x wx) (hy : MWx G y wm) (hR : RelQ G wx wm) (hc : kc ≤ room_1.cells) (hs : ks ≤ room_1.slots) (hK : ∀ wx' wm', CWx G x wx' → wx'.length = wx.length → MWx G y wm' → RelQ G wx' wm' → Z p l e room_1 s m #[Value.ref b] below meth c 8 G (fun q : Nat => s.heap.size ≤ q) (lw_Z below #[Value.ref b] s) 2220 (lv5 b x y o i) [] (wx' ++ wm' ++ [(o, aJ G 1 f)]) kc ks) : Z p l e room_1 s m #[Value.ref b] below meth c 8 G (fun q : Nat => s.heap.size ≤ q) (lw_Z below #[Value.ref b] s) 1266 (lv5 b x y o i) [] (wx ++ wm ++ [(o, aJ G 1 f)]) kc ks := by
  refine z_aload_n X d_lw_1266 rfl 1 rfl ?_
  refine z_aload_n X d_lw_1267 rfl 0 rfl ?_
  refine z_iload X d_lw_1268 4 rfl ?_
  refine z_iconst X d_lw_1270 (v := 1) (by decide) ?_
  refine z_iadd X d_lw_1271 ?_
  refine z_sld X hX hbl hbA (lw_in hi0 hi1 (k := 1) (by decide) (by decide)) d_lw_1272 (v := xs (i + 1).toNatClampNeg) rfl ?_
  refine z_aload_n X d_lw_1273 rfl 0 rfl ?_
  refine z_iload X d_lw_1274 4 rfl ?_
  refine z_iconst X d_lw_1276 (v := 2) (by decide) ?_
  refine z_iadd X d_lw_1277 ?_
  refine z_sld X hX hbl hbA (lw_in hi0 hi1 (k := 2) (by decide) (by decide)) d_lw_1278 (v := xs (i + 2).toNatClampNeg) rfl ?_
  rw [List.append_assoc]
  refine cx_callF (k := 1) (rest := []) (As := [.int (xs (i + 1).toNatClampNeg), .int (xs (i + 2).toNatClampNeg)]) (μ := (fun k => ((Value.ref x :: [.int (xs (i + 1).toNatClampNeg), .int (xs (i + 2).toNatClampNeg)])[k]?).getD .null)) X k_L_144 (ac_t_X10_off_0 l G) (by decide) (by decide) (by decide) hx (fun ad w0 he => pre_mu (C := C_t_X10_off_0) (ts := [tI0, tI0]) (As := [.int (xs (i + 1).toNatClampNeg), .int (xs (i + 2).toNatClampNeg)]) rfl rfl rfl rfl ⟨fun _ => vty_i0 _, fun _ => vty_i0 _, trivial⟩ ad w0 he) rfl d_lw_1279 ⟨by decide, by decide⟩ ⟨hc, hs⟩ rfl rfl (by decide) rfl (fun r wx' hr hx' hl' hfx => ?_)
  rw [← List.append_assoc]
  rcases hr with ⟨h, -⟩ | ⟨h, -⟩ | ⟨-, v, rfl⟩
  all_goals first | (exact absurd h (by decide)) | skip
  refine z_pop2 X d_lw_1282 rfl ?_
  refine z_aload_n X d_lw_1283 rfl 2 rfl ?_
  refine z_aload_n X d_lw_1284 rfl 0 rfl ?_
  refine z_iload X d_lw_1285 4 rfl ?_
  refine z_iconst X d_lw_1287 (v := 1) (by decide) ?_
  refine z_iadd X d_lw_1288 ?_
  refine z_sld X hX hbl hbA (lw_in hi0 hi1 (k := 1) (by decide) (by decide)) d_lw_1289 (v := xs (i + 1).toNatClampNeg) rfl ?_
  refine z_aload_n X d_lw_1290 rfl 0 rfl ?_
  refine z_iload X d_lw_1291 4 rfl ?_
  refine z_iconst X d_lw_1293 (v := 2) (by decide) ?_
  refine z_iadd X d_lw_1294 ?_
  refine z_sld X hX hbl hbA (lw_in hi0 hi1 (k := 2) (by decide) (by decide)) d_lw_1295 (v := xs (i + 2).toNatClampNeg) rfl ?_
  refine mx_callF (k := 1) (wa := wx') (rest := []) (As := [.int (xs (i + 1).toNatClampNeg), .int (xs (i + 2).toNatClampNeg)]) (μ := (fun k => ((Value.ref y :: [.int (xs (i + 1).toNatClampNeg), .int (xs (i + 2).toNatClampNeg)])[k]?).getD .null)) X k_L_147 (ac_offq l G) (by decide) (by decide) hy (fun ad w0 he => pre_mu (C := C_offq) (ts := [tI0, tI0]) (As := [.int (xs (i + 1).toNatClampNeg), .int (xs (i + 2).toNatClampNeg)]) rfl rfl rfl rfl ⟨fun _ => vty_i0 _, fun _ => vty_i0 _, trivial⟩ ad w0 he) rfl d_lw_1296 ⟨by decide, by decide⟩ ⟨hc, hs⟩ rfl rfl (Nat.le_of_ble_eq_true rfl) rfl (fun r wm' hr hy' hfm => ?_)
  rcases hr with ⟨h, -⟩ | ⟨h, -⟩ | ⟨-, v, rfl⟩
  all_goals first | (exact absurd h (by decide)) | skip
  refine z_pop2 X d_lw_1299 rfl ?_
  refine z_goto X d_lw_1300 (tgt := 2220) (by decide) ?_
  exact hK wx' wm' hx' hl' hy' (RelQ.of (hR.m.keep hfx hfm (by decide)) (hR.a.keep hfx hfm (by decide)) (hR.d.keep hfx hfm (by decide)) (hR.c.keep hfx hfm (by decide)) (hR.x.keep hfx hfm (by decide)) (hR.b.keep hfx hfm (by decide)) (hR.h.keep hfx hfm (by decide)) (hR.t.keep hfx hfm (by decide)) (hR.k.keep hfx hfm (by decide)))
theorem lc_28 (X : ZC p s m #[Value.ref b] meth c code 8 RL G (fun q : Nat => s.heap.size ≤ q) ret nm) (hX : va_X b L xs s s.heap) (hbl : b < s.heap.size) (hbA : ¬ s.heap.size ≤ b) (hi0 : 0 ≤ i.toInt) (hi1 : i.toInt + 10 ≤ (L : Int) ∧ L ≤ 5120) (hx : CWx G x wx) (hy : MWx G y wm) (hR : RelQ G wx wm) (hc : kc ≤ room_1.cells) (hs : ks ≤ room_1.slots) (hK : ∀ wx' wm', CWx G x wx' → wx'.length = wx.length → MWx G y wm' → RelQ G wx' wm' → Z p l e room_1 s m #[Value.ref b] below meth c 8 G (fun q : Nat => s.heap.size ≤ q) (lw_Z below #[Value.ref b] s) 2220 (lv5 b x y o i) [] (wx' ++ wm' ++ [(o, aJ G 1 f)]) kc ks) : Z p l e room_1 s m #[Value.ref b] below meth c 8 G (fun q : Nat => s.heap.size ≤ q) (lw_Z below #[Value.ref b] s) 1303 (lv5 b x y o i) [] (wx ++ wm ++ [(o, aJ G 1 f)]) kc ks := by
  refine z_aload_n X d_lw_1303 rfl 1 rfl ?_
  refine z_aload_n X d_lw_1304 rfl 0 rfl ?_
  refine z_iload X d_lw_1305 4 rfl ?_
  refine z_iconst X d_lw_1307 (v := 1) (by decide) ?_
  refine z_iadd X d_lw_1308 ?_
  refine z_sld X hX hbl hbA (lw_in hi0 hi1 (k := 1) (by decide) (by decide)) d_lw_1309 (v := xs (i + 1).toNatClampNeg) rfl ?_
  refine z_aload_n X d_lw_1310 rfl 0 rfl ?_
  refine z_iload X d_lw_1311 4 rfl ?_
  refine z_iconst X d_lw_1313 (v := 2) (by decide) ?_
  refine z_iadd X d_lw_1314 ?_
  refine z_sld X hX hbl hbA (lw_in hi0 hi1 (k := 2) (by decide) (by decide)) d_lw_1315 (v := xs (i + 2).toNatClampNeg) rfl ?_
  rw [List.append_assoc]
  refine cx_callF (k := 1) (rest := []) (As := [.int (xs (i + 1).toNatClampNeg), .int (xs (i + 2).toNatClampNeg)]) (μ := (fun k => ((Value.ref x :: [.int (xs (i + 1).toNatClampNeg), .int (xs (i + 2).toNatClampNeg)])[k]?).getD .null)) X k_L_148 (ac_t_X10_instead_0 l G) (by decide) (by decide) (by decide) hx (fun ad w0 he => pre_mu (C := C_t_X10_instead_0) (ts := [tI0, tI0]) (As := [.int (xs (i + 1).toNatClampNeg), .int (xs (i + 2).toNatClampNeg)]) rfl rfl rfl rfl ⟨fun _ => vty_i0 _, fun _ => vty_i0 _, trivial⟩ ad w0 he) rfl d_lw_1316 ⟨by decide, by decide⟩ ⟨hc, hs⟩ rfl rfl (by decide) rfl (fun r wx' hr hx' hl' hfx => ?_)
  rw [← List.append_assoc]
  rcases hr with ⟨h, -⟩ | ⟨h, -⟩ | ⟨-, v, rfl⟩
  all_goals first | (exact absurd h (by decide)) | skip
  refine z_pop2 X d_lw_1319 rfl ?_
  refine z_aload_n X d_lw_1320 rfl 2 rfl ?_
  refine z_aload_n X d_lw_1321 rfl 0 rfl ?_
  refine z_iload X d_lw_1322 4 rfl ?_
  refine z_iconst X d_lw_1324 (v := 1) (by decide) ?_
  refine z_iadd X d_lw_1325 ?_
  refine z_sld X hX hbl hbA (lw_in hi0 hi1 (k := 1) (by decide) (by decide)) d_lw_1326 (v := xs (i + 1).toNatClampNeg) rfl ?_
  refine z_aload_n X d_lw_1327 rfl 0 rfl ?_
  refine z_iload X d_lw_1328 4 rfl ?_
  refine z_iconst X d_lw_1330 (v := 2) (by decide) ?_
  refine z_iadd X d_lw_1331 ?_
  refine z_sld X hX hbl hbA (lw_in hi0 hi1 (k := 2) (by decide) (by decide)) d_lw_1332 (v := xs (i + 2).toNatClampNeg) rfl ?_
  refine mx_callF (k := 1) (wa := wx') (rest := []) (As := [.int (xs (i + 1).toNatClampNeg), .int (xs (i + 2).toNatClampNeg)]) (μ := (fun k => ((Value.ref y :: [.int (xs (i + 1).toNatClampNeg), .int (xs (i + 2).toNatClampNeg)])[k]?).getD .null)) X k_L_151 (ac_X11_instead_0 l G) (by decide) (by decide) hy (fun ad w0 he => pre_mu (C := C_X11_instead_0) (ts := [tI0, tI0]) (As := [.int (xs (i + 1).toNatClampNeg), .int (xs (i + 2).toNatClampNeg)]) rfl rfl rfl rfl ⟨fun _ => vty_i0 _, fun _ => vty_i0 _, trivial⟩ ad w0 he) rfl d_lw_1333 ⟨by decide, by decide⟩ ⟨hc, hs⟩ rfl rfl (Nat.le_of_ble_eq_true rfl) rfl (fun r wm' hr hy' hfm => ?_)
  rcases hr with ⟨h, -⟩ | ⟨h, -⟩ | ⟨-, v, rfl⟩
  all_goals first | (exact absurd h (by decide)) | skip
  refine z_pop2 X d_lw_1336 rfl ?_
  refine z_goto X d_lw_1337 (tgt := 2220) (by decide) ?_
  exact hK wx' wm' hx' hl' hy' (RelQ.of (hR.m.keep hfx hfm (by decide)) (hR.a.keep hfx hfm (by decide)) (hR.d.keep hfx hfm (by decide)) (hR.c.keep hfx hfm (by decide)) (hR.x.keep hfx hfm (by decide)) (hR.b.keep hfx hfm (by decide)) (hR.h.keep hfx hfm (by decide)) (hR.t.keep hfx hfm (by decide)) (hR.k.keep hfx hfm (by decide)))
theorem lc_29 (X : ZC p s m #[Value.ref b] meth c code 8 RL G (fun q : Nat => s.heap.size ≤ q) ret nm) (hX : va_X b L xs s s.heap) (hbl : b < s.heap.size) (hbA : ¬ s.heap.size ≤ b) (hi0 : 0 ≤ i.toInt) (hi1 : i.toInt + 10 ≤ (L : Int) ∧ L ≤ 5120) (hx : CWx G x wx) (hy : MWx G y wm) (hR : RelQ G wx wm) (hc : kc ≤ room_1.cells) (hs : ks ≤ room_1.slots) (hK : ∀ wx' wm', CWx G x wx' → wx'.length = wx.length → MWx G y wm' → RelQ G wx' wm' → Z p l e room_1 s m #[Value.ref b] below meth c 8 G (fun q : Nat => s.heap.size ≤ q) (lw_Z below #[Value.ref b] s) 2220 (lv5 b x y o i) [] (wx' ++ wm' ++ [(o, aJ G 1 f)]) kc ks) : Z p l e room_1 s m #[Value.ref b] below meth c 8 G (fun q : Nat => s.heap.size ≤ q) (lw_Z below #[Value.ref b] s) 1340 (lv5 b x y o i) [] (wx ++ wm ++ [(o, aJ G 1 f)]) kc ks := by
  refine z_aload_n X d_lw_1340 rfl 1 rfl ?_
  refine z_aload_n X d_lw_1341 rfl 0 rfl ?_
  refine z_iload X d_lw_1342 4 rfl ?_
  refine z_iconst X d_lw_1344 (v := 1) (by decide) ?_
  refine z_iadd X d_lw_1345 ?_
  refine z_sld X hX hbl hbA (lw_in hi0 hi1 (k := 1) (by decide) (by decide)) d_lw_1346 (v := xs (i + 1).toNatClampNeg) rfl ?_
  refine z_aload_n X d_lw_1347 rfl 0 rfl ?_
  refine z_iload X d_lw_1348 4 rfl ?_
  refine z_iconst X d_lw_1350 (v := 2) (by decide) ?_
  refine z_iadd X d_lw_1351 ?_
  refine z_sld X hX hbl hbA (lw_in hi0 hi1 (k := 2) (by decide) (by decide)) d_lw_1352 (v := xs (i + 2).toNatClampNeg) rfl ?_
  refine z_i2l X d_lw_1353 rfl ?_
  refine z_bipush X d_lw_1354 (v := 32) (by decide) ?_
  refine z_lshl X d_lw_1356 (v := (((xs (i + 2).toNatClampNeg).toInt64) <<< (((32 : Int32)).toInt64 &&& 63))) rfl ?_
  refine z_aload_n X d_lw_1357 rfl 0 rfl ?_
  refine z_iload X d_lw_1358 4 rfl ?_
  refine z_iconst X d_lw_1360 (v := 3) (by decide) ?_
  refine z_iadd X d_lw_1361 ?_
  refine z_sld X hX hbl hbA (lw_in hi0 hi1 (k := 3) (by decide) (by decide)) d_lw_1362 (v := xs (i + 3).toNatClampNeg) rfl ?_
  refine z_i2l X d_lw_1363 rfl ?_
  refine z_ldc2 X d_lw_1364 (v := 4294967295) cn_L_152 ?_
  refine z_land X d_lw_1367 ?_
  refine z_lor X d_lw_1368 ?_
  rw [List.append_assoc]
  refine cx_callF (k := 0) (rest := []) (As := [.int (xs (i + 1).toNatClampNeg), .long ((((((xs (i + 2).toNatClampNeg).toInt64) <<< (((32 : Int32)).toInt64 &&& 63))) ||| ((((xs (i + 3).toNatClampNeg).toInt64) &&& ((4294967295 : Int64))))))]) (μ := (fun k => ((Value.ref x :: [.int (xs (i + 1).toNatClampNeg), .long ((((((xs (i + 2).toNatClampNeg).toInt64) <<< (((32 : Int32)).toInt64 &&& 63))) ||| ((((xs (i + 3).toNatClampNeg).toInt64) &&& ((4294967295 : Int64))))))])[k]?).getD .null)) X k_L_154 (ac_t_X10_fewest_0 l G) (by decide) (by decide) (by decide) hx (fun ad w0 he => pre_mu (C := C_t_X10_fewest_0) (ts := [tI0, tL0]) (As := [.int (xs (i + 1).toNatClampNeg), .long ((((((xs (i + 2).toNatClampNeg).toInt64) <<< (((32 : Int32)).toInt64 &&& 63))) ||| ((((xs (i + 3).toNatClampNeg).toInt64) &&& ((4294967295 : Int64))))))]) rfl rfl rfl rfl ⟨fun _ => vty_i0 _, fun _ => vty_l0 _, trivial⟩ ad w0 he) rfl d_lw_1369 ⟨by decide, by decide⟩ ⟨hc, hs⟩ rfl rfl (by decide) rfl (fun r wx' hr hx' hl' hfx => ?_)
  rw [← List.append_assoc]
  rcases hr with ⟨h, -⟩ | ⟨-, v, rfl⟩ | ⟨h, -⟩
  all_goals first | (exact absurd h (by decide)) | skip
  refine z_pop X d_lw_1372 rfl ?_
  refine z_aload_n X d_lw_1373 rfl 2 rfl ?_
  refine z_aload_n X d_lw_1374 rfl 0 rfl ?_
  refine z_iload X d_lw_1375 4 rfl ?_
  refine z_iconst X d_lw_1377 (v := 1) (by decide) ?_
  refine z_iadd X d_lw_1378 ?_
  refine z_sld X hX hbl hbA (lw_in hi0 hi1 (k := 1) (by decide) (by decide)) d_lw_1379 (v := xs (i + 1).toNatClampNeg) rfl ?_
  refine z_aload_n X d_lw_1380 rfl 0 rfl ?_
  refine z_iload X d_lw_1381 4 rfl ?_
  refine z_iconst X d_lw_1383 (v := 2) (by decide) ?_
  refine z_iadd X d_lw_1384 ?_
  refine z_sld X hX hbl hbA (lw_in hi0 hi1 (k := 2) (by decide) (by decide)) d_lw_1385 (v := xs (i + 2).toNatClampNeg) rfl ?_
  refine z_i2l X d_lw_1386 rfl ?_
  refine z_bipush X d_lw_1387 (v := 32) (by decide) ?_
  refine z_lshl X d_lw_1389 (v := (((xs (i + 2).toNatClampNeg).toInt64) <<< (((32 : Int32)).toInt64 &&& 63))) rfl ?_
  refine z_aload_n X d_lw_1390 rfl 0 rfl ?_
  refine z_iload X d_lw_1391 4 rfl ?_
  refine z_iconst X d_lw_1393 (v := 3) (by decide) ?_
  refine z_iadd X d_lw_1394 ?_
  refine z_sld X hX hbl hbA (lw_in hi0 hi1 (k := 3) (by decide) (by decide)) d_lw_1395 (v := xs (i + 3).toNatClampNeg) rfl ?_
  refine z_i2l X d_lw_1396 rfl ?_
  refine z_ldc2 X d_lw_1397 (v := 4294967295) cn_L_152 ?_
  refine z_land X d_lw_1400 ?_
  refine z_lor X d_lw_1401 ?_
  refine mx_callF (k := 0) (wa := wx') (rest := []) (As := [.int (xs (i + 1).toNatClampNeg), .long ((((((xs (i + 2).toNatClampNeg).toInt64) <<< (((32 : Int32)).toInt64 &&& 63))) ||| ((((xs (i + 3).toNatClampNeg).toInt64) &&& ((4294967295 : Int64))))))]) (μ := (fun k => ((Value.ref y :: [.int (xs (i + 1).toNatClampNeg), .long ((((((xs (i + 2).toNatClampNeg).toInt64) <<< (((32 : Int32)).toInt64 &&& 63))) ||| ((((xs (i + 3).toNatClampNeg).toInt64) &&& ((4294967295 : Int64))))))])[k]?).getD .null)) X k_L_158 (ac_X11_fewest_0 l G) (by decide) (by decide) hy (fun ad w0 he => pre_mu (C := C_X11_fewest_0) (ts := [tI0, tL0]) (As := [.int (xs (i + 1).toNatClampNeg), .long ((((((xs (i + 2).toNatClampNeg).toInt64) <<< (((32 : Int32)).toInt64 &&& 63))) ||| ((((xs (i + 3).toNatClampNeg).toInt64) &&& ((4294967295 : Int64))))))]) rfl rfl rfl rfl ⟨fun _ => vty_i0 _, fun _ => vty_l0 _, trivial⟩ ad w0 he) rfl d_lw_1402 ⟨by decide, by decide⟩ ⟨hc, hs⟩ rfl rfl (Nat.le_of_ble_eq_true rfl) rfl (fun r wm' hr hy' hfm => ?_)
  rcases hr with ⟨h, -⟩ | ⟨-, v, rfl⟩ | ⟨h, -⟩
  all_goals first | (exact absurd h (by decide)) | skip
  refine z_pop X d_lw_1405 rfl ?_
  refine z_goto X d_lw_1406 (tgt := 2220) (by decide) ?_
  exact hK wx' wm' hx' hl' hy' (RelQ.of (hR.m.keep hfx hfm (by decide)) (hR.a.keep hfx hfm (by decide)) (hR.d.keep hfx hfm (by decide)) (hR.c.keep hfx hfm (by decide)) (hR.x.keep hfx hfm (by decide)) (hR.b.keep hfx hfm (by decide)) (hR.h.keep hfx hfm (by decide)) (hR.t.keep hfx hfm (by decide)) (hR.k.keep hfx hfm (by decide)))
theorem lc_30 (X : ZC p s m #[Value.ref b] meth c code 8 RL G (fun q : Nat => s.heap.size ≤ q) ret nm) (hX : va_X b L xs s s.heap) (hbl : b < s.heap.size) (hbA : ¬ s.heap.size ≤ b) (hi0 : 0 ≤ i.toInt) (hi1 : i.toInt + 10 ≤ (L : Int) ∧ L ≤ 5120) (hx : CWx G x wx) (hy : MWx G y wm) (hR : RelQ G wx wm) (hc : kc ≤ room_1.cells) (hs : ks ≤ room_1.slots) (hK : ∀ wx' wm', CWx G x wx' → wx'.length = wx.length → MWx G y wm' → RelQ G wx' wm' → Z p l e room_1 s m #[Value.ref b] below meth c 8 G (fun q : Nat => s.heap.size ≤ q) (lw_Z below #[Value.ref b] s) 2220 (lv5 b x y o i) [] (wx' ++ wm' ++ [(o, aJ G 1 f)]) kc ks) : Z p l e room_1 s m #[Value.ref b] below meth c 8 G (fun q : Nat => s.heap.size ≤ q) (lw_Z below #[Value.ref b] s) 1409 (lv5 b x y o i) [] (wx ++ wm ++ [(o, aJ G 1 f)]) kc ks := by
  refine z_aload_n X d_lw_1409 rfl 1 rfl ?_
  refine z_aload_n X d_lw_1410 rfl 0 rfl ?_
  refine z_iload X d_lw_1411 4 rfl ?_
  refine z_iconst X d_lw_1413 (v := 1) (by decide) ?_
  refine z_iadd X d_lw_1414 ?_
  refine z_sld X hX hbl hbA (lw_in hi0 hi1 (k := 1) (by decide) (by decide)) d_lw_1415 (v := xs (i + 1).toNatClampNeg) rfl ?_
  refine z_aload_n X d_lw_1416 rfl 0 rfl ?_
  refine z_iload X d_lw_1417 4 rfl ?_
  refine z_iconst X d_lw_1419 (v := 2) (by decide) ?_
  refine z_iadd X d_lw_1420 ?_
  refine z_sld X hX hbl hbA (lw_in hi0 hi1 (k := 2) (by decide) (by decide)) d_lw_1421 (v := xs (i + 2).toNatClampNeg) rfl ?_
  rw [List.append_assoc]
  refine cx_callF (k := 1) (rest := []) (As := [.int (xs (i + 1).toNatClampNeg), .int (xs (i + 2).toNatClampNeg)]) (μ := (fun k => ((Value.ref x :: [.int (xs (i + 1).toNatClampNeg), .int (xs (i + 2).toNatClampNeg)])[k]?).getD .null)) X k_L_159 (ac_t_X10_all_0 l G) (by decide) (by decide) (by decide) hx (fun ad w0 he => pre_mu (C := C_t_X10_all_0) (ts := [tI0, tI0]) (As := [.int (xs (i + 1).toNatClampNeg), .int (xs (i + 2).toNatClampNeg)]) rfl rfl rfl rfl ⟨fun _ => vty_i0 _, fun _ => vty_i0 _, trivial⟩ ad w0 he) rfl d_lw_1422 ⟨by decide, by decide⟩ ⟨hc, hs⟩ rfl rfl (by decide) rfl (fun r wx' hr hx' hl' hfx => ?_)
  rw [← List.append_assoc]
  rcases hr with ⟨h, -⟩ | ⟨h, -⟩ | ⟨-, v, rfl⟩
  all_goals first | (exact absurd h (by decide)) | skip
  refine z_pop2 X d_lw_1425 rfl ?_
  refine z_aload_n X d_lw_1426 rfl 2 rfl ?_
  refine z_aload_n X d_lw_1427 rfl 0 rfl ?_
  refine z_iload X d_lw_1428 4 rfl ?_
  refine z_iconst X d_lw_1430 (v := 1) (by decide) ?_
  refine z_iadd X d_lw_1431 ?_
  refine z_sld X hX hbl hbA (lw_in hi0 hi1 (k := 1) (by decide) (by decide)) d_lw_1432 (v := xs (i + 1).toNatClampNeg) rfl ?_
  refine z_aload_n X d_lw_1433 rfl 0 rfl ?_
  refine z_iload X d_lw_1434 4 rfl ?_
  refine z_iconst X d_lw_1436 (v := 2) (by decide) ?_
  refine z_iadd X d_lw_1437 ?_
  refine z_sld X hX hbl hbA (lw_in hi0 hi1 (k := 2) (by decide) (by decide)) d_lw_1438 (v := xs (i + 2).toNatClampNeg) rfl ?_
  refine mx_callF (k := 1) (wa := wx') (rest := []) (As := [.int (xs (i + 1).toNatClampNeg), .int (xs (i + 2).toNatClampNeg)]) (μ := (fun k => ((Value.ref y :: [.int (xs (i + 1).toNatClampNeg), .int (xs (i + 2).toNatClampNeg)])[k]?).getD .null)) X k_L_162 (ac_X11_all_0 l G) (by decide) (by decide) hy (fun ad w0 he => pre_mu (C := C_X11_all_0) (ts := [tI0, tI0]) (As := [.int (xs (i + 1).toNatClampNeg), .int (xs (i + 2).toNatClampNeg)]) rfl rfl rfl rfl ⟨fun _ => vty_i0 _, fun _ => vty_i0 _, trivial⟩ ad w0 he) rfl d_lw_1439 ⟨by decide, by decide⟩ ⟨hc, hs⟩ rfl rfl (Nat.le_of_ble_eq_true rfl) rfl (fun r wm' hr hy' hfm => ?_)
  rcases hr with ⟨h, -⟩ | ⟨h, -⟩ | ⟨-, v, rfl⟩
  all_goals first | (exact absurd h (by decide)) | skip
  refine z_pop2 X d_lw_1442 rfl ?_
  refine z_goto X d_lw_1443 (tgt := 2220) (by decide) ?_
  exact hK wx' wm' hx' hl' hy' (RelQ.of (hR.m.keep hfx hfm (by decide)) (hR.a.keep hfx hfm (by decide)) (hR.d.keep hfx hfm (by decide)) (hR.c.keep hfx hfm (by decide)) (hR.x.keep hfx hfm (by decide)) (hR.b.keep hfx hfm (by decide)) (hR.h.keep hfx hfm (by decide)) (hR.t.keep hfx hfm (by decide)) (hR.k.keep hfx hfm (by decide)))
theorem lc_31 (X : ZC p s m #[Value.ref b] meth c code 8 RL G (fun q : Nat => s.heap.size ≤ q) ret nm) (hX : va_X b L xs s s.heap) (hbl : b < s.heap.size) (hbA : ¬ s.heap.size ≤ b) (hi0 : 0 ≤ i.toInt) (hi1 : i.toInt + 10 ≤ (L : Int) ∧ L ≤ 5120) (hx : CWx G x wx) (hy : MWx G y wm) (hR : RelQ G wx wm) (hc : kc ≤ room_1.cells) (hs : ks ≤ room_1.slots) (hK : ∀ wx' wm', CWx G x wx' → wx'.length = wx.length → MWx G y wm' → RelQ G wx' wm' → Z p l e room_1 s m #[Value.ref b] below meth c 8 G (fun q : Nat => s.heap.size ≤ q) (lw_Z below #[Value.ref b] s) 2220 (lv5 b x y o i) [] (wx' ++ wm' ++ [(o, aJ G 1 f)]) kc ks) : Z p l e room_1 s m #[Value.ref b] below meth c 8 G (fun q : Nat => s.heap.size ≤ q) (lw_Z below #[Value.ref b] s) 1446 (lv5 b x y o i) [] (wx ++ wm ++ [(o, aJ G 1 f)]) kc ks := by
  refine z_aload_n X d_lw_1446 rfl 1 rfl ?_
  refine z_aload_n X d_lw_1447 rfl 0 rfl ?_
  refine z_iload X d_lw_1448 4 rfl ?_
  refine z_iconst X d_lw_1450 (v := 1) (by decide) ?_
  refine z_iadd X d_lw_1451 ?_
  refine z_sld X hX hbl hbA (lw_in hi0 hi1 (k := 1) (by decide) (by decide)) d_lw_1452 (v := xs (i + 1).toNatClampNeg) rfl ?_
  refine z_aload_n X d_lw_1453 rfl 0 rfl ?_
  refine z_iload X d_lw_1454 4 rfl ?_
  refine z_iconst X d_lw_1456 (v := 2) (by decide) ?_
  refine z_iadd X d_lw_1457 ?_
  refine z_sld X hX hbl hbA (lw_in hi0 hi1 (k := 2) (by decide) (by decide)) d_lw_1458 (v := xs (i + 2).toNatClampNeg) rfl ?_
  rw [List.append_assoc]
  refine cx_callF (k := 0) (rest := []) (As := [.int (xs (i + 1).toNatClampNeg), .int (xs (i + 2).toNatClampNeg)]) (μ := (fun k => ((Value.ref x :: [.int (xs (i + 1).toNatClampNeg), .int (xs (i + 2).toNatClampNeg)])[k]?).getD .null)) X k_L_163 (ac_X10_ounce_0 l G) (by decide) (by decide) (by decide) hx (fun ad w0 he => pre_mu (C := C_X10_ounce_0) (ts := [tI0, tI0]) (As := [.int (xs (i + 1).toNatClampNeg), .int (xs (i + 2).toNatClampNeg)]) rfl rfl rfl rfl ⟨fun _ => vty_i0 _, fun _ => vty_i0 _, trivial⟩ ad w0 he) rfl d_lw_1459 ⟨by decide, by decide⟩ ⟨hc, hs⟩ rfl rfl (by decide) rfl (fun r wx' hr hx' hl' hfx => ?_)
  rw [← List.append_assoc]
  rcases hr with ⟨h, -⟩ | ⟨-, v, rfl⟩ | ⟨h, -⟩
  all_goals first | (exact absurd h (by decide)) | skip
  refine z_pop X d_lw_1462 rfl ?_
  refine z_aload_n X d_lw_1463 rfl 2 rfl ?_
  refine z_aload_n X d_lw_1464 rfl 0 rfl ?_
  refine z_iload X d_lw_1465 4 rfl ?_
  refine z_iconst X d_lw_1467 (v := 1) (by decide) ?_
  refine z_iadd X d_lw_1468 ?_
  refine z_sld X hX hbl hbA (lw_in hi0 hi1 (k := 1) (by decide) (by decide)) d_lw_1469 (v := xs (i + 1).toNatClampNeg) rfl ?_
  refine z_aload_n X d_lw_1470 rfl 0 rfl ?_
  refine z_iload X d_lw_1471 4 rfl ?_
  refine z_iconst X d_lw_1473 (v := 2) (by decide) ?_
  refine z_iadd X d_lw_1474 ?_
  refine z_sld X hX hbl hbA (lw_in hi0 hi1 (k := 2) (by decide) (by decide)) d_lw_1475 (v := xs (i + 2).toNatClampNeg) rfl ?_
  refine mx_callF (k := 0) (wa := wx') (rest := []) (As := [.int (xs (i + 1).toNatClampNeg), .int (xs (i + 2).toNatClampNeg)]) (μ := (fun k => ((Value.ref y :: [.int (xs (i + 1).toNatClampNeg), .int (xs (i + 2).toNatClampNeg)])[k]?).getD .null)) X k_L_166 (ac_X11_ounce_0 l G) (by decide) (by decide) hy (fun ad w0 he => pre_mu (C := C_X11_ounce_0) (ts := [tI0, tI0]) (As := [.int (xs (i + 1).toNatClampNeg), .int (xs (i + 2).toNatClampNeg)]) rfl rfl rfl rfl ⟨fun _ => vty_i0 _, fun _ => vty_i0 _, trivial⟩ ad w0 he) rfl d_lw_1476 ⟨by decide, by decide⟩ ⟨hc, hs⟩ rfl rfl (Nat.le_of_ble_eq_true rfl) rfl (fun r wm' hr hy' hfm => ?_)
  rcases hr with ⟨h, -⟩ | ⟨-, v, rfl⟩ | ⟨h, -⟩
  all_goals first | (exact absurd h (by decide)) | skip
  refine z_pop X d_lw_1479 rfl ?_
  refine z_goto X d_lw_1480 (tgt := 2220) (by decide) ?_
  exact hK wx' wm' hx' hl' hy' (RelQ.of (hR.m.keep hfx hfm (by decide)) (hR.a.keep hfx hfm (by decide)) (hR.d.keep hfx hfm (by decide)) (hR.c.keep hfx hfm (by decide)) (hR.x.keep hfx hfm (by decide)) (hR.b.keep hfx hfm (by decide)) (hR.h.keep hfx hfm (by decide)) (hR.t.keep hfx hfm (by decide)) (hR.k.keep hfx hfm (by decide)))
theorem lc_32 (X : ZC p s m #[Value.ref b] meth c code 8 RL G (fun q : Nat => s.heap.size ≤ q) ret nm) (hX : va_X b L xs s s.heap) (hbl : b < s.heap.size) (hbA : ¬ s.heap.size ≤ b) (hi0 : 0 ≤ i.toInt) (hi1 : i.toInt + 10 ≤ (L : Int) ∧ L ≤ 5120) (hx : CWx G x wx) (hy : MWx G y wm) (hR : RelQ G wx wm) (hc : kc ≤ room_1.cells) (hs : ks ≤ room_1.slots) (hK : ∀ wx' wm', CWx G x wx' → wx'.length = wx.length → MWx G y wm' → RelQ G wx' wm' → Z p l e room_1 s m #[Value.ref b] below meth c 8 G (fun q : Nat => s.heap.size ≤ q) (lw_Z below #[Value.ref b] s) 2220 (lv5 b x y o i) [] (wx' ++ wm' ++ [(o, aJ G 1 f)]) kc ks) : Z p l e room_1 s m #[Value.ref b] below meth c 8 G (fun q : Nat => s.heap.size ≤ q) (lw_Z below #[Value.ref b] s) 1483 (lv5 b x y o i) [] (wx ++ wm ++ [(o, aJ G 1 f)]) kc ks := by
  obtain ⟨n, h9, s9, c9, f9, g9, ⟨n0, n1⟩, rc9, e9, ⟨hn1, hn2⟩, ⟨a2, b2⟩, ⟨a3, b3⟩, ⟨a4, b4⟩, a5, b5⟩ := id hR.m
  refine z_aload_n X d_lw_1483 rfl 1 rfl ?_
  refine z_aload_n X d_lw_1484 rfl 0 rfl ?_
  refine z_iload X d_lw_1485 4 rfl ?_
  refine z_iconst X d_lw_1487 (v := 1) (by decide) ?_
  refine z_iadd X d_lw_1488 ?_
  refine z_sld X hX hbl hbA (lw_in hi0 hi1 (k := 1) (by decide) (by decide)) d_lw_1489 (v := xs (i + 1).toNatClampNeg) rfl ?_
  obtain ⟨hh9, hq, hg, hr, x1, x2, x3, x4, x5, x6, x7⟩ := id hR.h
  obtain rfl := some_int (a2.symm.trans x1)
  obtain ⟨ha0, sa0, ca0, ⟨eh1, es1, ec1⟩, ⟨pq, pg, pa, pb, pe⟩, ⟨rq, rg, ra, rb, re⟩, ⟨fq, fg, fa, fb, fe⟩, ⟨oq, og, oa, ob1, oe⟩, ⟨wq, wg, wa1, wb1, we⟩⟩ := id hR.a
  obtain rfl := some_int (a2.symm.trans eh1)
  obtain rfl := some_int (a3.symm.trans es1)
  obtain rfl := some_int (a4.symm.trans ec1)
  obtain ⟨tq, tX9, tY9, t1, t2, t3, t4, t5⟩ := id hR.t
  obtain ⟨hd1, eh3, ⟨xq, xg, xa, xb, xe⟩, ⟨yq, yg, ya, yb, ye⟩⟩ := id hR.x
  obtain rfl := some_int (a2.symm.trans eh3)
  obtain ⟨hb9, sb9, cb9, ⟨bh1, bs1, bc1⟩, ⟨bx, bx1, bx2⟩, ⟨by_, by1, by2⟩, ⟨bf, bf1, bf2⟩, ⟨bo, bo1, bo2⟩, ⟨bw, bw1, bw2⟩⟩ := id hR.b
  obtain rfl := some_int (a2.symm.trans bh1)
  obtain rfl := some_int (a3.symm.trans bs1)
  obtain rfl := some_int (a4.symm.trans bc1)
  obtain rfl := arrinj (ra.symm.trans x4)
  obtain rfl := arrinj (xa.symm.trans bx1)
  obtain rfl := arrinj (ya.symm.trans by1)
  have r9_ := cwx_ints hx (k := 9) (n := 16) (a := 0) (b := 9) rfl rfl ra
  have q9_ := cwx_ints hx (k := 10) (n := 16) (a := 0) (b := 9) rfl rfl x2
  have p9_ := cwx_ints hx (k := 6) (n := 16) (a := 0) (b := 1) rfl rfl pa
  have hsb := SB.of (h := h9.toInt) (fp := pq) (fh := hq) (fr := rq) (fx := xq) (fy := yq) (t := tq) (pq := xs (i + 1).toNatClampNeg) rc9.1.2 p9_ q9_ r9_ bx2 by2 t5
  rw [List.append_assoc]
  refine cx_callG (rm := { frames := 5, cells := 0, slots := 0, locals := 129 }) (m0 := C_t_X10_settle_0.2.2.2.2.1) (Ψ := (fun r w1 => ∃ (v9 : Int32) (q9 : Nat → Int32), r = some (.int v9) ∧ SetE h9.toInt pq rq xq yq (tX tq (xs (i + 1).toNatClampNeg)) (tY tq (xs (i + 1).toNatClampNeg)) (xs (i + 1).toNatClampNeg).toInt hq v9 q9 ∧ CQ G w1 10 16 q9)) (rest := []) (As := [.int (xs (i + 1).toNatClampNeg)]) X k_L_167 (fun ad w0 hW hag => ac_sex l G hW ((fget_eq (hag 5 0 (by decide))).trans a2) ((hag 6 0 (by decide)).trans pa) ((hag 7 0 (by decide)).trans xa) ((hag 8 0 (by decide)).trans ya) ((hag 9 0 (by decide)).trans ra) ((hag 10 0 (by decide)).trans x2) ((hag 105 0 (by decide)).trans t1) hsb) ⟨rfl, rfl⟩ (by decide) (fun r w1 wc hl h => (h.elim fun v9 h => h.elim fun q9 h => ⟨v9, q9, h.1, h.2.1, h.2.2.app (by omega)⟩)) hx d_lw_1490 ⟨by decide, by decide⟩ ⟨hc, hs⟩ rfl rfl (by decide) rfl (fun r wx' hz hx' hl' hfx => ?_)
  rw [← List.append_assoc]
  obtain ⟨v, rfl⟩ := (hz.elim fun v9 h => h.elim fun q9 h => ⟨v9, h.1⟩ : ∃ v : Int32, r = some (Value.int v))
  refine z_pop X d_lw_1493 rfl ?_
  refine z_aload_n X d_lw_1494 rfl 2 rfl ?_
  refine z_aload_n X d_lw_1495 rfl 0 rfl ?_
  refine z_iload X d_lw_1496 4 rfl ?_
  refine z_iconst X d_lw_1498 (v := 1) (by decide) ?_
  refine z_iadd X d_lw_1499 ?_
  refine z_sld X hX hbl hbA (lw_in hi0 hi1 (k := 1) (by decide) (by decide)) d_lw_1500 (v := xs (i + 1).toNatClampNeg) rfl ?_
  refine mx_callG (rm := { frames := 3, cells := 0, slots := 0, locals := 69 }) (m0 := C_settle.2.2.2.2.1) (Ψ := (fun r w1 => ∃ (v9 : Int32) (q9 : Nat → Int32), r = some (.int v9) ∧ SetE h9.toInt pg rg xg yg (tX9 (xs (i + 1).toNatClampNeg).toNatClampNeg) (tY9 (xs (i + 1).toNatClampNeg).toNatClampNeg) (xs (i + 1).toNatClampNeg).toInt hg v9 q9 ∧ CQ G w1 6 16 q9)) (wa := wx') (rest := []) (As := [.int (xs (i + 1).toNatClampNeg)]) X k_L_170 (fun ad hW => ac_sem l G hW b2 pb xb yb rb x3 t2 t3) ⟨rfl, rfl⟩ hy d_lw_1501 ⟨by decide, by decide⟩ ⟨hc, hs⟩ rfl rfl (Nat.le_of_ble_eq_true rfl) rfl (fun r wm' hz2 hy' hfm => ?_)
  obtain ⟨v2, rfl⟩ := (hz2.elim fun v9 h => h.elim fun q9 h => ⟨v9, h.1⟩ : ∃ v : Int32, r = some (Value.int v))
  obtain ⟨ev0, hM'⟩ := RelH.settle (pq := xs (i + 1).toNatClampNeg) hfx (by decide) a2 ra rc9.1.2 pe re xe ye x5 x6 x7 r9_ q9_ t4 hz hz2
  have hR' : RelQ G wx' wm' := RelQ.of (hR.m.keep hfx hfm (by decide)) (hR.a.keep hfx hfm (by decide)) (hR.d.keep hfx hfm (by decide)) (hR.c.keep hfx hfm (by decide)) (hR.x.keep hfx hfm (by decide)) (hR.b.keep hfx hfm (by decide)) (hM') (hR.t.keep hfx hfm (by decide)) (hR.k.keep hfx hfm (by decide))
  have ev : v.toInt = v2.toInt := congrArg Int32.toInt ev0
  refine z_pop X d_lw_1504 rfl ?_
  refine z_goto X d_lw_1505 (tgt := 2220) (by decide) ?_
  exact hK wx' wm' hx' hl' hy' hR'
theorem lc_33 (X : ZC p s m #[Value.ref b] meth c code 8 RL G (fun q : Nat => s.heap.size ≤ q) ret nm) (hX : va_X b L xs s s.heap) (hbl : b < s.heap.size) (hbA : ¬ s.heap.size ≤ b) (hi0 : 0 ≤ i.toInt) (hi1 : i.toInt + 10 ≤ (L : Int) ∧ L ≤ 5120) (hx : CWx G x wx) (hy : MWx G y wm) (hR : RelQ G wx wm) (hc : kc ≤ room_1.cells) (hs : ks ≤ room_1.slots) (hK : ∀ wx' wm', CWx G x wx' → wx'.length = wx.length → MWx G y wm' → RelQ G wx' wm' → Z p l e room_1 s m #[Value.ref b] below meth c 8 G (fun q : Nat => s.heap.size ≤ q) (lw_Z below #[Value.ref b] s) 2220 (lv5 b x y o i) [] (wx' ++ wm' ++ [(o, aJ G 1 f)]) kc ks) : Z p l e room_1 s m #[Value.ref b] below meth c 8 G (fun q : Nat => s.heap.size ≤ q) (lw_Z below #[Value.ref b] s) 1508 (lv5 b x y o i) [] (wx ++ wm ++ [(o, aJ G 1 f)]) kc ks := by
  refine z_aload_n X d_lw_1508 rfl 1 rfl ?_
  refine z_aload_n X d_lw_1509 rfl 0 rfl ?_
  refine z_iload X d_lw_1510 4 rfl ?_
  refine z_iconst X d_lw_1512 (v := 1) (by decide) ?_
  refine z_iadd X d_lw_1513 ?_
  refine z_sld X hX hbl hbA (lw_in hi0 hi1 (k := 1) (by decide) (by decide)) d_lw_1514 (v := xs (i + 1).toNatClampNeg) rfl ?_
  refine z_aload_n X d_lw_1515 rfl 0 rfl ?_
  refine z_iload X d_lw_1516 4 rfl ?_
  refine z_iconst X d_lw_1518 (v := 2) (by decide) ?_
  refine z_iadd X d_lw_1519 ?_
  refine z_sld X hX hbl hbA (lw_in hi0 hi1 (k := 2) (by decide) (by decide)) d_lw_1520 (v := xs (i + 2).toNatClampNeg) rfl ?_
  refine z_aload_n X d_lw_1521 rfl 0 rfl ?_
  refine z_iload X d_lw_1522 4 rfl ?_
  refine z_iconst X d_lw_1524 (v := 3) (by decide) ?_
  refine z_iadd X d_lw_1525 ?_
  refine z_sld X hX hbl hbA (lw_in hi0 hi1 (k := 3) (by decide) (by decide)) d_lw_1526 (v := xs (i + 3).toNatClampNeg) rfl ?_
  refine z_aload_n X d_lw_1527 rfl 0 rfl ?_
  refine z_iload X d_lw_1528 4 rfl ?_
  refine z_iconst X d_lw_1530 (v := 4) (by decide) ?_
  refine z_iadd X d_lw_1531 ?_
  refine z_sld X hX hbl hbA (lw_in hi0 hi1 (k := 4) (by decide) (by decide)) d_lw_1532 (v := xs (i + 4).toNatClampNeg) rfl ?_
  refine z_aload_n X d_lw_1533 rfl 0 rfl ?_
  refine z_iload X d_lw_1534 4 rfl ?_
  refine z_iconst X d_lw_1536 (v := 5) (by decide) ?_
  refine z_iadd X d_lw_1537 ?_
  refine z_sld X hX hbl hbA (lw_in hi0 hi1 (k := 5) (by decide) (by decide)) d_lw_1538 (v := xs (i + 5).toNatClampNeg) rfl ?_
  rw [List.append_assoc]
  refine cx_callF (k := 0) (rest := []) (As := [.int (xs (i + 1).toNatClampNeg), .int (xs (i + 2).toNatClampNeg), .int (xs (i + 3).toNatClampNeg), .int (xs (i + 4).toNatClampNeg), .int (xs (i + 5).toNatClampNeg)]) (μ := (fun k => ((Value.ref x :: [.int (xs (i + 1).toNatClampNeg), .int (xs (i + 2).toNatClampNeg), .int (xs (i + 3).toNatClampNeg), .int (xs (i + 4).toNatClampNeg), .int (xs (i + 5).toNatClampNeg)])[k]?).getD .null)) X k_L_171 (ac_X10_both_0 l G) (by decide) (by decide) (by decide) hx (fun ad w0 he => pre_mu (C := C_X10_both_0) (ts := [tI0, tI0, tI0, tI0, tI0]) (As := [.int (xs (i + 1).toNatClampNeg), .int (xs (i + 2).toNatClampNeg), .int (xs (i + 3).toNatClampNeg), .int (xs (i + 4).toNatClampNeg), .int (xs (i + 5).toNatClampNeg)]) rfl rfl rfl rfl ⟨fun _ => vty_i0 _, fun _ => vty_i0 _, fun _ => vty_i0 _, fun _ => vty_i0 _, fun _ => vty_i0 _, trivial⟩ ad w0 he) rfl d_lw_1539 ⟨by decide, by decide⟩ ⟨hc, hs⟩ rfl rfl (by decide) rfl (fun r wx' hr hx' hl' hfx => ?_)
  rw [← List.append_assoc]
  rcases hr with ⟨h, -⟩ | ⟨-, v, rfl⟩ | ⟨h, -⟩
  all_goals first | (exact absurd h (by decide)) | skip
  refine z_pop X d_lw_1542 rfl ?_
  refine z_aload_n X d_lw_1543 rfl 2 rfl ?_
  refine z_aload_n X d_lw_1544 rfl 0 rfl ?_
  refine z_iload X d_lw_1545 4 rfl ?_
  refine z_iconst X d_lw_1547 (v := 1) (by decide) ?_
  refine z_iadd X d_lw_1548 ?_
  refine z_sld X hX hbl hbA (lw_in hi0 hi1 (k := 1) (by decide) (by decide)) d_lw_1549 (v := xs (i + 1).toNatClampNeg) rfl ?_
  refine z_aload_n X d_lw_1550 rfl 0 rfl ?_
  refine z_iload X d_lw_1551 4 rfl ?_
  refine z_iconst X d_lw_1553 (v := 2) (by decide) ?_
  refine z_iadd X d_lw_1554 ?_
  refine z_sld X hX hbl hbA (lw_in hi0 hi1 (k := 2) (by decide) (by decide)) d_lw_1555 (v := xs (i + 2).toNatClampNeg) rfl ?_
  refine z_aload_n X d_lw_1556 rfl 0 rfl ?_
  refine z_iload X d_lw_1557 4 rfl ?_
  refine z_iconst X d_lw_1559 (v := 3) (by decide) ?_
  refine z_iadd X d_lw_1560 ?_
  refine z_sld X hX hbl hbA (lw_in hi0 hi1 (k := 3) (by decide) (by decide)) d_lw_1561 (v := xs (i + 3).toNatClampNeg) rfl ?_
  refine z_aload_n X d_lw_1562 rfl 0 rfl ?_
  refine z_iload X d_lw_1563 4 rfl ?_
  refine z_iconst X d_lw_1565 (v := 4) (by decide) ?_
  refine z_iadd X d_lw_1566 ?_
  refine z_sld X hX hbl hbA (lw_in hi0 hi1 (k := 4) (by decide) (by decide)) d_lw_1567 (v := xs (i + 4).toNatClampNeg) rfl ?_
  refine z_aload_n X d_lw_1568 rfl 0 rfl ?_
  refine z_iload X d_lw_1569 4 rfl ?_
  refine z_iconst X d_lw_1571 (v := 5) (by decide) ?_
  refine z_iadd X d_lw_1572 ?_
  refine z_sld X hX hbl hbA (lw_in hi0 hi1 (k := 5) (by decide) (by decide)) d_lw_1573 (v := xs (i + 5).toNatClampNeg) rfl ?_
  refine mx_callF (k := 0) (wa := wx') (rest := []) (As := [.int (xs (i + 1).toNatClampNeg), .int (xs (i + 2).toNatClampNeg), .int (xs (i + 3).toNatClampNeg), .int (xs (i + 4).toNatClampNeg), .int (xs (i + 5).toNatClampNeg)]) (μ := (fun k => ((Value.ref y :: [.int (xs (i + 1).toNatClampNeg), .int (xs (i + 2).toNatClampNeg), .int (xs (i + 3).toNatClampNeg), .int (xs (i + 4).toNatClampNeg), .int (xs (i + 5).toNatClampNeg)])[k]?).getD .null)) X k_L_175 (ac_X11_both_0 l G) (by decide) (by decide) hy (fun ad w0 he => pre_mu (C := C_X11_both_0) (ts := [tI0, tI0, tI0, tI0, tI0]) (As := [.int (xs (i + 1).toNatClampNeg), .int (xs (i + 2).toNatClampNeg), .int (xs (i + 3).toNatClampNeg), .int (xs (i + 4).toNatClampNeg), .int (xs (i + 5).toNatClampNeg)]) rfl rfl rfl rfl ⟨fun _ => vty_i0 _, fun _ => vty_i0 _, fun _ => vty_i0 _, fun _ => vty_i0 _, fun _ => vty_i0 _, trivial⟩ ad w0 he) rfl d_lw_1574 ⟨by decide, by decide⟩ ⟨hc, hs⟩ rfl rfl (Nat.le_of_ble_eq_true rfl) rfl (fun r wm' hr hy' hfm => ?_)
  rcases hr with ⟨h, -⟩ | ⟨-, v, rfl⟩ | ⟨h, -⟩
  all_goals first | (exact absurd h (by decide)) | skip
  refine z_pop X d_lw_1577 rfl ?_
  refine z_goto X d_lw_1578 (tgt := 2220) (by decide) ?_
  exact hK wx' wm' hx' hl' hy' (RelQ.of (hR.m.keep hfx hfm (by decide)) (hR.a.keep hfx hfm (by decide)) (hR.d.keep hfx hfm (by decide)) (hR.c.keep hfx hfm (by decide)) (hR.x.keep hfx hfm (by decide)) (hR.b.keep hfx hfm (by decide)) (hR.h.keep hfx hfm (by decide)) (hR.t.keep hfx hfm (by decide)) (hR.k.keep hfx hfm (by decide)))
end LWC
end
section
/-! the law: its cases, the relation kept -/
section LWC
variable {p : Program} {l : Launch} {e : Env} {s : State} {m : MethodId} {below : List Frame} {meth : Method} {c : Code} {G : KG} {nm : String} {b L x y o : Nat} {xs : Nat → Int32} {i : Int32} {f : Nat → Int64} {wx wm : va_W} {kc ks : Nat}
theorem lc_34 (X : ZC p s m #[Value.ref b] meth c code 8 RL G (fun q : Nat => s.heap.size ≤ q) ret nm) (hX : va_X b L xs s s.heap) (hbl : b < s.heap.size) (hbA : ¬ s.heap.size ≤ b) (hi0 : 0 ≤ i.toInt) (hi1 : i.toInt + 10 ≤ (L : Int) ∧ L ≤ 5120) (hx : CWx G x wx) (hy : MWx G y wm) (hR : RelQ G wx wm) (hc : kc ≤ room_1.cells) (hs : ks ≤ room_1.slots) (hK : ∀ wx' wm', CWx G x wx' → wx'.length = wx.length → MWx G y wm' → RelQ G wx' wm' → Z p l e room_1 s m #[Value.ref b] below meth c 8 G (fun q : Nat => s.heap.size ≤ q) (lw_Z below #[Value.ref b] s) 2220 (lv5 b x y o i) [] (wx' ++ wm' ++ [(o, aJ G 1 f)]) kc ks) : Z p l e room_1 s m #[Value.ref b] below meth c 8 G (fun q : Nat => s.heap.size ≤ q) (lw_Z below #[Value.ref b] s) 1581 (lv5 b x y o i) [] (wx ++ wm ++ [(o, aJ G 1 f)]) kc ks := by
  refine z_aload_n X d_lw_1581 rfl 1 rfl ?_
  refine z_aload_n X d_lw_1582 rfl 0 rfl ?_
  refine z_iload X d_lw_1583 4 rfl ?_
  refine z_iconst X d_lw_1585 (v := 1) (by decide) ?_
  refine z_iadd X d_lw_1586 ?_
  refine z_sld X hX hbl hbA (lw_in hi0 hi1 (k := 1) (by decide) (by decide)) d_lw_1587 (v := xs (i + 1).toNatClampNeg) rfl ?_
  rw [List.append_assoc]
  refine cx_callF (k := 1) (rest := []) (As := [.int (xs (i + 1).toNatClampNeg)]) (μ := (fun k => ((Value.ref x :: [.int (xs (i + 1).toNatClampNeg)])[k]?).getD .null)) X k_L_176 (ac_t_X10_two_0 l G) (by decide) (by decide) (by decide) hx (fun ad w0 he => pre_mu (C := C_t_X10_two_0) (ts := [tI0]) (As := [.int (xs (i + 1).toNatClampNeg)]) rfl rfl rfl rfl ⟨fun _ => vty_i0 _, trivial⟩ ad w0 he) rfl d_lw_1588 ⟨by decide, by decide⟩ ⟨hc, hs⟩ rfl rfl (by decide) rfl (fun r wx' hr hx' hl' hfx => ?_)
  rw [← List.append_assoc]
  rcases hr with ⟨h, -⟩ | ⟨h, -⟩ | ⟨-, v, rfl⟩
  all_goals first | (exact absurd h (by decide)) | skip
  refine z_pop2 X d_lw_1591 rfl ?_
  refine z_aload_n X d_lw_1592 rfl 2 rfl ?_
  refine z_aload_n X d_lw_1593 rfl 0 rfl ?_
  refine z_iload X d_lw_1594 4 rfl ?_
  refine z_iconst X d_lw_1596 (v := 1) (by decide) ?_
  refine z_iadd X d_lw_1597 ?_
  refine z_sld X hX hbl hbA (lw_in hi0 hi1 (k := 1) (by decide) (by decide)) d_lw_1598 (v := xs (i + 1).toNatClampNeg) rfl ?_
  refine mx_callF (k := 1) (wa := wx') (rest := []) (As := [.int (xs (i + 1).toNatClampNeg)]) (μ := (fun k => ((Value.ref y :: [.int (xs (i + 1).toNatClampNeg)])[k]?).getD .null)) X k_L_179 (ac_X11_two_0 l G) (by decide) (by decide) hy (fun ad w0 he => pre_mu (C := C_X11_two_0) (ts := [tI0]) (As := [.int (xs (i + 1).toNatClampNeg)]) rfl rfl rfl rfl ⟨fun _ => vty_i0 _, trivial⟩ ad w0 he) rfl d_lw_1599 ⟨by decide, by decide⟩ ⟨hc, hs⟩ rfl rfl (Nat.le_of_ble_eq_true rfl) rfl (fun r wm' hr hy' hfm => ?_)
  rcases hr with ⟨h, -⟩ | ⟨h, -⟩ | ⟨-, v, rfl⟩
  all_goals first | (exact absurd h (by decide)) | skip
  refine z_pop2 X d_lw_1602 rfl ?_
  refine z_goto X d_lw_1603 (tgt := 2220) (by decide) ?_
  exact hK wx' wm' hx' hl' hy' (RelQ.of (hR.m.keep hfx hfm (by decide)) (hR.a.keep hfx hfm (by decide)) (hR.d.keep hfx hfm (by decide)) (hR.c.keep hfx hfm (by decide)) (hR.x.keep hfx hfm (by decide)) (hR.b.keep hfx hfm (by decide)) (hR.h.keep hfx hfm (by decide)) (hR.t.keep hfx hfm (by decide)) (hR.k.keep hfx hfm (by decide)))
theorem lc_35 (X : ZC p s m #[Value.ref b] meth c code 8 RL G (fun q : Nat => s.heap.size ≤ q) ret nm) (hX : va_X b L xs s s.heap) (hbl : b < s.heap.size) (hbA : ¬ s.heap.size ≤ b) (hi0 : 0 ≤ i.toInt) (hi1 : i.toInt + 10 ≤ (L : Int) ∧ L ≤ 5120) (hx : CWx G x wx) (hy : MWx G y wm) (hR : RelQ G wx wm) (hc : kc ≤ room_1.cells) (hs : ks ≤ room_1.slots) (hK : ∀ wx' wm', CWx G x wx' → wx'.length = wx.length → MWx G y wm' → RelQ G wx' wm' → Z p l e room_1 s m #[Value.ref b] below meth c 8 G (fun q : Nat => s.heap.size ≤ q) (lw_Z below #[Value.ref b] s) 2220 (lv5 b x y o i) [] (wx' ++ wm' ++ [(o, aJ G 1 f)]) kc ks) : Z p l e room_1 s m #[Value.ref b] below meth c 8 G (fun q : Nat => s.heap.size ≤ q) (lw_Z below #[Value.ref b] s) 1606 (lv5 b x y o i) [] (wx ++ wm ++ [(o, aJ G 1 f)]) kc ks := by
  refine z_aload_n X d_lw_1606 rfl 1 rfl ?_
  refine z_aload_n X d_lw_1607 rfl 0 rfl ?_
  refine z_iload X d_lw_1608 4 rfl ?_
  refine z_iconst X d_lw_1610 (v := 1) (by decide) ?_
  refine z_iadd X d_lw_1611 ?_
  refine z_sld X hX hbl hbA (lw_in hi0 hi1 (k := 1) (by decide) (by decide)) d_lw_1612 (v := xs (i + 1).toNatClampNeg) rfl ?_
  refine z_aload_n X d_lw_1613 rfl 0 rfl ?_
  refine z_iload X d_lw_1614 4 rfl ?_
  refine z_iconst X d_lw_1616 (v := 2) (by decide) ?_
  refine z_iadd X d_lw_1617 ?_
  refine z_sld X hX hbl hbA (lw_in hi0 hi1 (k := 2) (by decide) (by decide)) d_lw_1618 (v := xs (i + 2).toNatClampNeg) rfl ?_
  refine z_aload_n X d_lw_1619 rfl 0 rfl ?_
  refine z_iload X d_lw_1620 4 rfl ?_
  refine z_iconst X d_lw_1622 (v := 3) (by decide) ?_
  refine z_iadd X d_lw_1623 ?_
  refine z_sld X hX hbl hbA (lw_in hi0 hi1 (k := 3) (by decide) (by decide)) d_lw_1624 (v := xs (i + 3).toNatClampNeg) rfl ?_
  rw [List.append_assoc]
  refine cx_callF (k := 0) (rest := []) (As := [.int (xs (i + 1).toNatClampNeg), .int (xs (i + 2).toNatClampNeg), .int (xs (i + 3).toNatClampNeg)]) (μ := (fun k => ((Value.ref x :: [.int (xs (i + 1).toNatClampNeg), .int (xs (i + 2).toNatClampNeg), .int (xs (i + 3).toNatClampNeg)])[k]?).getD .null)) X k_L_180 (ac_X10_at_0 l G) (by decide) (by decide) (by decide) hx (fun ad w0 he => pre_mu (C := C_X10_at_0) (ts := [tI0, tI0, tI0]) (As := [.int (xs (i + 1).toNatClampNeg), .int (xs (i + 2).toNatClampNeg), .int (xs (i + 3).toNatClampNeg)]) rfl rfl rfl rfl ⟨fun _ => vty_i0 _, fun _ => vty_i0 _, fun _ => vty_i0 _, trivial⟩ ad w0 he) rfl d_lw_1625 ⟨by decide, by decide⟩ ⟨hc, hs⟩ rfl rfl (by decide) rfl (fun r wx' hr hx' hl' hfx => ?_)
  rw [← List.append_assoc]
  rcases hr with ⟨h, -⟩ | ⟨-, v, rfl⟩ | ⟨h, -⟩
  all_goals first | (exact absurd h (by decide)) | skip
  refine z_pop X d_lw_1628 rfl ?_
  refine z_aload_n X d_lw_1629 rfl 2 rfl ?_
  refine z_aload_n X d_lw_1630 rfl 0 rfl ?_
  refine z_iload X d_lw_1631 4 rfl ?_
  refine z_iconst X d_lw_1633 (v := 1) (by decide) ?_
  refine z_iadd X d_lw_1634 ?_
  refine z_sld X hX hbl hbA (lw_in hi0 hi1 (k := 1) (by decide) (by decide)) d_lw_1635 (v := xs (i + 1).toNatClampNeg) rfl ?_
  refine z_aload_n X d_lw_1636 rfl 0 rfl ?_
  refine z_iload X d_lw_1637 4 rfl ?_
  refine z_iconst X d_lw_1639 (v := 2) (by decide) ?_
  refine z_iadd X d_lw_1640 ?_
  refine z_sld X hX hbl hbA (lw_in hi0 hi1 (k := 2) (by decide) (by decide)) d_lw_1641 (v := xs (i + 2).toNatClampNeg) rfl ?_
  refine z_aload_n X d_lw_1642 rfl 0 rfl ?_
  refine z_iload X d_lw_1643 4 rfl ?_
  refine z_iconst X d_lw_1645 (v := 3) (by decide) ?_
  refine z_iadd X d_lw_1646 ?_
  refine z_sld X hX hbl hbA (lw_in hi0 hi1 (k := 3) (by decide) (by decide)) d_lw_1647 (v := xs (i + 3).toNatClampNeg) rfl ?_
  refine mx_callF (k := 0) (wa := wx') (rest := []) (As := [.int (xs (i + 1).toNatClampNeg), .int (xs (i + 2).toNatClampNeg), .int (xs (i + 3).toNatClampNeg)]) (μ := (fun k => ((Value.ref y :: [.int (xs (i + 1).toNatClampNeg), .int (xs (i + 2).toNatClampNeg), .int (xs (i + 3).toNatClampNeg)])[k]?).getD .null)) X k_L_183 (ac_X11_at_0 l G) (by decide) (by decide) hy (fun ad w0 he => pre_mu (C := C_X11_at_0) (ts := [tI0, tI0, tI0]) (As := [.int (xs (i + 1).toNatClampNeg), .int (xs (i + 2).toNatClampNeg), .int (xs (i + 3).toNatClampNeg)]) rfl rfl rfl rfl ⟨fun _ => vty_i0 _, fun _ => vty_i0 _, fun _ => vty_i0 _, trivial⟩ ad w0 he) rfl d_lw_1648 ⟨by decide, by decide⟩ ⟨hc, hs⟩ rfl rfl (Nat.le_of_ble_eq_true rfl) rfl (fun r wm' hr hy' hfm => ?_)
  rcases hr with ⟨h, -⟩ | ⟨-, v, rfl⟩ | ⟨h, -⟩
  all_goals first | (exact absurd h (by decide)) | skip
  refine z_pop X d_lw_1651 rfl ?_
  refine z_goto X d_lw_1652 (tgt := 2220) (by decide) ?_
  exact hK wx' wm' hx' hl' hy' (RelQ.of (hR.m.keep hfx hfm (by decide)) (hR.a.keep hfx hfm (by decide)) (hR.d.keep hfx hfm (by decide)) (hR.c.keep hfx hfm (by decide)) (hR.x.keep hfx hfm (by decide)) (hR.b.keep hfx hfm (by decide)) (hR.h.keep hfx hfm (by decide)) (hR.t.keep hfx hfm (by decide)) (hR.k.keep hfx hfm (by decide)))
theorem lc_36 (X : ZC p s m #[Value.ref b] meth c code 8 RL G (fun q : Nat => s.heap.size ≤ q) ret nm) (hX : va_X b L xs s s.heap) (hbl : b < s.heap.size) (hbA : ¬ s.heap.size ≤ b) (hi0 : 0 ≤ i.toInt) (hi1 : i.toInt + 10 ≤ (L : Int) ∧ L ≤ 5120) (hx : CWx G x wx) (hy : MWx G y wm) (hR : RelQ G wx wm) (hc : kc ≤ room_1.cells) (hs : ks ≤ room_1.slots) (hK : ∀ wx' wm', CWx G x wx' → wx'.length = wx.length → MWx G y wm' → RelQ G wx' wm' → Z p l e room_1 s m #[Value.ref b] below meth c 8 G (fun q : Nat => s.heap.size ≤ q) (lw_Z below #[Value.ref b] s) 2220 (lv5 b x y o i) [] (wx' ++ wm' ++ [(o, aJ G 1 f)]) kc ks) : Z p l e room_1 s m #[Value.ref b] below meth c 8 G (fun q : Nat => s.heap.size ≤ q) (lw_Z below #[Value.ref b] s) 1655 (lv5 b x y o i) [] (wx ++ wm ++ [(o, aJ G 1 f)]) kc ks := by
  refine z_aload_n X d_lw_1655 rfl 1 rfl ?_
  rw [List.append_assoc]
  refine cx_callF (k := 1) (rest := []) (As := []) (μ := (fun k => ((Value.ref x :: [])[k]?).getD .null)) X k_L_184 (ac_t_X10_worst_0 l G) (by decide) (by decide) (by decide) hx (fun ad w0 he => pre_mu (C := C_t_X10_worst_0) (ts := []) (As := []) rfl rfl rfl rfl trivial ad w0 he) rfl d_lw_1656 ⟨by decide, by decide⟩ ⟨hc, hs⟩ rfl rfl (by decide) rfl (fun r wx' hr hx' hl' hfx => ?_)
  rw [← List.append_assoc]
  rcases hr with ⟨h, -⟩ | ⟨h, -⟩ | ⟨-, v, rfl⟩
  all_goals first | (exact absurd h (by decide)) | skip
  refine z_pop2 X d_lw_1659 rfl ?_
  refine z_aload_n X d_lw_1660 rfl 2 rfl ?_
  refine mx_callF (k := 1) (wa := wx') (rest := []) (As := []) (μ := (fun k => ((Value.ref y :: [])[k]?).getD .null)) X k_L_188 (ac_X11_worst_0 l G) (by decide) (by decide) hy (fun ad w0 he => pre_mu (C := C_X11_worst_0) (ts := []) (As := []) rfl rfl rfl rfl trivial ad w0 he) rfl d_lw_1661 ⟨by decide, by decide⟩ ⟨hc, hs⟩ rfl rfl (Nat.le_of_ble_eq_true rfl) rfl (fun r wm' hr hy' hfm => ?_)
  rcases hr with ⟨h, -⟩ | ⟨h, -⟩ | ⟨-, v, rfl⟩
  all_goals first | (exact absurd h (by decide)) | skip
  refine z_pop2 X d_lw_1664 rfl ?_
  refine z_goto X d_lw_1665 (tgt := 2220) (by decide) ?_
  exact hK wx' wm' hx' hl' hy' (RelQ.of (hR.m.keep hfx hfm (by decide)) (hR.a.keep hfx hfm (by decide)) (hR.d.keep hfx hfm (by decide)) (hR.c.keep hfx hfm (by decide)) (hR.x.keep hfx hfm (by decide)) (hR.b.keep hfx hfm (by decide)) (hR.h.keep hfx hfm (by decide)) (hR.t.keep hfx hfm (by decide)) (hR.k.keep hfx hfm (by decide)))
theorem lc_37 (X : ZC p s m #[Value.ref b] meth c code 8 RL G (fun q : Nat => s.heap.size ≤ q) ret nm) (hX : va_X b L xs s s.heap) (hbl : b < s.heap.size) (hbA : ¬ s.heap.size ≤ b) (hi0 : 0 ≤ i.toInt) (hi1 : i.toInt + 10 ≤ (L : Int) ∧ L ≤ 5120) (hx : CWx G x wx) (hy : MWx G y wm) (hR : RelQ G wx wm) (hc : kc ≤ room_1.cells) (hs : ks ≤ room_1.slots) (hK : ∀ wx' wm', CWx G x wx' → wx'.length = wx.length → MWx G y wm' → RelQ G wx' wm' → Z p l e room_1 s m #[Value.ref b] below meth c 8 G (fun q : Nat => s.heap.size ≤ q) (lw_Z below #[Value.ref b] s) 2220 (lv5 b x y o i) [] (wx' ++ wm' ++ [(o, aJ G 1 f)]) kc ks) : Z p l e room_1 s m #[Value.ref b] below meth c 8 G (fun q : Nat => s.heap.size ≤ q) (lw_Z below #[Value.ref b] s) 1668 (lv5 b x y o i) [] (wx ++ wm ++ [(o, aJ G 1 f)]) kc ks := by
  refine z_aload_n X d_lw_1668 rfl 1 rfl ?_
  refine z_aload_n X d_lw_1669 rfl 0 rfl ?_
  refine z_iload X d_lw_1670 4 rfl ?_
  refine z_iconst X d_lw_1672 (v := 1) (by decide) ?_
  refine z_iadd X d_lw_1673 ?_
  refine z_sld X hX hbl hbA (lw_in hi0 hi1 (k := 1) (by decide) (by decide)) d_lw_1674 (v := xs (i + 1).toNatClampNeg) rfl ?_
  refine z_aload_n X d_lw_1675 rfl 0 rfl ?_
  refine z_iload X d_lw_1676 4 rfl ?_
  refine z_iconst X d_lw_1678 (v := 2) (by decide) ?_
  refine z_iadd X d_lw_1679 ?_
  refine z_sld X hX hbl hbA (lw_in hi0 hi1 (k := 2) (by decide) (by decide)) d_lw_1680 (v := xs (i + 2).toNatClampNeg) rfl ?_
  refine z_i2l X d_lw_1681 rfl ?_
  refine z_bipush X d_lw_1682 (v := 32) (by decide) ?_
  refine z_lshl X d_lw_1684 (v := (((xs (i + 2).toNatClampNeg).toInt64) <<< (((32 : Int32)).toInt64 &&& 63))) rfl ?_
  refine z_aload_n X d_lw_1685 rfl 0 rfl ?_
  refine z_iload X d_lw_1686 4 rfl ?_
  refine z_iconst X d_lw_1688 (v := 3) (by decide) ?_
  refine z_iadd X d_lw_1689 ?_
  refine z_sld X hX hbl hbA (lw_in hi0 hi1 (k := 3) (by decide) (by decide)) d_lw_1690 (v := xs (i + 3).toNatClampNeg) rfl ?_
  refine z_i2l X d_lw_1691 rfl ?_
  refine z_ldc2 X d_lw_1692 (v := 4294967295) cn_L_152 ?_
  refine z_land X d_lw_1695 ?_
  refine z_lor X d_lw_1696 ?_
  refine z_aload_n X d_lw_1697 rfl 0 rfl ?_
  refine z_iload X d_lw_1698 4 rfl ?_
  refine z_iconst X d_lw_1700 (v := 4) (by decide) ?_
  refine z_iadd X d_lw_1701 ?_
  refine z_sld X hX hbl hbA (lw_in hi0 hi1 (k := 4) (by decide) (by decide)) d_lw_1702 (v := xs (i + 4).toNatClampNeg) rfl ?_
  refine z_aload_n X d_lw_1703 rfl 0 rfl ?_
  refine z_iload X d_lw_1704 4 rfl ?_
  refine z_iconst X d_lw_1706 (v := 5) (by decide) ?_
  refine z_iadd X d_lw_1707 ?_
  refine z_sld X hX hbl hbA (lw_in hi0 hi1 (k := 5) (by decide) (by decide)) d_lw_1708 (v := xs (i + 5).toNatClampNeg) rfl ?_
  refine z_i2l X d_lw_1709 rfl ?_
  refine z_bipush X d_lw_1710 (v := 32) (by decide) ?_
  refine z_lshl X d_lw_1712 (v := (((xs (i + 5).toNatClampNeg).toInt64) <<< (((32 : Int32)).toInt64 &&& 63))) rfl ?_
  refine z_aload_n X d_lw_1713 rfl 0 rfl ?_
  refine z_iload X d_lw_1714 4 rfl ?_
  refine z_bipush X d_lw_1716 (v := 6) (by decide) ?_
  refine z_iadd X d_lw_1718 ?_
  refine z_sld X hX hbl hbA (lw_in hi0 hi1 (k := 6) (by decide) (by decide)) d_lw_1719 (v := xs (i + 6).toNatClampNeg) rfl ?_
  refine z_i2l X d_lw_1720 rfl ?_
  refine z_ldc2 X d_lw_1721 (v := 4294967295) cn_L_152 ?_
  refine z_land X d_lw_1724 ?_
  refine z_lor X d_lw_1725 ?_
  rw [List.append_assoc]
  refine cx_callF (k := 0) (rest := []) (As := [.int (xs (i + 1).toNatClampNeg), .long ((((((xs (i + 2).toNatClampNeg).toInt64) <<< (((32 : Int32)).toInt64 &&& 63))) ||| ((((xs (i + 3).toNatClampNeg).toInt64) &&& ((4294967295 : Int64)))))), .int (xs (i + 4).toNatClampNeg), .long ((((((xs (i + 5).toNatClampNeg).toInt64) <<< (((32 : Int32)).toInt64 &&& 63))) ||| ((((xs (i + 6).toNatClampNeg).toInt64) &&& ((4294967295 : Int64))))))]) (μ := (fun k => ((Value.ref x :: [.int (xs (i + 1).toNatClampNeg), .long ((((((xs (i + 2).toNatClampNeg).toInt64) <<< (((32 : Int32)).toInt64 &&& 63))) ||| ((((xs (i + 3).toNatClampNeg).toInt64) &&& ((4294967295 : Int64)))))), .int (xs (i + 4).toNatClampNeg), .long ((((((xs (i + 5).toNatClampNeg).toInt64) <<< (((32 : Int32)).toInt64 &&& 63))) ||| ((((xs (i + 6).toNatClampNeg).toInt64) &&& ((4294967295 : Int64))))))])[k]?).getD .null)) X k_L_189 (ac_X10_floor_0 l G) (by decide) (by decide) (by decide) hx (fun ad w0 he => pre_mu (C := C_X10_floor_0) (ts := [tI0, tL0, tI0, tL0]) (As := [.int (xs (i + 1).toNatClampNeg), .long ((((((xs (i + 2).toNatClampNeg).toInt64) <<< (((32 : Int32)).toInt64 &&& 63))) ||| ((((xs (i + 3).toNatClampNeg).toInt64) &&& ((4294967295 : Int64)))))), .int (xs (i + 4).toNatClampNeg), .long ((((((xs (i + 5).toNatClampNeg).toInt64) <<< (((32 : Int32)).toInt64 &&& 63))) ||| ((((xs (i + 6).toNatClampNeg).toInt64) &&& ((4294967295 : Int64))))))]) rfl rfl rfl rfl ⟨fun _ => vty_i0 _, fun _ => vty_l0 _, fun _ => vty_i0 _, fun _ => vty_l0 _, trivial⟩ ad w0 he) rfl d_lw_1726 ⟨by decide, by decide⟩ ⟨hc, hs⟩ rfl rfl (by decide) rfl (fun r wx' hr hx' hl' hfx => ?_)
  rw [← List.append_assoc]
  rcases hr with ⟨h, -⟩ | ⟨-, v, rfl⟩ | ⟨h, -⟩
  all_goals first | (exact absurd h (by decide)) | skip
  refine z_pop X d_lw_1729 rfl ?_
  refine z_aload_n X d_lw_1730 rfl 2 rfl ?_
  refine z_aload_n X d_lw_1731 rfl 0 rfl ?_
  refine z_iload X d_lw_1732 4 rfl ?_
  refine z_iconst X d_lw_1734 (v := 1) (by decide) ?_
  refine z_iadd X d_lw_1735 ?_
  refine z_sld X hX hbl hbA (lw_in hi0 hi1 (k := 1) (by decide) (by decide)) d_lw_1736 (v := xs (i + 1).toNatClampNeg) rfl ?_
  refine z_aload_n X d_lw_1737 rfl 0 rfl ?_
  refine z_iload X d_lw_1738 4 rfl ?_
  refine z_iconst X d_lw_1740 (v := 2) (by decide) ?_
  refine z_iadd X d_lw_1741 ?_
  refine z_sld X hX hbl hbA (lw_in hi0 hi1 (k := 2) (by decide) (by decide)) d_lw_1742 (v := xs (i + 2).toNatClampNeg) rfl ?_
  refine z_i2l X d_lw_1743 rfl ?_
  refine z_bipush X d_lw_1744 (v := 32) (by decide) ?_
  refine z_lshl X d_lw_1746 (v := (((xs (i + 2).toNatClampNeg).toInt64) <<< (((32 : Int32)).toInt64 &&& 63))) rfl ?_
  refine z_aload_n X d_lw_1747 rfl 0 rfl ?_
  refine z_iload X d_lw_1748 4 rfl ?_
  refine z_iconst X d_lw_1750 (v := 3) (by decide) ?_
  refine z_iadd X d_lw_1751 ?_
  refine z_sld X hX hbl hbA (lw_in hi0 hi1 (k := 3) (by decide) (by decide)) d_lw_1752 (v := xs (i + 3).toNatClampNeg) rfl ?_
  refine z_i2l X d_lw_1753 rfl ?_
  refine z_ldc2 X d_lw_1754 (v := 4294967295) cn_L_152 ?_
  refine z_land X d_lw_1757 ?_
  refine z_lor X d_lw_1758 ?_
  refine z_aload_n X d_lw_1759 rfl 0 rfl ?_
  refine z_iload X d_lw_1760 4 rfl ?_
  refine z_iconst X d_lw_1762 (v := 4) (by decide) ?_
  refine z_iadd X d_lw_1763 ?_
  refine z_sld X hX hbl hbA (lw_in hi0 hi1 (k := 4) (by decide) (by decide)) d_lw_1764 (v := xs (i + 4).toNatClampNeg) rfl ?_
  refine z_aload_n X d_lw_1765 rfl 0 rfl ?_
  refine z_iload X d_lw_1766 4 rfl ?_
  refine z_iconst X d_lw_1768 (v := 5) (by decide) ?_
  refine z_iadd X d_lw_1769 ?_
  refine z_sld X hX hbl hbA (lw_in hi0 hi1 (k := 5) (by decide) (by decide)) d_lw_1770 (v := xs (i + 5).toNatClampNeg) rfl ?_
  refine z_i2l X d_lw_1771 rfl ?_
  refine z_bipush X d_lw_1772 (v := 32) (by decide) ?_
  refine z_lshl X d_lw_1774 (v := (((xs (i + 5).toNatClampNeg).toInt64) <<< (((32 : Int32)).toInt64 &&& 63))) rfl ?_
  refine z_aload_n X d_lw_1775 rfl 0 rfl ?_
  refine z_iload X d_lw_1776 4 rfl ?_
  refine z_bipush X d_lw_1778 (v := 6) (by decide) ?_
  refine z_iadd X d_lw_1780 ?_
  refine z_sld X hX hbl hbA (lw_in hi0 hi1 (k := 6) (by decide) (by decide)) d_lw_1781 (v := xs (i + 6).toNatClampNeg) rfl ?_
  refine z_i2l X d_lw_1782 rfl ?_
  refine z_ldc2 X d_lw_1783 (v := 4294967295) cn_L_152 ?_
  refine z_land X d_lw_1786 ?_
  refine z_lor X d_lw_1787 ?_
  refine mx_callF (k := 0) (wa := wx') (rest := []) (As := [.int (xs (i + 1).toNatClampNeg), .long ((((((xs (i + 2).toNatClampNeg).toInt64) <<< (((32 : Int32)).toInt64 &&& 63))) ||| ((((xs (i + 3).toNatClampNeg).toInt64) &&& ((4294967295 : Int64)))))), .int (xs (i + 4).toNatClampNeg), .long ((((((xs (i + 5).toNatClampNeg).toInt64) <<< (((32 : Int32)).toInt64 &&& 63))) ||| ((((xs (i + 6).toNatClampNeg).toInt64) &&& ((4294967295 : Int64))))))]) (μ := (fun k => ((Value.ref y :: [.int (xs (i + 1).toNatClampNeg), .long ((((((xs (i + 2).toNatClampNeg).toInt64) <<< (((32 : Int32)).toInt64 &&& 63))) ||| ((((xs (i + 3).toNatClampNeg).toInt64) &&& ((4294967295 : Int64)))))), .int (xs (i + 4).toNatClampNeg), .long ((((((xs (i + 5).toNatClampNeg).toInt64) <<< (((32 : Int32)).toInt64 &&& 63))) ||| ((((xs (i + 6).toNatClampNeg).toInt64) &&& ((4294967295 : Int64))))))])[k]?).getD .null)) X k_L_193 (ac_X11_floor_0 l G) (by decide) (by decide) hy (fun ad w0 he => pre_mu (C := C_X11_floor_0) (ts := [tI0, tL0, tI0, tL0]) (As := [.int (xs (i + 1).toNatClampNeg), .long ((((((xs (i + 2).toNatClampNeg).toInt64) <<< (((32 : Int32)).toInt64 &&& 63))) ||| ((((xs (i + 3).toNatClampNeg).toInt64) &&& ((4294967295 : Int64)))))), .int (xs (i + 4).toNatClampNeg), .long ((((((xs (i + 5).toNatClampNeg).toInt64) <<< (((32 : Int32)).toInt64 &&& 63))) ||| ((((xs (i + 6).toNatClampNeg).toInt64) &&& ((4294967295 : Int64))))))]) rfl rfl rfl rfl ⟨fun _ => vty_i0 _, fun _ => vty_l0 _, fun _ => vty_i0 _, fun _ => vty_l0 _, trivial⟩ ad w0 he) rfl d_lw_1788 ⟨by decide, by decide⟩ ⟨hc, hs⟩ rfl rfl (Nat.le_of_ble_eq_true rfl) rfl (fun r wm' hr hy' hfm => ?_)
  rcases hr with ⟨h, -⟩ | ⟨-, v, rfl⟩ | ⟨h, -⟩
  all_goals first | (exact absurd h (by decide)) | skip
  refine z_pop X d_lw_1791 rfl ?_
  refine z_goto X d_lw_1792 (tgt := 2220) (by decide) ?_
  exact hK wx' wm' hx' hl' hy' (RelQ.of (hR.m.keep hfx hfm (by decide)) (hR.a.keep hfx hfm (by decide)) (hR.d.keep hfx hfm (by decide)) (hR.c.keep hfx hfm (by decide)) (hR.x.keep hfx hfm (by decide)) (hR.b.keep hfx hfm (by decide)) (hR.h.keep hfx hfm (by decide)) (hR.t.keep hfx hfm (by decide)) (hR.k.keep hfx hfm (by decide)))
theorem lc_38 (X : ZC p s m #[Value.ref b] meth c code 8 RL G (fun q : Nat => s.heap.size ≤ q) ret nm) (hX : va_X b L xs s s.heap) (hbl : b < s.heap.size) (hbA : ¬ s.heap.size ≤ b) (hi0 : 0 ≤ i.toInt) (hi1 : i.toInt + 10 ≤ (L : Int) ∧ L ≤ 5120) (hx : CWx G x wx) (hy : MWx G y wm) (hR : RelQ G wx wm) (hc : kc ≤ room_1.cells) (hs : ks ≤ room_1.slots) (hK : ∀ wx' wm', CWx G x wx' → wx'.length = wx.length → MWx G y wm' → RelQ G wx' wm' → Z p l e room_1 s m #[Value.ref b] below meth c 8 G (fun q : Nat => s.heap.size ≤ q) (lw_Z below #[Value.ref b] s) 2220 (lv5 b x y o i) [] (wx' ++ wm' ++ [(o, aJ G 1 f)]) kc ks) : Z p l e room_1 s m #[Value.ref b] below meth c 8 G (fun q : Nat => s.heap.size ≤ q) (lw_Z below #[Value.ref b] s) 1795 (lv5 b x y o i) [] (wx ++ wm ++ [(o, aJ G 1 f)]) kc ks := by
  refine z_aload_n X d_lw_1795 rfl 1 rfl ?_
  refine z_aload_n X d_lw_1796 rfl 0 rfl ?_
  refine z_iload X d_lw_1797 4 rfl ?_
  refine z_iconst X d_lw_1799 (v := 1) (by decide) ?_
  refine z_iadd X d_lw_1800 ?_
  refine z_sld X hX hbl hbA (lw_in hi0 hi1 (k := 1) (by decide) (by decide)) d_lw_1801 (v := xs (i + 1).toNatClampNeg) rfl ?_
  refine z_aload_n X d_lw_1802 rfl 0 rfl ?_
  refine z_iload X d_lw_1803 4 rfl ?_
  refine z_iconst X d_lw_1805 (v := 2) (by decide) ?_
  refine z_iadd X d_lw_1806 ?_
  refine z_sld X hX hbl hbA (lw_in hi0 hi1 (k := 2) (by decide) (by decide)) d_lw_1807 (v := xs (i + 2).toNatClampNeg) rfl ?_
  refine z_aload_n X d_lw_1808 rfl 0 rfl ?_
  refine z_iload X d_lw_1809 4 rfl ?_
  refine z_iconst X d_lw_1811 (v := 3) (by decide) ?_
  refine z_iadd X d_lw_1812 ?_
  refine z_sld X hX hbl hbA (lw_in hi0 hi1 (k := 3) (by decide) (by decide)) d_lw_1813 (v := xs (i + 3).toNatClampNeg) rfl ?_
  refine z_aload_n X d_lw_1814 rfl 0 rfl ?_
  refine z_iload X d_lw_1815 4 rfl ?_
  refine z_iconst X d_lw_1817 (v := 4) (by decide) ?_
  refine z_iadd X d_lw_1818 ?_
  refine z_sld X hX hbl hbA (lw_in hi0 hi1 (k := 4) (by decide) (by decide)) d_lw_1819 (v := xs (i + 4).toNatClampNeg) rfl ?_
  refine z_i2l X d_lw_1820 rfl ?_
  refine z_bipush X d_lw_1821 (v := 32) (by decide) ?_
  refine z_lshl X d_lw_1823 (v := (((xs (i + 4).toNatClampNeg).toInt64) <<< (((32 : Int32)).toInt64 &&& 63))) rfl ?_
  refine z_aload_n X d_lw_1824 rfl 0 rfl ?_
  refine z_iload X d_lw_1825 4 rfl ?_
  refine z_iconst X d_lw_1827 (v := 5) (by decide) ?_
  refine z_iadd X d_lw_1828 ?_
  refine z_sld X hX hbl hbA (lw_in hi0 hi1 (k := 5) (by decide) (by decide)) d_lw_1829 (v := xs (i + 5).toNatClampNeg) rfl ?_
  refine z_i2l X d_lw_1830 rfl ?_
  refine z_ldc2 X d_lw_1831 (v := 4294967295) cn_L_152 ?_
  refine z_land X d_lw_1834 ?_
  refine z_lor X d_lw_1835 ?_
  refine z_aload_n X d_lw_1836 rfl 0 rfl ?_
  refine z_iload X d_lw_1837 4 rfl ?_
  refine z_bipush X d_lw_1839 (v := 6) (by decide) ?_
  refine z_iadd X d_lw_1841 ?_
  refine z_sld X hX hbl hbA (lw_in hi0 hi1 (k := 6) (by decide) (by decide)) d_lw_1842 (v := xs (i + 6).toNatClampNeg) rfl ?_
  refine z_i2l X d_lw_1843 rfl ?_
  refine z_bipush X d_lw_1844 (v := 32) (by decide) ?_
  refine z_lshl X d_lw_1846 (v := (((xs (i + 6).toNatClampNeg).toInt64) <<< (((32 : Int32)).toInt64 &&& 63))) rfl ?_
  refine z_aload_n X d_lw_1847 rfl 0 rfl ?_
  refine z_iload X d_lw_1848 4 rfl ?_
  refine z_bipush X d_lw_1850 (v := 7) (by decide) ?_
  refine z_iadd X d_lw_1852 ?_
  refine z_sld X hX hbl hbA (lw_in hi0 hi1 (k := 7) (by decide) (by decide)) d_lw_1853 (v := xs (i + 7).toNatClampNeg) rfl ?_
  refine z_i2l X d_lw_1854 rfl ?_
  refine z_ldc2 X d_lw_1855 (v := 4294967295) cn_L_152 ?_
  refine z_land X d_lw_1858 ?_
  refine z_lor X d_lw_1859 ?_
  refine z_aload_n X d_lw_1860 rfl 0 rfl ?_
  refine z_iload X d_lw_1861 4 rfl ?_
  refine z_bipush X d_lw_1863 (v := 8) (by decide) ?_
  refine z_iadd X d_lw_1865 ?_
  refine z_sld X hX hbl hbA (lw_in hi0 hi1 (k := 8) (by decide) (by decide)) d_lw_1866 (v := xs (i + 8).toNatClampNeg) rfl ?_
  refine z_i2l X d_lw_1867 rfl ?_
  refine z_bipush X d_lw_1868 (v := 32) (by decide) ?_
  refine z_lshl X d_lw_1870 (v := (((xs (i + 8).toNatClampNeg).toInt64) <<< (((32 : Int32)).toInt64 &&& 63))) rfl ?_
  refine z_aload_n X d_lw_1871 rfl 0 rfl ?_
  refine z_iload X d_lw_1872 4 rfl ?_
  refine z_bipush X d_lw_1874 (v := 9) (by decide) ?_
  refine z_iadd X d_lw_1876 ?_
  refine z_sld X hX hbl hbA (lw_in hi0 hi1 (k := 9) (by decide) (by decide)) d_lw_1877 (v := xs (i + 9).toNatClampNeg) rfl ?_
  refine z_i2l X d_lw_1878 rfl ?_
  refine z_ldc2 X d_lw_1879 (v := 4294967295) cn_L_152 ?_
  refine z_land X d_lw_1882 ?_
  refine z_lor X d_lw_1883 ?_
  rw [List.append_assoc]
  refine cx_callF (k := 0) (rest := []) (As := [.int (xs (i + 1).toNatClampNeg), .int (xs (i + 2).toNatClampNeg), .int (xs (i + 3).toNatClampNeg), .long ((((((xs (i + 4).toNatClampNeg).toInt64) <<< (((32 : Int32)).toInt64 &&& 63))) ||| ((((xs (i + 5).toNatClampNeg).toInt64) &&& ((4294967295 : Int64)))))), .long ((((((xs (i + 6).toNatClampNeg).toInt64) <<< (((32 : Int32)).toInt64 &&& 63))) ||| ((((xs (i + 7).toNatClampNeg).toInt64) &&& ((4294967295 : Int64)))))), .long ((((((xs (i + 8).toNatClampNeg).toInt64) <<< (((32 : Int32)).toInt64 &&& 63))) ||| ((((xs (i + 9).toNatClampNeg).toInt64) &&& ((4294967295 : Int64))))))]) (μ := (fun k => ((Value.ref x :: [.int (xs (i + 1).toNatClampNeg), .int (xs (i + 2).toNatClampNeg), .int (xs (i + 3).toNatClampNeg), .long ((((((xs (i + 4).toNatClampNeg).toInt64) <<< (((32 : Int32)).toInt64 &&& 63))) ||| ((((xs (i + 5).toNatClampNeg).toInt64) &&& ((4294967295 : Int64)))))), .long ((((((xs (i + 6).toNatClampNeg).toInt64) <<< (((32 : Int32)).toInt64 &&& 63))) ||| ((((xs (i + 7).toNatClampNeg).toInt64) &&& ((4294967295 : Int64)))))), .long ((((((xs (i + 8).toNatClampNeg).toInt64) <<< (((32 : Int32)).toInt64 &&& 63))) ||| ((((xs (i + 9).toNatClampNeg).toInt64) &&& ((4294967295 : Int64))))))])[k]?).getD .null)) X k_L_194 (ac_X10_whose_0 l G) (by decide) (by decide) (by decide) hx (fun ad w0 he => pre_mu (C := C_X10_whose_0) (ts := [tI0, tI0, tI0, tL0, tL0, tL0]) (As := [.int (xs (i + 1).toNatClampNeg), .int (xs (i + 2).toNatClampNeg), .int (xs (i + 3).toNatClampNeg), .long ((((((xs (i + 4).toNatClampNeg).toInt64) <<< (((32 : Int32)).toInt64 &&& 63))) ||| ((((xs (i + 5).toNatClampNeg).toInt64) &&& ((4294967295 : Int64)))))), .long ((((((xs (i + 6).toNatClampNeg).toInt64) <<< (((32 : Int32)).toInt64 &&& 63))) ||| ((((xs (i + 7).toNatClampNeg).toInt64) &&& ((4294967295 : Int64)))))), .long ((((((xs (i + 8).toNatClampNeg).toInt64) <<< (((32 : Int32)).toInt64 &&& 63))) ||| ((((xs (i + 9).toNatClampNeg).toInt64) &&& ((4294967295 : Int64))))))]) rfl rfl rfl rfl ⟨fun _ => vty_i0 _, fun _ => vty_i0 _, fun _ => vty_i0 _, fun _ => vty_l0 _, fun _ => vty_l0 _, fun _ => vty_l0 _, trivial⟩ ad w0 he) rfl d_lw_1884 ⟨by decide, by decide⟩ ⟨hc, hs⟩ rfl rfl (by decide) rfl (fun r wx' hr hx' hl' hfx => ?_)
  rw [← List.append_assoc]
  rcases hr with ⟨h, -⟩ | ⟨-, v, rfl⟩ | ⟨h, -⟩
  all_goals first | (exact absurd h (by decide)) | skip
  refine z_pop X d_lw_1887 rfl ?_
  refine z_aload_n X d_lw_1888 rfl 2 rfl ?_
  refine z_aload_n X d_lw_1889 rfl 0 rfl ?_
  refine z_iload X d_lw_1890 4 rfl ?_
  refine z_iconst X d_lw_1892 (v := 1) (by decide) ?_
  refine z_iadd X d_lw_1893 ?_
  refine z_sld X hX hbl hbA (lw_in hi0 hi1 (k := 1) (by decide) (by decide)) d_lw_1894 (v := xs (i + 1).toNatClampNeg) rfl ?_
  refine z_aload_n X d_lw_1895 rfl 0 rfl ?_
  refine z_iload X d_lw_1896 4 rfl ?_
  refine z_iconst X d_lw_1898 (v := 2) (by decide) ?_
  refine z_iadd X d_lw_1899 ?_
  refine z_sld X hX hbl hbA (lw_in hi0 hi1 (k := 2) (by decide) (by decide)) d_lw_1900 (v := xs (i + 2).toNatClampNeg) rfl ?_
  refine z_aload_n X d_lw_1901 rfl 0 rfl ?_
  refine z_iload X d_lw_1902 4 rfl ?_
  refine z_iconst X d_lw_1904 (v := 3) (by decide) ?_
  refine z_iadd X d_lw_1905 ?_
  refine z_sld X hX hbl hbA (lw_in hi0 hi1 (k := 3) (by decide) (by decide)) d_lw_1906 (v := xs (i + 3).toNatClampNeg) rfl ?_
  refine z_aload_n X d_lw_1907 rfl 0 rfl ?_
  refine z_iload X d_lw_1908 4 rfl ?_
  refine z_iconst X d_lw_1910 (v := 4) (by decide) ?_
  refine z_iadd X d_lw_1911 ?_
  refine z_sld X hX hbl hbA (lw_in hi0 hi1 (k := 4) (by decide) (by decide)) d_lw_1912 (v := xs (i + 4).toNatClampNeg) rfl ?_
  refine z_i2l X d_lw_1913 rfl ?_
  refine z_bipush X d_lw_1914 (v := 32) (by decide) ?_
  refine z_lshl X d_lw_1916 (v := (((xs (i + 4).toNatClampNeg).toInt64) <<< (((32 : Int32)).toInt64 &&& 63))) rfl ?_
  refine z_aload_n X d_lw_1917 rfl 0 rfl ?_
  refine z_iload X d_lw_1918 4 rfl ?_
  refine z_iconst X d_lw_1920 (v := 5) (by decide) ?_
  refine z_iadd X d_lw_1921 ?_
  refine z_sld X hX hbl hbA (lw_in hi0 hi1 (k := 5) (by decide) (by decide)) d_lw_1922 (v := xs (i + 5).toNatClampNeg) rfl ?_
  refine z_i2l X d_lw_1923 rfl ?_
  refine z_ldc2 X d_lw_1924 (v := 4294967295) cn_L_152 ?_
  refine z_land X d_lw_1927 ?_
  refine z_lor X d_lw_1928 ?_
  refine z_aload_n X d_lw_1929 rfl 0 rfl ?_
  refine z_iload X d_lw_1930 4 rfl ?_
  refine z_bipush X d_lw_1932 (v := 6) (by decide) ?_
  refine z_iadd X d_lw_1934 ?_
  refine z_sld X hX hbl hbA (lw_in hi0 hi1 (k := 6) (by decide) (by decide)) d_lw_1935 (v := xs (i + 6).toNatClampNeg) rfl ?_
  refine z_i2l X d_lw_1936 rfl ?_
  refine z_bipush X d_lw_1937 (v := 32) (by decide) ?_
  refine z_lshl X d_lw_1939 (v := (((xs (i + 6).toNatClampNeg).toInt64) <<< (((32 : Int32)).toInt64 &&& 63))) rfl ?_
  refine z_aload_n X d_lw_1940 rfl 0 rfl ?_
  refine z_iload X d_lw_1941 4 rfl ?_
  refine z_bipush X d_lw_1943 (v := 7) (by decide) ?_
  refine z_iadd X d_lw_1945 ?_
  refine z_sld X hX hbl hbA (lw_in hi0 hi1 (k := 7) (by decide) (by decide)) d_lw_1946 (v := xs (i + 7).toNatClampNeg) rfl ?_
  refine z_i2l X d_lw_1947 rfl ?_
  refine z_ldc2 X d_lw_1948 (v := 4294967295) cn_L_152 ?_
  refine z_land X d_lw_1951 ?_
  refine z_lor X d_lw_1952 ?_
  refine z_aload_n X d_lw_1953 rfl 0 rfl ?_
  refine z_iload X d_lw_1954 4 rfl ?_
  refine z_bipush X d_lw_1956 (v := 8) (by decide) ?_
  refine z_iadd X d_lw_1958 ?_
  refine z_sld X hX hbl hbA (lw_in hi0 hi1 (k := 8) (by decide) (by decide)) d_lw_1959 (v := xs (i + 8).toNatClampNeg) rfl ?_
  refine z_i2l X d_lw_1960 rfl ?_
  refine z_bipush X d_lw_1961 (v := 32) (by decide) ?_
  refine z_lshl X d_lw_1963 (v := (((xs (i + 8).toNatClampNeg).toInt64) <<< (((32 : Int32)).toInt64 &&& 63))) rfl ?_
  refine z_aload_n X d_lw_1964 rfl 0 rfl ?_
  refine z_iload X d_lw_1965 4 rfl ?_
  refine z_bipush X d_lw_1967 (v := 9) (by decide) ?_
  refine z_iadd X d_lw_1969 ?_
  refine z_sld X hX hbl hbA (lw_in hi0 hi1 (k := 9) (by decide) (by decide)) d_lw_1970 (v := xs (i + 9).toNatClampNeg) rfl ?_
  refine z_i2l X d_lw_1971 rfl ?_
  refine z_ldc2 X d_lw_1972 (v := 4294967295) cn_L_152 ?_
  refine z_land X d_lw_1975 ?_
  refine z_lor X d_lw_1976 ?_
  refine mx_callF (k := 0) (wa := wx') (rest := []) (As := [.int (xs (i + 1).toNatClampNeg), .int (xs (i + 2).toNatClampNeg), .int (xs (i + 3).toNatClampNeg), .long ((((((xs (i + 4).toNatClampNeg).toInt64) <<< (((32 : Int32)).toInt64 &&& 63))) ||| ((((xs (i + 5).toNatClampNeg).toInt64) &&& ((4294967295 : Int64)))))), .long ((((((xs (i + 6).toNatClampNeg).toInt64) <<< (((32 : Int32)).toInt64 &&& 63))) ||| ((((xs (i + 7).toNatClampNeg).toInt64) &&& ((4294967295 : Int64)))))), .long ((((((xs (i + 8).toNatClampNeg).toInt64) <<< (((32 : Int32)).toInt64 &&& 63))) ||| ((((xs (i + 9).toNatClampNeg).toInt64) &&& ((4294967295 : Int64))))))]) (μ := (fun k => ((Value.ref y :: [.int (xs (i + 1).toNatClampNeg), .int (xs (i + 2).toNatClampNeg), .int (xs (i + 3).toNatClampNeg), .long ((((((xs (i + 4).toNatClampNeg).toInt64) <<< (((32 : Int32)).toInt64 &&& 63))) ||| ((((xs (i + 5).toNatClampNeg).toInt64) &&& ((4294967295 : Int64)))))), .long ((((((xs (i + 6).toNatClampNeg).toInt64) <<< (((32 : Int32)).toInt64 &&& 63))) ||| ((((xs (i + 7).toNatClampNeg).toInt64) &&& ((4294967295 : Int64)))))), .long ((((((xs (i + 8).toNatClampNeg).toInt64) <<< (((32 : Int32)).toInt64 &&& 63))) ||| ((((xs (i + 9).toNatClampNeg).toInt64) &&& ((4294967295 : Int64))))))])[k]?).getD .null)) X k_L_198 (ac_X11_whose_0 l G) (by decide) (by decide) hy (fun ad w0 he => pre_mu (C := C_X11_whose_0) (ts := [tI0, tI0, tI0, tL0, tL0, tL0]) (As := [.int (xs (i + 1).toNatClampNeg), .int (xs (i + 2).toNatClampNeg), .int (xs (i + 3).toNatClampNeg), .long ((((((xs (i + 4).toNatClampNeg).toInt64) <<< (((32 : Int32)).toInt64 &&& 63))) ||| ((((xs (i + 5).toNatClampNeg).toInt64) &&& ((4294967295 : Int64)))))), .long ((((((xs (i + 6).toNatClampNeg).toInt64) <<< (((32 : Int32)).toInt64 &&& 63))) ||| ((((xs (i + 7).toNatClampNeg).toInt64) &&& ((4294967295 : Int64)))))), .long ((((((xs (i + 8).toNatClampNeg).toInt64) <<< (((32 : Int32)).toInt64 &&& 63))) ||| ((((xs (i + 9).toNatClampNeg).toInt64) &&& ((4294967295 : Int64))))))]) rfl rfl rfl rfl ⟨fun _ => vty_i0 _, fun _ => vty_i0 _, fun _ => vty_i0 _, fun _ => vty_l0 _, fun _ => vty_l0 _, fun _ => vty_l0 _, trivial⟩ ad w0 he) rfl d_lw_1977 ⟨by decide, by decide⟩ ⟨hc, hs⟩ rfl rfl (Nat.le_of_ble_eq_true rfl) rfl (fun r wm' hr hy' hfm => ?_)
  rcases hr with ⟨h, -⟩ | ⟨-, v, rfl⟩ | ⟨h, -⟩
  all_goals first | (exact absurd h (by decide)) | skip
  refine z_pop X d_lw_1980 rfl ?_
  refine z_goto X d_lw_1981 (tgt := 2220) (by decide) ?_
  exact hK wx' wm' hx' hl' hy' (RelQ.of (hR.m.keep hfx hfm (by decide)) (hR.a.keep hfx hfm (by decide)) (hR.d.keep hfx hfm (by decide)) (hR.c.keep hfx hfm (by decide)) (hR.x.keep hfx hfm (by decide)) (hR.b.keep hfx hfm (by decide)) (hR.h.keep hfx hfm (by decide)) (hR.t.keep hfx hfm (by decide)) (hR.k.keep hfx hfm (by decide)))
theorem lc_39 (X : ZC p s m #[Value.ref b] meth c code 8 RL G (fun q : Nat => s.heap.size ≤ q) ret nm) (hX : va_X b L xs s s.heap) (hbl : b < s.heap.size) (hbA : ¬ s.heap.size ≤ b) (hi0 : 0 ≤ i.toInt) (hi1 : i.toInt + 10 ≤ (L : Int) ∧ L ≤ 5120) (hx : CWx G x wx) (hy : MWx G y wm) (hR : RelQ G wx wm) (hc : kc ≤ room_1.cells) (hs : ks ≤ room_1.slots) (hK : ∀ wx' wm', CWx G x wx' → wx'.length = wx.length → MWx G y wm' → RelQ G wx' wm' → Z p l e room_1 s m #[Value.ref b] below meth c 8 G (fun q : Nat => s.heap.size ≤ q) (lw_Z below #[Value.ref b] s) 2220 (lv5 b x y o i) [] (wx' ++ wm' ++ [(o, aJ G 1 f)]) kc ks) : Z p l e room_1 s m #[Value.ref b] below meth c 8 G (fun q : Nat => s.heap.size ≤ q) (lw_Z below #[Value.ref b] s) 1984 (lv5 b x y o i) [] (wx ++ wm ++ [(o, aJ G 1 f)]) kc ks := by
  refine z_aload_n X d_lw_1984 rfl 1 rfl ?_
  refine z_aload_n X d_lw_1985 rfl 0 rfl ?_
  refine z_iload X d_lw_1986 4 rfl ?_
  refine z_iconst X d_lw_1988 (v := 1) (by decide) ?_
  refine z_iadd X d_lw_1989 ?_
  refine z_sld X hX hbl hbA (lw_in hi0 hi1 (k := 1) (by decide) (by decide)) d_lw_1990 (v := xs (i + 1).toNatClampNeg) rfl ?_
  rw [List.append_assoc]
  refine cx_callF (k := 0) (rest := []) (As := [.int (xs (i + 1).toNatClampNeg)]) (μ := (fun k => ((Value.ref x :: [.int (xs (i + 1).toNatClampNeg)])[k]?).getD .null)) X k_L_199 (ac_X10_part_0 l G) (by decide) (by decide) (by decide) hx (fun ad w0 he => pre_mu (C := C_X10_part_0) (ts := [tI0]) (As := [.int (xs (i + 1).toNatClampNeg)]) rfl rfl rfl rfl ⟨fun _ => vty_i0 _, trivial⟩ ad w0 he) rfl d_lw_1991 ⟨by decide, by decide⟩ ⟨hc, hs⟩ rfl rfl (by decide) rfl (fun r wx' hr hx' hl' hfx => ?_)
  rw [← List.append_assoc]
  rcases hr with ⟨h, -⟩ | ⟨-, v, rfl⟩ | ⟨h, -⟩
  all_goals first | (exact absurd h (by decide)) | skip
  refine z_pop X d_lw_1994 rfl ?_
  refine z_aload_n X d_lw_1995 rfl 2 rfl ?_
  refine z_aload_n X d_lw_1996 rfl 0 rfl ?_
  refine z_iload X d_lw_1997 4 rfl ?_
  refine z_iconst X d_lw_1999 (v := 1) (by decide) ?_
  refine z_iadd X d_lw_2000 ?_
  refine z_sld X hX hbl hbA (lw_in hi0 hi1 (k := 1) (by decide) (by decide)) d_lw_2001 (v := xs (i + 1).toNatClampNeg) rfl ?_
  refine mx_callF (k := 0) (wa := wx') (rest := []) (As := [.int (xs (i + 1).toNatClampNeg)]) (μ := (fun k => ((Value.ref y :: [.int (xs (i + 1).toNatClampNeg)])[k]?).getD .null)) X k_L_202 (ac_X11_part_0 l G) (by decide) (by decide) hy (fun ad w0 he => pre_mu (C := C_X11_part_0) (ts := [tI0]) (As := [.int (xs (i + 1).toNatClampNeg)]) rfl rfl rfl rfl ⟨fun _ => vty_i0 _, trivial⟩ ad w0 he) rfl d_lw_2002 ⟨by decide, by decide⟩ ⟨hc, hs⟩ rfl rfl (Nat.le_of_ble_eq_true rfl) rfl (fun r wm' hr hy' hfm => ?_)
  rcases hr with ⟨h, -⟩ | ⟨-, v, rfl⟩ | ⟨h, -⟩
  all_goals first | (exact absurd h (by decide)) | skip
  refine z_pop X d_lw_2005 rfl ?_
  refine z_goto X d_lw_2006 (tgt := 2220) (by decide) ?_
  exact hK wx' wm' hx' hl' hy' (RelQ.of (hR.m.keep hfx hfm (by decide)) (hR.a.keep hfx hfm (by decide)) (hR.d.keep hfx hfm (by decide)) (hR.c.keep hfx hfm (by decide)) (hR.x.keep hfx hfm (by decide)) (hR.b.keep hfx hfm (by decide)) (hR.h.keep hfx hfm (by decide)) (hR.t.keep hfx hfm (by decide)) (hR.k.keep hfx hfm (by decide)))
theorem lc_40 (X : ZC p s m #[Value.ref b] meth c code 8 RL G (fun q : Nat => s.heap.size ≤ q) ret nm) (hX : va_X b L xs s s.heap) (hbl : b < s.heap.size) (hbA : ¬ s.heap.size ≤ b) (hi0 : 0 ≤ i.toInt) (hi1 : i.toInt + 10 ≤ (L : Int) ∧ L ≤ 5120) (hx : CWx G x wx) (hy : MWx G y wm) (hR : RelQ G wx wm) (hc : kc ≤ room_1.cells) (hs : ks ≤ room_1.slots) (hK : ∀ wx' wm', CWx G x wx' → wx'.length = wx.length → MWx G y wm' → RelQ G wx' wm' → Z p l e room_1 s m #[Value.ref b] below meth c 8 G (fun q : Nat => s.heap.size ≤ q) (lw_Z below #[Value.ref b] s) 2220 (lv5 b x y o i) [] (wx' ++ wm' ++ [(o, aJ G 1 f)]) kc ks) : Z p l e room_1 s m #[Value.ref b] below meth c 8 G (fun q : Nat => s.heap.size ≤ q) (lw_Z below #[Value.ref b] s) 2009 (lv5 b x y o i) [] (wx ++ wm ++ [(o, aJ G 1 f)]) kc ks := by
  refine z_aload_n X d_lw_2009 rfl 1 rfl ?_
  refine z_aload_n X d_lw_2010 rfl 0 rfl ?_
  refine z_iload X d_lw_2011 4 rfl ?_
  refine z_iconst X d_lw_2013 (v := 1) (by decide) ?_
  refine z_iadd X d_lw_2014 ?_
  refine z_sld X hX hbl hbA (lw_in hi0 hi1 (k := 1) (by decide) (by decide)) d_lw_2015 (v := xs (i + 1).toNatClampNeg) rfl ?_
  refine z_aload_n X d_lw_2016 rfl 0 rfl ?_
  refine z_iload X d_lw_2017 4 rfl ?_
  refine z_iconst X d_lw_2019 (v := 2) (by decide) ?_
  refine z_iadd X d_lw_2020 ?_
  refine z_sld X hX hbl hbA (lw_in hi0 hi1 (k := 2) (by decide) (by decide)) d_lw_2021 (v := xs (i + 2).toNatClampNeg) rfl ?_
  refine z_i2l X d_lw_2022 rfl ?_
  refine z_bipush X d_lw_2023 (v := 32) (by decide) ?_
  refine z_lshl X d_lw_2025 (v := (((xs (i + 2).toNatClampNeg).toInt64) <<< (((32 : Int32)).toInt64 &&& 63))) rfl ?_
  refine z_aload_n X d_lw_2026 rfl 0 rfl ?_
  refine z_iload X d_lw_2027 4 rfl ?_
  refine z_iconst X d_lw_2029 (v := 3) (by decide) ?_
  refine z_iadd X d_lw_2030 ?_
  refine z_sld X hX hbl hbA (lw_in hi0 hi1 (k := 3) (by decide) (by decide)) d_lw_2031 (v := xs (i + 3).toNatClampNeg) rfl ?_
  refine z_i2l X d_lw_2032 rfl ?_
  refine z_ldc2 X d_lw_2033 (v := 4294967295) cn_L_152 ?_
  refine z_land X d_lw_2036 ?_
  refine z_lor X d_lw_2037 ?_
  rw [List.append_assoc]
  refine cx_callF (k := 0) (rest := []) (As := [.int (xs (i + 1).toNatClampNeg), .long ((((((xs (i + 2).toNatClampNeg).toInt64) <<< (((32 : Int32)).toInt64 &&& 63))) ||| ((((xs (i + 3).toNatClampNeg).toInt64) &&& ((4294967295 : Int64))))))]) (μ := (fun k => ((Value.ref x :: [.int (xs (i + 1).toNatClampNeg), .long ((((((xs (i + 2).toNatClampNeg).toInt64) <<< (((32 : Int32)).toInt64 &&& 63))) ||| ((((xs (i + 3).toNatClampNeg).toInt64) &&& ((4294967295 : Int64))))))])[k]?).getD .null)) X k_L_203 (ac_X10_buckets_0 l G) (by decide) (by decide) (by decide) hx (fun ad w0 he => pre_mu (C := C_X10_buckets_0) (ts := [tI0, tL0]) (As := [.int (xs (i + 1).toNatClampNeg), .long ((((((xs (i + 2).toNatClampNeg).toInt64) <<< (((32 : Int32)).toInt64 &&& 63))) ||| ((((xs (i + 3).toNatClampNeg).toInt64) &&& ((4294967295 : Int64))))))]) rfl rfl rfl rfl ⟨fun _ => vty_i0 _, fun _ => vty_l0 _, trivial⟩ ad w0 he) rfl d_lw_2038 ⟨by decide, by decide⟩ ⟨hc, hs⟩ rfl rfl (by decide) rfl (fun r wx' hr hx' hl' hfx => ?_)
  rw [← List.append_assoc]
  rcases hr with ⟨h, -⟩ | ⟨-, v, rfl⟩ | ⟨h, -⟩
  all_goals first | (exact absurd h (by decide)) | skip
  refine z_pop X d_lw_2041 rfl ?_
  refine z_aload_n X d_lw_2042 rfl 2 rfl ?_
  refine z_aload_n X d_lw_2043 rfl 0 rfl ?_
  refine z_iload X d_lw_2044 4 rfl ?_
  refine z_iconst X d_lw_2046 (v := 1) (by decide) ?_
  refine z_iadd X d_lw_2047 ?_
  refine z_sld X hX hbl hbA (lw_in hi0 hi1 (k := 1) (by decide) (by decide)) d_lw_2048 (v := xs (i + 1).toNatClampNeg) rfl ?_
  refine z_aload_n X d_lw_2049 rfl 0 rfl ?_
  refine z_iload X d_lw_2050 4 rfl ?_
  refine z_iconst X d_lw_2052 (v := 2) (by decide) ?_
  refine z_iadd X d_lw_2053 ?_
  refine z_sld X hX hbl hbA (lw_in hi0 hi1 (k := 2) (by decide) (by decide)) d_lw_2054 (v := xs (i + 2).toNatClampNeg) rfl ?_
  refine z_i2l X d_lw_2055 rfl ?_
  refine z_bipush X d_lw_2056 (v := 32) (by decide) ?_
  refine z_lshl X d_lw_2058 (v := (((xs (i + 2).toNatClampNeg).toInt64) <<< (((32 : Int32)).toInt64 &&& 63))) rfl ?_
  refine z_aload_n X d_lw_2059 rfl 0 rfl ?_
  refine z_iload X d_lw_2060 4 rfl ?_
  refine z_iconst X d_lw_2062 (v := 3) (by decide) ?_
  refine z_iadd X d_lw_2063 ?_
  refine z_sld X hX hbl hbA (lw_in hi0 hi1 (k := 3) (by decide) (by decide)) d_lw_2064 (v := xs (i + 3).toNatClampNeg) rfl ?_
  refine z_i2l X d_lw_2065 rfl ?_
  refine z_ldc2 X d_lw_2066 (v := 4294967295) cn_L_152 ?_
  refine z_land X d_lw_2069 ?_
  refine z_lor X d_lw_2070 ?_
  refine mx_callF (k := 0) (wa := wx') (rest := []) (As := [.int (xs (i + 1).toNatClampNeg), .long ((((((xs (i + 2).toNatClampNeg).toInt64) <<< (((32 : Int32)).toInt64 &&& 63))) ||| ((((xs (i + 3).toNatClampNeg).toInt64) &&& ((4294967295 : Int64))))))]) (μ := (fun k => ((Value.ref y :: [.int (xs (i + 1).toNatClampNeg), .long ((((((xs (i + 2).toNatClampNeg).toInt64) <<< (((32 : Int32)).toInt64 &&& 63))) ||| ((((xs (i + 3).toNatClampNeg).toInt64) &&& ((4294967295 : Int64))))))])[k]?).getD .null)) X k_L_206 (ac_buckets l G) (by decide) (by decide) hy (fun ad w0 he => pre_mu (C := C_buckets) (ts := [tI0, tL0]) (As := [.int (xs (i + 1).toNatClampNeg), .long ((((((xs (i + 2).toNatClampNeg).toInt64) <<< (((32 : Int32)).toInt64 &&& 63))) ||| ((((xs (i + 3).toNatClampNeg).toInt64) &&& ((4294967295 : Int64))))))]) rfl rfl rfl rfl ⟨fun _ => vty_i0 _, fun _ => vty_l0 _, trivial⟩ ad w0 he) rfl d_lw_2071 ⟨by decide, by decide⟩ ⟨hc, hs⟩ rfl rfl (Nat.le_of_ble_eq_true rfl) rfl (fun r wm' hr hy' hfm => ?_)
  rcases hr with ⟨h, -⟩ | ⟨-, v, rfl⟩ | ⟨h, -⟩
  all_goals first | (exact absurd h (by decide)) | skip
  refine z_pop X d_lw_2074 rfl ?_
  refine z_goto X d_lw_2075 (tgt := 2220) (by decide) ?_
  exact hK wx' wm' hx' hl' hy' (RelQ.of (hR.m.keep hfx hfm (by decide)) (hR.a.keep hfx hfm (by decide)) (hR.d.keep hfx hfm (by decide)) (hR.c.keep hfx hfm (by decide)) (hR.x.keep hfx hfm (by decide)) (hR.b.keep hfx hfm (by decide)) (hR.h.keep hfx hfm (by decide)) (hR.t.keep hfx hfm (by decide)) (hR.k.keep hfx hfm (by decide)))
theorem lc_41 (X : ZC p s m #[Value.ref b] meth c code 8 RL G (fun q : Nat => s.heap.size ≤ q) ret nm) (hX : va_X b L xs s s.heap) (hbl : b < s.heap.size) (hbA : ¬ s.heap.size ≤ b) (hi0 : 0 ≤ i.toInt) (hi1 : i.toInt + 10 ≤ (L : Int) ∧ L ≤ 5120) (hx : CWx G x wx) (hy : MWx G y wm) (hR : RelQ G wx wm) (hc : kc ≤ room_1.cells) (hs : ks ≤ room_1.slots) (hK : ∀ wx' wm', CWx G x wx' → wx'.length = wx.length → MWx G y wm' → RelQ G wx' wm' → Z p l e room_1 s m #[Value.ref b] below meth c 8 G (fun q : Nat => s.heap.size ≤ q) (lw_Z below #[Value.ref b] s) 2220 (lv5 b x y o i) [] (wx' ++ wm' ++ [(o, aJ G 1 f)]) kc ks) : Z p l e room_1 s m #[Value.ref b] below meth c 8 G (fun q : Nat => s.heap.size ≤ q) (lw_Z below #[Value.ref b] s) 2078 (lv5 b x y o i) [] (wx ++ wm ++ [(o, aJ G 1 f)]) kc ks := by
  refine z_aload_n X d_lw_2078 rfl 1 rfl ?_
  rw [List.append_assoc]
  refine cx_callF (k := 1) (rest := []) (As := []) (μ := (fun k => ((Value.ref x :: [])[k]?).getD .null)) X k_L_207 (ac_X10_cogs_0 l G) (by decide) (by decide) (by decide) hx (fun ad w0 he => pre_mu (C := C_X10_cogs_0) (ts := []) (As := []) rfl rfl rfl rfl trivial ad w0 he) rfl d_lw_2079 ⟨by decide, by decide⟩ ⟨hc, hs⟩ rfl rfl (by decide) rfl (fun r wx' hr hx' hl' hfx => ?_)
  rw [← List.append_assoc]
  rcases hr with ⟨h, -⟩ | ⟨h, -⟩ | ⟨-, v, rfl⟩
  all_goals first | (exact absurd h (by decide)) | skip
  refine z_pop2 X d_lw_2082 rfl ?_
  refine z_aload_n X d_lw_2083 rfl 2 rfl ?_
  refine mx_callF (k := 1) (wa := wx') (rest := []) (As := []) (μ := (fun k => ((Value.ref y :: [])[k]?).getD .null)) X k_L_210 (ac_X11_cogs_0 l G) (by decide) (by decide) hy (fun ad w0 he => pre_mu (C := C_X11_cogs_0) (ts := []) (As := []) rfl rfl rfl rfl trivial ad w0 he) rfl d_lw_2084 ⟨by decide, by decide⟩ ⟨hc, hs⟩ rfl rfl (Nat.le_of_ble_eq_true rfl) rfl (fun r wm' hr hy' hfm => ?_)
  rcases hr with ⟨h, -⟩ | ⟨h, -⟩ | ⟨-, v, rfl⟩
  all_goals first | (exact absurd h (by decide)) | skip
  refine z_pop2 X d_lw_2087 rfl ?_
  refine z_goto X d_lw_2088 (tgt := 2220) (by decide) ?_
  exact hK wx' wm' hx' hl' hy' (RelQ.of (hR.m.keep hfx hfm (by decide)) (hR.a.keep hfx hfm (by decide)) (hR.d.keep hfx hfm (by decide)) (hR.c.keep hfx hfm (by decide)) (hR.x.keep hfx hfm (by decide)) (hR.b.keep hfx hfm (by decide)) (hR.h.keep hfx hfm (by decide)) (hR.t.keep hfx hfm (by decide)) (hR.k.keep hfx hfm (by decide)))
theorem lc_42 (X : ZC p s m #[Value.ref b] meth c code 8 RL G (fun q : Nat => s.heap.size ≤ q) ret nm) (hX : va_X b L xs s s.heap) (hbl : b < s.heap.size) (hbA : ¬ s.heap.size ≤ b) (hi0 : 0 ≤ i.toInt) (hi1 : i.toInt + 10 ≤ (L : Int) ∧ L ≤ 5120) (hx : CWx G x wx) (hy : MWx G y wm) (hR : RelQ G wx wm) (hc : kc ≤ room_1.cells) (hs : ks ≤ room_1.slots) (hK : ∀ wx' wm', CWx G x wx' → wx'.length = wx.length → MWx G y wm' → RelQ G wx' wm' → Z p l e room_1 s m #[Value.ref b] below meth c 8 G (fun q : Nat => s.heap.size ≤ q) (lw_Z below #[Value.ref b] s) 2220 (lv5 b x y o i) [] (wx' ++ wm' ++ [(o, aJ G 1 f)]) kc ks) : Z p l e room_1 s m #[Value.ref b] below meth c 8 G (fun q : Nat => s.heap.size ≤ q) (lw_Z below #[Value.ref b] s) 2091 (lv5 b x y o i) [] (wx ++ wm ++ [(o, aJ G 1 f)]) kc ks := by
  refine z_aload_n X d_lw_2091 rfl 1 rfl ?_
  rw [List.append_assoc]
  refine cx_callF (k := 1) (rest := []) (As := []) (μ := (fun k => ((Value.ref x :: [])[k]?).getD .null)) X k_L_211 (ac_X10_order_0 l G) (by decide) (by decide) (by decide) hx (fun ad w0 he => pre_mu (C := C_X10_order_0) (ts := []) (As := []) rfl rfl rfl rfl trivial ad w0 he) rfl d_lw_2092 ⟨by decide, by decide⟩ ⟨hc, hs⟩ rfl rfl (by decide) rfl (fun r wx' hr hx' hl' hfx => ?_)
  rw [← List.append_assoc]
  rcases hr with ⟨h, -⟩ | ⟨h, -⟩ | ⟨-, v, rfl⟩
  all_goals first | (exact absurd h (by decide)) | skip
  refine z_pop2 X d_lw_2095 rfl ?_
  refine z_aload_n X d_lw_2096 rfl 2 rfl ?_
  refine mx_callF (k := 1) (wa := wx') (rest := []) (As := []) (μ := (fun k => ((Value.ref y :: [])[k]?).getD .null)) X k_L_214 (ac_X11_order_0 l G) (by decide) (by decide) hy (fun ad w0 he => pre_mu (C := C_X11_order_0) (ts := []) (As := []) rfl rfl rfl rfl trivial ad w0 he) rfl d_lw_2097 ⟨by decide, by decide⟩ ⟨hc, hs⟩ rfl rfl (Nat.le_of_ble_eq_true rfl) rfl (fun r wm' hr hy' hfm => ?_)
  rcases hr with ⟨h, -⟩ | ⟨h, -⟩ | ⟨-, v, rfl⟩
  all_goals first | (exact absurd h (by decide)) | skip
  refine z_pop2 X d_lw_2100 rfl ?_
  refine z_goto X d_lw_2101 (tgt := 2220) (by decide) ?_
  exact hK wx' wm' hx' hl' hy' (RelQ.of (hR.m.keep hfx hfm (by decide)) (hR.a.keep hfx hfm (by decide)) (hR.d.keep hfx hfm (by decide)) (hR.c.keep hfx hfm (by decide)) (hR.x.keep hfx hfm (by decide)) (hR.b.keep hfx hfm (by decide)) (hR.h.keep hfx hfm (by decide)) (hR.t.keep hfx hfm (by decide)) (hR.k.keep hfx hfm (by decide)))
theorem lc_43 (X : ZC p s m #[Value.ref b] meth c code 8 RL G (fun q : Nat => s.heap.size ≤ q) ret nm) (hX : va_X b L xs s s.heap) (hbl : b < s.heap.size) (hbA : ¬ s.heap.size ≤ b) (hi0 : 0 ≤ i.toInt) (hi1 : i.toInt + 10 ≤ (L : Int) ∧ L ≤ 5120) (hx : CWx G x wx) (hy : MWx G y wm) (hR : RelQ G wx wm) (hc : kc ≤ room_1.cells) (hs : ks ≤ room_1.slots) (hK : ∀ wx' wm', CWx G x wx' → wx'.length = wx.length → MWx G y wm' → RelQ G wx' wm' → Z p l e room_1 s m #[Value.ref b] below meth c 8 G (fun q : Nat => s.heap.size ≤ q) (lw_Z below #[Value.ref b] s) 2220 (lv5 b x y o i) [] (wx' ++ wm' ++ [(o, aJ G 1 f)]) kc ks) : Z p l e room_1 s m #[Value.ref b] below meth c 8 G (fun q : Nat => s.heap.size ≤ q) (lw_Z below #[Value.ref b] s) 2104 (lv5 b x y o i) [] (wx ++ wm ++ [(o, aJ G 1 f)]) kc ks := by
  refine z_aload_n X d_lw_2104 rfl 1 rfl ?_
  rw [List.append_assoc]
  refine cx_callF (k := 0) (rest := []) (As := []) (μ := (fun k => ((Value.ref x :: [])[k]?).getD .null)) X k_L_215 (ac_X10_round_0 l G) (by decide) (by decide) (by decide) hx (fun ad w0 he => pre_mu (C := C_X10_round_0) (ts := []) (As := []) rfl rfl rfl rfl trivial ad w0 he) rfl d_lw_2105 ⟨by decide, by decide⟩ ⟨hc, hs⟩ rfl rfl (by decide) rfl (fun r wx' hr hx' hl' hfx => ?_)
  rw [← List.append_assoc]
  rcases hr with ⟨h, -⟩ | ⟨-, v, rfl⟩ | ⟨h, -⟩
  all_goals first | (exact absurd h (by decide)) | skip
  refine z_pop X d_lw_2108 rfl ?_
  refine z_aload_n X d_lw_2109 rfl 2 rfl ?_
  refine mx_callF (k := 0) (wa := wx') (rest := []) (As := []) (μ := (fun k => ((Value.ref y :: [])[k]?).getD .null)) X k_L_218 (ac_round l G) (by decide) (by decide) hy (fun ad w0 he => pre_mu (C := C_round) (ts := []) (As := []) rfl rfl rfl rfl trivial ad w0 he) rfl d_lw_2110 ⟨by decide, by decide⟩ ⟨hc, hs⟩ rfl rfl (Nat.le_of_ble_eq_true rfl) rfl (fun r wm' hr hy' hfm => ?_)
  rcases hr with ⟨h, -⟩ | ⟨-, v, rfl⟩ | ⟨h, -⟩
  all_goals first | (exact absurd h (by decide)) | skip
  refine z_pop X d_lw_2113 rfl ?_
  refine z_goto X d_lw_2114 (tgt := 2220) (by decide) ?_
  exact hK wx' wm' hx' hl' hy' (RelQ.of (hR.m.keep hfx hfm (by decide)) (hR.a.keep hfx hfm (by decide)) (hR.d.keep hfx hfm (by decide)) (hR.c.keep hfx hfm (by decide)) (hR.x.keep hfx hfm (by decide)) (hR.b.keep hfx hfm (by decide)) (hR.h.keep hfx hfm (by decide)) (hR.t.keep hfx hfm (by decide)) (hR.k.keep hfx hfm (by decide)))
theorem lc_44 (X : ZC p s m #[Value.ref b] meth c code 8 RL G (fun q : Nat => s.heap.size ≤ q) ret nm) (hX : va_X b L xs s s.heap) (hbl : b < s.heap.size) (hbA : ¬ s.heap.size ≤ b) (hi0 : 0 ≤ i.toInt) (hi1 : i.toInt + 10 ≤ (L : Int) ∧ L ≤ 5120) (hx : CWx G x wx) (hy : MWx G y wm) (hR : RelQ G wx wm) (hc : kc ≤ room_1.cells) (hs : ks ≤ room_1.slots) (hK : ∀ wx' wm', CWx G x wx' → wx'.length = wx.length → MWx G y wm' → RelQ G wx' wm' → Z p l e room_1 s m #[Value.ref b] below meth c 8 G (fun q : Nat => s.heap.size ≤ q) (lw_Z below #[Value.ref b] s) 2220 (lv5 b x y o i) [] (wx' ++ wm' ++ [(o, aJ G 1 f)]) kc ks) : Z p l e room_1 s m #[Value.ref b] below meth c 8 G (fun q : Nat => s.heap.size ≤ q) (lw_Z below #[Value.ref b] s) 2117 (lv5 b x y o i) [] (wx ++ wm ++ [(o, aJ G 1 f)]) kc ks := by
  obtain ⟨n, h9, s9, c9, f9, g9, ⟨n0, n1⟩, rc9, e9, ⟨hn1, hn2⟩, ⟨a2, b2⟩, ⟨a3, b3⟩, ⟨a4, b4⟩, a5, b5⟩ := id hR.m
  obtain ⟨hh9, hq, hg, hr, x1, x2, x3, x4, x5, x6, x7⟩ := id hR.h
  obtain rfl := some_int (a2.symm.trans x1)
  obtain ⟨ha0, sa0, ca0, ⟨eh1, es1, ec1⟩, ⟨pq, pg, pa, pb, pe⟩, ⟨rq, rg, ra, rb, re⟩, ⟨fq, fg, fa, fb, fe⟩, ⟨oq, og, oa, ob1, oe⟩, ⟨wq, wg, wa1, wb1, we⟩⟩ := id hR.a
  obtain rfl := some_int (a2.symm.trans eh1)
  obtain rfl := some_int (a3.symm.trans es1)
  obtain rfl := some_int (a4.symm.trans ec1)
  obtain ⟨tq, tX9, tY9, t1, t2, t3, t4, t5⟩ := id hR.t
  obtain rfl := arrinj (ra.symm.trans x4)
  obtain ⟨hk9, rk9, bq, kq, kh1, kh2, kh3, kh4, kz⟩ := id hR.k
  obtain rfl := some_int (a2.symm.trans kh1)
  obtain rfl := arrinj (ra.symm.trans kh2)
  refine z_aload_n X d_lw_2117 rfl 1 rfl ?_
  refine z_aload_n X d_lw_2118 rfl 0 rfl ?_
  refine z_iload X d_lw_2119 4 rfl ?_
  refine z_iconst X d_lw_2121 (v := 1) (by decide) ?_
  refine z_iadd X d_lw_2122 ?_
  refine z_sld X hX hbl hbA (lw_in hi0 hi1 (k := 1) (by decide) (by decide)) d_lw_2123 (v := xs (i + 1).toNatClampNeg) rfl ?_
  rcases (by omega : (xs (i + 1).toNatClampNeg).toInt ≤ -1 ∨ 3 ≤ (xs (i + 1).toNatClampNeg).toInt ∨ (xs (i + 1).toNatClampNeg).toInt = 0 ∨ (xs (i + 1).toNatClampNeg).toInt = 1 ∨ (xs (i + 1).toNatClampNeg).toInt = 2) with ha | ha | ha | ha | ha
  · skip
    rw [List.append_assoc]
    refine cx_callP (rest := []) (As := [.int (xs (i + 1).toNatClampNeg)]) (μ := (fun k => ((Value.ref x :: [.int (xs (i + 1).toNatClampNeg)])[k]?).getD .null)) X k_L_219 (ac_k_X10_keep_o0 l G) (by decide) hx (fun ad w0 he hag => pre_mu (C := C_k_X10_keep_o0) (ts := [(0, -2147483648, -1)]) (As := [.int (xs (i + 1).toNatClampNeg)]) rfl rfl rfl rfl ⟨fun _ => vty_i (i32_lo _) (by omega), trivial⟩ ad w0 he) rfl d_lw_2124 ⟨by decide, by decide⟩ ⟨hc, hs⟩ rfl rfl (by decide) rfl (fun ad r wx' hz hx' hl' => ?_)
    rw [← List.append_assoc]
    have hfx := pz_fx hz
    obtain ⟨v, ν, rfl, v0, v1, e50, eA, eF, hF, hL⟩ := pz_a hz rfl rfl rfl
    refine z_pop X d_lw_2127 rfl ?_
    refine z_aload_n X d_lw_2128 rfl 2 rfl ?_
    refine z_aload_n X d_lw_2129 rfl 0 rfl ?_
    refine z_iload X d_lw_2130 4 rfl ?_
    refine z_iconst X d_lw_2132 (v := 1) (by decide) ?_
    refine z_iadd X d_lw_2133 ?_
    refine z_sld X hX hbl hbA (lw_in hi0 hi1 (k := 1) (by decide) (by decide)) d_lw_2134 (v := xs (i + 1).toNatClampNeg) rfl ?_
    refine mx_callP (wa := wx') (rest := []) (As := [.int (xs (i + 1).toNatClampNeg)]) (μ := (fun k => ((Value.ref y :: [.int (xs (i + 1).toNatClampNeg)])[k]?).getD .null)) X k_L_222 (ac_X11_keep_0 l G) hy (fun ad he => pre_mu (C := C_X11_keep_0) (ts := [(0, -2147483648, -1)]) (As := [.int (xs (i + 1).toNatClampNeg)]) rfl rfl rfl rfl ⟨fun _ => vty_i (i32_lo _) (by omega), trivial⟩ ad wm he) rfl d_lw_2135 ⟨by decide, by decide⟩ ⟨hc, hs⟩ rfl rfl (Nat.le_of_ble_eq_true rfl) rfl (fun ad2 r wm' hz2 hy' => ?_)
    have hfm := pz_fx hz2
    obtain ⟨v2, ν2, rfl, w0, w1, f50, fA, fF, hF2, hL2⟩ := pz_a hz2 rfl rfl rfl
    have hR' : RelQ G wx' wm' := RelQ.of (hR.m.keep hfx hfm (by decide)) (hR.a.keep hfx hfm (by decide)) (hR.d.keep hfx hfm (by decide)) (hR.c.keep hfx hfm (by decide)) (hR.x.keep hfx hfm (by decide)) (hR.b.keep hfx hfm (by decide)) (hR.h.keep hfx hfm (by decide)) (hR.t.keep hfx hfm (by decide)) (hR.k.keep hfx hfm (by decide))
    refine z_pop X d_lw_2138 rfl ?_
    refine z_goto X d_lw_2139 (tgt := 2220) (by decide) ?_
    exact hK wx' wm' hx' hl' hy' hR'
  · skip
    rw [List.append_assoc]
    refine cx_callP (rest := []) (As := [.int (xs (i + 1).toNatClampNeg)]) (μ := (fun k => ((Value.ref x :: [.int (xs (i + 1).toNatClampNeg)])[k]?).getD .null)) X k_L_219 (ac_k_X10_keep_o1 l G) (by decide) hx (fun ad w0 he hag => pre_mu (C := C_k_X10_keep_o1) (ts := [(0, 3, 2147483647)]) (As := [.int (xs (i + 1).toNatClampNeg)]) rfl rfl rfl rfl ⟨fun _ => vty_i (by omega) (i32_hi _), trivial⟩ ad w0 he) rfl d_lw_2124 ⟨by decide, by decide⟩ ⟨hc, hs⟩ rfl rfl (by decide) rfl (fun ad r wx' hz hx' hl' => ?_)
    rw [← List.append_assoc]
    have hfx := pz_fx hz
    obtain ⟨v, ν, rfl, v0, v1, e50, eA, eF, hF, hL⟩ := pz_a hz rfl rfl rfl
    refine z_pop X d_lw_2127 rfl ?_
    refine z_aload_n X d_lw_2128 rfl 2 rfl ?_
    refine z_aload_n X d_lw_2129 rfl 0 rfl ?_
    refine z_iload X d_lw_2130 4 rfl ?_
    refine z_iconst X d_lw_2132 (v := 1) (by decide) ?_
    refine z_iadd X d_lw_2133 ?_
    refine z_sld X hX hbl hbA (lw_in hi0 hi1 (k := 1) (by decide) (by decide)) d_lw_2134 (v := xs (i + 1).toNatClampNeg) rfl ?_
    refine mx_callP (wa := wx') (rest := []) (As := [.int (xs (i + 1).toNatClampNeg)]) (μ := (fun k => ((Value.ref y :: [.int (xs (i + 1).toNatClampNeg)])[k]?).getD .null)) X k_L_222 (ac_X11_keep_4 l G) hy (fun ad he => pre_mu (C := C_X11_keep_4) (ts := [(0, 3, 2147483647)]) (As := [.int (xs (i + 1).toNatClampNeg)]) rfl rfl rfl rfl ⟨fun _ => vty_i (by omega) (i32_hi _), trivial⟩ ad wm he) rfl d_lw_2135 ⟨by decide, by decide⟩ ⟨hc, hs⟩ rfl rfl (Nat.le_of_ble_eq_true rfl) rfl (fun ad2 r wm' hz2 hy' => ?_)
    have hfm := pz_fx hz2
    obtain ⟨v2, ν2, rfl, w0, w1, f50, fA, fF, hF2, hL2⟩ := pz_a hz2 rfl rfl rfl
    have hR' : RelQ G wx' wm' := RelQ.of (hR.m.keep hfx hfm (by decide)) (hR.a.keep hfx hfm (by decide)) (hR.d.keep hfx hfm (by decide)) (hR.c.keep hfx hfm (by decide)) (hR.x.keep hfx hfm (by decide)) (hR.b.keep hfx hfm (by decide)) (hR.h.keep hfx hfm (by decide)) (hR.t.keep hfx hfm (by decide)) (hR.k.keep hfx hfm (by decide))
    refine z_pop X d_lw_2138 rfl ?_
    refine z_goto X d_lw_2139 (tgt := 2220) (by decide) ?_
    exact hK wx' wm' hx' hl' hy' hR'
  · skip
    have hv : xs (i + 1).toNatClampNeg = 0 := Int32.toInt_inj.mp (by have z : (0 : Int32).toInt = 0 := (by decide); omega)
    rw [List.append_assoc]
    refine cx_callG (rm := { frames := 3, cells := 0, slots := 0, locals := 68 }) (m0 := C_k_X10_keep_0.2.2.2.2.1) (Ψ := (fun r w1 => (∃ v : Int32, r = some (.int v) ∧ v = 1) ∧ fget w1 46 0 = some (.int 1) ∧ CQ G w1 47 16 hq ∧ CQ G w1 48 8 tq)) (rest := []) (As := [.int (xs (i + 1).toNatClampNeg)]) X k_L_219 (fun ad w0 hW hag => (by rw [hv]; exact ac_kqx0 l G hW ((hag 10 0 (by decide)).trans x2) ((hag 105 0 (by decide)).trans t1))) ⟨rfl, rfl⟩ (by decide) (fun r w1 wc hl h => ⟨h.1, by rw [fget_app (by omega)]; exact h.2.1, h.2.2.1.app (by omega), h.2.2.2.app (by omega)⟩) hx d_lw_2124 ⟨by decide, by decide⟩ ⟨hc, hs⟩ rfl rfl (by decide) rfl (fun r wx' hz hx' hl' hfx => ?_)
    rw [← List.append_assoc]
    obtain ⟨v, rfl⟩ := (hz.1.elim fun v9 h => ⟨v9, h.1⟩ : ∃ v : Int32, r = some (Value.int v))
    refine z_pop X d_lw_2127 rfl ?_
    refine z_aload_n X d_lw_2128 rfl 2 rfl ?_
    refine z_aload_n X d_lw_2129 rfl 0 rfl ?_
    refine z_iload X d_lw_2130 4 rfl ?_
    refine z_iconst X d_lw_2132 (v := 1) (by decide) ?_
    refine z_iadd X d_lw_2133 ?_
    refine z_sld X hX hbl hbA (lw_in hi0 hi1 (k := 1) (by decide) (by decide)) d_lw_2134 (v := xs (i + 1).toNatClampNeg) rfl ?_
    refine mx_callG (rm := { frames := 1, cells := 0, slots := 0, locals := 25 }) (m0 := C_X11_keep_1.2.2.2.2.1) (Ψ := KpQ G 0 h9.toInt bq kq hg tX9 tY9) (wa := wx') (rest := []) (As := [.int (xs (i + 1).toNatClampNeg)]) X k_L_222 (fun ad hW => ac_kqm0 l G hW ha b2 kh3 kh4 x3 t2 t3) ⟨rfl, rfl⟩ hy d_lw_2135 ⟨by decide, by decide⟩ ⟨hc, hs⟩ rfl rfl (Nat.le_of_ble_eq_true rfl) rfl (fun r wm' hz2 hy' hfm => ?_)
    obtain ⟨v2, rfl⟩ := (⟨_, hz2.1⟩ : ∃ v : Int32, r = some (Value.int v))
    obtain ⟨ev0, hM'⟩ := (⟨trivial, RelKh.kp hR.k hfx (i := 0) (by decide) ⟨fun j hj hne => by rcases (by omega : j = 0 ∨ j = 1 ∨ j = 2) with rfl | rfl | rfl <;> first | exact absurd rfl hne | decide, by decide, by decide⟩ a2 ra kh3 kh4 hz.2 hz2 x5 x6 x7 t4 t5⟩ : True ∧ RelKh G wx' wm')
    have hR' : RelQ G wx' wm' := RelQ.of (hR.m.keep hfx hfm (by decide)) (hR.a.keep hfx hfm (by decide)) (hR.d.keep hfx hfm (by decide)) (hR.c.keep hfx hfm (by decide)) (hR.x.keep hfx hfm (by decide)) (hR.b.keep hfx hfm (by decide)) (hR.h.keep hfx hfm (by decide)) (hR.t.keep hfx hfm (by decide)) (hM')
    refine z_pop X d_lw_2138 rfl ?_
    refine z_goto X d_lw_2139 (tgt := 2220) (by decide) ?_
    exact hK wx' wm' hx' hl' hy' hR'
  · skip
    have hv : xs (i + 1).toNatClampNeg = 1 := Int32.toInt_inj.mp (by have z : (1 : Int32).toInt = 1 := (by decide); omega)
    rw [List.append_assoc]
    refine cx_callG (rm := { frames := 3, cells := 0, slots := 0, locals := 68 }) (m0 := C_k_X10_keep_1.2.2.2.2.1) (Ψ := (fun r w1 => (∃ v : Int32, r = some (.int v) ∧ v = 1) ∧ fget w1 65 0 = some (.int 1) ∧ CQ G w1 66 16 hq ∧ CQ G w1 67 8 tq)) (rest := []) (As := [.int (xs (i + 1).toNatClampNeg)]) X k_L_219 (fun ad w0 hW hag => (by rw [hv]; exact ac_kqx1 l G hW ((hag 10 0 (by decide)).trans x2) ((hag 105 0 (by decide)).trans t1))) ⟨rfl, rfl⟩ (by decide) (fun r w1 wc hl h => ⟨h.1, by rw [fget_app (by omega)]; exact h.2.1, h.2.2.1.app (by omega), h.2.2.2.app (by omega)⟩) hx d_lw_2124 ⟨by decide, by decide⟩ ⟨hc, hs⟩ rfl rfl (by decide) rfl (fun r wx' hz hx' hl' hfx => ?_)
    rw [← List.append_assoc]
    obtain ⟨v, rfl⟩ := (hz.1.elim fun v9 h => ⟨v9, h.1⟩ : ∃ v : Int32, r = some (Value.int v))
    refine z_pop X d_lw_2127 rfl ?_
    refine z_aload_n X d_lw_2128 rfl 2 rfl ?_
    refine z_aload_n X d_lw_2129 rfl 0 rfl ?_
    refine z_iload X d_lw_2130 4 rfl ?_
    refine z_iconst X d_lw_2132 (v := 1) (by decide) ?_
    refine z_iadd X d_lw_2133 ?_
    refine z_sld X hX hbl hbA (lw_in hi0 hi1 (k := 1) (by decide) (by decide)) d_lw_2134 (v := xs (i + 1).toNatClampNeg) rfl ?_
    refine mx_callG (rm := { frames := 1, cells := 0, slots := 0, locals := 25 }) (m0 := C_X11_keep_2.2.2.2.2.1) (Ψ := KpQ G 1 h9.toInt bq kq hg tX9 tY9) (wa := wx') (rest := []) (As := [.int (xs (i + 1).toNatClampNeg)]) X k_L_222 (fun ad hW => ac_kqm1 l G hW ha b2 kh3 kh4 x3 t2 t3) ⟨rfl, rfl⟩ hy d_lw_2135 ⟨by decide, by decide⟩ ⟨hc, hs⟩ rfl rfl (Nat.le_of_ble_eq_true rfl) rfl (fun r wm' hz2 hy' hfm => ?_)
    obtain ⟨v2, rfl⟩ := (⟨_, hz2.1⟩ : ∃ v : Int32, r = some (Value.int v))
    obtain ⟨ev0, hM'⟩ := (⟨trivial, RelKh.kp hR.k hfx (i := 1) (by decide) ⟨fun j hj hne => by rcases (by omega : j = 0 ∨ j = 1 ∨ j = 2) with rfl | rfl | rfl <;> first | exact absurd rfl hne | decide, by decide, by decide⟩ a2 ra kh3 kh4 hz.2 hz2 x5 x6 x7 t4 t5⟩ : True ∧ RelKh G wx' wm')
    have hR' : RelQ G wx' wm' := RelQ.of (hR.m.keep hfx hfm (by decide)) (hR.a.keep hfx hfm (by decide)) (hR.d.keep hfx hfm (by decide)) (hR.c.keep hfx hfm (by decide)) (hR.x.keep hfx hfm (by decide)) (hR.b.keep hfx hfm (by decide)) (hR.h.keep hfx hfm (by decide)) (hR.t.keep hfx hfm (by decide)) (hM')
    refine z_pop X d_lw_2138 rfl ?_
    refine z_goto X d_lw_2139 (tgt := 2220) (by decide) ?_
    exact hK wx' wm' hx' hl' hy' hR'
  · skip
    have hv : xs (i + 1).toNatClampNeg = 2 := Int32.toInt_inj.mp (by have z : (2 : Int32).toInt = 2 := (by decide); omega)
    rw [List.append_assoc]
    refine cx_callG (rm := { frames := 3, cells := 0, slots := 0, locals := 68 }) (m0 := C_k_X10_keep_2.2.2.2.2.1) (Ψ := (fun r w1 => (∃ v : Int32, r = some (.int v) ∧ v = 1) ∧ fget w1 84 0 = some (.int 1) ∧ CQ G w1 85 16 hq ∧ CQ G w1 86 8 tq)) (rest := []) (As := [.int (xs (i + 1).toNatClampNeg)]) X k_L_219 (fun ad w0 hW hag => (by rw [hv]; exact ac_kqx2 l G hW ((hag 10 0 (by decide)).trans x2) ((hag 105 0 (by decide)).trans t1))) ⟨rfl, rfl⟩ (by decide) (fun r w1 wc hl h => ⟨h.1, by rw [fget_app (by omega)]; exact h.2.1, h.2.2.1.app (by omega), h.2.2.2.app (by omega)⟩) hx d_lw_2124 ⟨by decide, by decide⟩ ⟨hc, hs⟩ rfl rfl (by decide) rfl (fun r wx' hz hx' hl' hfx => ?_)
    rw [← List.append_assoc]
    obtain ⟨v, rfl⟩ := (hz.1.elim fun v9 h => ⟨v9, h.1⟩ : ∃ v : Int32, r = some (Value.int v))
    refine z_pop X d_lw_2127 rfl ?_
    refine z_aload_n X d_lw_2128 rfl 2 rfl ?_
    refine z_aload_n X d_lw_2129 rfl 0 rfl ?_
    refine z_iload X d_lw_2130 4 rfl ?_
    refine z_iconst X d_lw_2132 (v := 1) (by decide) ?_
    refine z_iadd X d_lw_2133 ?_
    refine z_sld X hX hbl hbA (lw_in hi0 hi1 (k := 1) (by decide) (by decide)) d_lw_2134 (v := xs (i + 1).toNatClampNeg) rfl ?_
    refine mx_callG (rm := { frames := 1, cells := 0, slots := 0, locals := 25 }) (m0 := C_X11_keep_3.2.2.2.2.1) (Ψ := KpQ G 2 h9.toInt bq kq hg tX9 tY9) (wa := wx') (rest := []) (As := [.int (xs (i + 1).toNatClampNeg)]) X k_L_222 (fun ad hW => ac_kqm2 l G hW ha b2 kh3 kh4 x3 t2 t3) ⟨rfl, rfl⟩ hy d_lw_2135 ⟨by decide, by decide⟩ ⟨hc, hs⟩ rfl rfl (Nat.le_of_ble_eq_true rfl) rfl (fun r wm' hz2 hy' hfm => ?_)
    obtain ⟨v2, rfl⟩ := (⟨_, hz2.1⟩ : ∃ v : Int32, r = some (Value.int v))
    obtain ⟨ev0, hM'⟩ := (⟨trivial, RelKh.kp hR.k hfx (i := 2) (by decide) ⟨fun j hj hne => by rcases (by omega : j = 0 ∨ j = 1 ∨ j = 2) with rfl | rfl | rfl <;> first | exact absurd rfl hne | decide, by decide, by decide⟩ a2 ra kh3 kh4 hz.2 hz2 x5 x6 x7 t4 t5⟩ : True ∧ RelKh G wx' wm')
    have hR' : RelQ G wx' wm' := RelQ.of (hR.m.keep hfx hfm (by decide)) (hR.a.keep hfx hfm (by decide)) (hR.d.keep hfx hfm (by decide)) (hR.c.keep hfx hfm (by decide)) (hR.x.keep hfx hfm (by decide)) (hR.b.keep hfx hfm (by decide)) (hR.h.keep hfx hfm (by decide)) (hR.t.keep hfx hfm (by decide)) (hM')
    refine z_pop X d_lw_2138 rfl ?_
    refine z_goto X d_lw_2139 (tgt := 2220) (by decide) ?_
    exact hK wx' wm' hx' hl' hy' hR'
theorem lc_45 (X : ZC p s m #[Value.ref b] meth c code 8 RL G (fun q : Nat => s.heap.size ≤ q) ret nm) (hX : va_X b L xs s s.heap) (hbl : b < s.heap.size) (hbA : ¬ s.heap.size ≤ b) (hi0 : 0 ≤ i.toInt) (hi1 : i.toInt + 10 ≤ (L : Int) ∧ L ≤ 5120) (hx : CWx G x wx) (hy : MWx G y wm) (hR : RelQ G wx wm) (hc : kc ≤ room_1.cells) (hs : ks ≤ room_1.slots) (hK : ∀ wx' wm', CWx G x wx' → wx'.length = wx.length → MWx G y wm' → RelQ G wx' wm' → Z p l e room_1 s m #[Value.ref b] below meth c 8 G (fun q : Nat => s.heap.size ≤ q) (lw_Z below #[Value.ref b] s) 2220 (lv5 b x y o i) [] (wx' ++ wm' ++ [(o, aJ G 1 f)]) kc ks) : Z p l e room_1 s m #[Value.ref b] below meth c 8 G (fun q : Nat => s.heap.size ≤ q) (lw_Z below #[Value.ref b] s) 2142 (lv5 b x y o i) [] (wx ++ wm ++ [(o, aJ G 1 f)]) kc ks := by
  obtain ⟨n, h9, s9, c9, f9, g9, ⟨n0, n1⟩, rc9, e9, ⟨hn1, hn2⟩, ⟨a2, b2⟩, ⟨a3, b3⟩, ⟨a4, b4⟩, a5, b5⟩ := id hR.m
  obtain ⟨hh9, hq, hg, hr, x1, x2, x3, x4, x5, x6, x7⟩ := id hR.h
  obtain rfl := some_int (a2.symm.trans x1)
  obtain ⟨ha0, sa0, ca0, ⟨eh1, es1, ec1⟩, ⟨pq, pg, pa, pb, pe⟩, ⟨rq, rg, ra, rb, re⟩, ⟨fq, fg, fa, fb, fe⟩, ⟨oq, og, oa, ob1, oe⟩, ⟨wq, wg, wa1, wb1, we⟩⟩ := id hR.a
  obtain rfl := some_int (a2.symm.trans eh1)
  obtain rfl := some_int (a3.symm.trans es1)
  obtain rfl := some_int (a4.symm.trans ec1)
  obtain ⟨tq, tX9, tY9, t1, t2, t3, t4, t5⟩ := id hR.t
  obtain rfl := arrinj (ra.symm.trans x4)
  obtain ⟨hk9, rk9, bq, kq, kh1, kh2, kh3, kh4, kz⟩ := id hR.k
  obtain rfl := some_int (a2.symm.trans kh1)
  obtain rfl := arrinj (ra.symm.trans kh2)
  refine z_aload_n X d_lw_2142 rfl 1 rfl ?_
  refine z_aload_n X d_lw_2143 rfl 0 rfl ?_
  refine z_iload X d_lw_2144 4 rfl ?_
  refine z_iconst X d_lw_2146 (v := 1) (by decide) ?_
  refine z_iadd X d_lw_2147 ?_
  refine z_sld X hX hbl hbA (lw_in hi0 hi1 (k := 1) (by decide) (by decide)) d_lw_2148 (v := xs (i + 1).toNatClampNeg) rfl ?_
  rcases (by omega : (xs (i + 1).toNatClampNeg).toInt ≤ -1 ∨ 3 ≤ (xs (i + 1).toNatClampNeg).toInt ∨ (xs (i + 1).toNatClampNeg).toInt = 0 ∨ (xs (i + 1).toNatClampNeg).toInt = 1 ∨ (xs (i + 1).toNatClampNeg).toInt = 2) with ha | ha | ha | ha | ha
  · skip
    rw [List.append_assoc]
    refine cx_callP (rest := []) (As := [.int (xs (i + 1).toNatClampNeg)]) (μ := (fun k => ((Value.ref x :: [.int (xs (i + 1).toNatClampNeg)])[k]?).getD .null)) X k_L_223 (ac_k_X10_again_o0 l G) (by decide) hx (fun ad w0 he hag => pre_mu (C := C_k_X10_again_o0) (ts := [(0, -2147483648, -1)]) (As := [.int (xs (i + 1).toNatClampNeg)]) rfl rfl rfl rfl ⟨fun _ => vty_i (i32_lo _) (by omega), trivial⟩ ad w0 he) rfl d_lw_2149 ⟨by decide, by decide⟩ ⟨hc, hs⟩ rfl rfl (by decide) rfl (fun ad r wx' hz hx' hl' => ?_)
    rw [← List.append_assoc]
    have hfx := pz_fx hz
    obtain ⟨v, ν, rfl, v0, v1, e50, eA, eF, hF, hL⟩ := pz_a hz rfl rfl rfl
    refine z_pop X d_lw_2152 rfl ?_
    refine z_aload_n X d_lw_2153 rfl 2 rfl ?_
    refine z_aload_n X d_lw_2154 rfl 0 rfl ?_
    refine z_iload X d_lw_2155 4 rfl ?_
    refine z_iconst X d_lw_2157 (v := 1) (by decide) ?_
    refine z_iadd X d_lw_2158 ?_
    refine z_sld X hX hbl hbA (lw_in hi0 hi1 (k := 1) (by decide) (by decide)) d_lw_2159 (v := xs (i + 1).toNatClampNeg) rfl ?_
    refine mx_callP (wa := wx') (rest := []) (As := [.int (xs (i + 1).toNatClampNeg)]) (μ := (fun k => ((Value.ref y :: [.int (xs (i + 1).toNatClampNeg)])[k]?).getD .null)) X k_L_226 (ac_X11_again_0 l G) hy (fun ad he => pre_mu (C := C_X11_again_0) (ts := [(0, -2147483648, -1)]) (As := [.int (xs (i + 1).toNatClampNeg)]) rfl rfl rfl rfl ⟨fun _ => vty_i (i32_lo _) (by omega), trivial⟩ ad wm he) rfl d_lw_2160 ⟨by decide, by decide⟩ ⟨hc, hs⟩ rfl rfl (Nat.le_of_ble_eq_true rfl) rfl (fun ad2 r wm' hz2 hy' => ?_)
    have hfm := pz_fx hz2
    obtain ⟨v2, ν2, rfl, w0, w1, f50, fA, fF, hF2, hL2⟩ := pz_a hz2 rfl rfl rfl
    have hR' : RelQ G wx' wm' := RelQ.of (hR.m.keep hfx hfm (by decide)) (hR.a.keep hfx hfm (by decide)) (hR.d.keep hfx hfm (by decide)) (hR.c.keep hfx hfm (by decide)) (hR.x.keep hfx hfm (by decide)) (hR.b.keep hfx hfm (by decide)) (hR.h.keep hfx hfm (by decide)) (hR.t.keep hfx hfm (by decide)) (hR.k.keep hfx hfm (by decide))
    refine z_pop X d_lw_2163 rfl ?_
    refine z_goto X d_lw_2164 (tgt := 2220) (by decide) ?_
    exact hK wx' wm' hx' hl' hy' hR'
  · skip
    rw [List.append_assoc]
    refine cx_callP (rest := []) (As := [.int (xs (i + 1).toNatClampNeg)]) (μ := (fun k => ((Value.ref x :: [.int (xs (i + 1).toNatClampNeg)])[k]?).getD .null)) X k_L_223 (ac_k_X10_again_o1 l G) (by decide) hx (fun ad w0 he hag => pre_mu (C := C_k_X10_again_o1) (ts := [(0, 3, 2147483647)]) (As := [.int (xs (i + 1).toNatClampNeg)]) rfl rfl rfl rfl ⟨fun _ => vty_i (by omega) (i32_hi _), trivial⟩ ad w0 he) rfl d_lw_2149 ⟨by decide, by decide⟩ ⟨hc, hs⟩ rfl rfl (by decide) rfl (fun ad r wx' hz hx' hl' => ?_)
    rw [← List.append_assoc]
    have hfx := pz_fx hz
    obtain ⟨v, ν, rfl, v0, v1, e50, eA, eF, hF, hL⟩ := pz_a hz rfl rfl rfl
    refine z_pop X d_lw_2152 rfl ?_
    refine z_aload_n X d_lw_2153 rfl 2 rfl ?_
    refine z_aload_n X d_lw_2154 rfl 0 rfl ?_
    refine z_iload X d_lw_2155 4 rfl ?_
    refine z_iconst X d_lw_2157 (v := 1) (by decide) ?_
    refine z_iadd X d_lw_2158 ?_
    refine z_sld X hX hbl hbA (lw_in hi0 hi1 (k := 1) (by decide) (by decide)) d_lw_2159 (v := xs (i + 1).toNatClampNeg) rfl ?_
    refine mx_callP (wa := wx') (rest := []) (As := [.int (xs (i + 1).toNatClampNeg)]) (μ := (fun k => ((Value.ref y :: [.int (xs (i + 1).toNatClampNeg)])[k]?).getD .null)) X k_L_226 (ac_X11_again_4 l G) hy (fun ad he => pre_mu (C := C_X11_again_4) (ts := [(0, 3, 2147483647)]) (As := [.int (xs (i + 1).toNatClampNeg)]) rfl rfl rfl rfl ⟨fun _ => vty_i (by omega) (i32_hi _), trivial⟩ ad wm he) rfl d_lw_2160 ⟨by decide, by decide⟩ ⟨hc, hs⟩ rfl rfl (Nat.le_of_ble_eq_true rfl) rfl (fun ad2 r wm' hz2 hy' => ?_)
    have hfm := pz_fx hz2
    obtain ⟨v2, ν2, rfl, w0, w1, f50, fA, fF, hF2, hL2⟩ := pz_a hz2 rfl rfl rfl
    have hR' : RelQ G wx' wm' := RelQ.of (hR.m.keep hfx hfm (by decide)) (hR.a.keep hfx hfm (by decide)) (hR.d.keep hfx hfm (by decide)) (hR.c.keep hfx hfm (by decide)) (hR.x.keep hfx hfm (by decide)) (hR.b.keep hfx hfm (by decide)) (hR.h.keep hfx hfm (by decide)) (hR.t.keep hfx hfm (by decide)) (hR.k.keep hfx hfm (by decide))
    refine z_pop X d_lw_2163 rfl ?_
    refine z_goto X d_lw_2164 (tgt := 2220) (by decide) ?_
    exact hK wx' wm' hx' hl' hy' hR'
  · skip
    have hv : xs (i + 1).toNatClampNeg = 0 := Int32.toInt_inj.mp (by have z : (0 : Int32).toInt = 0 := (by decide); omega)
    obtain ⟨fl_, qk_, tk_, y1, y2, y3, y4, y5, y6, y7⟩ := id (kz 0 (by decide))
    have ya : bq (xs (i + 1).toNatClampNeg).toNatClampNeg = fl_ := by rw [show (xs (i + 1).toNatClampNeg).toNatClampNeg = 0 from congrArg Int.toNat ha]; exact y4
    rcases (by omega : fl_.toInt = 1 ∨ fl_.toInt = 0) with hf | hf
    · skip
      rw [List.append_assoc]
      refine cx_callG (rm := { frames := 3, cells := 0, slots := 0, locals := 68 }) (m0 := C_k_X10_again_0.2.2.2.2.1) (Ψ := (fun r w1 => (∃ v : Int32, r = some (.int v) ∧ v = 1) ∧ CQ G w1 10 16 qk_ ∧ CQ G w1 105 8 tk_)) (rest := []) (As := [.int (xs (i + 1).toNatClampNeg)]) X k_L_223 (fun ad w0 hW hag => (by rw [hv]; exact ac_gqx0 l G hW ((fget_eq (hag 46 0 (by decide))).trans y1) (by omega) ((hag 47 0 (by decide)).trans y2) ((hag 48 0 (by decide)).trans y3))) ⟨rfl, rfl⟩ (by decide) (fun r w1 wc hl h => ⟨h.1, h.2.1.app (by omega), h.2.2.app (by omega)⟩) hx d_lw_2149 ⟨by decide, by decide⟩ ⟨hc, hs⟩ rfl rfl (by decide) rfl (fun r wx' hz hx' hl' hfx => ?_)
      rw [← List.append_assoc]
      obtain ⟨v, rfl⟩ := (hz.1.elim fun v9 h => ⟨v9, h.1⟩ : ∃ v : Int32, r = some (Value.int v))
      refine z_pop X d_lw_2152 rfl ?_
      refine z_aload_n X d_lw_2153 rfl 2 rfl ?_
      refine z_aload_n X d_lw_2154 rfl 0 rfl ?_
      refine z_iload X d_lw_2155 4 rfl ?_
      refine z_iconst X d_lw_2157 (v := 1) (by decide) ?_
      refine z_iadd X d_lw_2158 ?_
      refine z_sld X hX hbl hbA (lw_in hi0 hi1 (k := 1) (by decide) (by decide)) d_lw_2159 (v := xs (i + 1).toNatClampNeg) rfl ?_
      refine mx_callG (rm := { frames := 1, cells := 0, slots := 0, locals := 25 }) (m0 := C_X11_again_1.2.2.2.2.1) (Ψ := (fun r w1 => r = some (.int 1) ∧ CQ G w1 6 16 (fun m => kq (154 * 0 + 2 + m)) ∧ CQ G w1 18 4 (fun m => kq (154 * 0 + 18 + 2 * m)) ∧ CQ G w1 19 4 (fun m => kq (154 * 0 + 19 + 2 * m)))) (wa := wx') (rest := []) (As := [.int (xs (i + 1).toNatClampNeg)]) X k_L_226 (fun ad hW => ac_gqm0 l G hW ha b2 kh3 kh4 x3 t2 t3 (by rw [ya]; omega)) ⟨rfl, rfl⟩ hy d_lw_2160 ⟨by decide, by decide⟩ ⟨hc, hs⟩ rfl rfl (Nat.le_of_ble_eq_true rfl) rfl (fun r wm' hz2 hy' hfm => ?_)
      obtain ⟨v2, rfl⟩ := (⟨_, hz2.1⟩ : ∃ v : Int32, r = some (Value.int v))
      obtain ⟨ev0, hM'⟩ := (⟨trivial, RKh.back (i := 0) (kz 0 (by decide)) hfx (by decide) y1 (by omega) y2 y3 a2 ra hz.2 hz2.2⟩ : True ∧ RelH G wx' wm' ∧ RelTh G wx' wm')
      have hR' : RelQ G wx' wm' := RelQ.of (hR.m.keep hfx hfm (by decide)) (hR.a.keep hfx hfm (by decide)) (hR.d.keep hfx hfm (by decide)) (hR.c.keep hfx hfm (by decide)) (hR.x.keep hfx hfm (by decide)) (hR.b.keep hfx hfm (by decide)) (hM'.1) (hM'.2) (hR.k.keep hfx hfm (by decide))
      refine z_pop X d_lw_2163 rfl ?_
      refine z_goto X d_lw_2164 (tgt := 2220) (by decide) ?_
      exact hK wx' wm' hx' hl' hy' hR'
    · skip
      rw [List.append_assoc]
      refine cx_callP (rest := []) (As := [.int (xs (i + 1).toNatClampNeg)]) (μ := muF x [.int (xs (i + 1).toNatClampNeg)] [.int (fl_)]) X k_L_223 (ac_k_X10_again_1 l G) (by decide) hx (fun ad w0 he hag => pre_F (C := C_k_X10_again_1) (ts := [(0, 0, 0)]) (As := [.int (xs (i + 1).toNatClampNeg)]) (t0 := (0, 0, 0)) rfl rfl (Nat.le_of_ble_eq_true rfl) ⟨fun _ => vty_i (by omega) (by omega), trivial⟩ (fun _ => vty_i (by omega) (by omega)) (fun _ h => absurd h List.not_mem_nil) ad w0 he ((hag 46 0 (by decide)).trans y1)) rfl d_lw_2149 ⟨by decide, by decide⟩ ⟨hc, hs⟩ rfl rfl (by decide) rfl (fun ad r wx' hz hx' hl' => ?_)
      rw [← List.append_assoc]
      have hfx := pz_fx hz
      obtain ⟨v, ν, rfl, v0, v1, e50, eA, eF, hF, hL⟩ := pz_a hz rfl rfl rfl
      refine z_pop X d_lw_2152 rfl ?_
      refine z_aload_n X d_lw_2153 rfl 2 rfl ?_
      refine z_aload_n X d_lw_2154 rfl 0 rfl ?_
      refine z_iload X d_lw_2155 4 rfl ?_
      refine z_iconst X d_lw_2157 (v := 1) (by decide) ?_
      refine z_iadd X d_lw_2158 ?_
      refine z_sld X hX hbl hbA (lw_in hi0 hi1 (k := 1) (by decide) (by decide)) d_lw_2159 (v := xs (i + 1).toNatClampNeg) rfl ?_
      refine mx_callG (rm := { frames := 1, cells := 0, slots := 0, locals := 25 }) (m0 := C_X11_again_1.2.2.2.2.1) (Ψ := (fun r w1 => r = some (.int 0) ∧ CQ G w1 6 16 (hg) ∧ CQ G w1 18 4 (tX9) ∧ CQ G w1 19 4 (tY9))) (wa := wx') (rest := []) (As := [.int (xs (i + 1).toNatClampNeg)]) X k_L_226 (fun ad hW => ac_nqm0 l G hW ha b2 kh3 kh4 x3 t2 t3 (by rw [ya]; omega)) ⟨rfl, rfl⟩ hy d_lw_2160 ⟨by decide, by decide⟩ ⟨hc, hs⟩ rfl rfl (Nat.le_of_ble_eq_true rfl) rfl (fun r wm' hz2 hy' hfm => ?_)
      obtain ⟨v2, rfl⟩ := (⟨_, hz2.1⟩ : ∃ v : Int32, r = some (Value.int v))
      have hR' : RelQ G wx' wm' := RelQ.of (hR.m.keep hfx hfm (by decide)) (hR.a.keep hfx hfm (by decide)) (hR.d.keep hfx hfm (by decide)) (hR.c.keep hfx hfm (by decide)) (hR.x.keep hfx hfm (by decide)) (hR.b.keep hfx hfm (by decide)) (RelH.same hR.h hfx (by decide) x3 hz2.2.1) (RelTh.same hR.t hfx (by decide) t2 t3 hz2.2.2.1 hz2.2.2.2) (hR.k.keep hfx hfm (by decide))
      refine z_pop X d_lw_2163 rfl ?_
      refine z_goto X d_lw_2164 (tgt := 2220) (by decide) ?_
      exact hK wx' wm' hx' hl' hy' hR'
  · skip
    have hv : xs (i + 1).toNatClampNeg = 1 := Int32.toInt_inj.mp (by have z : (1 : Int32).toInt = 1 := (by decide); omega)
    obtain ⟨fl_, qk_, tk_, y1, y2, y3, y4, y5, y6, y7⟩ := id (kz 1 (by decide))
    have ya : bq (xs (i + 1).toNatClampNeg).toNatClampNeg = fl_ := by rw [show (xs (i + 1).toNatClampNeg).toNatClampNeg = 1 from congrArg Int.toNat ha]; exact y4
    rcases (by omega : fl_.toInt = 1 ∨ fl_.toInt = 0) with hf | hf
    · skip
      rw [List.append_assoc]
      refine cx_callG (rm := { frames := 3, cells := 0, slots := 0, locals := 68 }) (m0 := C_k_X10_again_2.2.2.2.2.1) (Ψ := (fun r w1 => (∃ v : Int32, r = some (.int v) ∧ v = 1) ∧ CQ G w1 10 16 qk_ ∧ CQ G w1 105 8 tk_)) (rest := []) (As := [.int (xs (i + 1).toNatClampNeg)]) X k_L_223 (fun ad w0 hW hag => (by rw [hv]; exact ac_gqx1 l G hW ((fget_eq (hag 65 0 (by decide))).trans y1) (by omega) ((hag 66 0 (by decide)).trans y2) ((hag 67 0 (by decide)).trans y3))) ⟨rfl, rfl⟩ (by decide) (fun r w1 wc hl h => ⟨h.1, h.2.1.app (by omega), h.2.2.app (by omega)⟩) hx d_lw_2149 ⟨by decide, by decide⟩ ⟨hc, hs⟩ rfl rfl (by decide) rfl (fun r wx' hz hx' hl' hfx => ?_)
      rw [← List.append_assoc]
      obtain ⟨v, rfl⟩ := (hz.1.elim fun v9 h => ⟨v9, h.1⟩ : ∃ v : Int32, r = some (Value.int v))
      refine z_pop X d_lw_2152 rfl ?_
      refine z_aload_n X d_lw_2153 rfl 2 rfl ?_
      refine z_aload_n X d_lw_2154 rfl 0 rfl ?_
      refine z_iload X d_lw_2155 4 rfl ?_
      refine z_iconst X d_lw_2157 (v := 1) (by decide) ?_
      refine z_iadd X d_lw_2158 ?_
      refine z_sld X hX hbl hbA (lw_in hi0 hi1 (k := 1) (by decide) (by decide)) d_lw_2159 (v := xs (i + 1).toNatClampNeg) rfl ?_
      refine mx_callG (rm := { frames := 1, cells := 0, slots := 0, locals := 25 }) (m0 := C_X11_again_2.2.2.2.2.1) (Ψ := (fun r w1 => r = some (.int 1) ∧ CQ G w1 6 16 (fun m => kq (154 * 1 + 2 + m)) ∧ CQ G w1 18 4 (fun m => kq (154 * 1 + 18 + 2 * m)) ∧ CQ G w1 19 4 (fun m => kq (154 * 1 + 19 + 2 * m)))) (wa := wx') (rest := []) (As := [.int (xs (i + 1).toNatClampNeg)]) X k_L_226 (fun ad hW => ac_gqm1 l G hW ha b2 kh3 kh4 x3 t2 t3 (by rw [ya]; omega)) ⟨rfl, rfl⟩ hy d_lw_2160 ⟨by decide, by decide⟩ ⟨hc, hs⟩ rfl rfl (Nat.le_of_ble_eq_true rfl) rfl (fun r wm' hz2 hy' hfm => ?_)
      obtain ⟨v2, rfl⟩ := (⟨_, hz2.1⟩ : ∃ v : Int32, r = some (Value.int v))
      obtain ⟨ev0, hM'⟩ := (⟨trivial, RKh.back (i := 1) (kz 1 (by decide)) hfx (by decide) y1 (by omega) y2 y3 a2 ra hz.2 hz2.2⟩ : True ∧ RelH G wx' wm' ∧ RelTh G wx' wm')
      have hR' : RelQ G wx' wm' := RelQ.of (hR.m.keep hfx hfm (by decide)) (hR.a.keep hfx hfm (by decide)) (hR.d.keep hfx hfm (by decide)) (hR.c.keep hfx hfm (by decide)) (hR.x.keep hfx hfm (by decide)) (hR.b.keep hfx hfm (by decide)) (hM'.1) (hM'.2) (hR.k.keep hfx hfm (by decide))
      refine z_pop X d_lw_2163 rfl ?_
      refine z_goto X d_lw_2164 (tgt := 2220) (by decide) ?_
      exact hK wx' wm' hx' hl' hy' hR'
    · skip
      rw [List.append_assoc]
      refine cx_callP (rest := []) (As := [.int (xs (i + 1).toNatClampNeg)]) (μ := muF x [.int (xs (i + 1).toNatClampNeg)] [.int (fl_)]) X k_L_223 (ac_k_X10_again_3 l G) (by decide) hx (fun ad w0 he hag => pre_F (C := C_k_X10_again_3) (ts := [(0, 1, 1)]) (As := [.int (xs (i + 1).toNatClampNeg)]) (t0 := (0, 0, 0)) rfl rfl (Nat.le_of_ble_eq_true rfl) ⟨fun _ => vty_i (by omega) (by omega), trivial⟩ (fun _ => vty_i (by omega) (by omega)) (fun _ h => absurd h List.not_mem_nil) ad w0 he ((hag 65 0 (by decide)).trans y1)) rfl d_lw_2149 ⟨by decide, by decide⟩ ⟨hc, hs⟩ rfl rfl (by decide) rfl (fun ad r wx' hz hx' hl' => ?_)
      rw [← List.append_assoc]
      have hfx := pz_fx hz
      obtain ⟨v, ν, rfl, v0, v1, e50, eA, eF, hF, hL⟩ := pz_a hz rfl rfl rfl
      refine z_pop X d_lw_2152 rfl ?_
      refine z_aload_n X d_lw_2153 rfl 2 rfl ?_
      refine z_aload_n X d_lw_2154 rfl 0 rfl ?_
      refine z_iload X d_lw_2155 4 rfl ?_
      refine z_iconst X d_lw_2157 (v := 1) (by decide) ?_
      refine z_iadd X d_lw_2158 ?_
      refine z_sld X hX hbl hbA (lw_in hi0 hi1 (k := 1) (by decide) (by decide)) d_lw_2159 (v := xs (i + 1).toNatClampNeg) rfl ?_
      refine mx_callG (rm := { frames := 1, cells := 0, slots := 0, locals := 25 }) (m0 := C_X11_again_2.2.2.2.2.1) (Ψ := (fun r w1 => r = some (.int 0) ∧ CQ G w1 6 16 (hg) ∧ CQ G w1 18 4 (tX9) ∧ CQ G w1 19 4 (tY9))) (wa := wx') (rest := []) (As := [.int (xs (i + 1).toNatClampNeg)]) X k_L_226 (fun ad hW => ac_nqm1 l G hW ha b2 kh3 kh4 x3 t2 t3 (by rw [ya]; omega)) ⟨rfl, rfl⟩ hy d_lw_2160 ⟨by decide, by decide⟩ ⟨hc, hs⟩ rfl rfl (Nat.le_of_ble_eq_true rfl) rfl (fun r wm' hz2 hy' hfm => ?_)
      obtain ⟨v2, rfl⟩ := (⟨_, hz2.1⟩ : ∃ v : Int32, r = some (Value.int v))
      have hR' : RelQ G wx' wm' := RelQ.of (hR.m.keep hfx hfm (by decide)) (hR.a.keep hfx hfm (by decide)) (hR.d.keep hfx hfm (by decide)) (hR.c.keep hfx hfm (by decide)) (hR.x.keep hfx hfm (by decide)) (hR.b.keep hfx hfm (by decide)) (RelH.same hR.h hfx (by decide) x3 hz2.2.1) (RelTh.same hR.t hfx (by decide) t2 t3 hz2.2.2.1 hz2.2.2.2) (hR.k.keep hfx hfm (by decide))
      refine z_pop X d_lw_2163 rfl ?_
      refine z_goto X d_lw_2164 (tgt := 2220) (by decide) ?_
      exact hK wx' wm' hx' hl' hy' hR'
  · skip
    have hv : xs (i + 1).toNatClampNeg = 2 := Int32.toInt_inj.mp (by have z : (2 : Int32).toInt = 2 := (by decide); omega)
    obtain ⟨fl_, qk_, tk_, y1, y2, y3, y4, y5, y6, y7⟩ := id (kz 2 (by decide))
    have ya : bq (xs (i + 1).toNatClampNeg).toNatClampNeg = fl_ := by rw [show (xs (i + 1).toNatClampNeg).toNatClampNeg = 2 from congrArg Int.toNat ha]; exact y4
    rcases (by omega : fl_.toInt = 1 ∨ fl_.toInt = 0) with hf | hf
    · skip
      rw [List.append_assoc]
      refine cx_callG (rm := { frames := 3, cells := 0, slots := 0, locals := 68 }) (m0 := C_k_X10_again_4.2.2.2.2.1) (Ψ := (fun r w1 => (∃ v : Int32, r = some (.int v) ∧ v = 1) ∧ CQ G w1 10 16 qk_ ∧ CQ G w1 105 8 tk_)) (rest := []) (As := [.int (xs (i + 1).toNatClampNeg)]) X k_L_223 (fun ad w0 hW hag => (by rw [hv]; exact ac_gqx2 l G hW ((fget_eq (hag 84 0 (by decide))).trans y1) (by omega) ((hag 85 0 (by decide)).trans y2) ((hag 86 0 (by decide)).trans y3))) ⟨rfl, rfl⟩ (by decide) (fun r w1 wc hl h => ⟨h.1, h.2.1.app (by omega), h.2.2.app (by omega)⟩) hx d_lw_2149 ⟨by decide, by decide⟩ ⟨hc, hs⟩ rfl rfl (by decide) rfl (fun r wx' hz hx' hl' hfx => ?_)
      rw [← List.append_assoc]
      obtain ⟨v, rfl⟩ := (hz.1.elim fun v9 h => ⟨v9, h.1⟩ : ∃ v : Int32, r = some (Value.int v))
      refine z_pop X d_lw_2152 rfl ?_
      refine z_aload_n X d_lw_2153 rfl 2 rfl ?_
      refine z_aload_n X d_lw_2154 rfl 0 rfl ?_
      refine z_iload X d_lw_2155 4 rfl ?_
      refine z_iconst X d_lw_2157 (v := 1) (by decide) ?_
      refine z_iadd X d_lw_2158 ?_
      refine z_sld X hX hbl hbA (lw_in hi0 hi1 (k := 1) (by decide) (by decide)) d_lw_2159 (v := xs (i + 1).toNatClampNeg) rfl ?_
      refine mx_callG (rm := { frames := 1, cells := 0, slots := 0, locals := 25 }) (m0 := C_X11_again_3.2.2.2.2.1) (Ψ := (fun r w1 => r = some (.int 1) ∧ CQ G w1 6 16 (fun m => kq (154 * 2 + 2 + m)) ∧ CQ G w1 18 4 (fun m => kq (154 * 2 + 18 + 2 * m)) ∧ CQ G w1 19 4 (fun m => kq (154 * 2 + 19 + 2 * m)))) (wa := wx') (rest := []) (As := [.int (xs (i + 1).toNatClampNeg)]) X k_L_226 (fun ad hW => ac_gqm2 l G hW ha b2 kh3 kh4 x3 t2 t3 (by rw [ya]; omega)) ⟨rfl, rfl⟩ hy d_lw_2160 ⟨by decide, by decide⟩ ⟨hc, hs⟩ rfl rfl (Nat.le_of_ble_eq_true rfl) rfl (fun r wm' hz2 hy' hfm => ?_)
      obtain ⟨v2, rfl⟩ := (⟨_, hz2.1⟩ : ∃ v : Int32, r = some (Value.int v))
      obtain ⟨ev0, hM'⟩ := (⟨trivial, RKh.back (i := 2) (kz 2 (by decide)) hfx (by decide) y1 (by omega) y2 y3 a2 ra hz.2 hz2.2⟩ : True ∧ RelH G wx' wm' ∧ RelTh G wx' wm')
      have hR' : RelQ G wx' wm' := RelQ.of (hR.m.keep hfx hfm (by decide)) (hR.a.keep hfx hfm (by decide)) (hR.d.keep hfx hfm (by decide)) (hR.c.keep hfx hfm (by decide)) (hR.x.keep hfx hfm (by decide)) (hR.b.keep hfx hfm (by decide)) (hM'.1) (hM'.2) (hR.k.keep hfx hfm (by decide))
      refine z_pop X d_lw_2163 rfl ?_
      refine z_goto X d_lw_2164 (tgt := 2220) (by decide) ?_
      exact hK wx' wm' hx' hl' hy' hR'
    · skip
      rw [List.append_assoc]
      refine cx_callP (rest := []) (As := [.int (xs (i + 1).toNatClampNeg)]) (μ := muF x [.int (xs (i + 1).toNatClampNeg)] [.int (fl_)]) X k_L_223 (ac_k_X10_again_5 l G) (by decide) hx (fun ad w0 he hag => pre_F (C := C_k_X10_again_5) (ts := [(0, 2, 2)]) (As := [.int (xs (i + 1).toNatClampNeg)]) (t0 := (0, 0, 0)) rfl rfl (Nat.le_of_ble_eq_true rfl) ⟨fun _ => vty_i (by omega) (by omega), trivial⟩ (fun _ => vty_i (by omega) (by omega)) (fun _ h => absurd h List.not_mem_nil) ad w0 he ((hag 84 0 (by decide)).trans y1)) rfl d_lw_2149 ⟨by decide, by decide⟩ ⟨hc, hs⟩ rfl rfl (by decide) rfl (fun ad r wx' hz hx' hl' => ?_)
      rw [← List.append_assoc]
      have hfx := pz_fx hz
      obtain ⟨v, ν, rfl, v0, v1, e50, eA, eF, hF, hL⟩ := pz_a hz rfl rfl rfl
      refine z_pop X d_lw_2152 rfl ?_
      refine z_aload_n X d_lw_2153 rfl 2 rfl ?_
      refine z_aload_n X d_lw_2154 rfl 0 rfl ?_
      refine z_iload X d_lw_2155 4 rfl ?_
      refine z_iconst X d_lw_2157 (v := 1) (by decide) ?_
      refine z_iadd X d_lw_2158 ?_
      refine z_sld X hX hbl hbA (lw_in hi0 hi1 (k := 1) (by decide) (by decide)) d_lw_2159 (v := xs (i + 1).toNatClampNeg) rfl ?_
      refine mx_callG (rm := { frames := 1, cells := 0, slots := 0, locals := 25 }) (m0 := C_X11_again_3.2.2.2.2.1) (Ψ := (fun r w1 => r = some (.int 0) ∧ CQ G w1 6 16 (hg) ∧ CQ G w1 18 4 (tX9) ∧ CQ G w1 19 4 (tY9))) (wa := wx') (rest := []) (As := [.int (xs (i + 1).toNatClampNeg)]) X k_L_226 (fun ad hW => ac_nqm2 l G hW ha b2 kh3 kh4 x3 t2 t3 (by rw [ya]; omega)) ⟨rfl, rfl⟩ hy d_lw_2160 ⟨by decide, by decide⟩ ⟨hc, hs⟩ rfl rfl (Nat.le_of_ble_eq_true rfl) rfl (fun r wm' hz2 hy' hfm => ?_)
      obtain ⟨v2, rfl⟩ := (⟨_, hz2.1⟩ : ∃ v : Int32, r = some (Value.int v))
      have hR' : RelQ G wx' wm' := RelQ.of (hR.m.keep hfx hfm (by decide)) (hR.a.keep hfx hfm (by decide)) (hR.d.keep hfx hfm (by decide)) (hR.c.keep hfx hfm (by decide)) (hR.x.keep hfx hfm (by decide)) (hR.b.keep hfx hfm (by decide)) (RelH.same hR.h hfx (by decide) x3 hz2.2.1) (RelTh.same hR.t hfx (by decide) t2 t3 hz2.2.2.1 hz2.2.2.2) (hR.k.keep hfx hfm (by decide))
      refine z_pop X d_lw_2163 rfl ?_
      refine z_goto X d_lw_2164 (tgt := 2220) (by decide) ?_
      exact hK wx' wm' hx' hl' hy' hR'
theorem lc_46 (X : ZC p s m #[Value.ref b] meth c code 8 RL G (fun q : Nat => s.heap.size ≤ q) ret nm) (hX : va_X b L xs s s.heap) (hbl : b < s.heap.size) (hbA : ¬ s.heap.size ≤ b) (hi0 : 0 ≤ i.toInt) (hi1 : i.toInt + 10 ≤ (L : Int) ∧ L ≤ 5120) (hx : CWx G x wx) (hy : MWx G y wm) (hR : RelQ G wx wm) (hc : kc ≤ room_1.cells) (hs : ks ≤ room_1.slots) (hK : ∀ wx' wm', CWx G x wx' → wx'.length = wx.length → MWx G y wm' → RelQ G wx' wm' → Z p l e room_1 s m #[Value.ref b] below meth c 8 G (fun q : Nat => s.heap.size ≤ q) (lw_Z below #[Value.ref b] s) 2220 (lv5 b x y o i) [] (wx' ++ wm' ++ [(o, aJ G 1 f)]) kc ks) : Z p l e room_1 s m #[Value.ref b] below meth c 8 G (fun q : Nat => s.heap.size ≤ q) (lw_Z below #[Value.ref b] s) 2167 (lv5 b x y o i) [] (wx ++ wm ++ [(o, aJ G 1 f)]) kc ks := by
  refine z_aload_n X d_lw_2167 rfl 1 rfl ?_
  refine z_aload_n X d_lw_2168 rfl 0 rfl ?_
  refine z_iload X d_lw_2169 4 rfl ?_
  refine z_iconst X d_lw_2171 (v := 1) (by decide) ?_
  refine z_iadd X d_lw_2172 ?_
  refine z_sld X hX hbl hbA (lw_in hi0 hi1 (k := 1) (by decide) (by decide)) d_lw_2173 (v := xs (i + 1).toNatClampNeg) rfl ?_
  rw [List.append_assoc]
  refine cx_callF (k := 0) (rest := []) (As := [.int (xs (i + 1).toNatClampNeg)]) (μ := (fun k => ((Value.ref x :: [.int (xs (i + 1).toNatClampNeg)])[k]?).getD .null)) X k_L_227 (ac_X10_count_0 l G) (by decide) (by decide) (by decide) hx (fun ad w0 he => pre_mu (C := C_X10_count_0) (ts := [tI0]) (As := [.int (xs (i + 1).toNatClampNeg)]) rfl rfl rfl rfl ⟨fun _ => vty_i0 _, trivial⟩ ad w0 he) rfl d_lw_2174 ⟨by decide, by decide⟩ ⟨hc, hs⟩ rfl rfl (by decide) rfl (fun r wx' hr hx' hl' hfx => ?_)
  rw [← List.append_assoc]
  rcases hr with ⟨h, -⟩ | ⟨-, v, rfl⟩ | ⟨h, -⟩
  all_goals first | (exact absurd h (by decide)) | skip
  refine z_pop X d_lw_2177 rfl ?_
  refine z_aload_n X d_lw_2178 rfl 2 rfl ?_
  refine z_aload_n X d_lw_2179 rfl 0 rfl ?_
  refine z_iload X d_lw_2180 4 rfl ?_
  refine z_iconst X d_lw_2182 (v := 1) (by decide) ?_
  refine z_iadd X d_lw_2183 ?_
  refine z_sld X hX hbl hbA (lw_in hi0 hi1 (k := 1) (by decide) (by decide)) d_lw_2184 (v := xs (i + 1).toNatClampNeg) rfl ?_
  refine mx_callF (k := 0) (wa := wx') (rest := []) (As := [.int (xs (i + 1).toNatClampNeg)]) (μ := (fun k => ((Value.ref y :: [.int (xs (i + 1).toNatClampNeg)])[k]?).getD .null)) X k_L_230 (ac_X11_count_0 l G) (by decide) (by decide) hy (fun ad w0 he => pre_mu (C := C_X11_count_0) (ts := [tI0]) (As := [.int (xs (i + 1).toNatClampNeg)]) rfl rfl rfl rfl ⟨fun _ => vty_i0 _, trivial⟩ ad w0 he) rfl d_lw_2185 ⟨by decide, by decide⟩ ⟨hc, hs⟩ rfl rfl (Nat.le_of_ble_eq_true rfl) rfl (fun r wm' hr hy' hfm => ?_)
  rcases hr with ⟨h, -⟩ | ⟨-, v, rfl⟩ | ⟨h, -⟩
  all_goals first | (exact absurd h (by decide)) | skip
  refine z_pop X d_lw_2188 rfl ?_
  refine z_goto X d_lw_2189 (tgt := 2220) (by decide) ?_
  exact hK wx' wm' hx' hl' hy' (RelQ.of (hR.m.keep hfx hfm (by decide)) (hR.a.keep hfx hfm (by decide)) (hR.d.keep hfx hfm (by decide)) (hR.c.keep hfx hfm (by decide)) (hR.x.keep hfx hfm (by decide)) (hR.b.keep hfx hfm (by decide)) (hR.h.keep hfx hfm (by decide)) (hR.t.keep hfx hfm (by decide)) (hR.k.keep hfx hfm (by decide)))
theorem lc_47 (X : ZC p s m #[Value.ref b] meth c code 8 RL G (fun q : Nat => s.heap.size ≤ q) ret nm) (hX : va_X b L xs s s.heap) (hbl : b < s.heap.size) (hbA : ¬ s.heap.size ≤ b) (hi0 : 0 ≤ i.toInt) (hi1 : i.toInt + 10 ≤ (L : Int) ∧ L ≤ 5120) (hx : CWx G x wx) (hy : MWx G y wm) (hR : RelQ G wx wm) (hE : EXs (fun q : Nat => s.heap.size ≤ q) s s.heap) (hst : l.stackTraces = false) (hc : kc + 1 ≤ room_1.cells) (hs : ks + 6 ≤ room_1.slots) (hK : ∀ wx' wm' f', CWx G x wx' → wx'.length = wx.length → MWx G y wm' → RelQ G wx' wm' → Z p l e room_1 s m #[Value.ref b] below meth c 8 G (fun q : Nat => s.heap.size ≤ q) (lw_Z below #[Value.ref b] s) 2220 (lv5 b x y o i) [] (wx' ++ wm' ++ [(o, aJ G 1 f')]) (kc + 1) (ks + 6)) : Z p l e room_1 s m #[Value.ref b] below meth c 8 G (fun q : Nat => s.heap.size ≤ q) (lw_Z below #[Value.ref b] s) 2192 (lv5 b x y o i) [] (wx ++ wm ++ [(o, aJ G 1 f)]) kc ks := by
  refine z_aload_n X d_lw_2192 rfl 1 rfl ?_
  refine z_aload_n X d_lw_2193 rfl 0 rfl ?_
  refine z_iload X d_lw_2194 4 rfl ?_
  refine z_iconst X d_lw_2196 (v := 1) (by decide) ?_
  refine z_iadd X d_lw_2197 ?_
  refine z_sld X hX hbl hbA (lw_in hi0 hi1 (k := 1) (by decide) (by decide)) d_lw_2198 (v := xs (i + 1).toNatClampNeg) rfl ?_
  refine z_aload_n X d_lw_2199 rfl 3 rfl ?_
  refine sx_callF (x := x) (oa := o) (rm := { frames := 7, cells := 1, slots := 6, locals := 103 }) (rest := []) (As := [.ref (x), .int (xs (i + 1).toNatClampNeg), .ref (o)]) X k_L_231 hE (fun ad w0 h1 h2 h3 => by rw [← h3]; exact cl_row l hst G h1 h2 _ o f) hx d_lw_2200 ⟨by decide, by decide⟩ ⟨hc, hs⟩ rfl rfl (by decide) rfl (fun v wx' f' hx' hl' hfx => ?_)
  refine z_istore X d_lw_2203 (by decide) (lv' := [(5, .int (v)), (0, .ref (b)), (1, .ref (x)), (2, .ref (y)), (3, .ref (o)), (4, .int (i))]) rfl ?_
  refine z_aload_n X d_lw_2205 rfl 3 rfl ?_
  refine z_aload_n X d_lw_2206 rfl 1 rfl ?_
  refine z_iload X d_lw_2207 5 rfl ?_
  refine z_iconst X d_lw_2209 (v := 1) (by decide) ?_
  refine z_iadd X d_lw_2210 ?_
  refine z_sld X hX hbl hbA (lw_in hi0 hi1 (k := 1) (by decide) (by decide)) d_lw_2211 (v := xs (i + 1).toNatClampNeg) rfl ?_
  refine mx_callF (k := 1) (wa := wx') (rest := []) (As := [.int (xs (i + 1).toNatClampNeg)]) (μ := (fun k => ((Value.ref y :: [.int (xs (i + 1).toNatClampNeg)])[k]?).getD .null)) X k_L_234 (ac_X11_row_0 l G) (by decide) (by decide) hy (fun ad w0 he => pre_mu (C := C_X11_row_0) (ts := [tI0]) (As := [.int (xs (i + 1).toNatClampNeg)]) rfl rfl rfl rfl ⟨fun _ => vty_i0 _, trivial⟩ ad w0 he) rfl d_lw_2212 ⟨by decide, by decide⟩ ⟨hc, hs⟩ rfl rfl (Nat.le_of_ble_eq_true rfl) rfl (fun r wm' hr hy' hfm => ?_)
  rcases hr with ⟨h, -⟩ | ⟨h, -⟩ | ⟨-, v2, rfl⟩
  all_goals first | (exact absurd h (by decide)) | skip
  refine z_lstore X d_lw_2215 (by decide) (lv' := [(6, .long (v2)), (5, .int (v)), (0, .ref (b)), (1, .ref (x)), (2, .ref (y)), (3, .ref (o)), (4, .int (i))]) rfl ?_
  refine z_goto X d_lw_2217 (tgt := 2220) (by decide) ?_
  exact Z.mono (fun q hq => by simp only [List.mem_cons, List.not_mem_nil, or_false] at hq ⊢; rcases hq with h | h | h | h | h <;> simp [h]) (hK wx' wm' f' hx' hl' hy' (RelQ.of (hR.m.keep hfx hfm (by decide)) (hR.a.keep hfx hfm (by decide)) (hR.d.keep hfx hfm (by decide)) (hR.c.keep hfx hfm (by decide)) (hR.x.keep hfx hfm (by decide)) (hR.b.keep hfx hfm (by decide)) (hR.h.keep hfx hfm (by decide)) (hR.t.keep hfx hfm (by decide)) (hR.k.keep hfx hfm (by decide))))
end LWC
end
